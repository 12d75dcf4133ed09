section ZJN0
noncomputable def kn_cX8_write : Nat := 0xac1600b42a2f00b63900b61c2a2a1f00b53300b81c2a3d2300b62a1c00b579100500a778100800a0dd00111c2aac1600b42a2f00b62d122a0e00a0fd00111d0a009fed00111d11009fdd00111d3e2700b660041200b42a0d00b42a5000a0fd00111c0a009fdd00111c3d2300b62a1f00b5032a1c00b5032a1900b5032a1600b5032a1200b57e11121b2a
theorem zk_cX8_write : zkd cX8_write.data.toList kn_cX8_write = true := by decide +kernel
theorem zn_cX8_write : cX8_write.data.toList.length = 138 := by decide +kernel
theorem dX8_write_0 : decode cX8_write 0 = .ok (.aload_n 0, 1) := zo_42 (zkb zk_cX8_write zn_cX8_write rfl)
theorem dX8_write_1 : decode cX8_write 1 = .ok (.iload_n 1, 1) := zo_27 (zkb zk_cX8_write zn_cX8_write rfl)
theorem dX8_write_2 : decode cX8_write 2 = .ok (.ldc 17, 2) := zo_18 (b1 := 17) (zkb2 zk_cX8_write zn_cX8_write rfl)
theorem dX8_write_4 : decode cX8_write 4 = .ok (.iand, 1) := zo_126 (zkb zk_cX8_write zn_cX8_write rfl)
theorem dX8_write_5 : decode cX8_write 5 = .ok (.putfield 18, 3) := zo_181 (b1 := 0) (b2 := 18) (zkb3 zk_cX8_write zn_cX8_write rfl) rfl
theorem dX8_write_8 : decode cX8_write 8 = .ok (.aload_n 0, 1) := zo_42 (zkb zk_cX8_write zn_cX8_write rfl)
theorem dX8_write_9 : decode cX8_write 9 = .ok (.iconst 0, 1) := zo_3 (zkb zk_cX8_write zn_cX8_write rfl)
theorem dX8_write_10 : decode cX8_write 10 = .ok (.putfield 22, 3) := zo_181 (b1 := 0) (b2 := 22) (zkb3 zk_cX8_write zn_cX8_write rfl) rfl
theorem dX8_write_13 : decode cX8_write 13 = .ok (.aload_n 0, 1) := zo_42 (zkb zk_cX8_write zn_cX8_write rfl)
theorem dX8_write_14 : decode cX8_write 14 = .ok (.iconst 0, 1) := zo_3 (zkb zk_cX8_write zn_cX8_write rfl)
theorem dX8_write_15 : decode cX8_write 15 = .ok (.putfield 25, 3) := zo_181 (b1 := 0) (b2 := 25) (zkb3 zk_cX8_write zn_cX8_write rfl) rfl
theorem dX8_write_18 : decode cX8_write 18 = .ok (.aload_n 0, 1) := zo_42 (zkb zk_cX8_write zn_cX8_write rfl)
theorem dX8_write_19 : decode cX8_write 19 = .ok (.iconst 0, 1) := zo_3 (zkb zk_cX8_write zn_cX8_write rfl)
theorem dX8_write_20 : decode cX8_write 20 = .ok (.putfield 28, 3) := zo_181 (b1 := 0) (b2 := 28) (zkb3 zk_cX8_write zn_cX8_write rfl) rfl
theorem dX8_write_23 : decode cX8_write 23 = .ok (.aload_n 0, 1) := zo_42 (zkb zk_cX8_write zn_cX8_write rfl)
theorem dX8_write_24 : decode cX8_write 24 = .ok (.iconst 0, 1) := zo_3 (zkb zk_cX8_write zn_cX8_write rfl)
theorem dX8_write_25 : decode cX8_write 25 = .ok (.putfield 31, 3) := zo_181 (b1 := 0) (b2 := 31) (zkb3 zk_cX8_write zn_cX8_write rfl) rfl
theorem dX8_write_28 : decode cX8_write 28 = .ok (.aload_n 0, 1) := zo_42 (zkb zk_cX8_write zn_cX8_write rfl)
theorem dX8_write_29 : decode cX8_write 29 = .ok (.invokevirtual 35, 3) := zo_182 (b1 := 0) (b2 := 35) (zkb3 zk_cX8_write zn_cX8_write rfl) rfl
theorem dX8_write_32 : decode cX8_write 32 = .ok (.istore_n 2, 1) := zo_61 (zkb zk_cX8_write zn_cX8_write rfl)
theorem dX8_write_33 : decode cX8_write 33 = .ok (.iload_n 2, 1) := zo_28 (zkb zk_cX8_write zn_cX8_write rfl)
theorem dX8_write_34 : decode cX8_write 34 = .ok (.sipush 221, 3) := zo_17 (b1 := 0) (b2 := 221) (zkb3 zk_cX8_write zn_cX8_write rfl) rfl
theorem dX8_write_37 : decode cX8_write 37 = .ok (.if_icmp .eq 10, 3) := zo_159 (b1 := 0) (b2 := 10) (zkb3 zk_cX8_write zn_cX8_write rfl) rfl
theorem dX8_write_40 : decode cX8_write 40 = .ok (.iload_n 2, 1) := zo_28 (zkb zk_cX8_write zn_cX8_write rfl)
theorem dX8_write_41 : decode cX8_write 41 = .ok (.sipush 253, 3) := zo_17 (b1 := 0) (b2 := 253) (zkb3 zk_cX8_write zn_cX8_write rfl) rfl
theorem dX8_write_44 : decode cX8_write 44 = .ok (.if_icmp .ne 80, 3) := zo_160 (b1 := 0) (b2 := 80) (zkb3 zk_cX8_write zn_cX8_write rfl) rfl
theorem dX8_write_47 : decode cX8_write 47 = .ok (.aload_n 0, 1) := zo_42 (zkb zk_cX8_write zn_cX8_write rfl)
theorem dX8_write_48 : decode cX8_write 48 = .ok (.getfield 13, 3) := zo_180 (b1 := 0) (b2 := 13) (zkb3 zk_cX8_write zn_cX8_write rfl) rfl
theorem dX8_write_51 : decode cX8_write 51 = .ok (.aload_n 0, 1) := zo_42 (zkb zk_cX8_write zn_cX8_write rfl)
theorem dX8_write_52 : decode cX8_write 52 = .ok (.getfield 18, 3) := zo_180 (b1 := 0) (b2 := 18) (zkb3 zk_cX8_write zn_cX8_write rfl) rfl
theorem dX8_write_55 : decode cX8_write 55 = .ok (.iconst 1, 1) := zo_4 (zkb zk_cX8_write zn_cX8_write rfl)
theorem dX8_write_56 : decode cX8_write 56 = .ok (.iadd, 1) := zo_96 (zkb zk_cX8_write zn_cX8_write rfl)
theorem dX8_write_57 : decode cX8_write 57 = .ok (.invokevirtual 39, 3) := zo_182 (b1 := 0) (b2 := 39) (zkb3 zk_cX8_write zn_cX8_write rfl) rfl
theorem dX8_write_60 : decode cX8_write 60 = .ok (.istore_n 3, 1) := zo_62 (zkb zk_cX8_write zn_cX8_write rfl)
theorem dX8_write_61 : decode cX8_write 61 = .ok (.iload_n 3, 1) := zo_29 (zkb zk_cX8_write zn_cX8_write rfl)
theorem dX8_write_62 : decode cX8_write 62 = .ok (.sipush 221, 3) := zo_17 (b1 := 0) (b2 := 221) (zkb3 zk_cX8_write zn_cX8_write rfl) rfl
theorem dX8_write_65 : decode cX8_write 65 = .ok (.if_icmp .eq 17, 3) := zo_159 (b1 := 0) (b2 := 17) (zkb3 zk_cX8_write zn_cX8_write rfl) rfl
theorem dX8_write_68 : decode cX8_write 68 = .ok (.iload_n 3, 1) := zo_29 (zkb zk_cX8_write zn_cX8_write rfl)
theorem dX8_write_69 : decode cX8_write 69 = .ok (.sipush 237, 3) := zo_17 (b1 := 0) (b2 := 237) (zkb3 zk_cX8_write zn_cX8_write rfl) rfl
theorem dX8_write_72 : decode cX8_write 72 = .ok (.if_icmp .eq 10, 3) := zo_159 (b1 := 0) (b2 := 10) (zkb3 zk_cX8_write zn_cX8_write rfl) rfl
theorem dX8_write_75 : decode cX8_write 75 = .ok (.iload_n 3, 1) := zo_29 (zkb zk_cX8_write zn_cX8_write rfl)
theorem dX8_write_76 : decode cX8_write 76 = .ok (.sipush 253, 3) := zo_17 (b1 := 0) (b2 := 253) (zkb3 zk_cX8_write zn_cX8_write rfl) rfl
theorem dX8_write_79 : decode cX8_write 79 = .ok (.if_icmp .ne 14, 3) := zo_160 (b1 := 0) (b2 := 14) (zkb3 zk_cX8_write zn_cX8_write rfl) rfl
theorem dX8_write_82 : decode cX8_write 82 = .ok (.aload_n 0, 1) := zo_42 (zkb zk_cX8_write zn_cX8_write rfl)
theorem dX8_write_83 : decode cX8_write 83 = .ok (.ldc 45, 2) := zo_18 (b1 := 45) (zkb2 zk_cX8_write zn_cX8_write rfl)
theorem dX8_write_85 : decode cX8_write 85 = .ok (.invokevirtual 47, 3) := zo_182 (b1 := 0) (b2 := 47) (zkb3 zk_cX8_write zn_cX8_write rfl) rfl
theorem dX8_write_88 : decode cX8_write 88 = .ok (.aload_n 0, 1) := zo_42 (zkb zk_cX8_write zn_cX8_write rfl)
theorem dX8_write_89 : decode cX8_write 89 = .ok (.getfield 22, 3) := zo_180 (b1 := 0) (b2 := 22) (zkb3 zk_cX8_write zn_cX8_write rfl) rfl
theorem dX8_write_92 : decode cX8_write 92 = .ok (.ireturn, 1) := zo_172 (zkb zk_cX8_write zn_cX8_write rfl)
theorem dX8_write_93 : decode cX8_write 93 = .ok (.aload_n 0, 1) := zo_42 (zkb zk_cX8_write zn_cX8_write rfl)
theorem dX8_write_94 : decode cX8_write 94 = .ok (.iload_n 2, 1) := zo_28 (zkb zk_cX8_write zn_cX8_write rfl)
theorem dX8_write_95 : decode cX8_write 95 = .ok (.sipush 221, 3) := zo_17 (b1 := 0) (b2 := 221) (zkb3 zk_cX8_write zn_cX8_write rfl) rfl
theorem dX8_write_98 : decode cX8_write 98 = .ok (.if_icmp .ne 8, 3) := zo_160 (b1 := 0) (b2 := 8) (zkb3 zk_cX8_write zn_cX8_write rfl) rfl
theorem dX8_write_101 : decode cX8_write 101 = .ok (.bipush 120, 2) := zo_16 (b1 := 120) (zkb2 zk_cX8_write zn_cX8_write rfl) rfl
theorem dX8_write_103 : decode cX8_write 103 = .ok (.goto 5, 3) := zo_167 (b1 := 0) (b2 := 5) (zkb3 zk_cX8_write zn_cX8_write rfl) rfl
theorem dX8_write_106 : decode cX8_write 106 = .ok (.bipush 121, 2) := zo_16 (b1 := 121) (zkb2 zk_cX8_write zn_cX8_write rfl) rfl
theorem dX8_write_108 : decode cX8_write 108 = .ok (.putfield 28, 3) := zo_181 (b1 := 0) (b2 := 28) (zkb3 zk_cX8_write zn_cX8_write rfl) rfl
theorem dX8_write_111 : decode cX8_write 111 = .ok (.aload_n 0, 1) := zo_42 (zkb zk_cX8_write zn_cX8_write rfl)
theorem dX8_write_112 : decode cX8_write 112 = .ok (.invokevirtual 35, 3) := zo_182 (b1 := 0) (b2 := 35) (zkb3 zk_cX8_write zn_cX8_write rfl) rfl
theorem dX8_write_115 : decode cX8_write 115 = .ok (.istore_n 2, 1) := zo_61 (zkb zk_cX8_write zn_cX8_write rfl)
theorem dX8_write_116 : decode cX8_write 116 = .ok (.aload_n 0, 1) := zo_42 (zkb zk_cX8_write zn_cX8_write rfl)
theorem dX8_write_117 : decode cX8_write 117 = .ok (.iload_n 2, 1) := zo_28 (zkb zk_cX8_write zn_cX8_write rfl)
theorem dX8_write_118 : decode cX8_write 118 = .ok (.invokestatic 51, 3) := zo_184 (b1 := 0) (b2 := 51) (zkb3 zk_cX8_write zn_cX8_write rfl) rfl
theorem dX8_write_121 : decode cX8_write 121 = .ok (.putfield 31, 3) := zo_181 (b1 := 0) (b2 := 31) (zkb3 zk_cX8_write zn_cX8_write rfl) rfl
theorem dX8_write_124 : decode cX8_write 124 = .ok (.aload_n 0, 1) := zo_42 (zkb zk_cX8_write zn_cX8_write rfl)
theorem dX8_write_125 : decode cX8_write 125 = .ok (.aload_n 0, 1) := zo_42 (zkb zk_cX8_write zn_cX8_write rfl)
theorem dX8_write_126 : decode cX8_write 126 = .ok (.iload_n 2, 1) := zo_28 (zkb zk_cX8_write zn_cX8_write rfl)
theorem dX8_write_127 : decode cX8_write 127 = .ok (.invokevirtual 57, 3) := zo_182 (b1 := 0) (b2 := 57) (zkb3 zk_cX8_write zn_cX8_write rfl) rfl
theorem dX8_write_130 : decode cX8_write 130 = .ok (.invokevirtual 47, 3) := zo_182 (b1 := 0) (b2 := 47) (zkb3 zk_cX8_write zn_cX8_write rfl) rfl
theorem dX8_write_133 : decode cX8_write 133 = .ok (.aload_n 0, 1) := zo_42 (zkb zk_cX8_write zn_cX8_write rfl)
theorem dX8_write_134 : decode cX8_write 134 = .ok (.getfield 22, 3) := zo_180 (b1 := 0) (b2 := 22) (zkb3 zk_cX8_write zn_cX8_write rfl) rfl
theorem dX8_write_137 : decode cX8_write 137 = .ok (.ireturn, 1) := zo_172 (zkb zk_cX8_write zn_cX8_write rfl)
noncomputable def kn_cX8_eightFrom : Nat := 0xad20d1ffa7ff04844181850515790810200536030400a72e6004151b0900b42a0f00a26404151900b42a1b1a009b1b30009b0415043607104109
theorem zk_cX8_eightFrom : zkd cX8_eightFrom.data.toList kn_cX8_eightFrom = true := by decide +kernel
theorem zn_cX8_eightFrom : cX8_eightFrom.data.toList.length = 58 := by decide +kernel
theorem dX8_eightFrom_0 : decode cX8_eightFrom 0 = .ok (.lconst 0, 1) := zo_9 (zkb zk_cX8_eightFrom zn_cX8_eightFrom rfl)
theorem dX8_eightFrom_1 : decode cX8_eightFrom 1 = .ok (.lstore_n 2, 1) := zo_65 (zkb zk_cX8_eightFrom zn_cX8_eightFrom rfl)
theorem dX8_eightFrom_2 : decode cX8_eightFrom 2 = .ok (.bipush 7, 2) := zo_16 (b1 := 7) (zkb2 zk_cX8_eightFrom zn_cX8_eightFrom rfl) rfl
theorem dX8_eightFrom_4 : decode cX8_eightFrom 4 = .ok (.istore 4, 2) := zo_54 (b1 := 4) (zkb2 zk_cX8_eightFrom zn_cX8_eightFrom rfl)
theorem dX8_eightFrom_6 : decode cX8_eightFrom 6 = .ok (.iload 4, 2) := zo_21 (b1 := 4) (zkb2 zk_cX8_eightFrom zn_cX8_eightFrom rfl)
theorem dX8_eightFrom_8 : decode cX8_eightFrom 8 = .ok (.ifCond .lt 48, 3) := zo_155 (b1 := 0) (b2 := 48) (zkb3 zk_cX8_eightFrom zn_cX8_eightFrom rfl) rfl
theorem dX8_eightFrom_11 : decode cX8_eightFrom 11 = .ok (.iload_n 1, 1) := zo_27 (zkb zk_cX8_eightFrom zn_cX8_eightFrom rfl)
theorem dX8_eightFrom_12 : decode cX8_eightFrom 12 = .ok (.ifCond .lt 26, 3) := zo_155 (b1 := 0) (b2 := 26) (zkb3 zk_cX8_eightFrom zn_cX8_eightFrom rfl) rfl
theorem dX8_eightFrom_15 : decode cX8_eightFrom 15 = .ok (.iload_n 1, 1) := zo_27 (zkb zk_cX8_eightFrom zn_cX8_eightFrom rfl)
theorem dX8_eightFrom_16 : decode cX8_eightFrom 16 = .ok (.aload_n 0, 1) := zo_42 (zkb zk_cX8_eightFrom zn_cX8_eightFrom rfl)
theorem dX8_eightFrom_17 : decode cX8_eightFrom 17 = .ok (.getfield 25, 3) := zo_180 (b1 := 0) (b2 := 25) (zkb3 zk_cX8_eightFrom zn_cX8_eightFrom rfl) rfl
theorem dX8_eightFrom_20 : decode cX8_eightFrom 20 = .ok (.iload 4, 2) := zo_21 (b1 := 4) (zkb2 zk_cX8_eightFrom zn_cX8_eightFrom rfl)
theorem dX8_eightFrom_22 : decode cX8_eightFrom 22 = .ok (.isub, 1) := zo_100 (zkb zk_cX8_eightFrom zn_cX8_eightFrom rfl)
theorem dX8_eightFrom_23 : decode cX8_eightFrom 23 = .ok (.if_icmp .ge 15, 3) := zo_162 (b1 := 0) (b2 := 15) (zkb3 zk_cX8_eightFrom zn_cX8_eightFrom rfl) rfl
theorem dX8_eightFrom_26 : decode cX8_eightFrom 26 = .ok (.aload_n 0, 1) := zo_42 (zkb zk_cX8_eightFrom zn_cX8_eightFrom rfl)
theorem dX8_eightFrom_27 : decode cX8_eightFrom 27 = .ok (.getfield 9, 3) := zo_180 (b1 := 0) (b2 := 9) (zkb3 zk_cX8_eightFrom zn_cX8_eightFrom rfl) rfl
theorem dX8_eightFrom_30 : decode cX8_eightFrom 30 = .ok (.iload_n 1, 1) := zo_27 (zkb zk_cX8_eightFrom zn_cX8_eightFrom rfl)
theorem dX8_eightFrom_31 : decode cX8_eightFrom 31 = .ok (.iload 4, 2) := zo_21 (b1 := 4) (zkb2 zk_cX8_eightFrom zn_cX8_eightFrom rfl)
theorem dX8_eightFrom_33 : decode cX8_eightFrom 33 = .ok (.iadd, 1) := zo_96 (zkb zk_cX8_eightFrom zn_cX8_eightFrom rfl)
theorem dX8_eightFrom_34 : decode cX8_eightFrom 34 = .ok (.iaload, 1) := zo_46 (zkb zk_cX8_eightFrom zn_cX8_eightFrom rfl)
theorem dX8_eightFrom_35 : decode cX8_eightFrom 35 = .ok (.goto 4, 3) := zo_167 (b1 := 0) (b2 := 4) (zkb3 zk_cX8_eightFrom zn_cX8_eightFrom rfl) rfl
theorem dX8_eightFrom_38 : decode cX8_eightFrom 38 = .ok (.iconst 0, 1) := zo_3 (zkb zk_cX8_eightFrom zn_cX8_eightFrom rfl)
theorem dX8_eightFrom_39 : decode cX8_eightFrom 39 = .ok (.istore 5, 2) := zo_54 (b1 := 5) (zkb2 zk_cX8_eightFrom zn_cX8_eightFrom rfl)
theorem dX8_eightFrom_41 : decode cX8_eightFrom 41 = .ok (.lload_n 2, 1) := zo_32 (zkb zk_cX8_eightFrom zn_cX8_eightFrom rfl)
theorem dX8_eightFrom_42 : decode cX8_eightFrom 42 = .ok (.bipush 8, 2) := zo_16 (b1 := 8) (zkb2 zk_cX8_eightFrom zn_cX8_eightFrom rfl) rfl
theorem dX8_eightFrom_44 : decode cX8_eightFrom 44 = .ok (.lshl, 1) := zo_121 (zkb zk_cX8_eightFrom zn_cX8_eightFrom rfl)
theorem dX8_eightFrom_45 : decode cX8_eightFrom 45 = .ok (.iload 5, 2) := zo_21 (b1 := 5) (zkb2 zk_cX8_eightFrom zn_cX8_eightFrom rfl)
theorem dX8_eightFrom_47 : decode cX8_eightFrom 47 = .ok (.i2l, 1) := zo_133 (zkb zk_cX8_eightFrom zn_cX8_eightFrom rfl)
theorem dX8_eightFrom_48 : decode cX8_eightFrom 48 = .ok (.lor, 1) := zo_129 (zkb zk_cX8_eightFrom zn_cX8_eightFrom rfl)
theorem dX8_eightFrom_49 : decode cX8_eightFrom 49 = .ok (.lstore_n 2, 1) := zo_65 (zkb zk_cX8_eightFrom zn_cX8_eightFrom rfl)
theorem dX8_eightFrom_50 : decode cX8_eightFrom 50 = .ok (.iinc 4 (-1), 3) := zo_132 (b1 := 4) (b2 := 255) (zkb3 zk_cX8_eightFrom zn_cX8_eightFrom rfl) rfl
theorem dX8_eightFrom_53 : decode cX8_eightFrom 53 = .ok (.goto (-47), 3) := zo_167 (b1 := 255) (b2 := 209) (zkb3 zk_cX8_eightFrom zn_cX8_eightFrom rfl) rfl
theorem dX8_eightFrom_56 : decode cX8_eightFrom 56 = .ok (.lload_n 2, 1) := zo_32 (zkb zk_cX8_eightFrom zn_cX8_eightFrom rfl)
theorem dX8_eightFrom_57 : decode cX8_eightFrom 57 = .ok (.lreturn, 1) := zo_173 (zkb zk_cX8_eightFrom zn_cX8_eightFrom rfl)
noncomputable def kn_cX8_patternsOf : Nat := 0xb06000b62ab05e12b05c120500a75a120800a076101bb05700b62a2c0000001e0000001900000002000000000000002f000000aa3d00b42a4900b61b2ab05400b62a0700a75100b62a0a00a0053d00b42a4900b62300b62a2a1f00a0ed00111bb04d00b62a4900b62300b62a2a4600b52300b62a0700a70307009a1c00b42a2a2300a0cb00111b
theorem zk_cX8_patternsOf : zkd cX8_patternsOf.data.toList kn_cX8_patternsOf = true := by decide +kernel
theorem zn_cX8_patternsOf : cX8_patternsOf.data.toList.length = 135 := by decide +kernel
theorem dX8_patternsOf_0 : decode cX8_patternsOf 0 = .ok (.iload_n 1, 1) := zo_27 (zkb zk_cX8_patternsOf zn_cX8_patternsOf rfl)
theorem dX8_patternsOf_1 : decode cX8_patternsOf 1 = .ok (.sipush 203, 3) := zo_17 (b1 := 0) (b2 := 203) (zkb3 zk_cX8_patternsOf zn_cX8_patternsOf rfl) rfl
theorem dX8_patternsOf_4 : decode cX8_patternsOf 4 = .ok (.if_icmp .ne 35, 3) := zo_160 (b1 := 0) (b2 := 35) (zkb3 zk_cX8_patternsOf zn_cX8_patternsOf rfl) rfl
theorem dX8_patternsOf_7 : decode cX8_patternsOf 7 = .ok (.aload_n 0, 1) := zo_42 (zkb zk_cX8_patternsOf zn_cX8_patternsOf rfl)
theorem dX8_patternsOf_8 : decode cX8_patternsOf 8 = .ok (.aload_n 0, 1) := zo_42 (zkb zk_cX8_patternsOf zn_cX8_patternsOf rfl)
theorem dX8_patternsOf_9 : decode cX8_patternsOf 9 = .ok (.getfield 28, 3) := zo_180 (b1 := 0) (b2 := 28) (zkb3 zk_cX8_patternsOf zn_cX8_patternsOf rfl) rfl
theorem dX8_patternsOf_12 : decode cX8_patternsOf 12 = .ok (.ifCond .ne 7, 3) := zo_154 (b1 := 0) (b2 := 7) (zkb3 zk_cX8_patternsOf zn_cX8_patternsOf rfl) rfl
theorem dX8_patternsOf_15 : decode cX8_patternsOf 15 = .ok (.iconst 0, 1) := zo_3 (zkb zk_cX8_patternsOf zn_cX8_patternsOf rfl)
theorem dX8_patternsOf_16 : decode cX8_patternsOf 16 = .ok (.goto 7, 3) := zo_167 (b1 := 0) (b2 := 7) (zkb3 zk_cX8_patternsOf zn_cX8_patternsOf rfl) rfl
theorem dX8_patternsOf_19 : decode cX8_patternsOf 19 = .ok (.aload_n 0, 1) := zo_42 (zkb zk_cX8_patternsOf zn_cX8_patternsOf rfl)
theorem dX8_patternsOf_20 : decode cX8_patternsOf 20 = .ok (.invokevirtual 35, 3) := zo_182 (b1 := 0) (b2 := 35) (zkb3 zk_cX8_patternsOf zn_cX8_patternsOf rfl) rfl
theorem dX8_patternsOf_23 : decode cX8_patternsOf 23 = .ok (.putfield 70, 3) := zo_181 (b1 := 0) (b2 := 70) (zkb3 zk_cX8_patternsOf zn_cX8_patternsOf rfl) rfl
theorem dX8_patternsOf_26 : decode cX8_patternsOf 26 = .ok (.aload_n 0, 1) := zo_42 (zkb zk_cX8_patternsOf zn_cX8_patternsOf rfl)
theorem dX8_patternsOf_27 : decode cX8_patternsOf 27 = .ok (.aload_n 0, 1) := zo_42 (zkb zk_cX8_patternsOf zn_cX8_patternsOf rfl)
theorem dX8_patternsOf_28 : decode cX8_patternsOf 28 = .ok (.invokevirtual 35, 3) := zo_182 (b1 := 0) (b2 := 35) (zkb3 zk_cX8_patternsOf zn_cX8_patternsOf rfl) rfl
theorem dX8_patternsOf_31 : decode cX8_patternsOf 31 = .ok (.invokevirtual 73, 3) := zo_182 (b1 := 0) (b2 := 73) (zkb3 zk_cX8_patternsOf zn_cX8_patternsOf rfl) rfl
theorem dX8_patternsOf_34 : decode cX8_patternsOf 34 = .ok (.aload_n 0, 1) := zo_42 (zkb zk_cX8_patternsOf zn_cX8_patternsOf rfl)
theorem dX8_patternsOf_35 : decode cX8_patternsOf 35 = .ok (.invokevirtual 77, 3) := zo_182 (b1 := 0) (b2 := 77) (zkb3 zk_cX8_patternsOf zn_cX8_patternsOf rfl) rfl
theorem dX8_patternsOf_38 : decode cX8_patternsOf 38 = .ok (.areturn, 1) := zo_176 (zkb zk_cX8_patternsOf zn_cX8_patternsOf rfl)
theorem dX8_patternsOf_39 : decode cX8_patternsOf 39 = .ok (.iload_n 1, 1) := zo_27 (zkb zk_cX8_patternsOf zn_cX8_patternsOf rfl)
theorem dX8_patternsOf_40 : decode cX8_patternsOf 40 = .ok (.sipush 237, 3) := zo_17 (b1 := 0) (b2 := 237) (zkb3 zk_cX8_patternsOf zn_cX8_patternsOf rfl) rfl
theorem dX8_patternsOf_43 : decode cX8_patternsOf 43 = .ok (.if_icmp .ne 31, 3) := zo_160 (b1 := 0) (b2 := 31) (zkb3 zk_cX8_patternsOf zn_cX8_patternsOf rfl) rfl
theorem dX8_patternsOf_46 : decode cX8_patternsOf 46 = .ok (.aload_n 0, 1) := zo_42 (zkb zk_cX8_patternsOf zn_cX8_patternsOf rfl)
theorem dX8_patternsOf_47 : decode cX8_patternsOf 47 = .ok (.aload_n 0, 1) := zo_42 (zkb zk_cX8_patternsOf zn_cX8_patternsOf rfl)
theorem dX8_patternsOf_48 : decode cX8_patternsOf 48 = .ok (.invokevirtual 35, 3) := zo_182 (b1 := 0) (b2 := 35) (zkb3 zk_cX8_patternsOf zn_cX8_patternsOf rfl) rfl
theorem dX8_patternsOf_51 : decode cX8_patternsOf 51 = .ok (.invokevirtual 73, 3) := zo_182 (b1 := 0) (b2 := 73) (zkb3 zk_cX8_patternsOf zn_cX8_patternsOf rfl) rfl
theorem dX8_patternsOf_54 : decode cX8_patternsOf 54 = .ok (.aload_n 0, 1) := zo_42 (zkb zk_cX8_patternsOf zn_cX8_patternsOf rfl)
theorem dX8_patternsOf_55 : decode cX8_patternsOf 55 = .ok (.getfield 61, 3) := zo_180 (b1 := 0) (b2 := 61) (zkb3 zk_cX8_patternsOf zn_cX8_patternsOf rfl) rfl
theorem dX8_patternsOf_58 : decode cX8_patternsOf 58 = .ok (.iconst 2, 1) := zo_5 (zkb zk_cX8_patternsOf zn_cX8_patternsOf rfl)
theorem dX8_patternsOf_59 : decode cX8_patternsOf 59 = .ok (.if_icmp .ne 10, 3) := zo_160 (b1 := 0) (b2 := 10) (zkb3 zk_cX8_patternsOf zn_cX8_patternsOf rfl) rfl
theorem dX8_patternsOf_62 : decode cX8_patternsOf 62 = .ok (.aload_n 0, 1) := zo_42 (zkb zk_cX8_patternsOf zn_cX8_patternsOf rfl)
theorem dX8_patternsOf_63 : decode cX8_patternsOf 63 = .ok (.invokevirtual 81, 3) := zo_182 (b1 := 0) (b2 := 81) (zkb3 zk_cX8_patternsOf zn_cX8_patternsOf rfl) rfl
theorem dX8_patternsOf_66 : decode cX8_patternsOf 66 = .ok (.goto 7, 3) := zo_167 (b1 := 0) (b2 := 7) (zkb3 zk_cX8_patternsOf zn_cX8_patternsOf rfl) rfl
theorem dX8_patternsOf_69 : decode cX8_patternsOf 69 = .ok (.aload_n 0, 1) := zo_42 (zkb zk_cX8_patternsOf zn_cX8_patternsOf rfl)
theorem dX8_patternsOf_70 : decode cX8_patternsOf 70 = .ok (.invokevirtual 84, 3) := zo_182 (b1 := 0) (b2 := 84) (zkb3 zk_cX8_patternsOf zn_cX8_patternsOf rfl) rfl
theorem dX8_patternsOf_73 : decode cX8_patternsOf 73 = .ok (.areturn, 1) := zo_176 (zkb zk_cX8_patternsOf zn_cX8_patternsOf rfl)
theorem dX8_patternsOf_74 : decode cX8_patternsOf 74 = .ok (.aload_n 0, 1) := zo_42 (zkb zk_cX8_patternsOf zn_cX8_patternsOf rfl)
theorem dX8_patternsOf_75 : decode cX8_patternsOf 75 = .ok (.iload_n 1, 1) := zo_27 (zkb zk_cX8_patternsOf zn_cX8_patternsOf rfl)
theorem dX8_patternsOf_76 : decode cX8_patternsOf 76 = .ok (.invokevirtual 73, 3) := zo_182 (b1 := 0) (b2 := 73) (zkb3 zk_cX8_patternsOf zn_cX8_patternsOf rfl) rfl
theorem dX8_patternsOf_79 : decode cX8_patternsOf 79 = .ok (.aload_n 0, 1) := zo_42 (zkb zk_cX8_patternsOf zn_cX8_patternsOf rfl)
theorem dX8_patternsOf_80 : decode cX8_patternsOf 80 = .ok (.getfield 61, 3) := zo_180 (b1 := 0) (b2 := 61) (zkb3 zk_cX8_patternsOf zn_cX8_patternsOf rfl) rfl
theorem dX8_patternsOf_83 : decode cX8_patternsOf 83 = .ok (.tableswitch 47 0 2 #[25, 30, 44], 25) := by decide +kernel
theorem dX8_patternsOf_108 : decode cX8_patternsOf 108 = .ok (.aload_n 0, 1) := zo_42 (zkb zk_cX8_patternsOf zn_cX8_patternsOf rfl)
theorem dX8_patternsOf_109 : decode cX8_patternsOf 109 = .ok (.invokevirtual 87, 3) := zo_182 (b1 := 0) (b2 := 87) (zkb3 zk_cX8_patternsOf zn_cX8_patternsOf rfl) rfl
theorem dX8_patternsOf_112 : decode cX8_patternsOf 112 = .ok (.areturn, 1) := zo_176 (zkb zk_cX8_patternsOf zn_cX8_patternsOf rfl)
theorem dX8_patternsOf_113 : decode cX8_patternsOf 113 = .ok (.iload_n 1, 1) := zo_27 (zkb zk_cX8_patternsOf zn_cX8_patternsOf rfl)
theorem dX8_patternsOf_114 : decode cX8_patternsOf 114 = .ok (.bipush 118, 2) := zo_16 (b1 := 118) (zkb2 zk_cX8_patternsOf zn_cX8_patternsOf rfl) rfl
theorem dX8_patternsOf_116 : decode cX8_patternsOf 116 = .ok (.if_icmp .ne 8, 3) := zo_160 (b1 := 0) (b2 := 8) (zkb3 zk_cX8_patternsOf zn_cX8_patternsOf rfl) rfl
theorem dX8_patternsOf_119 : decode cX8_patternsOf 119 = .ok (.ldc 90, 2) := zo_18 (b1 := 90) (zkb2 zk_cX8_patternsOf zn_cX8_patternsOf rfl)
theorem dX8_patternsOf_121 : decode cX8_patternsOf 121 = .ok (.goto 5, 3) := zo_167 (b1 := 0) (b2 := 5) (zkb3 zk_cX8_patternsOf zn_cX8_patternsOf rfl) rfl
theorem dX8_patternsOf_124 : decode cX8_patternsOf 124 = .ok (.ldc 92, 2) := zo_18 (b1 := 92) (zkb2 zk_cX8_patternsOf zn_cX8_patternsOf rfl)
theorem dX8_patternsOf_126 : decode cX8_patternsOf 126 = .ok (.areturn, 1) := zo_176 (zkb zk_cX8_patternsOf zn_cX8_patternsOf rfl)
theorem dX8_patternsOf_127 : decode cX8_patternsOf 127 = .ok (.ldc 94, 2) := zo_18 (b1 := 94) (zkb2 zk_cX8_patternsOf zn_cX8_patternsOf rfl)
theorem dX8_patternsOf_129 : decode cX8_patternsOf 129 = .ok (.areturn, 1) := zo_176 (zkb zk_cX8_patternsOf zn_cX8_patternsOf rfl)
theorem dX8_patternsOf_130 : decode cX8_patternsOf 130 = .ok (.aload_n 0, 1) := zo_42 (zkb zk_cX8_patternsOf zn_cX8_patternsOf rfl)
theorem dX8_patternsOf_131 : decode cX8_patternsOf 131 = .ok (.invokevirtual 96, 3) := zo_182 (b1 := 0) (b2 := 96) (zkb3 zk_cX8_patternsOf zn_cX8_patternsOf rfl) rfl
theorem dX8_patternsOf_134 : decode cX8_patternsOf 134 = .ok (.areturn, 1) := zo_176 (zkb zk_cX8_patternsOf zn_cX8_patternsOf rfl)
noncomputable def kn_cX8_firstPatterns : Nat := 0xb07112b06f12b06d12b06b12b06912b06712b06512b063123e0000003b0000003800000035000000320000002f0000002c000000060000000000000041000000000000aa4300b42a
theorem zk_cX8_firstPatterns : zkd cX8_firstPatterns.data.toList kn_cX8_firstPatterns = true := by decide +kernel
theorem zn_cX8_firstPatterns : cX8_firstPatterns.data.toList.length = 72 := by decide +kernel
theorem dX8_firstPatterns_0 : decode cX8_firstPatterns 0 = .ok (.aload_n 0, 1) := zo_42 (zkb zk_cX8_firstPatterns zn_cX8_firstPatterns rfl)
theorem dX8_firstPatterns_1 : decode cX8_firstPatterns 1 = .ok (.getfield 67, 3) := zo_180 (b1 := 0) (b2 := 67) (zkb3 zk_cX8_firstPatterns zn_cX8_firstPatterns rfl) rfl
theorem dX8_firstPatterns_4 : decode cX8_firstPatterns 4 = .ok (.tableswitch 65 0 6 #[44, 47, 50, 53, 56, 59, 62], 44) := by decide +kernel
theorem dX8_firstPatterns_48 : decode cX8_firstPatterns 48 = .ok (.ldc 99, 2) := zo_18 (b1 := 99) (zkb2 zk_cX8_firstPatterns zn_cX8_firstPatterns rfl)
theorem dX8_firstPatterns_50 : decode cX8_firstPatterns 50 = .ok (.areturn, 1) := zo_176 (zkb zk_cX8_firstPatterns zn_cX8_firstPatterns rfl)
theorem dX8_firstPatterns_51 : decode cX8_firstPatterns 51 = .ok (.ldc 101, 2) := zo_18 (b1 := 101) (zkb2 zk_cX8_firstPatterns zn_cX8_firstPatterns rfl)
theorem dX8_firstPatterns_53 : decode cX8_firstPatterns 53 = .ok (.areturn, 1) := zo_176 (zkb zk_cX8_firstPatterns zn_cX8_firstPatterns rfl)
theorem dX8_firstPatterns_54 : decode cX8_firstPatterns 54 = .ok (.ldc 103, 2) := zo_18 (b1 := 103) (zkb2 zk_cX8_firstPatterns zn_cX8_firstPatterns rfl)
theorem dX8_firstPatterns_56 : decode cX8_firstPatterns 56 = .ok (.areturn, 1) := zo_176 (zkb zk_cX8_firstPatterns zn_cX8_firstPatterns rfl)
theorem dX8_firstPatterns_57 : decode cX8_firstPatterns 57 = .ok (.ldc 105, 2) := zo_18 (b1 := 105) (zkb2 zk_cX8_firstPatterns zn_cX8_firstPatterns rfl)
theorem dX8_firstPatterns_59 : decode cX8_firstPatterns 59 = .ok (.areturn, 1) := zo_176 (zkb zk_cX8_firstPatterns zn_cX8_firstPatterns rfl)
theorem dX8_firstPatterns_60 : decode cX8_firstPatterns 60 = .ok (.ldc 107, 2) := zo_18 (b1 := 107) (zkb2 zk_cX8_firstPatterns zn_cX8_firstPatterns rfl)
theorem dX8_firstPatterns_62 : decode cX8_firstPatterns 62 = .ok (.areturn, 1) := zo_176 (zkb zk_cX8_firstPatterns zn_cX8_firstPatterns rfl)
theorem dX8_firstPatterns_63 : decode cX8_firstPatterns 63 = .ok (.ldc 109, 2) := zo_18 (b1 := 109) (zkb2 zk_cX8_firstPatterns zn_cX8_firstPatterns rfl)
theorem dX8_firstPatterns_65 : decode cX8_firstPatterns 65 = .ok (.areturn, 1) := zo_176 (zkb zk_cX8_firstPatterns zn_cX8_firstPatterns rfl)
theorem dX8_firstPatterns_66 : decode cX8_firstPatterns 66 = .ok (.ldc 111, 2) := zo_18 (b1 := 111) (zkb2 zk_cX8_firstPatterns zn_cX8_firstPatterns rfl)
theorem dX8_firstPatterns_68 : decode cX8_firstPatterns 68 = .ok (.areturn, 1) := zo_176 (zkb zk_cX8_firstPatterns zn_cX8_firstPatterns rfl)
theorem dX8_firstPatterns_69 : decode cX8_firstPatterns 69 = .ok (.ldc 113, 2) := zo_18 (b1 := 113) (zkb2 zk_cX8_firstPatterns zn_cX8_firstPatterns rfl)
theorem dX8_firstPatterns_71 : decode cX8_firstPatterns 71 = .ok (.areturn, 1) := zo_176 (zkb zk_cX8_firstPatterns zn_cX8_firstPatterns rfl)
noncomputable def kn_cX8_lastPatterns : Nat := 0xb08112b07f12b07d12b07b12b07912b07712b07512b073123e0000003b0000003800000035000000320000002f0000002c000000060000000000000041000000000000aa4300b42a
theorem zk_cX8_lastPatterns : zkd cX8_lastPatterns.data.toList kn_cX8_lastPatterns = true := by decide +kernel
theorem zn_cX8_lastPatterns : cX8_lastPatterns.data.toList.length = 72 := by decide +kernel
theorem dX8_lastPatterns_0 : decode cX8_lastPatterns 0 = .ok (.aload_n 0, 1) := zo_42 (zkb zk_cX8_lastPatterns zn_cX8_lastPatterns rfl)
theorem dX8_lastPatterns_1 : decode cX8_lastPatterns 1 = .ok (.getfield 67, 3) := zo_180 (b1 := 0) (b2 := 67) (zkb3 zk_cX8_lastPatterns zn_cX8_lastPatterns rfl) rfl
theorem dX8_lastPatterns_4 : decode cX8_lastPatterns 4 = .ok (.tableswitch 65 0 6 #[44, 47, 50, 53, 56, 59, 62], 44) := by decide +kernel
theorem dX8_lastPatterns_48 : decode cX8_lastPatterns 48 = .ok (.ldc 115, 2) := zo_18 (b1 := 115) (zkb2 zk_cX8_lastPatterns zn_cX8_lastPatterns rfl)
theorem dX8_lastPatterns_50 : decode cX8_lastPatterns 50 = .ok (.areturn, 1) := zo_176 (zkb zk_cX8_lastPatterns zn_cX8_lastPatterns rfl)
theorem dX8_lastPatterns_51 : decode cX8_lastPatterns 51 = .ok (.ldc 117, 2) := zo_18 (b1 := 117) (zkb2 zk_cX8_lastPatterns zn_cX8_lastPatterns rfl)
theorem dX8_lastPatterns_53 : decode cX8_lastPatterns 53 = .ok (.areturn, 1) := zo_176 (zkb zk_cX8_lastPatterns zn_cX8_lastPatterns rfl)
theorem dX8_lastPatterns_54 : decode cX8_lastPatterns 54 = .ok (.ldc 119, 2) := zo_18 (b1 := 119) (zkb2 zk_cX8_lastPatterns zn_cX8_lastPatterns rfl)
theorem dX8_lastPatterns_56 : decode cX8_lastPatterns 56 = .ok (.areturn, 1) := zo_176 (zkb zk_cX8_lastPatterns zn_cX8_lastPatterns rfl)
theorem dX8_lastPatterns_57 : decode cX8_lastPatterns 57 = .ok (.ldc 121, 2) := zo_18 (b1 := 121) (zkb2 zk_cX8_lastPatterns zn_cX8_lastPatterns rfl)
theorem dX8_lastPatterns_59 : decode cX8_lastPatterns 59 = .ok (.areturn, 1) := zo_176 (zkb zk_cX8_lastPatterns zn_cX8_lastPatterns rfl)
theorem dX8_lastPatterns_60 : decode cX8_lastPatterns 60 = .ok (.ldc 123, 2) := zo_18 (b1 := 123) (zkb2 zk_cX8_lastPatterns zn_cX8_lastPatterns rfl)
theorem dX8_lastPatterns_62 : decode cX8_lastPatterns 62 = .ok (.areturn, 1) := zo_176 (zkb zk_cX8_lastPatterns zn_cX8_lastPatterns rfl)
theorem dX8_lastPatterns_63 : decode cX8_lastPatterns 63 = .ok (.ldc 125, 2) := zo_18 (b1 := 125) (zkb2 zk_cX8_lastPatterns zn_cX8_lastPatterns rfl)
theorem dX8_lastPatterns_65 : decode cX8_lastPatterns 65 = .ok (.areturn, 1) := zo_176 (zkb zk_cX8_lastPatterns zn_cX8_lastPatterns rfl)
theorem dX8_lastPatterns_66 : decode cX8_lastPatterns 66 = .ok (.ldc 127, 2) := zo_18 (b1 := 127) (zkb2 zk_cX8_lastPatterns zn_cX8_lastPatterns rfl)
theorem dX8_lastPatterns_68 : decode cX8_lastPatterns 68 = .ok (.areturn, 1) := zo_176 (zkb zk_cX8_lastPatterns zn_cX8_lastPatterns rfl)
theorem dX8_lastPatterns_69 : decode cX8_lastPatterns 69 = .ok (.ldc 129, 2) := zo_18 (b1 := 129) (zkb2 zk_cX8_lastPatterns zn_cX8_lastPatterns rfl)
theorem dX8_lastPatterns_71 : decode cX8_lastPatterns 71 = .ok (.areturn, 1) := zo_176 (zkb zk_cX8_lastPatterns zn_cX8_lastPatterns rfl)
noncomputable def kn_cX8_blockPatterns : Nat := 0xb02d12b09112b08f12b08d12b08b122800000025000000220000001f00000003000000000000002b0000000000aa4300b42a0700a707100800a2074000b42a
theorem zk_cX8_blockPatterns : zkd cX8_blockPatterns.data.toList kn_cX8_blockPatterns = true := by decide +kernel
theorem zn_cX8_blockPatterns : cX8_blockPatterns.data.toList.length = 63 := by decide +kernel
theorem dX8_blockPatterns_0 : decode cX8_blockPatterns 0 = .ok (.aload_n 0, 1) := zo_42 (zkb zk_cX8_blockPatterns zn_cX8_blockPatterns rfl)
theorem dX8_blockPatterns_1 : decode cX8_blockPatterns 1 = .ok (.getfield 64, 3) := zo_180 (b1 := 0) (b2 := 64) (zkb3 zk_cX8_blockPatterns zn_cX8_blockPatterns rfl) rfl
theorem dX8_blockPatterns_4 : decode cX8_blockPatterns 4 = .ok (.iconst 4, 1) := zo_7 (zkb zk_cX8_blockPatterns zn_cX8_blockPatterns rfl)
theorem dX8_blockPatterns_5 : decode cX8_blockPatterns 5 = .ok (.if_icmp .ge 8, 3) := zo_162 (b1 := 0) (b2 := 8) (zkb3 zk_cX8_blockPatterns zn_cX8_blockPatterns rfl) rfl
theorem dX8_blockPatterns_8 : decode cX8_blockPatterns 8 = .ok (.bipush 7, 2) := zo_16 (b1 := 7) (zkb2 zk_cX8_blockPatterns zn_cX8_blockPatterns rfl) rfl
theorem dX8_blockPatterns_10 : decode cX8_blockPatterns 10 = .ok (.goto 7, 3) := zo_167 (b1 := 0) (b2 := 7) (zkb3 zk_cX8_blockPatterns zn_cX8_blockPatterns rfl) rfl
theorem dX8_blockPatterns_13 : decode cX8_blockPatterns 13 = .ok (.aload_n 0, 1) := zo_42 (zkb zk_cX8_blockPatterns zn_cX8_blockPatterns rfl)
theorem dX8_blockPatterns_14 : decode cX8_blockPatterns 14 = .ok (.getfield 67, 3) := zo_180 (b1 := 0) (b2 := 67) (zkb3 zk_cX8_blockPatterns zn_cX8_blockPatterns rfl) rfl
theorem dX8_blockPatterns_17 : decode cX8_blockPatterns 17 = .ok (.tableswitch 43 0 3 #[31, 34, 37, 40], 31) := by decide +kernel
theorem dX8_blockPatterns_48 : decode cX8_blockPatterns 48 = .ok (.ldc 139, 2) := zo_18 (b1 := 139) (zkb2 zk_cX8_blockPatterns zn_cX8_blockPatterns rfl)
theorem dX8_blockPatterns_50 : decode cX8_blockPatterns 50 = .ok (.areturn, 1) := zo_176 (zkb zk_cX8_blockPatterns zn_cX8_blockPatterns rfl)
theorem dX8_blockPatterns_51 : decode cX8_blockPatterns 51 = .ok (.ldc 141, 2) := zo_18 (b1 := 141) (zkb2 zk_cX8_blockPatterns zn_cX8_blockPatterns rfl)
theorem dX8_blockPatterns_53 : decode cX8_blockPatterns 53 = .ok (.areturn, 1) := zo_176 (zkb zk_cX8_blockPatterns zn_cX8_blockPatterns rfl)
theorem dX8_blockPatterns_54 : decode cX8_blockPatterns 54 = .ok (.ldc 143, 2) := zo_18 (b1 := 143) (zkb2 zk_cX8_blockPatterns zn_cX8_blockPatterns rfl)
theorem dX8_blockPatterns_56 : decode cX8_blockPatterns 56 = .ok (.areturn, 1) := zo_176 (zkb zk_cX8_blockPatterns zn_cX8_blockPatterns rfl)
theorem dX8_blockPatterns_57 : decode cX8_blockPatterns 57 = .ok (.ldc 145, 2) := zo_18 (b1 := 145) (zkb2 zk_cX8_blockPatterns zn_cX8_blockPatterns rfl)
theorem dX8_blockPatterns_59 : decode cX8_blockPatterns 59 = .ok (.areturn, 1) := zo_176 (zkb zk_cX8_blockPatterns zn_cX8_blockPatterns rfl)
theorem dX8_blockPatterns_60 : decode cX8_blockPatterns 60 = .ok (.ldc 45, 2) := zo_18 (b1 := 45) (zkb2 zk_cX8_blockPatterns zn_cX8_blockPatterns rfl)
theorem dX8_blockPatterns_62 : decode cX8_blockPatterns 62 = .ok (.areturn, 1) := zo_176 (zkb zk_cX8_blockPatterns zn_cX8_blockPatterns rfl)
noncomputable def kn_cX8_morePatterns : Nat := 0xb0a712b0a512b0a3120500a7a1120800a0044000b42ab09f12b09d12b09b12b099120500a797120800a006104000b42ab095120500a793120800a006104000b42a6400000054000000510000004e0000004b0000003a00000029000000060000000000000067000000aa4300b42ab02d1206009f043d00b42a
theorem zk_cX8_morePatterns : zkd cX8_morePatterns.data.toList kn_cX8_morePatterns = true := by decide +kernel
theorem zn_cX8_morePatterns : cX8_morePatterns.data.toList.length = 121 := by decide +kernel
theorem dX8_morePatterns_0 : decode cX8_morePatterns 0 = .ok (.aload_n 0, 1) := zo_42 (zkb zk_cX8_morePatterns zn_cX8_morePatterns rfl)
theorem dX8_morePatterns_1 : decode cX8_morePatterns 1 = .ok (.getfield 61, 3) := zo_180 (b1 := 0) (b2 := 61) (zkb3 zk_cX8_morePatterns zn_cX8_morePatterns rfl) rfl
theorem dX8_morePatterns_4 : decode cX8_morePatterns 4 = .ok (.iconst 1, 1) := zo_4 (zkb zk_cX8_morePatterns zn_cX8_morePatterns rfl)
theorem dX8_morePatterns_5 : decode cX8_morePatterns 5 = .ok (.if_icmp .eq 6, 3) := zo_159 (b1 := 0) (b2 := 6) (zkb3 zk_cX8_morePatterns zn_cX8_morePatterns rfl) rfl
theorem dX8_morePatterns_8 : decode cX8_morePatterns 8 = .ok (.ldc 45, 2) := zo_18 (b1 := 45) (zkb2 zk_cX8_morePatterns zn_cX8_morePatterns rfl)
theorem dX8_morePatterns_10 : decode cX8_morePatterns 10 = .ok (.areturn, 1) := zo_176 (zkb zk_cX8_morePatterns zn_cX8_morePatterns rfl)
theorem dX8_morePatterns_11 : decode cX8_morePatterns 11 = .ok (.aload_n 0, 1) := zo_42 (zkb zk_cX8_morePatterns zn_cX8_morePatterns rfl)
theorem dX8_morePatterns_12 : decode cX8_morePatterns 12 = .ok (.getfield 67, 3) := zo_180 (b1 := 0) (b2 := 67) (zkb3 zk_cX8_morePatterns zn_cX8_morePatterns rfl) rfl
theorem dX8_morePatterns_15 : decode cX8_morePatterns 15 = .ok (.tableswitch 103 0 6 #[41, 58, 75, 78, 81, 84, 100], 41) := by decide +kernel
theorem dX8_morePatterns_56 : decode cX8_morePatterns 56 = .ok (.aload_n 0, 1) := zo_42 (zkb zk_cX8_morePatterns zn_cX8_morePatterns rfl)
theorem dX8_morePatterns_57 : decode cX8_morePatterns 57 = .ok (.getfield 64, 3) := zo_180 (b1 := 0) (b2 := 64) (zkb3 zk_cX8_morePatterns zn_cX8_morePatterns rfl) rfl
theorem dX8_morePatterns_60 : decode cX8_morePatterns 60 = .ok (.bipush 6, 2) := zo_16 (b1 := 6) (zkb2 zk_cX8_morePatterns zn_cX8_morePatterns rfl) rfl
theorem dX8_morePatterns_62 : decode cX8_morePatterns 62 = .ok (.if_icmp .ne 8, 3) := zo_160 (b1 := 0) (b2 := 8) (zkb3 zk_cX8_morePatterns zn_cX8_morePatterns rfl) rfl
theorem dX8_morePatterns_65 : decode cX8_morePatterns 65 = .ok (.ldc 147, 2) := zo_18 (b1 := 147) (zkb2 zk_cX8_morePatterns zn_cX8_morePatterns rfl)
theorem dX8_morePatterns_67 : decode cX8_morePatterns 67 = .ok (.goto 5, 3) := zo_167 (b1 := 0) (b2 := 5) (zkb3 zk_cX8_morePatterns zn_cX8_morePatterns rfl) rfl
theorem dX8_morePatterns_70 : decode cX8_morePatterns 70 = .ok (.ldc 149, 2) := zo_18 (b1 := 149) (zkb2 zk_cX8_morePatterns zn_cX8_morePatterns rfl)
theorem dX8_morePatterns_72 : decode cX8_morePatterns 72 = .ok (.areturn, 1) := zo_176 (zkb zk_cX8_morePatterns zn_cX8_morePatterns rfl)
theorem dX8_morePatterns_73 : decode cX8_morePatterns 73 = .ok (.aload_n 0, 1) := zo_42 (zkb zk_cX8_morePatterns zn_cX8_morePatterns rfl)
theorem dX8_morePatterns_74 : decode cX8_morePatterns 74 = .ok (.getfield 64, 3) := zo_180 (b1 := 0) (b2 := 64) (zkb3 zk_cX8_morePatterns zn_cX8_morePatterns rfl) rfl
theorem dX8_morePatterns_77 : decode cX8_morePatterns 77 = .ok (.bipush 6, 2) := zo_16 (b1 := 6) (zkb2 zk_cX8_morePatterns zn_cX8_morePatterns rfl) rfl
theorem dX8_morePatterns_79 : decode cX8_morePatterns 79 = .ok (.if_icmp .ne 8, 3) := zo_160 (b1 := 0) (b2 := 8) (zkb3 zk_cX8_morePatterns zn_cX8_morePatterns rfl) rfl
theorem dX8_morePatterns_82 : decode cX8_morePatterns 82 = .ok (.ldc 151, 2) := zo_18 (b1 := 151) (zkb2 zk_cX8_morePatterns zn_cX8_morePatterns rfl)
theorem dX8_morePatterns_84 : decode cX8_morePatterns 84 = .ok (.goto 5, 3) := zo_167 (b1 := 0) (b2 := 5) (zkb3 zk_cX8_morePatterns zn_cX8_morePatterns rfl) rfl
theorem dX8_morePatterns_87 : decode cX8_morePatterns 87 = .ok (.ldc 153, 2) := zo_18 (b1 := 153) (zkb2 zk_cX8_morePatterns zn_cX8_morePatterns rfl)
theorem dX8_morePatterns_89 : decode cX8_morePatterns 89 = .ok (.areturn, 1) := zo_176 (zkb zk_cX8_morePatterns zn_cX8_morePatterns rfl)
theorem dX8_morePatterns_90 : decode cX8_morePatterns 90 = .ok (.ldc 155, 2) := zo_18 (b1 := 155) (zkb2 zk_cX8_morePatterns zn_cX8_morePatterns rfl)
theorem dX8_morePatterns_92 : decode cX8_morePatterns 92 = .ok (.areturn, 1) := zo_176 (zkb zk_cX8_morePatterns zn_cX8_morePatterns rfl)
theorem dX8_morePatterns_93 : decode cX8_morePatterns 93 = .ok (.ldc 157, 2) := zo_18 (b1 := 157) (zkb2 zk_cX8_morePatterns zn_cX8_morePatterns rfl)
theorem dX8_morePatterns_95 : decode cX8_morePatterns 95 = .ok (.areturn, 1) := zo_176 (zkb zk_cX8_morePatterns zn_cX8_morePatterns rfl)
theorem dX8_morePatterns_96 : decode cX8_morePatterns 96 = .ok (.ldc 159, 2) := zo_18 (b1 := 159) (zkb2 zk_cX8_morePatterns zn_cX8_morePatterns rfl)
theorem dX8_morePatterns_98 : decode cX8_morePatterns 98 = .ok (.areturn, 1) := zo_176 (zkb zk_cX8_morePatterns zn_cX8_morePatterns rfl)
theorem dX8_morePatterns_99 : decode cX8_morePatterns 99 = .ok (.aload_n 0, 1) := zo_42 (zkb zk_cX8_morePatterns zn_cX8_morePatterns rfl)
theorem dX8_morePatterns_100 : decode cX8_morePatterns 100 = .ok (.getfield 64, 3) := zo_180 (b1 := 0) (b2 := 64) (zkb3 zk_cX8_morePatterns zn_cX8_morePatterns rfl) rfl
theorem dX8_morePatterns_103 : decode cX8_morePatterns 103 = .ok (.iconst 1, 1) := zo_4 (zkb zk_cX8_morePatterns zn_cX8_morePatterns rfl)
theorem dX8_morePatterns_104 : decode cX8_morePatterns 104 = .ok (.if_icmp .ne 8, 3) := zo_160 (b1 := 0) (b2 := 8) (zkb3 zk_cX8_morePatterns zn_cX8_morePatterns rfl) rfl
theorem dX8_morePatterns_107 : decode cX8_morePatterns 107 = .ok (.ldc 161, 2) := zo_18 (b1 := 161) (zkb2 zk_cX8_morePatterns zn_cX8_morePatterns rfl)
theorem dX8_morePatterns_109 : decode cX8_morePatterns 109 = .ok (.goto 5, 3) := zo_167 (b1 := 0) (b2 := 5) (zkb3 zk_cX8_morePatterns zn_cX8_morePatterns rfl) rfl
theorem dX8_morePatterns_112 : decode cX8_morePatterns 112 = .ok (.ldc 163, 2) := zo_18 (b1 := 163) (zkb2 zk_cX8_morePatterns zn_cX8_morePatterns rfl)
theorem dX8_morePatterns_114 : decode cX8_morePatterns 114 = .ok (.areturn, 1) := zo_176 (zkb zk_cX8_morePatterns zn_cX8_morePatterns rfl)
theorem dX8_morePatterns_115 : decode cX8_morePatterns 115 = .ok (.ldc 165, 2) := zo_18 (b1 := 165) (zkb2 zk_cX8_morePatterns zn_cX8_morePatterns rfl)
theorem dX8_morePatterns_117 : decode cX8_morePatterns 117 = .ok (.areturn, 1) := zo_176 (zkb zk_cX8_morePatterns zn_cX8_morePatterns rfl)
theorem dX8_morePatterns_118 : decode cX8_morePatterns 118 = .ok (.ldc 167, 2) := zo_18 (b1 := 167) (zkb2 zk_cX8_morePatterns zn_cX8_morePatterns rfl)
theorem dX8_morePatterns_120 : decode cX8_morePatterns 120 = .ok (.areturn, 1) := zo_176 (zkb zk_cX8_morePatterns zn_cX8_morePatterns rfl)
noncomputable def kn_cX9_clear : Nat := 0xb11e00b8031000b42a1e00b8030900b42a
theorem zk_cX9_clear : zkd cX9_clear.data.toList kn_cX9_clear = true := by decide +kernel
theorem zn_cX9_clear : cX9_clear.data.toList.length = 17 := by decide +kernel
theorem dX9_clear_0 : decode cX9_clear 0 = .ok (.aload_n 0, 1) := zo_42 (zkb zk_cX9_clear zn_cX9_clear rfl)
theorem dX9_clear_1 : decode cX9_clear 1 = .ok (.getfield 9, 3) := zo_180 (b1 := 0) (b2 := 9) (zkb3 zk_cX9_clear zn_cX9_clear rfl) rfl
theorem dX9_clear_4 : decode cX9_clear 4 = .ok (.iconst 0, 1) := zo_3 (zkb zk_cX9_clear zn_cX9_clear rfl)
theorem dX9_clear_5 : decode cX9_clear 5 = .ok (.invokestatic 30, 3) := zo_184 (b1 := 0) (b2 := 30) (zkb3 zk_cX9_clear zn_cX9_clear rfl) rfl
theorem dX9_clear_8 : decode cX9_clear 8 = .ok (.aload_n 0, 1) := zo_42 (zkb zk_cX9_clear zn_cX9_clear rfl)
theorem dX9_clear_9 : decode cX9_clear 9 = .ok (.getfield 16, 3) := zo_180 (b1 := 0) (b2 := 16) (zkb3 zk_cX9_clear zn_cX9_clear rfl) rfl
theorem dX9_clear_12 : decode cX9_clear 12 = .ok (.iconst 0, 1) := zo_3 (zkb zk_cX9_clear zn_cX9_clear rfl)
theorem dX9_clear_13 : decode cX9_clear 13 = .ok (.invokestatic 30, 3) := zo_184 (b1 := 0) (b2 := 30) (zkb3 zk_cX9_clear zn_cX9_clear rfl) rfl
theorem dX9_clear_16 : decode cX9_clear 16 = .ok (.return_, 1) := zo_177 (zkb zk_cX9_clear zn_cX9_clear rfl)
noncomputable def kn_cX9_keep : Nat := 0xb12400b86010031300b42a031000b42a2400b8004011030d00b42a030900b42a
theorem zk_cX9_keep : zkd cX9_keep.data.toList kn_cX9_keep = true := by decide +kernel
theorem zn_cX9_keep : cX9_keep.data.toList.length = 32 := by decide +kernel
theorem dX9_keep_0 : decode cX9_keep 0 = .ok (.aload_n 0, 1) := zo_42 (zkb zk_cX9_keep zn_cX9_keep rfl)
theorem dX9_keep_1 : decode cX9_keep 1 = .ok (.getfield 9, 3) := zo_180 (b1 := 0) (b2 := 9) (zkb3 zk_cX9_keep zn_cX9_keep rfl) rfl
theorem dX9_keep_4 : decode cX9_keep 4 = .ok (.iconst 0, 1) := zo_3 (zkb zk_cX9_keep zn_cX9_keep rfl)
theorem dX9_keep_5 : decode cX9_keep 5 = .ok (.aload_n 0, 1) := zo_42 (zkb zk_cX9_keep zn_cX9_keep rfl)
theorem dX9_keep_6 : decode cX9_keep 6 = .ok (.getfield 13, 3) := zo_180 (b1 := 0) (b2 := 13) (zkb3 zk_cX9_keep zn_cX9_keep rfl) rfl
theorem dX9_keep_9 : decode cX9_keep 9 = .ok (.iconst 0, 1) := zo_3 (zkb zk_cX9_keep zn_cX9_keep rfl)
theorem dX9_keep_10 : decode cX9_keep 10 = .ok (.sipush 16384, 3) := zo_17 (b1 := 64) (b2 := 0) (zkb3 zk_cX9_keep zn_cX9_keep rfl) rfl
theorem dX9_keep_13 : decode cX9_keep 13 = .ok (.invokestatic 36, 3) := zo_184 (b1 := 0) (b2 := 36) (zkb3 zk_cX9_keep zn_cX9_keep rfl) rfl
theorem dX9_keep_16 : decode cX9_keep 16 = .ok (.aload_n 0, 1) := zo_42 (zkb zk_cX9_keep zn_cX9_keep rfl)
theorem dX9_keep_17 : decode cX9_keep 17 = .ok (.getfield 16, 3) := zo_180 (b1 := 0) (b2 := 16) (zkb3 zk_cX9_keep zn_cX9_keep rfl) rfl
theorem dX9_keep_20 : decode cX9_keep 20 = .ok (.iconst 0, 1) := zo_3 (zkb zk_cX9_keep zn_cX9_keep rfl)
theorem dX9_keep_21 : decode cX9_keep 21 = .ok (.aload_n 0, 1) := zo_42 (zkb zk_cX9_keep zn_cX9_keep rfl)
theorem dX9_keep_22 : decode cX9_keep 22 = .ok (.getfield 19, 3) := zo_180 (b1 := 0) (b2 := 19) (zkb3 zk_cX9_keep zn_cX9_keep rfl) rfl
theorem dX9_keep_25 : decode cX9_keep 25 = .ok (.iconst 0, 1) := zo_3 (zkb zk_cX9_keep zn_cX9_keep rfl)
theorem dX9_keep_26 : decode cX9_keep 26 = .ok (.bipush 96, 2) := zo_16 (b1 := 96) (zkb2 zk_cX9_keep zn_cX9_keep rfl) rfl
theorem dX9_keep_28 : decode cX9_keep 28 = .ok (.invokestatic 36, 3) := zo_184 (b1 := 0) (b2 := 36) (zkb3 zk_cX9_keep zn_cX9_keep rfl) rfl
theorem dX9_keep_31 : decode cX9_keep 31 = .ok (.return_, 1) := zo_177 (zkb zk_cX9_keep zn_cX9_keep rfl)
noncomputable def kn_cX9_bringBack : Nat := 0xb12400b86010031000b42a031300b42a2400b8004011030900b42a030d00b42a
theorem zk_cX9_bringBack : zkd cX9_bringBack.data.toList kn_cX9_bringBack = true := by decide +kernel
theorem zn_cX9_bringBack : cX9_bringBack.data.toList.length = 32 := by decide +kernel
theorem dX9_bringBack_0 : decode cX9_bringBack 0 = .ok (.aload_n 0, 1) := zo_42 (zkb zk_cX9_bringBack zn_cX9_bringBack rfl)
theorem dX9_bringBack_1 : decode cX9_bringBack 1 = .ok (.getfield 13, 3) := zo_180 (b1 := 0) (b2 := 13) (zkb3 zk_cX9_bringBack zn_cX9_bringBack rfl) rfl
theorem dX9_bringBack_4 : decode cX9_bringBack 4 = .ok (.iconst 0, 1) := zo_3 (zkb zk_cX9_bringBack zn_cX9_bringBack rfl)
theorem dX9_bringBack_5 : decode cX9_bringBack 5 = .ok (.aload_n 0, 1) := zo_42 (zkb zk_cX9_bringBack zn_cX9_bringBack rfl)
theorem dX9_bringBack_6 : decode cX9_bringBack 6 = .ok (.getfield 9, 3) := zo_180 (b1 := 0) (b2 := 9) (zkb3 zk_cX9_bringBack zn_cX9_bringBack rfl) rfl
theorem dX9_bringBack_9 : decode cX9_bringBack 9 = .ok (.iconst 0, 1) := zo_3 (zkb zk_cX9_bringBack zn_cX9_bringBack rfl)
theorem dX9_bringBack_10 : decode cX9_bringBack 10 = .ok (.sipush 16384, 3) := zo_17 (b1 := 64) (b2 := 0) (zkb3 zk_cX9_bringBack zn_cX9_bringBack rfl) rfl
theorem dX9_bringBack_13 : decode cX9_bringBack 13 = .ok (.invokestatic 36, 3) := zo_184 (b1 := 0) (b2 := 36) (zkb3 zk_cX9_bringBack zn_cX9_bringBack rfl) rfl
theorem dX9_bringBack_16 : decode cX9_bringBack 16 = .ok (.aload_n 0, 1) := zo_42 (zkb zk_cX9_bringBack zn_cX9_bringBack rfl)
theorem dX9_bringBack_17 : decode cX9_bringBack 17 = .ok (.getfield 19, 3) := zo_180 (b1 := 0) (b2 := 19) (zkb3 zk_cX9_bringBack zn_cX9_bringBack rfl) rfl
theorem dX9_bringBack_20 : decode cX9_bringBack 20 = .ok (.iconst 0, 1) := zo_3 (zkb zk_cX9_bringBack zn_cX9_bringBack rfl)
theorem dX9_bringBack_21 : decode cX9_bringBack 21 = .ok (.aload_n 0, 1) := zo_42 (zkb zk_cX9_bringBack zn_cX9_bringBack rfl)
theorem dX9_bringBack_22 : decode cX9_bringBack 22 = .ok (.getfield 16, 3) := zo_180 (b1 := 0) (b2 := 16) (zkb3 zk_cX9_bringBack zn_cX9_bringBack rfl) rfl
theorem dX9_bringBack_25 : decode cX9_bringBack 25 = .ok (.iconst 0, 1) := zo_3 (zkb zk_cX9_bringBack zn_cX9_bringBack rfl)
theorem dX9_bringBack_26 : decode cX9_bringBack 26 = .ok (.bipush 96, 2) := zo_16 (b1 := 96) (zkb2 zk_cX9_bringBack zn_cX9_bringBack rfl) rfl
theorem dX9_bringBack_28 : decode cX9_bringBack 28 = .ok (.invokestatic 36, 3) := zo_184 (b1 := 0) (b2 := 36) (zkb3 zk_cX9_bringBack zn_cX9_bringBack rfl) rfl
theorem dX9_bringBack_31 : decode cX9_bringBack 31 = .ok (.return_, 1) := zo_177 (zkb zk_cX9_bringBack zn_cX9_bringBack rfl)
noncomputable def kn_cX9_has : Nat := 0xac030400a7040700a260101a0d00a120101a0f00a419101a09009b1a
theorem zk_cX9_has : zkd cX9_has.data.toList kn_cX9_has = true := by decide +kernel
theorem zn_cX9_has : cX9_has.data.toList.length = 28 := by decide +kernel
theorem dX9_has_0 : decode cX9_has 0 = .ok (.iload_n 0, 1) := zo_26 (zkb zk_cX9_has zn_cX9_has rfl)
theorem dX9_has_1 : decode cX9_has 1 = .ok (.ifCond .lt 9, 3) := zo_155 (b1 := 0) (b2 := 9) (zkb3 zk_cX9_has zn_cX9_has rfl) rfl
theorem dX9_has_4 : decode cX9_has 4 = .ok (.iload_n 0, 1) := zo_26 (zkb zk_cX9_has zn_cX9_has rfl)
theorem dX9_has_5 : decode cX9_has 5 = .ok (.bipush 25, 2) := zo_16 (b1 := 25) (zkb2 zk_cX9_has zn_cX9_has rfl) rfl
theorem dX9_has_7 : decode cX9_has 7 = .ok (.if_icmp .le 15, 3) := zo_164 (b1 := 0) (b2 := 15) (zkb3 zk_cX9_has zn_cX9_has rfl) rfl
theorem dX9_has_10 : decode cX9_has 10 = .ok (.iload_n 0, 1) := zo_26 (zkb zk_cX9_has zn_cX9_has rfl)
theorem dX9_has_11 : decode cX9_has 11 = .ok (.bipush 32, 2) := zo_16 (b1 := 32) (zkb2 zk_cX9_has zn_cX9_has rfl) rfl
theorem dX9_has_13 : decode cX9_has 13 = .ok (.if_icmp .lt 13, 3) := zo_161 (b1 := 0) (b2 := 13) (zkb3 zk_cX9_has zn_cX9_has rfl) rfl
theorem dX9_has_16 : decode cX9_has 16 = .ok (.iload_n 0, 1) := zo_26 (zkb zk_cX9_has zn_cX9_has rfl)
theorem dX9_has_17 : decode cX9_has 17 = .ok (.bipush 96, 2) := zo_16 (b1 := 96) (zkb2 zk_cX9_has zn_cX9_has rfl) rfl
theorem dX9_has_19 : decode cX9_has 19 = .ok (.if_icmp .ge 7, 3) := zo_162 (b1 := 0) (b2 := 7) (zkb3 zk_cX9_has zn_cX9_has rfl) rfl
theorem dX9_has_22 : decode cX9_has 22 = .ok (.iconst 1, 1) := zo_4 (zkb zk_cX9_has zn_cX9_has rfl)
theorem dX9_has_23 : decode cX9_has 23 = .ok (.goto 4, 3) := zo_167 (b1 := 0) (b2 := 4) (zkb3 zk_cX9_has zn_cX9_has rfl) rfl
theorem dX9_has_26 : decode cX9_has 26 = .ok (.iconst 0, 1) := zo_3 (zkb zk_cX9_has zn_cX9_has rfl)
theorem dX9_has_27 : decode cX9_has 27 = .ok (.ireturn, 1) := zo_172 (zkb zk_cX9_has zn_cX9_has rfl)
noncomputable def kn_cX9_value : Nat := 0xac3b00b61b2aac3800b62aac3500b62aac3200b62aac2e00b62aac030400a7040700992a00b62a4f0000004a000000450000004000000054000000540000005400000054000000330000001900000011000000540000000000aa1b
theorem zk_cX9_value : zkd cX9_value.data.toList kn_cX9_value = true := by decide +kernel
theorem zn_cX9_value : cX9_value.data.toList.length = 91 := by decide +kernel
theorem dX9_value_0 : decode cX9_value 0 = .ok (.iload_n 1, 1) := zo_27 (zkb zk_cX9_value zn_cX9_value rfl)
theorem dX9_value_1 : decode cX9_value 1 = .ok (.tableswitch 84 17 25 #[51, 84, 84, 84, 84, 64, 69, 74, 79], 51) := by decide +kernel
theorem dX9_value_52 : decode cX9_value 52 = .ok (.aload_n 0, 1) := zo_42 (zkb zk_cX9_value zn_cX9_value rfl)
theorem dX9_value_53 : decode cX9_value 53 = .ok (.invokevirtual 42, 3) := zo_182 (b1 := 0) (b2 := 42) (zkb3 zk_cX9_value zn_cX9_value rfl) rfl
theorem dX9_value_56 : decode cX9_value 56 = .ok (.ifCond .eq 7, 3) := zo_153 (b1 := 0) (b2 := 7) (zkb3 zk_cX9_value zn_cX9_value rfl) rfl
theorem dX9_value_59 : decode cX9_value 59 = .ok (.iconst 1, 1) := zo_4 (zkb zk_cX9_value zn_cX9_value rfl)
theorem dX9_value_60 : decode cX9_value 60 = .ok (.goto 4, 3) := zo_167 (b1 := 0) (b2 := 4) (zkb3 zk_cX9_value zn_cX9_value rfl) rfl
theorem dX9_value_63 : decode cX9_value 63 = .ok (.iconst 0, 1) := zo_3 (zkb zk_cX9_value zn_cX9_value rfl)
theorem dX9_value_64 : decode cX9_value 64 = .ok (.ireturn, 1) := zo_172 (zkb zk_cX9_value zn_cX9_value rfl)
theorem dX9_value_65 : decode cX9_value 65 = .ok (.aload_n 0, 1) := zo_42 (zkb zk_cX9_value zn_cX9_value rfl)
theorem dX9_value_66 : decode cX9_value 66 = .ok (.invokevirtual 46, 3) := zo_182 (b1 := 0) (b2 := 46) (zkb3 zk_cX9_value zn_cX9_value rfl) rfl
theorem dX9_value_69 : decode cX9_value 69 = .ok (.ireturn, 1) := zo_172 (zkb zk_cX9_value zn_cX9_value rfl)
theorem dX9_value_70 : decode cX9_value 70 = .ok (.aload_n 0, 1) := zo_42 (zkb zk_cX9_value zn_cX9_value rfl)
theorem dX9_value_71 : decode cX9_value 71 = .ok (.invokevirtual 50, 3) := zo_182 (b1 := 0) (b2 := 50) (zkb3 zk_cX9_value zn_cX9_value rfl) rfl
theorem dX9_value_74 : decode cX9_value 74 = .ok (.ireturn, 1) := zo_172 (zkb zk_cX9_value zn_cX9_value rfl)
theorem dX9_value_75 : decode cX9_value 75 = .ok (.aload_n 0, 1) := zo_42 (zkb zk_cX9_value zn_cX9_value rfl)
theorem dX9_value_76 : decode cX9_value 76 = .ok (.invokevirtual 53, 3) := zo_182 (b1 := 0) (b2 := 53) (zkb3 zk_cX9_value zn_cX9_value rfl) rfl
theorem dX9_value_79 : decode cX9_value 79 = .ok (.ireturn, 1) := zo_172 (zkb zk_cX9_value zn_cX9_value rfl)
theorem dX9_value_80 : decode cX9_value 80 = .ok (.aload_n 0, 1) := zo_42 (zkb zk_cX9_value zn_cX9_value rfl)
theorem dX9_value_81 : decode cX9_value 81 = .ok (.invokevirtual 56, 3) := zo_182 (b1 := 0) (b2 := 56) (zkb3 zk_cX9_value zn_cX9_value rfl) rfl
theorem dX9_value_84 : decode cX9_value 84 = .ok (.ireturn, 1) := zo_172 (zkb zk_cX9_value zn_cX9_value rfl)
theorem dX9_value_85 : decode cX9_value 85 = .ok (.aload_n 0, 1) := zo_42 (zkb zk_cX9_value zn_cX9_value rfl)
theorem dX9_value_86 : decode cX9_value 86 = .ok (.iload_n 1, 1) := zo_27 (zkb zk_cX9_value zn_cX9_value rfl)
theorem dX9_value_87 : decode cX9_value 87 = .ok (.invokevirtual 59, 3) := zo_182 (b1 := 0) (b2 := 59) (zkb3 zk_cX9_value zn_cX9_value rfl) rfl
theorem dX9_value_90 : decode cX9_value 90 = .ok (.ireturn, 1) := zo_172 (zkb zk_cX9_value zn_cX9_value rfl)
noncomputable def kn_cX9_eightFrom : Nat := 0xad20e4ffa7ff04844181852e7eff3f116004151b0900b42a790810201d009b0415043607104109
theorem zk_cX9_eightFrom : zkd cX9_eightFrom.data.toList kn_cX9_eightFrom = true := by decide +kernel
theorem zn_cX9_eightFrom : cX9_eightFrom.data.toList.length = 39 := by decide +kernel
theorem dX9_eightFrom_0 : decode cX9_eightFrom 0 = .ok (.lconst 0, 1) := zo_9 (zkb zk_cX9_eightFrom zn_cX9_eightFrom rfl)
theorem dX9_eightFrom_1 : decode cX9_eightFrom 1 = .ok (.lstore_n 2, 1) := zo_65 (zkb zk_cX9_eightFrom zn_cX9_eightFrom rfl)
theorem dX9_eightFrom_2 : decode cX9_eightFrom 2 = .ok (.bipush 7, 2) := zo_16 (b1 := 7) (zkb2 zk_cX9_eightFrom zn_cX9_eightFrom rfl) rfl
theorem dX9_eightFrom_4 : decode cX9_eightFrom 4 = .ok (.istore 4, 2) := zo_54 (b1 := 4) (zkb2 zk_cX9_eightFrom zn_cX9_eightFrom rfl)
theorem dX9_eightFrom_6 : decode cX9_eightFrom 6 = .ok (.iload 4, 2) := zo_21 (b1 := 4) (zkb2 zk_cX9_eightFrom zn_cX9_eightFrom rfl)
theorem dX9_eightFrom_8 : decode cX9_eightFrom 8 = .ok (.ifCond .lt 29, 3) := zo_155 (b1 := 0) (b2 := 29) (zkb3 zk_cX9_eightFrom zn_cX9_eightFrom rfl) rfl
theorem dX9_eightFrom_11 : decode cX9_eightFrom 11 = .ok (.lload_n 2, 1) := zo_32 (zkb zk_cX9_eightFrom zn_cX9_eightFrom rfl)
theorem dX9_eightFrom_12 : decode cX9_eightFrom 12 = .ok (.bipush 8, 2) := zo_16 (b1 := 8) (zkb2 zk_cX9_eightFrom zn_cX9_eightFrom rfl) rfl
theorem dX9_eightFrom_14 : decode cX9_eightFrom 14 = .ok (.lshl, 1) := zo_121 (zkb zk_cX9_eightFrom zn_cX9_eightFrom rfl)
theorem dX9_eightFrom_15 : decode cX9_eightFrom 15 = .ok (.aload_n 0, 1) := zo_42 (zkb zk_cX9_eightFrom zn_cX9_eightFrom rfl)
theorem dX9_eightFrom_16 : decode cX9_eightFrom 16 = .ok (.getfield 9, 3) := zo_180 (b1 := 0) (b2 := 9) (zkb3 zk_cX9_eightFrom zn_cX9_eightFrom rfl) rfl
theorem dX9_eightFrom_19 : decode cX9_eightFrom 19 = .ok (.iload_n 1, 1) := zo_27 (zkb zk_cX9_eightFrom zn_cX9_eightFrom rfl)
theorem dX9_eightFrom_20 : decode cX9_eightFrom 20 = .ok (.iload 4, 2) := zo_21 (b1 := 4) (zkb2 zk_cX9_eightFrom zn_cX9_eightFrom rfl)
theorem dX9_eightFrom_22 : decode cX9_eightFrom 22 = .ok (.iadd, 1) := zo_96 (zkb zk_cX9_eightFrom zn_cX9_eightFrom rfl)
theorem dX9_eightFrom_23 : decode cX9_eightFrom 23 = .ok (.sipush 16383, 3) := zo_17 (b1 := 63) (b2 := 255) (zkb3 zk_cX9_eightFrom zn_cX9_eightFrom rfl) rfl
theorem dX9_eightFrom_26 : decode cX9_eightFrom 26 = .ok (.iand, 1) := zo_126 (zkb zk_cX9_eightFrom zn_cX9_eightFrom rfl)
theorem dX9_eightFrom_27 : decode cX9_eightFrom 27 = .ok (.iaload, 1) := zo_46 (zkb zk_cX9_eightFrom zn_cX9_eightFrom rfl)
theorem dX9_eightFrom_28 : decode cX9_eightFrom 28 = .ok (.i2l, 1) := zo_133 (zkb zk_cX9_eightFrom zn_cX9_eightFrom rfl)
theorem dX9_eightFrom_29 : decode cX9_eightFrom 29 = .ok (.lor, 1) := zo_129 (zkb zk_cX9_eightFrom zn_cX9_eightFrom rfl)
theorem dX9_eightFrom_30 : decode cX9_eightFrom 30 = .ok (.lstore_n 2, 1) := zo_65 (zkb zk_cX9_eightFrom zn_cX9_eightFrom rfl)
theorem dX9_eightFrom_31 : decode cX9_eightFrom 31 = .ok (.iinc 4 (-1), 3) := zo_132 (b1 := 4) (b2 := 255) (zkb3 zk_cX9_eightFrom zn_cX9_eightFrom rfl) rfl
theorem dX9_eightFrom_34 : decode cX9_eightFrom 34 = .ok (.goto (-28), 3) := zo_167 (b1 := 255) (b2 := 228) (zkb3 zk_cX9_eightFrom zn_cX9_eightFrom rfl) rfl
theorem dX9_eightFrom_37 : decode cX9_eightFrom 37 = .ok (.lload_n 2, 1) := zo_32 (zkb zk_cX9_eightFrom zn_cX9_eightFrom rfl)
theorem dX9_eightFrom_38 : decode cX9_eightFrom 38 = .ok (.lreturn, 1) := zo_173 (zkb zk_cX9_eightFrom zn_cX9_eightFrom rfl)
noncomputable def kn_cX9_asks : Nat := 0xac030400a7040700a0042e10101000b42a1200997e10102e031000b42a1a009a7e8000112e0f101000b42a1100997e20102e041000b42a
theorem zk_cX9_asks : zkd cX9_asks.data.toList kn_cX9_asks = true := by decide +kernel
theorem zn_cX9_asks : cX9_asks.data.toList.length = 55 := by decide +kernel
theorem dX9_asks_0 : decode cX9_asks 0 = .ok (.aload_n 0, 1) := zo_42 (zkb zk_cX9_asks zn_cX9_asks rfl)
theorem dX9_asks_1 : decode cX9_asks 1 = .ok (.getfield 16, 3) := zo_180 (b1 := 0) (b2 := 16) (zkb3 zk_cX9_asks zn_cX9_asks rfl) rfl
theorem dX9_asks_4 : decode cX9_asks 4 = .ok (.iconst 1, 1) := zo_4 (zkb zk_cX9_asks zn_cX9_asks rfl)
theorem dX9_asks_5 : decode cX9_asks 5 = .ok (.iaload, 1) := zo_46 (zkb zk_cX9_asks zn_cX9_asks rfl)
theorem dX9_asks_6 : decode cX9_asks 6 = .ok (.bipush 32, 2) := zo_16 (b1 := 32) (zkb2 zk_cX9_asks zn_cX9_asks rfl) rfl
theorem dX9_asks_8 : decode cX9_asks 8 = .ok (.iand, 1) := zo_126 (zkb zk_cX9_asks zn_cX9_asks rfl)
theorem dX9_asks_9 : decode cX9_asks 9 = .ok (.ifCond .eq 17, 3) := zo_153 (b1 := 0) (b2 := 17) (zkb3 zk_cX9_asks zn_cX9_asks rfl) rfl
theorem dX9_asks_12 : decode cX9_asks 12 = .ok (.aload_n 0, 1) := zo_42 (zkb zk_cX9_asks zn_cX9_asks rfl)
theorem dX9_asks_13 : decode cX9_asks 13 = .ok (.getfield 16, 3) := zo_180 (b1 := 0) (b2 := 16) (zkb3 zk_cX9_asks zn_cX9_asks rfl) rfl
theorem dX9_asks_16 : decode cX9_asks 16 = .ok (.bipush 15, 2) := zo_16 (b1 := 15) (zkb2 zk_cX9_asks zn_cX9_asks rfl) rfl
theorem dX9_asks_18 : decode cX9_asks 18 = .ok (.iaload, 1) := zo_46 (zkb zk_cX9_asks zn_cX9_asks rfl)
theorem dX9_asks_19 : decode cX9_asks 19 = .ok (.sipush 128, 3) := zo_17 (b1 := 0) (b2 := 128) (zkb3 zk_cX9_asks zn_cX9_asks rfl) rfl
theorem dX9_asks_22 : decode cX9_asks 22 = .ok (.iand, 1) := zo_126 (zkb zk_cX9_asks zn_cX9_asks rfl)
theorem dX9_asks_23 : decode cX9_asks 23 = .ok (.ifCond .ne 26, 3) := zo_154 (b1 := 0) (b2 := 26) (zkb3 zk_cX9_asks zn_cX9_asks rfl) rfl
theorem dX9_asks_26 : decode cX9_asks 26 = .ok (.aload_n 0, 1) := zo_42 (zkb zk_cX9_asks zn_cX9_asks rfl)
theorem dX9_asks_27 : decode cX9_asks 27 = .ok (.getfield 16, 3) := zo_180 (b1 := 0) (b2 := 16) (zkb3 zk_cX9_asks zn_cX9_asks rfl) rfl
theorem dX9_asks_30 : decode cX9_asks 30 = .ok (.iconst 0, 1) := zo_3 (zkb zk_cX9_asks zn_cX9_asks rfl)
theorem dX9_asks_31 : decode cX9_asks 31 = .ok (.iaload, 1) := zo_46 (zkb zk_cX9_asks zn_cX9_asks rfl)
theorem dX9_asks_32 : decode cX9_asks 32 = .ok (.bipush 16, 2) := zo_16 (b1 := 16) (zkb2 zk_cX9_asks zn_cX9_asks rfl) rfl
theorem dX9_asks_34 : decode cX9_asks 34 = .ok (.iand, 1) := zo_126 (zkb zk_cX9_asks zn_cX9_asks rfl)
theorem dX9_asks_35 : decode cX9_asks 35 = .ok (.ifCond .eq 18, 3) := zo_153 (b1 := 0) (b2 := 18) (zkb3 zk_cX9_asks zn_cX9_asks rfl) rfl
theorem dX9_asks_38 : decode cX9_asks 38 = .ok (.aload_n 0, 1) := zo_42 (zkb zk_cX9_asks zn_cX9_asks rfl)
theorem dX9_asks_39 : decode cX9_asks 39 = .ok (.getfield 16, 3) := zo_180 (b1 := 0) (b2 := 16) (zkb3 zk_cX9_asks zn_cX9_asks rfl) rfl
theorem dX9_asks_42 : decode cX9_asks 42 = .ok (.bipush 16, 2) := zo_16 (b1 := 16) (zkb2 zk_cX9_asks zn_cX9_asks rfl) rfl
theorem dX9_asks_44 : decode cX9_asks 44 = .ok (.iaload, 1) := zo_46 (zkb zk_cX9_asks zn_cX9_asks rfl)
theorem dX9_asks_45 : decode cX9_asks 45 = .ok (.iconst 1, 1) := zo_4 (zkb zk_cX9_asks zn_cX9_asks rfl)
theorem dX9_asks_46 : decode cX9_asks 46 = .ok (.if_icmp .ne 7, 3) := zo_160 (b1 := 0) (b2 := 7) (zkb3 zk_cX9_asks zn_cX9_asks rfl) rfl
theorem dX9_asks_49 : decode cX9_asks 49 = .ok (.iconst 1, 1) := zo_4 (zkb zk_cX9_asks zn_cX9_asks rfl)
theorem dX9_asks_50 : decode cX9_asks 50 = .ok (.goto 4, 3) := zo_167 (b1 := 0) (b2 := 4) (zkb3 zk_cX9_asks zn_cX9_asks rfl) rfl
theorem dX9_asks_53 : decode cX9_asks 53 = .ok (.iconst 0, 1) := zo_3 (zkb zk_cX9_asks zn_cX9_asks rfl)
theorem dX9_asks_54 : decode cX9_asks 54 = .ok (.ireturn, 1) := zo_172 (zkb zk_cX9_asks zn_cX9_asks rfl)
noncomputable def kn_cX9_passes : Nat := 0xac044f64e400112e5c15101000b42aac030500a2e400112e15101000b42a4f601b2e5c15101000b42a
theorem zk_cX9_passes : zkd cX9_passes.data.toList kn_cX9_passes = true := by decide +kernel
theorem zn_cX9_passes : cX9_passes.data.toList.length = 41 := by decide +kernel
theorem dX9_passes_0 : decode cX9_passes 0 = .ok (.aload_n 0, 1) := zo_42 (zkb zk_cX9_passes zn_cX9_passes rfl)
theorem dX9_passes_1 : decode cX9_passes 1 = .ok (.getfield 16, 3) := zo_180 (b1 := 0) (b2 := 16) (zkb3 zk_cX9_passes zn_cX9_passes rfl) rfl
theorem dX9_passes_4 : decode cX9_passes 4 = .ok (.bipush 21, 2) := zo_16 (b1 := 21) (zkb2 zk_cX9_passes zn_cX9_passes rfl) rfl
theorem dX9_passes_6 : decode cX9_passes 6 = .ok (.dup2, 1) := zo_92 (zkb zk_cX9_passes zn_cX9_passes rfl)
theorem dX9_passes_7 : decode cX9_passes 7 = .ok (.iaload, 1) := zo_46 (zkb zk_cX9_passes zn_cX9_passes rfl)
theorem dX9_passes_8 : decode cX9_passes 8 = .ok (.iload_n 1, 1) := zo_27 (zkb zk_cX9_passes zn_cX9_passes rfl)
theorem dX9_passes_9 : decode cX9_passes 9 = .ok (.iadd, 1) := zo_96 (zkb zk_cX9_passes zn_cX9_passes rfl)
theorem dX9_passes_10 : decode cX9_passes 10 = .ok (.iastore, 1) := zo_79 (zkb zk_cX9_passes zn_cX9_passes rfl)
theorem dX9_passes_11 : decode cX9_passes 11 = .ok (.aload_n 0, 1) := zo_42 (zkb zk_cX9_passes zn_cX9_passes rfl)
theorem dX9_passes_12 : decode cX9_passes 12 = .ok (.getfield 16, 3) := zo_180 (b1 := 0) (b2 := 16) (zkb3 zk_cX9_passes zn_cX9_passes rfl) rfl
theorem dX9_passes_15 : decode cX9_passes 15 = .ok (.bipush 21, 2) := zo_16 (b1 := 21) (zkb2 zk_cX9_passes zn_cX9_passes rfl) rfl
theorem dX9_passes_17 : decode cX9_passes 17 = .ok (.iaload, 1) := zo_46 (zkb zk_cX9_passes zn_cX9_passes rfl)
theorem dX9_passes_18 : decode cX9_passes 18 = .ok (.sipush 228, 3) := zo_17 (b1 := 0) (b2 := 228) (zkb3 zk_cX9_passes zn_cX9_passes rfl) rfl
theorem dX9_passes_21 : decode cX9_passes 21 = .ok (.if_icmp .ge 5, 3) := zo_162 (b1 := 0) (b2 := 5) (zkb3 zk_cX9_passes zn_cX9_passes rfl) rfl
theorem dX9_passes_24 : decode cX9_passes 24 = .ok (.iconst 0, 1) := zo_3 (zkb zk_cX9_passes zn_cX9_passes rfl)
theorem dX9_passes_25 : decode cX9_passes 25 = .ok (.ireturn, 1) := zo_172 (zkb zk_cX9_passes zn_cX9_passes rfl)
theorem dX9_passes_26 : decode cX9_passes 26 = .ok (.aload_n 0, 1) := zo_42 (zkb zk_cX9_passes zn_cX9_passes rfl)
theorem dX9_passes_27 : decode cX9_passes 27 = .ok (.getfield 16, 3) := zo_180 (b1 := 0) (b2 := 16) (zkb3 zk_cX9_passes zn_cX9_passes rfl) rfl
theorem dX9_passes_30 : decode cX9_passes 30 = .ok (.bipush 21, 2) := zo_16 (b1 := 21) (zkb2 zk_cX9_passes zn_cX9_passes rfl) rfl
theorem dX9_passes_32 : decode cX9_passes 32 = .ok (.dup2, 1) := zo_92 (zkb zk_cX9_passes zn_cX9_passes rfl)
theorem dX9_passes_33 : decode cX9_passes 33 = .ok (.iaload, 1) := zo_46 (zkb zk_cX9_passes zn_cX9_passes rfl)
theorem dX9_passes_34 : decode cX9_passes 34 = .ok (.sipush 228, 3) := zo_17 (b1 := 0) (b2 := 228) (zkb3 zk_cX9_passes zn_cX9_passes rfl) rfl
theorem dX9_passes_37 : decode cX9_passes 37 = .ok (.isub, 1) := zo_100 (zkb zk_cX9_passes zn_cX9_passes rfl)
theorem dX9_passes_38 : decode cX9_passes 38 = .ok (.iastore, 1) := zo_79 (zkb zk_cX9_passes zn_cX9_passes rfl)
theorem dX9_passes_39 : decode cX9_passes 39 = .ok (.iconst 1, 1) := zo_4 (zkb zk_cX9_passes zn_cX9_passes rfl)
theorem dX9_passes_40 : decode cX9_passes 40 = .ok (.ireturn, 1) := zo_172 (zkb zk_cX9_passes zn_cX9_passes rfl)
noncomputable def kn_cX9_goesToNextLine : Nat := 0xac1c4f808000112e5c0f101000b42a1000a060041b2e14101000b42a4f2e09101000b42a13101000b42a4f0314101000b42a1900991c3d030400a7040700a11a00b42a2e14101000b42a4f60042e5c14101000b42a4f0410101000b42a4f2e0a101000b42a12101000b42a19009c2e12101000b42a4f64042e5c12101000b42a2e00a74f2e0a101000b42a12101000b42a1400a41b2e14101000b42a3c3200b62a
theorem zk_cX9_goesToNextLine : zkd cX9_goesToNextLine.data.toList kn_cX9_goesToNextLine = true := by decide +kernel
theorem zn_cX9_goesToNextLine : cX9_goesToNextLine.data.toList.length = 161 := by decide +kernel
theorem dX9_goesToNextLine_0 : decode cX9_goesToNextLine 0 = .ok (.aload_n 0, 1) := zo_42 (zkb zk_cX9_goesToNextLine zn_cX9_goesToNextLine rfl)
theorem dX9_goesToNextLine_1 : decode cX9_goesToNextLine 1 = .ok (.invokevirtual 50, 3) := zo_182 (b1 := 0) (b2 := 50) (zkb3 zk_cX9_goesToNextLine zn_cX9_goesToNextLine rfl) rfl
theorem dX9_goesToNextLine_4 : decode cX9_goesToNextLine 4 = .ok (.istore_n 1, 1) := zo_60 (zkb zk_cX9_goesToNextLine zn_cX9_goesToNextLine rfl)
theorem dX9_goesToNextLine_5 : decode cX9_goesToNextLine 5 = .ok (.aload_n 0, 1) := zo_42 (zkb zk_cX9_goesToNextLine zn_cX9_goesToNextLine rfl)
theorem dX9_goesToNextLine_6 : decode cX9_goesToNextLine 6 = .ok (.getfield 16, 3) := zo_180 (b1 := 0) (b2 := 16) (zkb3 zk_cX9_goesToNextLine zn_cX9_goesToNextLine rfl) rfl
theorem dX9_goesToNextLine_9 : decode cX9_goesToNextLine 9 = .ok (.bipush 20, 2) := zo_16 (b1 := 20) (zkb2 zk_cX9_goesToNextLine zn_cX9_goesToNextLine rfl) rfl
theorem dX9_goesToNextLine_11 : decode cX9_goesToNextLine 11 = .ok (.iaload, 1) := zo_46 (zkb zk_cX9_goesToNextLine zn_cX9_goesToNextLine rfl)
theorem dX9_goesToNextLine_12 : decode cX9_goesToNextLine 12 = .ok (.iload_n 1, 1) := zo_27 (zkb zk_cX9_goesToNextLine zn_cX9_goesToNextLine rfl)
theorem dX9_goesToNextLine_13 : decode cX9_goesToNextLine 13 = .ok (.if_icmp .le 20, 3) := zo_164 (b1 := 0) (b2 := 20) (zkb3 zk_cX9_goesToNextLine zn_cX9_goesToNextLine rfl) rfl
theorem dX9_goesToNextLine_16 : decode cX9_goesToNextLine 16 = .ok (.aload_n 0, 1) := zo_42 (zkb zk_cX9_goesToNextLine zn_cX9_goesToNextLine rfl)
theorem dX9_goesToNextLine_17 : decode cX9_goesToNextLine 17 = .ok (.getfield 16, 3) := zo_180 (b1 := 0) (b2 := 16) (zkb3 zk_cX9_goesToNextLine zn_cX9_goesToNextLine rfl) rfl
theorem dX9_goesToNextLine_20 : decode cX9_goesToNextLine 20 = .ok (.bipush 18, 2) := zo_16 (b1 := 18) (zkb2 zk_cX9_goesToNextLine zn_cX9_goesToNextLine rfl) rfl
theorem dX9_goesToNextLine_22 : decode cX9_goesToNextLine 22 = .ok (.aload_n 0, 1) := zo_42 (zkb zk_cX9_goesToNextLine zn_cX9_goesToNextLine rfl)
theorem dX9_goesToNextLine_23 : decode cX9_goesToNextLine 23 = .ok (.getfield 16, 3) := zo_180 (b1 := 0) (b2 := 16) (zkb3 zk_cX9_goesToNextLine zn_cX9_goesToNextLine rfl) rfl
theorem dX9_goesToNextLine_26 : decode cX9_goesToNextLine 26 = .ok (.bipush 10, 2) := zo_16 (b1 := 10) (zkb2 zk_cX9_goesToNextLine zn_cX9_goesToNextLine rfl) rfl
theorem dX9_goesToNextLine_28 : decode cX9_goesToNextLine 28 = .ok (.iaload, 1) := zo_46 (zkb zk_cX9_goesToNextLine zn_cX9_goesToNextLine rfl)
theorem dX9_goesToNextLine_29 : decode cX9_goesToNextLine 29 = .ok (.iastore, 1) := zo_79 (zkb zk_cX9_goesToNextLine zn_cX9_goesToNextLine rfl)
theorem dX9_goesToNextLine_30 : decode cX9_goesToNextLine 30 = .ok (.goto 46, 3) := zo_167 (b1 := 0) (b2 := 46) (zkb3 zk_cX9_goesToNextLine zn_cX9_goesToNextLine rfl) rfl
theorem dX9_goesToNextLine_33 : decode cX9_goesToNextLine 33 = .ok (.aload_n 0, 1) := zo_42 (zkb zk_cX9_goesToNextLine zn_cX9_goesToNextLine rfl)
theorem dX9_goesToNextLine_34 : decode cX9_goesToNextLine 34 = .ok (.getfield 16, 3) := zo_180 (b1 := 0) (b2 := 16) (zkb3 zk_cX9_goesToNextLine zn_cX9_goesToNextLine rfl) rfl
theorem dX9_goesToNextLine_37 : decode cX9_goesToNextLine 37 = .ok (.bipush 18, 2) := zo_16 (b1 := 18) (zkb2 zk_cX9_goesToNextLine zn_cX9_goesToNextLine rfl) rfl
theorem dX9_goesToNextLine_39 : decode cX9_goesToNextLine 39 = .ok (.dup2, 1) := zo_92 (zkb zk_cX9_goesToNextLine zn_cX9_goesToNextLine rfl)
theorem dX9_goesToNextLine_40 : decode cX9_goesToNextLine 40 = .ok (.iaload, 1) := zo_46 (zkb zk_cX9_goesToNextLine zn_cX9_goesToNextLine rfl)
theorem dX9_goesToNextLine_41 : decode cX9_goesToNextLine 41 = .ok (.iconst 1, 1) := zo_4 (zkb zk_cX9_goesToNextLine zn_cX9_goesToNextLine rfl)
theorem dX9_goesToNextLine_42 : decode cX9_goesToNextLine 42 = .ok (.isub, 1) := zo_100 (zkb zk_cX9_goesToNextLine zn_cX9_goesToNextLine rfl)
theorem dX9_goesToNextLine_43 : decode cX9_goesToNextLine 43 = .ok (.iastore, 1) := zo_79 (zkb zk_cX9_goesToNextLine zn_cX9_goesToNextLine rfl)
theorem dX9_goesToNextLine_44 : decode cX9_goesToNextLine 44 = .ok (.aload_n 0, 1) := zo_42 (zkb zk_cX9_goesToNextLine zn_cX9_goesToNextLine rfl)
theorem dX9_goesToNextLine_45 : decode cX9_goesToNextLine 45 = .ok (.getfield 16, 3) := zo_180 (b1 := 0) (b2 := 16) (zkb3 zk_cX9_goesToNextLine zn_cX9_goesToNextLine rfl) rfl
theorem dX9_goesToNextLine_48 : decode cX9_goesToNextLine 48 = .ok (.bipush 18, 2) := zo_16 (b1 := 18) (zkb2 zk_cX9_goesToNextLine zn_cX9_goesToNextLine rfl) rfl
theorem dX9_goesToNextLine_50 : decode cX9_goesToNextLine 50 = .ok (.iaload, 1) := zo_46 (zkb zk_cX9_goesToNextLine zn_cX9_goesToNextLine rfl)
theorem dX9_goesToNextLine_51 : decode cX9_goesToNextLine 51 = .ok (.ifCond .ge 25, 3) := zo_156 (b1 := 0) (b2 := 25) (zkb3 zk_cX9_goesToNextLine zn_cX9_goesToNextLine rfl) rfl
theorem dX9_goesToNextLine_54 : decode cX9_goesToNextLine 54 = .ok (.aload_n 0, 1) := zo_42 (zkb zk_cX9_goesToNextLine zn_cX9_goesToNextLine rfl)
theorem dX9_goesToNextLine_55 : decode cX9_goesToNextLine 55 = .ok (.getfield 16, 3) := zo_180 (b1 := 0) (b2 := 16) (zkb3 zk_cX9_goesToNextLine zn_cX9_goesToNextLine rfl) rfl
theorem dX9_goesToNextLine_58 : decode cX9_goesToNextLine 58 = .ok (.bipush 18, 2) := zo_16 (b1 := 18) (zkb2 zk_cX9_goesToNextLine zn_cX9_goesToNextLine rfl) rfl
theorem dX9_goesToNextLine_60 : decode cX9_goesToNextLine 60 = .ok (.aload_n 0, 1) := zo_42 (zkb zk_cX9_goesToNextLine zn_cX9_goesToNextLine rfl)
theorem dX9_goesToNextLine_61 : decode cX9_goesToNextLine 61 = .ok (.getfield 16, 3) := zo_180 (b1 := 0) (b2 := 16) (zkb3 zk_cX9_goesToNextLine zn_cX9_goesToNextLine rfl) rfl
theorem dX9_goesToNextLine_64 : decode cX9_goesToNextLine 64 = .ok (.bipush 10, 2) := zo_16 (b1 := 10) (zkb2 zk_cX9_goesToNextLine zn_cX9_goesToNextLine rfl) rfl
theorem dX9_goesToNextLine_66 : decode cX9_goesToNextLine 66 = .ok (.iaload, 1) := zo_46 (zkb zk_cX9_goesToNextLine zn_cX9_goesToNextLine rfl)
theorem dX9_goesToNextLine_67 : decode cX9_goesToNextLine 67 = .ok (.iastore, 1) := zo_79 (zkb zk_cX9_goesToNextLine zn_cX9_goesToNextLine rfl)
theorem dX9_goesToNextLine_68 : decode cX9_goesToNextLine 68 = .ok (.aload_n 0, 1) := zo_42 (zkb zk_cX9_goesToNextLine zn_cX9_goesToNextLine rfl)
theorem dX9_goesToNextLine_69 : decode cX9_goesToNextLine 69 = .ok (.getfield 16, 3) := zo_180 (b1 := 0) (b2 := 16) (zkb3 zk_cX9_goesToNextLine zn_cX9_goesToNextLine rfl) rfl
theorem dX9_goesToNextLine_72 : decode cX9_goesToNextLine 72 = .ok (.bipush 16, 2) := zo_16 (b1 := 16) (zkb2 zk_cX9_goesToNextLine zn_cX9_goesToNextLine rfl) rfl
theorem dX9_goesToNextLine_74 : decode cX9_goesToNextLine 74 = .ok (.iconst 1, 1) := zo_4 (zkb zk_cX9_goesToNextLine zn_cX9_goesToNextLine rfl)
theorem dX9_goesToNextLine_75 : decode cX9_goesToNextLine 75 = .ok (.iastore, 1) := zo_79 (zkb zk_cX9_goesToNextLine zn_cX9_goesToNextLine rfl)
theorem dX9_goesToNextLine_76 : decode cX9_goesToNextLine 76 = .ok (.aload_n 0, 1) := zo_42 (zkb zk_cX9_goesToNextLine zn_cX9_goesToNextLine rfl)
theorem dX9_goesToNextLine_77 : decode cX9_goesToNextLine 77 = .ok (.getfield 16, 3) := zo_180 (b1 := 0) (b2 := 16) (zkb3 zk_cX9_goesToNextLine zn_cX9_goesToNextLine rfl) rfl
theorem dX9_goesToNextLine_80 : decode cX9_goesToNextLine 80 = .ok (.bipush 20, 2) := zo_16 (b1 := 20) (zkb2 zk_cX9_goesToNextLine zn_cX9_goesToNextLine rfl) rfl
theorem dX9_goesToNextLine_82 : decode cX9_goesToNextLine 82 = .ok (.dup2, 1) := zo_92 (zkb zk_cX9_goesToNextLine zn_cX9_goesToNextLine rfl)
theorem dX9_goesToNextLine_83 : decode cX9_goesToNextLine 83 = .ok (.iaload, 1) := zo_46 (zkb zk_cX9_goesToNextLine zn_cX9_goesToNextLine rfl)
theorem dX9_goesToNextLine_84 : decode cX9_goesToNextLine 84 = .ok (.iconst 1, 1) := zo_4 (zkb zk_cX9_goesToNextLine zn_cX9_goesToNextLine rfl)
theorem dX9_goesToNextLine_85 : decode cX9_goesToNextLine 85 = .ok (.iadd, 1) := zo_96 (zkb zk_cX9_goesToNextLine zn_cX9_goesToNextLine rfl)
theorem dX9_goesToNextLine_86 : decode cX9_goesToNextLine 86 = .ok (.iastore, 1) := zo_79 (zkb zk_cX9_goesToNextLine zn_cX9_goesToNextLine rfl)
theorem dX9_goesToNextLine_87 : decode cX9_goesToNextLine 87 = .ok (.aload_n 0, 1) := zo_42 (zkb zk_cX9_goesToNextLine zn_cX9_goesToNextLine rfl)
theorem dX9_goesToNextLine_88 : decode cX9_goesToNextLine 88 = .ok (.getfield 16, 3) := zo_180 (b1 := 0) (b2 := 16) (zkb3 zk_cX9_goesToNextLine zn_cX9_goesToNextLine rfl) rfl
theorem dX9_goesToNextLine_91 : decode cX9_goesToNextLine 91 = .ok (.bipush 20, 2) := zo_16 (b1 := 20) (zkb2 zk_cX9_goesToNextLine zn_cX9_goesToNextLine rfl) rfl
theorem dX9_goesToNextLine_93 : decode cX9_goesToNextLine 93 = .ok (.iaload, 1) := zo_46 (zkb zk_cX9_goesToNextLine zn_cX9_goesToNextLine rfl)
theorem dX9_goesToNextLine_94 : decode cX9_goesToNextLine 94 = .ok (.aload_n 0, 1) := zo_42 (zkb zk_cX9_goesToNextLine zn_cX9_goesToNextLine rfl)
theorem dX9_goesToNextLine_95 : decode cX9_goesToNextLine 95 = .ok (.getfield 26, 3) := zo_180 (b1 := 0) (b2 := 26) (zkb3 zk_cX9_goesToNextLine zn_cX9_goesToNextLine rfl) rfl
theorem dX9_goesToNextLine_98 : decode cX9_goesToNextLine 98 = .ok (.if_icmp .lt 7, 3) := zo_161 (b1 := 0) (b2 := 7) (zkb3 zk_cX9_goesToNextLine zn_cX9_goesToNextLine rfl) rfl
theorem dX9_goesToNextLine_101 : decode cX9_goesToNextLine 101 = .ok (.iconst 1, 1) := zo_4 (zkb zk_cX9_goesToNextLine zn_cX9_goesToNextLine rfl)
theorem dX9_goesToNextLine_102 : decode cX9_goesToNextLine 102 = .ok (.goto 4, 3) := zo_167 (b1 := 0) (b2 := 4) (zkb3 zk_cX9_goesToNextLine zn_cX9_goesToNextLine rfl) rfl
theorem dX9_goesToNextLine_105 : decode cX9_goesToNextLine 105 = .ok (.iconst 0, 1) := zo_3 (zkb zk_cX9_goesToNextLine zn_cX9_goesToNextLine rfl)
theorem dX9_goesToNextLine_106 : decode cX9_goesToNextLine 106 = .ok (.istore_n 2, 1) := zo_61 (zkb zk_cX9_goesToNextLine zn_cX9_goesToNextLine rfl)
theorem dX9_goesToNextLine_107 : decode cX9_goesToNextLine 107 = .ok (.iload_n 2, 1) := zo_28 (zkb zk_cX9_goesToNextLine zn_cX9_goesToNextLine rfl)
theorem dX9_goesToNextLine_108 : decode cX9_goesToNextLine 108 = .ok (.ifCond .eq 25, 3) := zo_153 (b1 := 0) (b2 := 25) (zkb3 zk_cX9_goesToNextLine zn_cX9_goesToNextLine rfl) rfl
theorem dX9_goesToNextLine_111 : decode cX9_goesToNextLine 111 = .ok (.aload_n 0, 1) := zo_42 (zkb zk_cX9_goesToNextLine zn_cX9_goesToNextLine rfl)
theorem dX9_goesToNextLine_112 : decode cX9_goesToNextLine 112 = .ok (.getfield 16, 3) := zo_180 (b1 := 0) (b2 := 16) (zkb3 zk_cX9_goesToNextLine zn_cX9_goesToNextLine rfl) rfl
theorem dX9_goesToNextLine_115 : decode cX9_goesToNextLine 115 = .ok (.bipush 20, 2) := zo_16 (b1 := 20) (zkb2 zk_cX9_goesToNextLine zn_cX9_goesToNextLine rfl) rfl
theorem dX9_goesToNextLine_117 : decode cX9_goesToNextLine 117 = .ok (.iconst 0, 1) := zo_3 (zkb zk_cX9_goesToNextLine zn_cX9_goesToNextLine rfl)
theorem dX9_goesToNextLine_118 : decode cX9_goesToNextLine 118 = .ok (.iastore, 1) := zo_79 (zkb zk_cX9_goesToNextLine zn_cX9_goesToNextLine rfl)
theorem dX9_goesToNextLine_119 : decode cX9_goesToNextLine 119 = .ok (.aload_n 0, 1) := zo_42 (zkb zk_cX9_goesToNextLine zn_cX9_goesToNextLine rfl)
theorem dX9_goesToNextLine_120 : decode cX9_goesToNextLine 120 = .ok (.getfield 16, 3) := zo_180 (b1 := 0) (b2 := 16) (zkb3 zk_cX9_goesToNextLine zn_cX9_goesToNextLine rfl) rfl
theorem dX9_goesToNextLine_123 : decode cX9_goesToNextLine 123 = .ok (.bipush 19, 2) := zo_16 (b1 := 19) (zkb2 zk_cX9_goesToNextLine zn_cX9_goesToNextLine rfl) rfl
theorem dX9_goesToNextLine_125 : decode cX9_goesToNextLine 125 = .ok (.aload_n 0, 1) := zo_42 (zkb zk_cX9_goesToNextLine zn_cX9_goesToNextLine rfl)
theorem dX9_goesToNextLine_126 : decode cX9_goesToNextLine 126 = .ok (.getfield 16, 3) := zo_180 (b1 := 0) (b2 := 16) (zkb3 zk_cX9_goesToNextLine zn_cX9_goesToNextLine rfl) rfl
theorem dX9_goesToNextLine_129 : decode cX9_goesToNextLine 129 = .ok (.bipush 9, 2) := zo_16 (b1 := 9) (zkb2 zk_cX9_goesToNextLine zn_cX9_goesToNextLine rfl) rfl
theorem dX9_goesToNextLine_131 : decode cX9_goesToNextLine 131 = .ok (.iaload, 1) := zo_46 (zkb zk_cX9_goesToNextLine zn_cX9_goesToNextLine rfl)
theorem dX9_goesToNextLine_132 : decode cX9_goesToNextLine 132 = .ok (.iastore, 1) := zo_79 (zkb zk_cX9_goesToNextLine zn_cX9_goesToNextLine rfl)
theorem dX9_goesToNextLine_133 : decode cX9_goesToNextLine 133 = .ok (.aload_n 0, 1) := zo_42 (zkb zk_cX9_goesToNextLine zn_cX9_goesToNextLine rfl)
theorem dX9_goesToNextLine_134 : decode cX9_goesToNextLine 134 = .ok (.getfield 16, 3) := zo_180 (b1 := 0) (b2 := 16) (zkb3 zk_cX9_goesToNextLine zn_cX9_goesToNextLine rfl) rfl
theorem dX9_goesToNextLine_137 : decode cX9_goesToNextLine 137 = .ok (.bipush 20, 2) := zo_16 (b1 := 20) (zkb2 zk_cX9_goesToNextLine zn_cX9_goesToNextLine rfl) rfl
theorem dX9_goesToNextLine_139 : decode cX9_goesToNextLine 139 = .ok (.iaload, 1) := zo_46 (zkb zk_cX9_goesToNextLine zn_cX9_goesToNextLine rfl)
theorem dX9_goesToNextLine_140 : decode cX9_goesToNextLine 140 = .ok (.iload_n 1, 1) := zo_27 (zkb zk_cX9_goesToNextLine zn_cX9_goesToNextLine rfl)
theorem dX9_goesToNextLine_141 : decode cX9_goesToNextLine 141 = .ok (.iconst 1, 1) := zo_4 (zkb zk_cX9_goesToNextLine zn_cX9_goesToNextLine rfl)
theorem dX9_goesToNextLine_142 : decode cX9_goesToNextLine 142 = .ok (.iadd, 1) := zo_96 (zkb zk_cX9_goesToNextLine zn_cX9_goesToNextLine rfl)
theorem dX9_goesToNextLine_143 : decode cX9_goesToNextLine 143 = .ok (.if_icmp .ne 16, 3) := zo_160 (b1 := 0) (b2 := 16) (zkb3 zk_cX9_goesToNextLine zn_cX9_goesToNextLine rfl) rfl
theorem dX9_goesToNextLine_146 : decode cX9_goesToNextLine 146 = .ok (.aload_n 0, 1) := zo_42 (zkb zk_cX9_goesToNextLine zn_cX9_goesToNextLine rfl)
theorem dX9_goesToNextLine_147 : decode cX9_goesToNextLine 147 = .ok (.getfield 16, 3) := zo_180 (b1 := 0) (b2 := 16) (zkb3 zk_cX9_goesToNextLine zn_cX9_goesToNextLine rfl) rfl
theorem dX9_goesToNextLine_150 : decode cX9_goesToNextLine 150 = .ok (.bipush 15, 2) := zo_16 (b1 := 15) (zkb2 zk_cX9_goesToNextLine zn_cX9_goesToNextLine rfl) rfl
theorem dX9_goesToNextLine_152 : decode cX9_goesToNextLine 152 = .ok (.dup2, 1) := zo_92 (zkb zk_cX9_goesToNextLine zn_cX9_goesToNextLine rfl)
theorem dX9_goesToNextLine_153 : decode cX9_goesToNextLine 153 = .ok (.iaload, 1) := zo_46 (zkb zk_cX9_goesToNextLine zn_cX9_goesToNextLine rfl)
theorem dX9_goesToNextLine_154 : decode cX9_goesToNextLine 154 = .ok (.sipush 128, 3) := zo_17 (b1 := 0) (b2 := 128) (zkb3 zk_cX9_goesToNextLine zn_cX9_goesToNextLine rfl) rfl
theorem dX9_goesToNextLine_157 : decode cX9_goesToNextLine 157 = .ok (.ior, 1) := zo_128 (zkb zk_cX9_goesToNextLine zn_cX9_goesToNextLine rfl)
theorem dX9_goesToNextLine_158 : decode cX9_goesToNextLine 158 = .ok (.iastore, 1) := zo_79 (zkb zk_cX9_goesToNextLine zn_cX9_goesToNextLine rfl)
theorem dX9_goesToNextLine_159 : decode cX9_goesToNextLine 159 = .ok (.iload_n 2, 1) := zo_28 (zkb zk_cX9_goesToNextLine zn_cX9_goesToNextLine rfl)
theorem dX9_goesToNextLine_160 : decode cX9_goesToNextLine 160 = .ok (.ireturn, 1) := zo_172 (zkb zk_cX9_goesToNextLine zn_cX9_goesToNextLine rfl)
noncomputable def kn_cX10_clear : Nat := 0xb1e3ffa70802844f0760041c0900b42a4f7f1060031c0900b42a1c00a21001111c3d8000114f0441100900b42a4f1b42100900b42a1300b8030900b42a3c2e42100900b42a
theorem zk_cX10_clear : zkd cX10_clear.data.toList kn_cX10_clear = true := by decide +kernel
theorem zn_cX10_clear : cX10_clear.data.toList.length = 69 := by decide +kernel
theorem dX10_clear_0 : decode cX10_clear 0 = .ok (.aload_n 0, 1) := zo_42 (zkb zk_cX10_clear zn_cX10_clear rfl)
theorem dX10_clear_1 : decode cX10_clear 1 = .ok (.getfield 9, 3) := zo_180 (b1 := 0) (b2 := 9) (zkb3 zk_cX10_clear zn_cX10_clear rfl) rfl
theorem dX10_clear_4 : decode cX10_clear 4 = .ok (.bipush 66, 2) := zo_16 (b1 := 66) (zkb2 zk_cX10_clear zn_cX10_clear rfl) rfl
theorem dX10_clear_6 : decode cX10_clear 6 = .ok (.iaload, 1) := zo_46 (zkb zk_cX10_clear zn_cX10_clear rfl)
theorem dX10_clear_7 : decode cX10_clear 7 = .ok (.istore_n 1, 1) := zo_60 (zkb zk_cX10_clear zn_cX10_clear rfl)
theorem dX10_clear_8 : decode cX10_clear 8 = .ok (.aload_n 0, 1) := zo_42 (zkb zk_cX10_clear zn_cX10_clear rfl)
theorem dX10_clear_9 : decode cX10_clear 9 = .ok (.getfield 9, 3) := zo_180 (b1 := 0) (b2 := 9) (zkb3 zk_cX10_clear zn_cX10_clear rfl) rfl
theorem dX10_clear_12 : decode cX10_clear 12 = .ok (.iconst 0, 1) := zo_3 (zkb zk_cX10_clear zn_cX10_clear rfl)
theorem dX10_clear_13 : decode cX10_clear 13 = .ok (.invokestatic 19, 3) := zo_184 (b1 := 0) (b2 := 19) (zkb3 zk_cX10_clear zn_cX10_clear rfl) rfl
theorem dX10_clear_16 : decode cX10_clear 16 = .ok (.aload_n 0, 1) := zo_42 (zkb zk_cX10_clear zn_cX10_clear rfl)
theorem dX10_clear_17 : decode cX10_clear 17 = .ok (.getfield 9, 3) := zo_180 (b1 := 0) (b2 := 9) (zkb3 zk_cX10_clear zn_cX10_clear rfl) rfl
theorem dX10_clear_20 : decode cX10_clear 20 = .ok (.bipush 66, 2) := zo_16 (b1 := 66) (zkb2 zk_cX10_clear zn_cX10_clear rfl) rfl
theorem dX10_clear_22 : decode cX10_clear 22 = .ok (.iload_n 1, 1) := zo_27 (zkb zk_cX10_clear zn_cX10_clear rfl)
theorem dX10_clear_23 : decode cX10_clear 23 = .ok (.iastore, 1) := zo_79 (zkb zk_cX10_clear zn_cX10_clear rfl)
theorem dX10_clear_24 : decode cX10_clear 24 = .ok (.aload_n 0, 1) := zo_42 (zkb zk_cX10_clear zn_cX10_clear rfl)
theorem dX10_clear_25 : decode cX10_clear 25 = .ok (.getfield 9, 3) := zo_180 (b1 := 0) (b2 := 9) (zkb3 zk_cX10_clear zn_cX10_clear rfl) rfl
theorem dX10_clear_28 : decode cX10_clear 28 = .ok (.bipush 65, 2) := zo_16 (b1 := 65) (zkb2 zk_cX10_clear zn_cX10_clear rfl) rfl
theorem dX10_clear_30 : decode cX10_clear 30 = .ok (.iconst 1, 1) := zo_4 (zkb zk_cX10_clear zn_cX10_clear rfl)
theorem dX10_clear_31 : decode cX10_clear 31 = .ok (.iastore, 1) := zo_79 (zkb zk_cX10_clear zn_cX10_clear rfl)
theorem dX10_clear_32 : decode cX10_clear 32 = .ok (.sipush 128, 3) := zo_17 (b1 := 0) (b2 := 128) (zkb3 zk_cX10_clear zn_cX10_clear rfl) rfl
theorem dX10_clear_35 : decode cX10_clear 35 = .ok (.istore_n 2, 1) := zo_61 (zkb zk_cX10_clear zn_cX10_clear rfl)
theorem dX10_clear_36 : decode cX10_clear 36 = .ok (.iload_n 2, 1) := zo_28 (zkb zk_cX10_clear zn_cX10_clear rfl)
theorem dX10_clear_37 : decode cX10_clear 37 = .ok (.sipush 272, 3) := zo_17 (b1 := 1) (b2 := 16) (zkb3 zk_cX10_clear zn_cX10_clear rfl) rfl
theorem dX10_clear_40 : decode cX10_clear 40 = .ok (.if_icmp .ge 28, 3) := zo_162 (b1 := 0) (b2 := 28) (zkb3 zk_cX10_clear zn_cX10_clear rfl) rfl
theorem dX10_clear_43 : decode cX10_clear 43 = .ok (.aload_n 0, 1) := zo_42 (zkb zk_cX10_clear zn_cX10_clear rfl)
theorem dX10_clear_44 : decode cX10_clear 44 = .ok (.getfield 9, 3) := zo_180 (b1 := 0) (b2 := 9) (zkb3 zk_cX10_clear zn_cX10_clear rfl) rfl
theorem dX10_clear_47 : decode cX10_clear 47 = .ok (.iload_n 2, 1) := zo_28 (zkb zk_cX10_clear zn_cX10_clear rfl)
theorem dX10_clear_48 : decode cX10_clear 48 = .ok (.iconst 0, 1) := zo_3 (zkb zk_cX10_clear zn_cX10_clear rfl)
theorem dX10_clear_49 : decode cX10_clear 49 = .ok (.iadd, 1) := zo_96 (zkb zk_cX10_clear zn_cX10_clear rfl)
theorem dX10_clear_50 : decode cX10_clear 50 = .ok (.bipush 127, 2) := zo_16 (b1 := 127) (zkb2 zk_cX10_clear zn_cX10_clear rfl) rfl
theorem dX10_clear_52 : decode cX10_clear 52 = .ok (.iastore, 1) := zo_79 (zkb zk_cX10_clear zn_cX10_clear rfl)
theorem dX10_clear_53 : decode cX10_clear 53 = .ok (.aload_n 0, 1) := zo_42 (zkb zk_cX10_clear zn_cX10_clear rfl)
theorem dX10_clear_54 : decode cX10_clear 54 = .ok (.getfield 9, 3) := zo_180 (b1 := 0) (b2 := 9) (zkb3 zk_cX10_clear zn_cX10_clear rfl) rfl
theorem dX10_clear_57 : decode cX10_clear 57 = .ok (.iload_n 2, 1) := zo_28 (zkb zk_cX10_clear zn_cX10_clear rfl)
theorem dX10_clear_58 : decode cX10_clear 58 = .ok (.iconst 1, 1) := zo_4 (zkb zk_cX10_clear zn_cX10_clear rfl)
theorem dX10_clear_59 : decode cX10_clear 59 = .ok (.iadd, 1) := zo_96 (zkb zk_cX10_clear zn_cX10_clear rfl)
theorem dX10_clear_60 : decode cX10_clear 60 = .ok (.iconst 4, 1) := zo_7 (zkb zk_cX10_clear zn_cX10_clear rfl)
theorem dX10_clear_61 : decode cX10_clear 61 = .ok (.iastore, 1) := zo_79 (zkb zk_cX10_clear zn_cX10_clear rfl)
theorem dX10_clear_62 : decode cX10_clear 62 = .ok (.iinc 2 8, 3) := zo_132 (b1 := 2) (b2 := 8) (zkb3 zk_cX10_clear zn_cX10_clear rfl) rfl
theorem dX10_clear_65 : decode cX10_clear 65 = .ok (.goto (-29), 3) := zo_167 (b1 := 255) (b2 := 227) (zkb3 zk_cX10_clear zn_cX10_clear rfl) rfl
theorem dX10_clear_68 : decode cX10_clear 68 = .ok (.return_, 1) := zo_177 (zkb zk_cX10_clear zn_cX10_clear rfl)
noncomputable def kn_cX10_keep : Nat := 0xb11900b8100111030d00b42a030900b42a
theorem zk_cX10_keep : zkd cX10_keep.data.toList kn_cX10_keep = true := by decide +kernel
theorem zn_cX10_keep : cX10_keep.data.toList.length = 17 := by decide +kernel
theorem dX10_keep_0 : decode cX10_keep 0 = .ok (.aload_n 0, 1) := zo_42 (zkb zk_cX10_keep zn_cX10_keep rfl)
theorem dX10_keep_1 : decode cX10_keep 1 = .ok (.getfield 9, 3) := zo_180 (b1 := 0) (b2 := 9) (zkb3 zk_cX10_keep zn_cX10_keep rfl) rfl
theorem dX10_keep_4 : decode cX10_keep 4 = .ok (.iconst 0, 1) := zo_3 (zkb zk_cX10_keep zn_cX10_keep rfl)
theorem dX10_keep_5 : decode cX10_keep 5 = .ok (.aload_n 0, 1) := zo_42 (zkb zk_cX10_keep zn_cX10_keep rfl)
theorem dX10_keep_6 : decode cX10_keep 6 = .ok (.getfield 13, 3) := zo_180 (b1 := 0) (b2 := 13) (zkb3 zk_cX10_keep zn_cX10_keep rfl) rfl
theorem dX10_keep_9 : decode cX10_keep 9 = .ok (.iconst 0, 1) := zo_3 (zkb zk_cX10_keep zn_cX10_keep rfl)
theorem dX10_keep_10 : decode cX10_keep 10 = .ok (.sipush 272, 3) := zo_17 (b1 := 1) (b2 := 16) (zkb3 zk_cX10_keep zn_cX10_keep rfl) rfl
theorem dX10_keep_13 : decode cX10_keep 13 = .ok (.invokestatic 25, 3) := zo_184 (b1 := 0) (b2 := 25) (zkb3 zk_cX10_keep zn_cX10_keep rfl) rfl
theorem dX10_keep_16 : decode cX10_keep 16 = .ok (.return_, 1) := zo_177 (zkb zk_cX10_keep zn_cX10_keep rfl)
noncomputable def kn_cX10_bringBack : Nat := 0xb11900b8100111030900b42a030d00b42a
theorem zk_cX10_bringBack : zkd cX10_bringBack.data.toList kn_cX10_bringBack = true := by decide +kernel
theorem zn_cX10_bringBack : cX10_bringBack.data.toList.length = 17 := by decide +kernel
theorem dX10_bringBack_0 : decode cX10_bringBack 0 = .ok (.aload_n 0, 1) := zo_42 (zkb zk_cX10_bringBack zn_cX10_bringBack rfl)
theorem dX10_bringBack_1 : decode cX10_bringBack 1 = .ok (.getfield 13, 3) := zo_180 (b1 := 0) (b2 := 13) (zkb3 zk_cX10_bringBack zn_cX10_bringBack rfl) rfl
theorem dX10_bringBack_4 : decode cX10_bringBack 4 = .ok (.iconst 0, 1) := zo_3 (zkb zk_cX10_bringBack zn_cX10_bringBack rfl)
theorem dX10_bringBack_5 : decode cX10_bringBack 5 = .ok (.aload_n 0, 1) := zo_42 (zkb zk_cX10_bringBack zn_cX10_bringBack rfl)
theorem dX10_bringBack_6 : decode cX10_bringBack 6 = .ok (.getfield 9, 3) := zo_180 (b1 := 0) (b2 := 9) (zkb3 zk_cX10_bringBack zn_cX10_bringBack rfl) rfl
theorem dX10_bringBack_9 : decode cX10_bringBack 9 = .ok (.iconst 0, 1) := zo_3 (zkb zk_cX10_bringBack zn_cX10_bringBack rfl)
theorem dX10_bringBack_10 : decode cX10_bringBack 10 = .ok (.sipush 272, 3) := zo_17 (b1 := 1) (b2 := 16) (zkb3 zk_cX10_bringBack zn_cX10_bringBack rfl) rfl
theorem dX10_bringBack_13 : decode cX10_bringBack 13 = .ok (.invokestatic 25, 3) := zo_184 (b1 := 0) (b2 := 25) (zkb3 zk_cX10_bringBack zn_cX10_bringBack rfl) rfl
theorem dX10_bringBack_16 : decode cX10_bringBack 16 = .ok (.return_, 1) := zo_177 (zkb zk_cX10_bringBack zn_cX10_bringBack rfl)
noncomputable def kn_cX10_has : Nat := 0xac030400a7040700a3087e07101a0f00a21001111a1600a18000111a1900a443101a09009b1a
theorem zk_cX10_has : zkd cX10_has.data.toList kn_cX10_has = true := by decide +kernel
theorem zn_cX10_has : cX10_has.data.toList.length = 38 := by decide +kernel
theorem dX10_has_0 : decode cX10_has 0 = .ok (.iload_n 0, 1) := zo_26 (zkb zk_cX10_has zn_cX10_has rfl)
theorem dX10_has_1 : decode cX10_has 1 = .ok (.ifCond .lt 9, 3) := zo_155 (b1 := 0) (b2 := 9) (zkb3 zk_cX10_has zn_cX10_has rfl) rfl
theorem dX10_has_4 : decode cX10_has 4 = .ok (.iload_n 0, 1) := zo_26 (zkb zk_cX10_has zn_cX10_has rfl)
theorem dX10_has_5 : decode cX10_has 5 = .ok (.bipush 67, 2) := zo_16 (b1 := 67) (zkb2 zk_cX10_has zn_cX10_has rfl) rfl
theorem dX10_has_7 : decode cX10_has 7 = .ok (.if_icmp .le 25, 3) := zo_164 (b1 := 0) (b2 := 25) (zkb3 zk_cX10_has zn_cX10_has rfl) rfl
theorem dX10_has_10 : decode cX10_has 10 = .ok (.iload_n 0, 1) := zo_26 (zkb zk_cX10_has zn_cX10_has rfl)
theorem dX10_has_11 : decode cX10_has 11 = .ok (.sipush 128, 3) := zo_17 (b1 := 0) (b2 := 128) (zkb3 zk_cX10_has zn_cX10_has rfl) rfl
theorem dX10_has_14 : decode cX10_has 14 = .ok (.if_icmp .lt 22, 3) := zo_161 (b1 := 0) (b2 := 22) (zkb3 zk_cX10_has zn_cX10_has rfl) rfl
theorem dX10_has_17 : decode cX10_has 17 = .ok (.iload_n 0, 1) := zo_26 (zkb zk_cX10_has zn_cX10_has rfl)
theorem dX10_has_18 : decode cX10_has 18 = .ok (.sipush 272, 3) := zo_17 (b1 := 1) (b2 := 16) (zkb3 zk_cX10_has zn_cX10_has rfl) rfl
theorem dX10_has_21 : decode cX10_has 21 = .ok (.if_icmp .ge 15, 3) := zo_162 (b1 := 0) (b2 := 15) (zkb3 zk_cX10_has zn_cX10_has rfl) rfl
theorem dX10_has_24 : decode cX10_has 24 = .ok (.iload_n 0, 1) := zo_26 (zkb zk_cX10_has zn_cX10_has rfl)
theorem dX10_has_25 : decode cX10_has 25 = .ok (.bipush 7, 2) := zo_16 (b1 := 7) (zkb2 zk_cX10_has zn_cX10_has rfl) rfl
theorem dX10_has_27 : decode cX10_has 27 = .ok (.iand, 1) := zo_126 (zkb zk_cX10_has zn_cX10_has rfl)
theorem dX10_has_28 : decode cX10_has 28 = .ok (.iconst 5, 1) := zo_8 (zkb zk_cX10_has zn_cX10_has rfl)
theorem dX10_has_29 : decode cX10_has 29 = .ok (.if_icmp .gt 7, 3) := zo_163 (b1 := 0) (b2 := 7) (zkb3 zk_cX10_has zn_cX10_has rfl) rfl
theorem dX10_has_32 : decode cX10_has 32 = .ok (.iconst 1, 1) := zo_4 (zkb zk_cX10_has zn_cX10_has rfl)
theorem dX10_has_33 : decode cX10_has 33 = .ok (.goto 4, 3) := zo_167 (b1 := 0) (b2 := 4) (zkb3 zk_cX10_has zn_cX10_has rfl) rfl
theorem dX10_has_36 : decode cX10_has 36 = .ok (.iconst 0, 1) := zo_3 (zkb zk_cX10_has zn_cX10_has rfl)
theorem dX10_has_37 : decode cX10_has 37 = .ok (.ireturn, 1) := zo_172 (zkb zk_cX10_has zn_cX10_has rfl)
noncomputable def kn_cX11_feed : Nat := 0xac6600b41000b42ac5ffa70108847000b67eff0011887d687e07100815081009161000b42a093706160500a704160800a2101008151100a7200700a2081008153b00a21b0815083603bf6f00b76d12596b00bb0d00a46a12601b6600b41000b42abf6300b76112595f00bb0d00a418101b0900a1041b
theorem zk_cX11_feed : zkd cX11_feed.data.toList kn_cX11_feed = true := by decide +kernel
theorem zn_cX11_feed : cX11_feed.data.toList.length = 118 := by decide +kernel
theorem dX11_feed_0 : decode cX11_feed 0 = .ok (.iload_n 1, 1) := zo_27 (zkb zk_cX11_feed zn_cX11_feed rfl)
theorem dX11_feed_1 : decode cX11_feed 1 = .ok (.iconst 1, 1) := zo_4 (zkb zk_cX11_feed zn_cX11_feed rfl)
theorem dX11_feed_2 : decode cX11_feed 2 = .ok (.if_icmp .lt 9, 3) := zo_161 (b1 := 0) (b2 := 9) (zkb3 zk_cX11_feed zn_cX11_feed rfl) rfl
theorem dX11_feed_5 : decode cX11_feed 5 = .ok (.iload_n 1, 1) := zo_27 (zkb zk_cX11_feed zn_cX11_feed rfl)
theorem dX11_feed_6 : decode cX11_feed 6 = .ok (.bipush 24, 2) := zo_16 (b1 := 24) (zkb2 zk_cX11_feed zn_cX11_feed rfl) rfl
theorem dX11_feed_8 : decode cX11_feed 8 = .ok (.if_icmp .le 13, 3) := zo_164 (b1 := 0) (b2 := 13) (zkb3 zk_cX11_feed zn_cX11_feed rfl) rfl
theorem dX11_feed_11 : decode cX11_feed 11 = .ok (.new 95, 3) := zo_187 (b1 := 0) (b2 := 95) (zkb3 zk_cX11_feed zn_cX11_feed rfl) rfl
theorem dX11_feed_14 : decode cX11_feed 14 = .ok (.dup, 1) := zo_89 (zkb zk_cX11_feed zn_cX11_feed rfl)
theorem dX11_feed_15 : decode cX11_feed 15 = .ok (.ldc 97, 2) := zo_18 (b1 := 97) (zkb2 zk_cX11_feed zn_cX11_feed rfl)
theorem dX11_feed_17 : decode cX11_feed 17 = .ok (.invokespecial 99, 3) := zo_183 (b1 := 0) (b2 := 99) (zkb3 zk_cX11_feed zn_cX11_feed rfl) rfl
theorem dX11_feed_20 : decode cX11_feed 20 = .ok (.athrow, 1) := zo_191 (zkb zk_cX11_feed zn_cX11_feed rfl)
theorem dX11_feed_21 : decode cX11_feed 21 = .ok (.aload_n 0, 1) := zo_42 (zkb zk_cX11_feed zn_cX11_feed rfl)
theorem dX11_feed_22 : decode cX11_feed 22 = .ok (.getfield 16, 3) := zo_180 (b1 := 0) (b2 := 16) (zkb3 zk_cX11_feed zn_cX11_feed rfl) rfl
theorem dX11_feed_25 : decode cX11_feed 25 = .ok (.getfield 102, 3) := zo_180 (b1 := 0) (b2 := 102) (zkb3 zk_cX11_feed zn_cX11_feed rfl) rfl
theorem dX11_feed_28 : decode cX11_feed 28 = .ok (.iload_n 1, 1) := zo_27 (zkb zk_cX11_feed zn_cX11_feed rfl)
theorem dX11_feed_29 : decode cX11_feed 29 = .ok (.iadd, 1) := zo_96 (zkb zk_cX11_feed zn_cX11_feed rfl)
theorem dX11_feed_30 : decode cX11_feed 30 = .ok (.ldc 106, 2) := zo_18 (b1 := 106) (zkb2 zk_cX11_feed zn_cX11_feed rfl)
theorem dX11_feed_32 : decode cX11_feed 32 = .ok (.if_icmp .le 13, 3) := zo_164 (b1 := 0) (b2 := 13) (zkb3 zk_cX11_feed zn_cX11_feed rfl) rfl
theorem dX11_feed_35 : decode cX11_feed 35 = .ok (.new 107, 3) := zo_187 (b1 := 0) (b2 := 107) (zkb3 zk_cX11_feed zn_cX11_feed rfl) rfl
theorem dX11_feed_38 : decode cX11_feed 38 = .ok (.dup, 1) := zo_89 (zkb zk_cX11_feed zn_cX11_feed rfl)
theorem dX11_feed_39 : decode cX11_feed 39 = .ok (.ldc 109, 2) := zo_18 (b1 := 109) (zkb2 zk_cX11_feed zn_cX11_feed rfl)
theorem dX11_feed_41 : decode cX11_feed 41 = .ok (.invokespecial 111, 3) := zo_183 (b1 := 0) (b2 := 111) (zkb3 zk_cX11_feed zn_cX11_feed rfl) rfl
theorem dX11_feed_44 : decode cX11_feed 44 = .ok (.athrow, 1) := zo_191 (zkb zk_cX11_feed zn_cX11_feed rfl)
theorem dX11_feed_45 : decode cX11_feed 45 = .ok (.iconst 0, 1) := zo_3 (zkb zk_cX11_feed zn_cX11_feed rfl)
theorem dX11_feed_46 : decode cX11_feed 46 = .ok (.istore 8, 2) := zo_54 (b1 := 8) (zkb2 zk_cX11_feed zn_cX11_feed rfl)
theorem dX11_feed_48 : decode cX11_feed 48 = .ok (.iload 8, 2) := zo_21 (b1 := 8) (zkb2 zk_cX11_feed zn_cX11_feed rfl)
theorem dX11_feed_50 : decode cX11_feed 50 = .ok (.iload_n 1, 1) := zo_27 (zkb zk_cX11_feed zn_cX11_feed rfl)
theorem dX11_feed_51 : decode cX11_feed 51 = .ok (.if_icmp .ge 59, 3) := zo_162 (b1 := 0) (b2 := 59) (zkb3 zk_cX11_feed zn_cX11_feed rfl) rfl
theorem dX11_feed_54 : decode cX11_feed 54 = .ok (.iload 8, 2) := zo_21 (b1 := 8) (zkb2 zk_cX11_feed zn_cX11_feed rfl)
theorem dX11_feed_56 : decode cX11_feed 56 = .ok (.bipush 8, 2) := zo_16 (b1 := 8) (zkb2 zk_cX11_feed zn_cX11_feed rfl) rfl
theorem dX11_feed_58 : decode cX11_feed 58 = .ok (.if_icmp .ge 7, 3) := zo_162 (b1 := 0) (b2 := 7) (zkb3 zk_cX11_feed zn_cX11_feed rfl) rfl
theorem dX11_feed_61 : decode cX11_feed 61 = .ok (.lload_n 2, 1) := zo_32 (zkb zk_cX11_feed zn_cX11_feed rfl)
theorem dX11_feed_62 : decode cX11_feed 62 = .ok (.goto 17, 3) := zo_167 (b1 := 0) (b2 := 17) (zkb3 zk_cX11_feed zn_cX11_feed rfl) rfl
theorem dX11_feed_65 : decode cX11_feed 65 = .ok (.iload 8, 2) := zo_21 (b1 := 8) (zkb2 zk_cX11_feed zn_cX11_feed rfl)
theorem dX11_feed_67 : decode cX11_feed 67 = .ok (.bipush 16, 2) := zo_16 (b1 := 16) (zkb2 zk_cX11_feed zn_cX11_feed rfl) rfl
theorem dX11_feed_69 : decode cX11_feed 69 = .ok (.if_icmp .ge 8, 3) := zo_162 (b1 := 0) (b2 := 8) (zkb3 zk_cX11_feed zn_cX11_feed rfl) rfl
theorem dX11_feed_72 : decode cX11_feed 72 = .ok (.lload 4, 2) := zo_22 (b1 := 4) (zkb2 zk_cX11_feed zn_cX11_feed rfl)
theorem dX11_feed_74 : decode cX11_feed 74 = .ok (.goto 5, 3) := zo_167 (b1 := 0) (b2 := 5) (zkb3 zk_cX11_feed zn_cX11_feed rfl) rfl
theorem dX11_feed_77 : decode cX11_feed 77 = .ok (.lload 6, 2) := zo_22 (b1 := 6) (zkb2 zk_cX11_feed zn_cX11_feed rfl)
theorem dX11_feed_79 : decode cX11_feed 79 = .ok (.lstore 9, 2) := zo_55 (b1 := 9) (zkb2 zk_cX11_feed zn_cX11_feed rfl)
theorem dX11_feed_81 : decode cX11_feed 81 = .ok (.aload_n 0, 1) := zo_42 (zkb zk_cX11_feed zn_cX11_feed rfl)
theorem dX11_feed_82 : decode cX11_feed 82 = .ok (.getfield 16, 3) := zo_180 (b1 := 0) (b2 := 16) (zkb3 zk_cX11_feed zn_cX11_feed rfl) rfl
theorem dX11_feed_85 : decode cX11_feed 85 = .ok (.lload 9, 2) := zo_22 (b1 := 9) (zkb2 zk_cX11_feed zn_cX11_feed rfl)
theorem dX11_feed_87 : decode cX11_feed 87 = .ok (.bipush 8, 2) := zo_16 (b1 := 8) (zkb2 zk_cX11_feed zn_cX11_feed rfl) rfl
theorem dX11_feed_89 : decode cX11_feed 89 = .ok (.iload 8, 2) := zo_21 (b1 := 8) (zkb2 zk_cX11_feed zn_cX11_feed rfl)
theorem dX11_feed_91 : decode cX11_feed 91 = .ok (.bipush 7, 2) := zo_16 (b1 := 7) (zkb2 zk_cX11_feed zn_cX11_feed rfl) rfl
theorem dX11_feed_93 : decode cX11_feed 93 = .ok (.iand, 1) := zo_126 (zkb zk_cX11_feed zn_cX11_feed rfl)
theorem dX11_feed_94 : decode cX11_feed 94 = .ok (.imul, 1) := zo_104 (zkb zk_cX11_feed zn_cX11_feed rfl)
theorem dX11_feed_95 : decode cX11_feed 95 = .ok (.lushr, 1) := zo_125 (zkb zk_cX11_feed zn_cX11_feed rfl)
theorem dX11_feed_96 : decode cX11_feed 96 = .ok (.l2i, 1) := zo_136 (zkb zk_cX11_feed zn_cX11_feed rfl)
theorem dX11_feed_97 : decode cX11_feed 97 = .ok (.sipush 255, 3) := zo_17 (b1 := 0) (b2 := 255) (zkb3 zk_cX11_feed zn_cX11_feed rfl) rfl
theorem dX11_feed_100 : decode cX11_feed 100 = .ok (.iand, 1) := zo_126 (zkb zk_cX11_feed zn_cX11_feed rfl)
theorem dX11_feed_101 : decode cX11_feed 101 = .ok (.invokevirtual 112, 3) := zo_182 (b1 := 0) (b2 := 112) (zkb3 zk_cX11_feed zn_cX11_feed rfl) rfl
theorem dX11_feed_104 : decode cX11_feed 104 = .ok (.iinc 8 1, 3) := zo_132 (b1 := 8) (b2 := 1) (zkb3 zk_cX11_feed zn_cX11_feed rfl) rfl
theorem dX11_feed_107 : decode cX11_feed 107 = .ok (.goto (-59), 3) := zo_167 (b1 := 255) (b2 := 197) (zkb3 zk_cX11_feed zn_cX11_feed rfl) rfl
theorem dX11_feed_110 : decode cX11_feed 110 = .ok (.aload_n 0, 1) := zo_42 (zkb zk_cX11_feed zn_cX11_feed rfl)
theorem dX11_feed_111 : decode cX11_feed 111 = .ok (.getfield 16, 3) := zo_180 (b1 := 0) (b2 := 16) (zkb3 zk_cX11_feed zn_cX11_feed rfl) rfl
theorem dX11_feed_114 : decode cX11_feed 114 = .ok (.getfield 102, 3) := zo_180 (b1 := 0) (b2 := 102) (zkb3 zk_cX11_feed zn_cX11_feed rfl) rfl
theorem dX11_feed_117 : decode cX11_feed 117 = .ok (.ireturn, 1) := zo_172 (zkb zk_cX11_feed zn_cX11_feed rfl)
noncomputable def kn_cX11_grow : Nat := 0xac1c7800b61b1000b42abf6f00b77612596b00bb0d009a1cbf6300b77412595f00bb0d00a46a121b0900a11c1b3d6600b41000b42a
theorem zk_cX11_grow : zkd cX11_grow.data.toList kn_cX11_grow = true := by decide +kernel
theorem zn_cX11_grow : cX11_grow.data.toList.length = 53 := by decide +kernel
theorem dX11_grow_0 : decode cX11_grow 0 = .ok (.aload_n 0, 1) := zo_42 (zkb zk_cX11_grow zn_cX11_grow rfl)
theorem dX11_grow_1 : decode cX11_grow 1 = .ok (.getfield 16, 3) := zo_180 (b1 := 0) (b2 := 16) (zkb3 zk_cX11_grow zn_cX11_grow rfl) rfl
theorem dX11_grow_4 : decode cX11_grow 4 = .ok (.getfield 102, 3) := zo_180 (b1 := 0) (b2 := 102) (zkb3 zk_cX11_grow zn_cX11_grow rfl) rfl
theorem dX11_grow_7 : decode cX11_grow 7 = .ok (.istore_n 2, 1) := zo_61 (zkb zk_cX11_grow zn_cX11_grow rfl)
theorem dX11_grow_8 : decode cX11_grow 8 = .ok (.iload_n 1, 1) := zo_27 (zkb zk_cX11_grow zn_cX11_grow rfl)
theorem dX11_grow_9 : decode cX11_grow 9 = .ok (.iload_n 2, 1) := zo_28 (zkb zk_cX11_grow zn_cX11_grow rfl)
theorem dX11_grow_10 : decode cX11_grow 10 = .ok (.if_icmp .lt 9, 3) := zo_161 (b1 := 0) (b2 := 9) (zkb3 zk_cX11_grow zn_cX11_grow rfl) rfl
theorem dX11_grow_13 : decode cX11_grow 13 = .ok (.iload_n 1, 1) := zo_27 (zkb zk_cX11_grow zn_cX11_grow rfl)
theorem dX11_grow_14 : decode cX11_grow 14 = .ok (.ldc 106, 2) := zo_18 (b1 := 106) (zkb2 zk_cX11_grow zn_cX11_grow rfl)
theorem dX11_grow_16 : decode cX11_grow 16 = .ok (.if_icmp .le 13, 3) := zo_164 (b1 := 0) (b2 := 13) (zkb3 zk_cX11_grow zn_cX11_grow rfl) rfl
theorem dX11_grow_19 : decode cX11_grow 19 = .ok (.new 95, 3) := zo_187 (b1 := 0) (b2 := 95) (zkb3 zk_cX11_grow zn_cX11_grow rfl) rfl
theorem dX11_grow_22 : decode cX11_grow 22 = .ok (.dup, 1) := zo_89 (zkb zk_cX11_grow zn_cX11_grow rfl)
theorem dX11_grow_23 : decode cX11_grow 23 = .ok (.ldc 116, 2) := zo_18 (b1 := 116) (zkb2 zk_cX11_grow zn_cX11_grow rfl)
theorem dX11_grow_25 : decode cX11_grow 25 = .ok (.invokespecial 99, 3) := zo_183 (b1 := 0) (b2 := 99) (zkb3 zk_cX11_grow zn_cX11_grow rfl) rfl
theorem dX11_grow_28 : decode cX11_grow 28 = .ok (.athrow, 1) := zo_191 (zkb zk_cX11_grow zn_cX11_grow rfl)
theorem dX11_grow_29 : decode cX11_grow 29 = .ok (.iload_n 2, 1) := zo_28 (zkb zk_cX11_grow zn_cX11_grow rfl)
theorem dX11_grow_30 : decode cX11_grow 30 = .ok (.ifCond .ne 13, 3) := zo_154 (b1 := 0) (b2 := 13) (zkb3 zk_cX11_grow zn_cX11_grow rfl) rfl
theorem dX11_grow_33 : decode cX11_grow 33 = .ok (.new 107, 3) := zo_187 (b1 := 0) (b2 := 107) (zkb3 zk_cX11_grow zn_cX11_grow rfl) rfl
theorem dX11_grow_36 : decode cX11_grow 36 = .ok (.dup, 1) := zo_89 (zkb zk_cX11_grow zn_cX11_grow rfl)
theorem dX11_grow_37 : decode cX11_grow 37 = .ok (.ldc 118, 2) := zo_18 (b1 := 118) (zkb2 zk_cX11_grow zn_cX11_grow rfl)
theorem dX11_grow_39 : decode cX11_grow 39 = .ok (.invokespecial 111, 3) := zo_183 (b1 := 0) (b2 := 111) (zkb3 zk_cX11_grow zn_cX11_grow rfl) rfl
theorem dX11_grow_42 : decode cX11_grow 42 = .ok (.athrow, 1) := zo_191 (zkb zk_cX11_grow zn_cX11_grow rfl)
theorem dX11_grow_43 : decode cX11_grow 43 = .ok (.aload_n 0, 1) := zo_42 (zkb zk_cX11_grow zn_cX11_grow rfl)
theorem dX11_grow_44 : decode cX11_grow 44 = .ok (.getfield 16, 3) := zo_180 (b1 := 0) (b2 := 16) (zkb3 zk_cX11_grow zn_cX11_grow rfl) rfl
theorem dX11_grow_47 : decode cX11_grow 47 = .ok (.iload_n 1, 1) := zo_27 (zkb zk_cX11_grow zn_cX11_grow rfl)
theorem dX11_grow_48 : decode cX11_grow 48 = .ok (.invokevirtual 120, 3) := zo_182 (b1 := 0) (b2 := 120) (zkb3 zk_cX11_grow zn_cX11_grow rfl) rfl
theorem dX11_grow_51 : decode cX11_grow 51 = .ok (.iload_n 2, 1) := zo_28 (zkb zk_cX11_grow zn_cX11_grow rfl)
theorem dX11_grow_52 : decode cX11_grow 52 = .ok (.ireturn, 1) := zo_172 (zkb zk_cX11_grow zn_cX11_grow rfl)
noncomputable def kn_cX11_patch : Nat := 0xb17d00b6201b1000b42abf6300b77b12595f00bb0d00a46408106600b41000b42a1b11009b1b
theorem zk_cX11_patch : zkd cX11_patch.data.toList kn_cX11_patch = true := by decide +kernel
theorem zn_cX11_patch : cX11_patch.data.toList.length = 38 := by decide +kernel
theorem dX11_patch_0 : decode cX11_patch 0 = .ok (.iload_n 1, 1) := zo_27 (zkb zk_cX11_patch zn_cX11_patch rfl)
theorem dX11_patch_1 : decode cX11_patch 1 = .ok (.ifCond .lt 17, 3) := zo_155 (b1 := 0) (b2 := 17) (zkb3 zk_cX11_patch zn_cX11_patch rfl) rfl
theorem dX11_patch_4 : decode cX11_patch 4 = .ok (.iload_n 1, 1) := zo_27 (zkb zk_cX11_patch zn_cX11_patch rfl)
theorem dX11_patch_5 : decode cX11_patch 5 = .ok (.aload_n 0, 1) := zo_42 (zkb zk_cX11_patch zn_cX11_patch rfl)
theorem dX11_patch_6 : decode cX11_patch 6 = .ok (.getfield 16, 3) := zo_180 (b1 := 0) (b2 := 16) (zkb3 zk_cX11_patch zn_cX11_patch rfl) rfl
theorem dX11_patch_9 : decode cX11_patch 9 = .ok (.getfield 102, 3) := zo_180 (b1 := 0) (b2 := 102) (zkb3 zk_cX11_patch zn_cX11_patch rfl) rfl
theorem dX11_patch_12 : decode cX11_patch 12 = .ok (.bipush 8, 2) := zo_16 (b1 := 8) (zkb2 zk_cX11_patch zn_cX11_patch rfl) rfl
theorem dX11_patch_14 : decode cX11_patch 14 = .ok (.isub, 1) := zo_100 (zkb zk_cX11_patch zn_cX11_patch rfl)
theorem dX11_patch_15 : decode cX11_patch 15 = .ok (.if_icmp .le 13, 3) := zo_164 (b1 := 0) (b2 := 13) (zkb3 zk_cX11_patch zn_cX11_patch rfl) rfl
theorem dX11_patch_18 : decode cX11_patch 18 = .ok (.new 95, 3) := zo_187 (b1 := 0) (b2 := 95) (zkb3 zk_cX11_patch zn_cX11_patch rfl) rfl
theorem dX11_patch_21 : decode cX11_patch 21 = .ok (.dup, 1) := zo_89 (zkb zk_cX11_patch zn_cX11_patch rfl)
theorem dX11_patch_22 : decode cX11_patch 22 = .ok (.ldc 123, 2) := zo_18 (b1 := 123) (zkb2 zk_cX11_patch zn_cX11_patch rfl)
theorem dX11_patch_24 : decode cX11_patch 24 = .ok (.invokespecial 99, 3) := zo_183 (b1 := 0) (b2 := 99) (zkb3 zk_cX11_patch zn_cX11_patch rfl) rfl
theorem dX11_patch_27 : decode cX11_patch 27 = .ok (.athrow, 1) := zo_191 (zkb zk_cX11_patch zn_cX11_patch rfl)
theorem dX11_patch_28 : decode cX11_patch 28 = .ok (.aload_n 0, 1) := zo_42 (zkb zk_cX11_patch zn_cX11_patch rfl)
theorem dX11_patch_29 : decode cX11_patch 29 = .ok (.getfield 16, 3) := zo_180 (b1 := 0) (b2 := 16) (zkb3 zk_cX11_patch zn_cX11_patch rfl) rfl
theorem dX11_patch_32 : decode cX11_patch 32 = .ok (.iload_n 1, 1) := zo_27 (zkb zk_cX11_patch zn_cX11_patch rfl)
theorem dX11_patch_33 : decode cX11_patch 33 = .ok (.lload_n 2, 1) := zo_32 (zkb zk_cX11_patch zn_cX11_patch rfl)
theorem dX11_patch_34 : decode cX11_patch 34 = .ok (.invokevirtual 125, 3) := zo_182 (b1 := 0) (b2 := 125) (zkb3 zk_cX11_patch zn_cX11_patch rfl) rfl
theorem dX11_patch_37 : decode cX11_patch 37 = .ok (.return_, 1) := zo_177 (zkb zk_cX11_patch zn_cX11_patch rfl)
noncomputable def kn_cX11_load : Nat := 0xac1b8b00b5032a8800b62a8500b61000b42a13009a1b3c8100b61000b42a
theorem zk_cX11_load : zkd cX11_load.data.toList kn_cX11_load = true := by decide +kernel
theorem zn_cX11_load : cX11_load.data.toList.length = 30 := by decide +kernel
theorem dX11_load_0 : decode cX11_load 0 = .ok (.aload_n 0, 1) := zo_42 (zkb zk_cX11_load zn_cX11_load rfl)
theorem dX11_load_1 : decode cX11_load 1 = .ok (.getfield 16, 3) := zo_180 (b1 := 0) (b2 := 16) (zkb3 zk_cX11_load zn_cX11_load rfl) rfl
theorem dX11_load_4 : decode cX11_load 4 = .ok (.invokevirtual 129, 3) := zo_182 (b1 := 0) (b2 := 129) (zkb3 zk_cX11_load zn_cX11_load rfl) rfl
theorem dX11_load_7 : decode cX11_load 7 = .ok (.istore_n 1, 1) := zo_60 (zkb zk_cX11_load zn_cX11_load rfl)
theorem dX11_load_8 : decode cX11_load 8 = .ok (.iload_n 1, 1) := zo_27 (zkb zk_cX11_load zn_cX11_load rfl)
theorem dX11_load_9 : decode cX11_load 9 = .ok (.ifCond .ne 19, 3) := zo_154 (b1 := 0) (b2 := 19) (zkb3 zk_cX11_load zn_cX11_load rfl) rfl
theorem dX11_load_12 : decode cX11_load 12 = .ok (.aload_n 0, 1) := zo_42 (zkb zk_cX11_load zn_cX11_load rfl)
theorem dX11_load_13 : decode cX11_load 13 = .ok (.getfield 16, 3) := zo_180 (b1 := 0) (b2 := 16) (zkb3 zk_cX11_load zn_cX11_load rfl) rfl
theorem dX11_load_16 : decode cX11_load 16 = .ok (.invokevirtual 133, 3) := zo_182 (b1 := 0) (b2 := 133) (zkb3 zk_cX11_load zn_cX11_load rfl) rfl
theorem dX11_load_19 : decode cX11_load 19 = .ok (.aload_n 0, 1) := zo_42 (zkb zk_cX11_load zn_cX11_load rfl)
theorem dX11_load_20 : decode cX11_load 20 = .ok (.invokevirtual 136, 3) := zo_182 (b1 := 0) (b2 := 136) (zkb3 zk_cX11_load zn_cX11_load rfl) rfl
theorem dX11_load_23 : decode cX11_load 23 = .ok (.aload_n 0, 1) := zo_42 (zkb zk_cX11_load zn_cX11_load rfl)
theorem dX11_load_24 : decode cX11_load 24 = .ok (.iconst 0, 1) := zo_3 (zkb zk_cX11_load zn_cX11_load rfl)
theorem dX11_load_25 : decode cX11_load 25 = .ok (.putfield 139, 3) := zo_181 (b1 := 0) (b2 := 139) (zkb3 zk_cX11_load zn_cX11_load rfl) rfl
theorem dX11_load_28 : decode cX11_load 28 = .ok (.iload_n 1, 1) := zo_27 (zkb zk_cX11_load zn_cX11_load rfl)
theorem dX11_load_29 : decode cX11_load 29 = .ok (.ireturn, 1) := zo_172 (zkb zk_cX11_load zn_cX11_load rfl)
noncomputable def kn_cX11_card : Nat := 0xac9000b61b1000b42abf6300b78e12595f00bb0d00a407101b09009b1b
theorem zk_cX11_card : zkd cX11_card.data.toList kn_cX11_card = true := by decide +kernel
theorem zn_cX11_card : cX11_card.data.toList.length = 29 := by decide +kernel
theorem dX11_card_0 : decode cX11_card 0 = .ok (.iload_n 1, 1) := zo_27 (zkb zk_cX11_card zn_cX11_card rfl)
theorem dX11_card_1 : decode cX11_card 1 = .ok (.ifCond .lt 9, 3) := zo_155 (b1 := 0) (b2 := 9) (zkb3 zk_cX11_card zn_cX11_card rfl) rfl
theorem dX11_card_4 : decode cX11_card 4 = .ok (.iload_n 1, 1) := zo_27 (zkb zk_cX11_card zn_cX11_card rfl)
theorem dX11_card_5 : decode cX11_card 5 = .ok (.bipush 7, 2) := zo_16 (b1 := 7) (zkb2 zk_cX11_card zn_cX11_card rfl) rfl
theorem dX11_card_7 : decode cX11_card 7 = .ok (.if_icmp .le 13, 3) := zo_164 (b1 := 0) (b2 := 13) (zkb3 zk_cX11_card zn_cX11_card rfl) rfl
theorem dX11_card_10 : decode cX11_card 10 = .ok (.new 95, 3) := zo_187 (b1 := 0) (b2 := 95) (zkb3 zk_cX11_card zn_cX11_card rfl) rfl
theorem dX11_card_13 : decode cX11_card 13 = .ok (.dup, 1) := zo_89 (zkb zk_cX11_card zn_cX11_card rfl)
theorem dX11_card_14 : decode cX11_card 14 = .ok (.ldc 142, 2) := zo_18 (b1 := 142) (zkb2 zk_cX11_card zn_cX11_card rfl)
theorem dX11_card_16 : decode cX11_card 16 = .ok (.invokespecial 99, 3) := zo_183 (b1 := 0) (b2 := 99) (zkb3 zk_cX11_card zn_cX11_card rfl) rfl
theorem dX11_card_19 : decode cX11_card 19 = .ok (.athrow, 1) := zo_191 (zkb zk_cX11_card zn_cX11_card rfl)
theorem dX11_card_20 : decode cX11_card 20 = .ok (.aload_n 0, 1) := zo_42 (zkb zk_cX11_card zn_cX11_card rfl)
theorem dX11_card_21 : decode cX11_card 21 = .ok (.getfield 16, 3) := zo_180 (b1 := 0) (b2 := 16) (zkb3 zk_cX11_card zn_cX11_card rfl) rfl
theorem dX11_card_24 : decode cX11_card 24 = .ok (.iload_n 1, 1) := zo_27 (zkb zk_cX11_card zn_cX11_card rfl)
theorem dX11_card_25 : decode cX11_card 25 = .ok (.invokevirtual 144, 3) := zo_182 (b1 := 0) (b2 := 144) (zkb3 zk_cX11_card zn_cX11_card rfl) rfl
theorem dX11_card_28 : decode cX11_card 28 = .ok (.ireturn, 1) := zo_172 (zkb zk_cX11_card zn_cX11_card rfl)
noncomputable def kn_cX11_step : Nat := 0xac9600b660041b1b2abf6300b79412595f00bb0d00a4204e111b0a00a1041b
theorem zk_cX11_step : zkd cX11_step.data.toList kn_cX11_step = true := by decide +kernel
theorem zn_cX11_step : cX11_step.data.toList.length = 31 := by decide +kernel
theorem dX11_step_0 : decode cX11_step 0 = .ok (.iload_n 1, 1) := zo_27 (zkb zk_cX11_step zn_cX11_step rfl)
theorem dX11_step_1 : decode cX11_step 1 = .ok (.iconst 1, 1) := zo_4 (zkb zk_cX11_step zn_cX11_step rfl)
theorem dX11_step_2 : decode cX11_step 2 = .ok (.if_icmp .lt 10, 3) := zo_161 (b1 := 0) (b2 := 10) (zkb3 zk_cX11_step zn_cX11_step rfl) rfl
theorem dX11_step_5 : decode cX11_step 5 = .ok (.iload_n 1, 1) := zo_27 (zkb zk_cX11_step zn_cX11_step rfl)
theorem dX11_step_6 : decode cX11_step 6 = .ok (.sipush 20000, 3) := zo_17 (b1 := 78) (b2 := 32) (zkb3 zk_cX11_step zn_cX11_step rfl) rfl
theorem dX11_step_9 : decode cX11_step 9 = .ok (.if_icmp .le 13, 3) := zo_164 (b1 := 0) (b2 := 13) (zkb3 zk_cX11_step zn_cX11_step rfl) rfl
theorem dX11_step_12 : decode cX11_step 12 = .ok (.new 95, 3) := zo_187 (b1 := 0) (b2 := 95) (zkb3 zk_cX11_step zn_cX11_step rfl) rfl
theorem dX11_step_15 : decode cX11_step 15 = .ok (.dup, 1) := zo_89 (zkb zk_cX11_step zn_cX11_step rfl)
theorem dX11_step_16 : decode cX11_step 16 = .ok (.ldc 148, 2) := zo_18 (b1 := 148) (zkb2 zk_cX11_step zn_cX11_step rfl)
theorem dX11_step_18 : decode cX11_step 18 = .ok (.invokespecial 99, 3) := zo_183 (b1 := 0) (b2 := 99) (zkb3 zk_cX11_step zn_cX11_step rfl) rfl
theorem dX11_step_21 : decode cX11_step 21 = .ok (.athrow, 1) := zo_191 (zkb zk_cX11_step zn_cX11_step rfl)
theorem dX11_step_22 : decode cX11_step 22 = .ok (.aload_n 0, 1) := zo_42 (zkb zk_cX11_step zn_cX11_step rfl)
theorem dX11_step_23 : decode cX11_step 23 = .ok (.iload_n 1, 1) := zo_27 (zkb zk_cX11_step zn_cX11_step rfl)
theorem dX11_step_24 : decode cX11_step 24 = .ok (.iload_n 1, 1) := zo_27 (zkb zk_cX11_step zn_cX11_step rfl)
theorem dX11_step_25 : decode cX11_step 25 = .ok (.iconst 1, 1) := zo_4 (zkb zk_cX11_step zn_cX11_step rfl)
theorem dX11_step_26 : decode cX11_step 26 = .ok (.iadd, 1) := zo_96 (zkb zk_cX11_step zn_cX11_step rfl)
theorem dX11_step_27 : decode cX11_step 27 = .ok (.invokevirtual 150, 3) := zo_182 (b1 := 0) (b2 := 150) (zkb3 zk_cX11_step zn_cX11_step rfl) rfl
theorem dX11_step_30 : decode cX11_step 30 = .ok (.ireturn, 1) := zo_172 (zkb zk_cX11_step zn_cX11_step rfl)
noncomputable def kn_cX11_picture : Nat := 0xac9600b61b9c122abf6300b79a12595f00bb0d00a4061b0800a1041b
theorem zk_cX11_picture : zkd cX11_picture.data.toList kn_cX11_picture = true := by decide +kernel
theorem zn_cX11_picture : cX11_picture.data.toList.length = 28 := by decide +kernel
theorem dX11_picture_0 : decode cX11_picture 0 = .ok (.iload_n 1, 1) := zo_27 (zkb zk_cX11_picture zn_cX11_picture rfl)
theorem dX11_picture_1 : decode cX11_picture 1 = .ok (.iconst 1, 1) := zo_4 (zkb zk_cX11_picture zn_cX11_picture rfl)
theorem dX11_picture_2 : decode cX11_picture 2 = .ok (.if_icmp .lt 8, 3) := zo_161 (b1 := 0) (b2 := 8) (zkb3 zk_cX11_picture zn_cX11_picture rfl) rfl
theorem dX11_picture_5 : decode cX11_picture 5 = .ok (.iload_n 1, 1) := zo_27 (zkb zk_cX11_picture zn_cX11_picture rfl)
theorem dX11_picture_6 : decode cX11_picture 6 = .ok (.iconst 3, 1) := zo_6 (zkb zk_cX11_picture zn_cX11_picture rfl)
theorem dX11_picture_7 : decode cX11_picture 7 = .ok (.if_icmp .le 13, 3) := zo_164 (b1 := 0) (b2 := 13) (zkb3 zk_cX11_picture zn_cX11_picture rfl) rfl
theorem dX11_picture_10 : decode cX11_picture 10 = .ok (.new 95, 3) := zo_187 (b1 := 0) (b2 := 95) (zkb3 zk_cX11_picture zn_cX11_picture rfl) rfl
theorem dX11_picture_13 : decode cX11_picture 13 = .ok (.dup, 1) := zo_89 (zkb zk_cX11_picture zn_cX11_picture rfl)
theorem dX11_picture_14 : decode cX11_picture 14 = .ok (.ldc 154, 2) := zo_18 (b1 := 154) (zkb2 zk_cX11_picture zn_cX11_picture rfl)
theorem dX11_picture_16 : decode cX11_picture 16 = .ok (.invokespecial 99, 3) := zo_183 (b1 := 0) (b2 := 99) (zkb3 zk_cX11_picture zn_cX11_picture rfl) rfl
theorem dX11_picture_19 : decode cX11_picture 19 = .ok (.athrow, 1) := zo_191 (zkb zk_cX11_picture zn_cX11_picture rfl)
theorem dX11_picture_20 : decode cX11_picture 20 = .ok (.aload_n 0, 1) := zo_42 (zkb zk_cX11_picture zn_cX11_picture rfl)
theorem dX11_picture_21 : decode cX11_picture 21 = .ok (.ldc 156, 2) := zo_18 (b1 := 156) (zkb2 zk_cX11_picture zn_cX11_picture rfl)
theorem dX11_picture_23 : decode cX11_picture 23 = .ok (.iload_n 1, 1) := zo_27 (zkb zk_cX11_picture zn_cX11_picture rfl)
theorem dX11_picture_24 : decode cX11_picture 24 = .ok (.invokevirtual 150, 3) := zo_182 (b1 := 0) (b2 := 150) (zkb3 zk_cX11_picture zn_cX11_picture rfl) rfl
theorem dX11_picture_27 : decode cX11_picture 27 = .ok (.ireturn, 1) := zo_172 (zkb zk_cX11_picture zn_cX11_picture rfl)
noncomputable def kn_cX11_reset : Nat := 0xb18800b62a
theorem zk_cX11_reset : zkd cX11_reset.data.toList kn_cX11_reset = true := by decide +kernel
theorem zn_cX11_reset : cX11_reset.data.toList.length = 5 := by decide +kernel
theorem dX11_reset_0 : decode cX11_reset 0 = .ok (.aload_n 0, 1) := zo_42 (zkb zk_cX11_reset zn_cX11_reset rfl)
theorem dX11_reset_1 : decode cX11_reset 1 = .ok (.invokevirtual 136, 3) := zo_182 (b1 := 0) (b2 := 136) (zkb3 zk_cX11_reset zn_cX11_reset rfl) rfl
theorem dX11_reset_4 : decode cX11_reset 4 = .ok (.return_, 1) := zo_177 (zkb zk_cX11_reset zn_cX11_reset rfl)
noncomputable def kn_cX11_pause : Nat := 0xac030400a70407009a0700b42a9d00b64200b42a0a009a0700b42a
theorem zk_cX11_pause : zkd cX11_pause.data.toList kn_cX11_pause = true := by decide +kernel
theorem zn_cX11_pause : cX11_pause.data.toList.length = 27 := by decide +kernel
theorem dX11_pause_0 : decode cX11_pause 0 = .ok (.aload_n 0, 1) := zo_42 (zkb zk_cX11_pause zn_cX11_pause rfl)
theorem dX11_pause_1 : decode cX11_pause 1 = .ok (.getfield 7, 3) := zo_180 (b1 := 0) (b2 := 7) (zkb3 zk_cX11_pause zn_cX11_pause rfl) rfl
theorem dX11_pause_4 : decode cX11_pause 4 = .ok (.ifCond .ne 10, 3) := zo_154 (b1 := 0) (b2 := 10) (zkb3 zk_cX11_pause zn_cX11_pause rfl) rfl
theorem dX11_pause_7 : decode cX11_pause 7 = .ok (.aload_n 0, 1) := zo_42 (zkb zk_cX11_pause zn_cX11_pause rfl)
theorem dX11_pause_8 : decode cX11_pause 8 = .ok (.getfield 66, 3) := zo_180 (b1 := 0) (b2 := 66) (zkb3 zk_cX11_pause zn_cX11_pause rfl) rfl
theorem dX11_pause_11 : decode cX11_pause 11 = .ok (.invokevirtual 157, 3) := zo_182 (b1 := 0) (b2 := 157) (zkb3 zk_cX11_pause zn_cX11_pause rfl) rfl
theorem dX11_pause_14 : decode cX11_pause 14 = .ok (.aload_n 0, 1) := zo_42 (zkb zk_cX11_pause zn_cX11_pause rfl)
theorem dX11_pause_15 : decode cX11_pause 15 = .ok (.getfield 7, 3) := zo_180 (b1 := 0) (b2 := 7) (zkb3 zk_cX11_pause zn_cX11_pause rfl) rfl
theorem dX11_pause_18 : decode cX11_pause 18 = .ok (.ifCond .ne 7, 3) := zo_154 (b1 := 0) (b2 := 7) (zkb3 zk_cX11_pause zn_cX11_pause rfl) rfl
theorem dX11_pause_21 : decode cX11_pause 21 = .ok (.iconst 1, 1) := zo_4 (zkb zk_cX11_pause zn_cX11_pause rfl)
theorem dX11_pause_22 : decode cX11_pause 22 = .ok (.goto 4, 3) := zo_167 (b1 := 0) (b2 := 4) (zkb3 zk_cX11_pause zn_cX11_pause rfl) rfl
theorem dX11_pause_25 : decode cX11_pause 25 = .ok (.iconst 0, 1) := zo_3 (zkb zk_cX11_pause zn_cX11_pause rfl)
theorem dX11_pause_26 : decode cX11_pause 26 = .ok (.ireturn, 1) := zo_172 (zkb zk_cX11_pause zn_cX11_pause rfl)
noncomputable def kn_cX11_press : Nat := 0xb1a600b61c1b3900b42abf6300b7a412595f00bb0d009aa000b81c1b
theorem zk_cX11_press : zkd cX11_press.data.toList kn_cX11_press = true := by decide +kernel
theorem zn_cX11_press : cX11_press.data.toList.length = 28 := by decide +kernel
theorem dX11_press_0 : decode cX11_press 0 = .ok (.iload_n 1, 1) := zo_27 (zkb zk_cX11_press zn_cX11_press rfl)
theorem dX11_press_1 : decode cX11_press 1 = .ok (.iload_n 2, 1) := zo_28 (zkb zk_cX11_press zn_cX11_press rfl)
theorem dX11_press_2 : decode cX11_press 2 = .ok (.invokestatic 160, 3) := zo_184 (b1 := 0) (b2 := 160) (zkb3 zk_cX11_press zn_cX11_press rfl) rfl
theorem dX11_press_5 : decode cX11_press 5 = .ok (.ifCond .ne 13, 3) := zo_154 (b1 := 0) (b2 := 13) (zkb3 zk_cX11_press zn_cX11_press rfl) rfl
theorem dX11_press_8 : decode cX11_press 8 = .ok (.new 95, 3) := zo_187 (b1 := 0) (b2 := 95) (zkb3 zk_cX11_press zn_cX11_press rfl) rfl
theorem dX11_press_11 : decode cX11_press 11 = .ok (.dup, 1) := zo_89 (zkb zk_cX11_press zn_cX11_press rfl)
theorem dX11_press_12 : decode cX11_press 12 = .ok (.ldc 164, 2) := zo_18 (b1 := 164) (zkb2 zk_cX11_press zn_cX11_press rfl)
theorem dX11_press_14 : decode cX11_press 14 = .ok (.invokespecial 99, 3) := zo_183 (b1 := 0) (b2 := 99) (zkb3 zk_cX11_press zn_cX11_press rfl) rfl
theorem dX11_press_17 : decode cX11_press 17 = .ok (.athrow, 1) := zo_191 (zkb zk_cX11_press zn_cX11_press rfl)
theorem dX11_press_18 : decode cX11_press 18 = .ok (.aload_n 0, 1) := zo_42 (zkb zk_cX11_press zn_cX11_press rfl)
theorem dX11_press_19 : decode cX11_press 19 = .ok (.getfield 57, 3) := zo_180 (b1 := 0) (b2 := 57) (zkb3 zk_cX11_press zn_cX11_press rfl) rfl
theorem dX11_press_22 : decode cX11_press 22 = .ok (.iload_n 1, 1) := zo_27 (zkb zk_cX11_press zn_cX11_press rfl)
theorem dX11_press_23 : decode cX11_press 23 = .ok (.iload_n 2, 1) := zo_28 (zkb zk_cX11_press zn_cX11_press rfl)
theorem dX11_press_24 : decode cX11_press 24 = .ok (.invokevirtual 166, 3) := zo_182 (b1 := 0) (b2 := 166) (zkb3 zk_cX11_press zn_cX11_press rfl) rfl
theorem dX11_press_27 : decode cX11_press 27 = .ok (.return_, 1) := zo_177 (zkb zk_cX11_press zn_cX11_press rfl)
noncomputable def kn_cX11_start : Nat := 0xb1aa00b61b3900b42a
theorem zk_cX11_start : zkd cX11_start.data.toList kn_cX11_start = true := by decide +kernel
theorem zn_cX11_start : cX11_start.data.toList.length = 9 := by decide +kernel
theorem dX11_start_0 : decode cX11_start 0 = .ok (.aload_n 0, 1) := zo_42 (zkb zk_cX11_start zn_cX11_start rfl)
theorem dX11_start_1 : decode cX11_start 1 = .ok (.getfield 57, 3) := zo_180 (b1 := 0) (b2 := 57) (zkb3 zk_cX11_start zn_cX11_start rfl) rfl
theorem dX11_start_4 : decode cX11_start 4 = .ok (.iload_n 1, 1) := zo_27 (zkb zk_cX11_start zn_cX11_start rfl)
theorem dX11_start_5 : decode cX11_start 5 = .ok (.invokevirtual 170, 3) := zo_182 (b1 := 0) (b2 := 170) (zkb3 zk_cX11_start zn_cX11_start rfl) rfl
theorem dX11_start_8 : decode cX11_start 8 = .ok (.return_, 1) := zo_177 (zkb zk_cX11_start zn_cX11_start rfl)
noncomputable def kn_cX11_line : Nat := 0xb1b000b61c1b3900b42abf6300b7ae12595f00bb0d00a4041b08009b1b
theorem zk_cX11_line : zkd cX11_line.data.toList kn_cX11_line = true := by decide +kernel
theorem zn_cX11_line : cX11_line.data.toList.length = 29 := by decide +kernel
theorem dX11_line_0 : decode cX11_line 0 = .ok (.iload_n 1, 1) := zo_27 (zkb zk_cX11_line zn_cX11_line rfl)
theorem dX11_line_1 : decode cX11_line 1 = .ok (.ifCond .lt 8, 3) := zo_155 (b1 := 0) (b2 := 8) (zkb3 zk_cX11_line zn_cX11_line rfl) rfl
theorem dX11_line_4 : decode cX11_line 4 = .ok (.iload_n 1, 1) := zo_27 (zkb zk_cX11_line zn_cX11_line rfl)
theorem dX11_line_5 : decode cX11_line 5 = .ok (.iconst 1, 1) := zo_4 (zkb zk_cX11_line zn_cX11_line rfl)
theorem dX11_line_6 : decode cX11_line 6 = .ok (.if_icmp .le 13, 3) := zo_164 (b1 := 0) (b2 := 13) (zkb3 zk_cX11_line zn_cX11_line rfl) rfl
theorem dX11_line_9 : decode cX11_line 9 = .ok (.new 95, 3) := zo_187 (b1 := 0) (b2 := 95) (zkb3 zk_cX11_line zn_cX11_line rfl) rfl
theorem dX11_line_12 : decode cX11_line 12 = .ok (.dup, 1) := zo_89 (zkb zk_cX11_line zn_cX11_line rfl)
theorem dX11_line_13 : decode cX11_line 13 = .ok (.ldc 174, 2) := zo_18 (b1 := 174) (zkb2 zk_cX11_line zn_cX11_line rfl)
theorem dX11_line_15 : decode cX11_line 15 = .ok (.invokespecial 99, 3) := zo_183 (b1 := 0) (b2 := 99) (zkb3 zk_cX11_line zn_cX11_line rfl) rfl
theorem dX11_line_18 : decode cX11_line 18 = .ok (.athrow, 1) := zo_191 (zkb zk_cX11_line zn_cX11_line rfl)
theorem dX11_line_19 : decode cX11_line 19 = .ok (.aload_n 0, 1) := zo_42 (zkb zk_cX11_line zn_cX11_line rfl)
theorem dX11_line_20 : decode cX11_line 20 = .ok (.getfield 57, 3) := zo_180 (b1 := 0) (b2 := 57) (zkb3 zk_cX11_line zn_cX11_line rfl) rfl
theorem dX11_line_23 : decode cX11_line 23 = .ok (.iload_n 1, 1) := zo_27 (zkb zk_cX11_line zn_cX11_line rfl)
theorem dX11_line_24 : decode cX11_line 24 = .ok (.iload_n 2, 1) := zo_28 (zkb zk_cX11_line zn_cX11_line rfl)
theorem dX11_line_25 : decode cX11_line 25 = .ok (.invokevirtual 176, 3) := zo_182 (b1 := 0) (b2 := 176) (zkb3 zk_cX11_line zn_cX11_line rfl) rfl
theorem dX11_line_28 : decode cX11_line 28 = .ok (.return_, 1) := zo_177 (zkb zk_cX11_line zn_cX11_line rfl)
noncomputable def kn_cX11_plan : Nat := 0xacbe00b61d1c1b5200b42abf6f00b7bc12596b00bb0d00a1000111b900b65200b42abf6300b7b712595f00bb0d009aa000b81d1c0b00a1b400b65200b42a1b
theorem zk_cX11_plan : zkd cX11_plan.data.toList kn_cX11_plan = true := by decide +kernel
theorem zn_cX11_plan : cX11_plan.data.toList.length = 63 := by decide +kernel
theorem dX11_plan_0 : decode cX11_plan 0 = .ok (.iload_n 1, 1) := zo_27 (zkb zk_cX11_plan zn_cX11_plan rfl)
theorem dX11_plan_1 : decode cX11_plan 1 = .ok (.aload_n 0, 1) := zo_42 (zkb zk_cX11_plan zn_cX11_plan rfl)
theorem dX11_plan_2 : decode cX11_plan 2 = .ok (.getfield 82, 3) := zo_180 (b1 := 0) (b2 := 82) (zkb3 zk_cX11_plan zn_cX11_plan rfl) rfl
theorem dX11_plan_5 : decode cX11_plan 5 = .ok (.invokevirtual 180, 3) := zo_182 (b1 := 0) (b2 := 180) (zkb3 zk_cX11_plan zn_cX11_plan rfl) rfl
theorem dX11_plan_8 : decode cX11_plan 8 = .ok (.if_icmp .lt 11, 3) := zo_161 (b1 := 0) (b2 := 11) (zkb3 zk_cX11_plan zn_cX11_plan rfl) rfl
theorem dX11_plan_11 : decode cX11_plan 11 = .ok (.iload_n 2, 1) := zo_28 (zkb zk_cX11_plan zn_cX11_plan rfl)
theorem dX11_plan_12 : decode cX11_plan 12 = .ok (.iload_n 3, 1) := zo_29 (zkb zk_cX11_plan zn_cX11_plan rfl)
theorem dX11_plan_13 : decode cX11_plan 13 = .ok (.invokestatic 160, 3) := zo_184 (b1 := 0) (b2 := 160) (zkb3 zk_cX11_plan zn_cX11_plan rfl) rfl
theorem dX11_plan_16 : decode cX11_plan 16 = .ok (.ifCond .ne 13, 3) := zo_154 (b1 := 0) (b2 := 13) (zkb3 zk_cX11_plan zn_cX11_plan rfl) rfl
theorem dX11_plan_19 : decode cX11_plan 19 = .ok (.new 95, 3) := zo_187 (b1 := 0) (b2 := 95) (zkb3 zk_cX11_plan zn_cX11_plan rfl) rfl
theorem dX11_plan_22 : decode cX11_plan 22 = .ok (.dup, 1) := zo_89 (zkb zk_cX11_plan zn_cX11_plan rfl)
theorem dX11_plan_23 : decode cX11_plan 23 = .ok (.ldc 183, 2) := zo_18 (b1 := 183) (zkb2 zk_cX11_plan zn_cX11_plan rfl)
theorem dX11_plan_25 : decode cX11_plan 25 = .ok (.invokespecial 99, 3) := zo_183 (b1 := 0) (b2 := 99) (zkb3 zk_cX11_plan zn_cX11_plan rfl) rfl
theorem dX11_plan_28 : decode cX11_plan 28 = .ok (.athrow, 1) := zo_191 (zkb zk_cX11_plan zn_cX11_plan rfl)
theorem dX11_plan_29 : decode cX11_plan 29 = .ok (.aload_n 0, 1) := zo_42 (zkb zk_cX11_plan zn_cX11_plan rfl)
theorem dX11_plan_30 : decode cX11_plan 30 = .ok (.getfield 82, 3) := zo_180 (b1 := 0) (b2 := 82) (zkb3 zk_cX11_plan zn_cX11_plan rfl) rfl
theorem dX11_plan_33 : decode cX11_plan 33 = .ok (.invokevirtual 185, 3) := zo_182 (b1 := 0) (b2 := 185) (zkb3 zk_cX11_plan zn_cX11_plan rfl) rfl
theorem dX11_plan_36 : decode cX11_plan 36 = .ok (.sipush 256, 3) := zo_17 (b1 := 1) (b2 := 0) (zkb3 zk_cX11_plan zn_cX11_plan rfl) rfl
theorem dX11_plan_39 : decode cX11_plan 39 = .ok (.if_icmp .lt 13, 3) := zo_161 (b1 := 0) (b2 := 13) (zkb3 zk_cX11_plan zn_cX11_plan rfl) rfl
theorem dX11_plan_42 : decode cX11_plan 42 = .ok (.new 107, 3) := zo_187 (b1 := 0) (b2 := 107) (zkb3 zk_cX11_plan zn_cX11_plan rfl) rfl
theorem dX11_plan_45 : decode cX11_plan 45 = .ok (.dup, 1) := zo_89 (zkb zk_cX11_plan zn_cX11_plan rfl)
theorem dX11_plan_46 : decode cX11_plan 46 = .ok (.ldc 188, 2) := zo_18 (b1 := 188) (zkb2 zk_cX11_plan zn_cX11_plan rfl)
theorem dX11_plan_48 : decode cX11_plan 48 = .ok (.invokespecial 111, 3) := zo_183 (b1 := 0) (b2 := 111) (zkb3 zk_cX11_plan zn_cX11_plan rfl) rfl
theorem dX11_plan_51 : decode cX11_plan 51 = .ok (.athrow, 1) := zo_191 (zkb zk_cX11_plan zn_cX11_plan rfl)
theorem dX11_plan_52 : decode cX11_plan 52 = .ok (.aload_n 0, 1) := zo_42 (zkb zk_cX11_plan zn_cX11_plan rfl)
theorem dX11_plan_53 : decode cX11_plan 53 = .ok (.getfield 82, 3) := zo_180 (b1 := 0) (b2 := 82) (zkb3 zk_cX11_plan zn_cX11_plan rfl) rfl
theorem dX11_plan_56 : decode cX11_plan 56 = .ok (.iload_n 1, 1) := zo_27 (zkb zk_cX11_plan zn_cX11_plan rfl)
theorem dX11_plan_57 : decode cX11_plan 57 = .ok (.iload_n 2, 1) := zo_28 (zkb zk_cX11_plan zn_cX11_plan rfl)
theorem dX11_plan_58 : decode cX11_plan 58 = .ok (.iload_n 3, 1) := zo_29 (zkb zk_cX11_plan zn_cX11_plan rfl)
theorem dX11_plan_59 : decode cX11_plan 59 = .ok (.invokevirtual 190, 3) := zo_182 (b1 := 0) (b2 := 190) (zkb3 zk_cX11_plan zn_cX11_plan rfl) rfl
theorem dX11_plan_62 : decode cX11_plan 62 = .ok (.ireturn, 1) := zo_172 (zkb zk_cX11_plan zn_cX11_plan rfl)
noncomputable def kn_cX11_tell : Nat := 0xacc200b61b5b00b42a
theorem zk_cX11_tell : zkd cX11_tell.data.toList kn_cX11_tell = true := by decide +kernel
theorem zn_cX11_tell : cX11_tell.data.toList.length = 9 := by decide +kernel
theorem dX11_tell_0 : decode cX11_tell 0 = .ok (.aload_n 0, 1) := zo_42 (zkb zk_cX11_tell zn_cX11_tell rfl)
theorem dX11_tell_1 : decode cX11_tell 1 = .ok (.getfield 91, 3) := zo_180 (b1 := 0) (b2 := 91) (zkb3 zk_cX11_tell zn_cX11_tell rfl) rfl
theorem dX11_tell_4 : decode cX11_tell 4 = .ok (.iload_n 1, 1) := zo_27 (zkb zk_cX11_tell zn_cX11_tell rfl)
theorem dX11_tell_5 : decode cX11_tell 5 = .ok (.invokevirtual 194, 3) := zo_182 (b1 := 0) (b2 := 194) (zkb3 zk_cX11_tell zn_cX11_tell rfl) rfl
theorem dX11_tell_8 : decode cX11_tell 8 = .ok (.ireturn, 1) := zo_172 (zkb zk_cX11_tell zn_cX11_tell rfl)
noncomputable def kn_cX11_text : Nat := 0xadcd00b61b5b00b42abfcc00b7ca1259c800bb0d00a1c500b45b00b42a1b0e009b1b
theorem zk_cX11_text : zkd cX11_text.data.toList kn_cX11_text = true := by decide +kernel
theorem zn_cX11_text : cX11_text.data.toList.length = 34 := by decide +kernel
theorem dX11_text_0 : decode cX11_text 0 = .ok (.iload_n 1, 1) := zo_27 (zkb zk_cX11_text zn_cX11_text rfl)
theorem dX11_text_1 : decode cX11_text 1 = .ok (.ifCond .lt 14, 3) := zo_155 (b1 := 0) (b2 := 14) (zkb3 zk_cX11_text zn_cX11_text rfl) rfl
theorem dX11_text_4 : decode cX11_text 4 = .ok (.iload_n 1, 1) := zo_27 (zkb zk_cX11_text zn_cX11_text rfl)
theorem dX11_text_5 : decode cX11_text 5 = .ok (.aload_n 0, 1) := zo_42 (zkb zk_cX11_text zn_cX11_text rfl)
theorem dX11_text_6 : decode cX11_text 6 = .ok (.getfield 91, 3) := zo_180 (b1 := 0) (b2 := 91) (zkb3 zk_cX11_text zn_cX11_text rfl) rfl
theorem dX11_text_9 : decode cX11_text 9 = .ok (.getfield 197, 3) := zo_180 (b1 := 0) (b2 := 197) (zkb3 zk_cX11_text zn_cX11_text rfl) rfl
theorem dX11_text_12 : decode cX11_text 12 = .ok (.if_icmp .lt 13, 3) := zo_161 (b1 := 0) (b2 := 13) (zkb3 zk_cX11_text zn_cX11_text rfl) rfl
theorem dX11_text_15 : decode cX11_text 15 = .ok (.new 200, 3) := zo_187 (b1 := 0) (b2 := 200) (zkb3 zk_cX11_text zn_cX11_text rfl) rfl
theorem dX11_text_18 : decode cX11_text 18 = .ok (.dup, 1) := zo_89 (zkb zk_cX11_text zn_cX11_text rfl)
theorem dX11_text_19 : decode cX11_text 19 = .ok (.ldc 202, 2) := zo_18 (b1 := 202) (zkb2 zk_cX11_text zn_cX11_text rfl)
theorem dX11_text_21 : decode cX11_text 21 = .ok (.invokespecial 204, 3) := zo_183 (b1 := 0) (b2 := 204) (zkb3 zk_cX11_text zn_cX11_text rfl) rfl
theorem dX11_text_24 : decode cX11_text 24 = .ok (.athrow, 1) := zo_191 (zkb zk_cX11_text zn_cX11_text rfl)
theorem dX11_text_25 : decode cX11_text 25 = .ok (.aload_n 0, 1) := zo_42 (zkb zk_cX11_text zn_cX11_text rfl)
theorem dX11_text_26 : decode cX11_text 26 = .ok (.getfield 91, 3) := zo_180 (b1 := 0) (b2 := 91) (zkb3 zk_cX11_text zn_cX11_text rfl) rfl
theorem dX11_text_29 : decode cX11_text 29 = .ok (.iload_n 1, 1) := zo_27 (zkb zk_cX11_text zn_cX11_text rfl)
theorem dX11_text_30 : decode cX11_text 30 = .ok (.invokevirtual 205, 3) := zo_182 (b1 := 0) (b2 := 205) (zkb3 zk_cX11_text zn_cX11_text rfl) rfl
theorem dX11_text_33 : decode cX11_text 33 = .ok (.lreturn, 1) := zo_173 (zkb zk_cX11_text zn_cX11_text rfl)
noncomputable def kn_cX11_stop : Nat := 0xacd900b61c1b5200b42abf6f00b7d712596b00bb0d00a10810d400b61b5200b42abf6300b7d212595f00bb0d00a4d1121b09009b1b
theorem zk_cX11_stop : zkd cX11_stop.data.toList kn_cX11_stop = true := by decide +kernel
theorem zn_cX11_stop : cX11_stop.data.toList.length = 53 := by decide +kernel
theorem dX11_stop_0 : decode cX11_stop 0 = .ok (.iload_n 1, 1) := zo_27 (zkb zk_cX11_stop zn_cX11_stop rfl)
theorem dX11_stop_1 : decode cX11_stop 1 = .ok (.ifCond .lt 9, 3) := zo_155 (b1 := 0) (b2 := 9) (zkb3 zk_cX11_stop zn_cX11_stop rfl) rfl
theorem dX11_stop_4 : decode cX11_stop 4 = .ok (.iload_n 1, 1) := zo_27 (zkb zk_cX11_stop zn_cX11_stop rfl)
theorem dX11_stop_5 : decode cX11_stop 5 = .ok (.ldc 209, 2) := zo_18 (b1 := 209) (zkb2 zk_cX11_stop zn_cX11_stop rfl)
theorem dX11_stop_7 : decode cX11_stop 7 = .ok (.if_icmp .le 13, 3) := zo_164 (b1 := 0) (b2 := 13) (zkb3 zk_cX11_stop zn_cX11_stop rfl) rfl
theorem dX11_stop_10 : decode cX11_stop 10 = .ok (.new 95, 3) := zo_187 (b1 := 0) (b2 := 95) (zkb3 zk_cX11_stop zn_cX11_stop rfl) rfl
theorem dX11_stop_13 : decode cX11_stop 13 = .ok (.dup, 1) := zo_89 (zkb zk_cX11_stop zn_cX11_stop rfl)
theorem dX11_stop_14 : decode cX11_stop 14 = .ok (.ldc 210, 2) := zo_18 (b1 := 210) (zkb2 zk_cX11_stop zn_cX11_stop rfl)
theorem dX11_stop_16 : decode cX11_stop 16 = .ok (.invokespecial 99, 3) := zo_183 (b1 := 0) (b2 := 99) (zkb3 zk_cX11_stop zn_cX11_stop rfl) rfl
theorem dX11_stop_19 : decode cX11_stop 19 = .ok (.athrow, 1) := zo_191 (zkb zk_cX11_stop zn_cX11_stop rfl)
theorem dX11_stop_20 : decode cX11_stop 20 = .ok (.aload_n 0, 1) := zo_42 (zkb zk_cX11_stop zn_cX11_stop rfl)
theorem dX11_stop_21 : decode cX11_stop 21 = .ok (.getfield 82, 3) := zo_180 (b1 := 0) (b2 := 82) (zkb3 zk_cX11_stop zn_cX11_stop rfl) rfl
theorem dX11_stop_24 : decode cX11_stop 24 = .ok (.iload_n 1, 1) := zo_27 (zkb zk_cX11_stop zn_cX11_stop rfl)
theorem dX11_stop_25 : decode cX11_stop 25 = .ok (.invokevirtual 212, 3) := zo_182 (b1 := 0) (b2 := 212) (zkb3 zk_cX11_stop zn_cX11_stop rfl) rfl
theorem dX11_stop_28 : decode cX11_stop 28 = .ok (.bipush 8, 2) := zo_16 (b1 := 8) (zkb2 zk_cX11_stop zn_cX11_stop rfl) rfl
theorem dX11_stop_30 : decode cX11_stop 30 = .ok (.if_icmp .lt 13, 3) := zo_161 (b1 := 0) (b2 := 13) (zkb3 zk_cX11_stop zn_cX11_stop rfl) rfl
theorem dX11_stop_33 : decode cX11_stop 33 = .ok (.new 107, 3) := zo_187 (b1 := 0) (b2 := 107) (zkb3 zk_cX11_stop zn_cX11_stop rfl) rfl
theorem dX11_stop_36 : decode cX11_stop 36 = .ok (.dup, 1) := zo_89 (zkb zk_cX11_stop zn_cX11_stop rfl)
theorem dX11_stop_37 : decode cX11_stop 37 = .ok (.ldc 215, 2) := zo_18 (b1 := 215) (zkb2 zk_cX11_stop zn_cX11_stop rfl)
theorem dX11_stop_39 : decode cX11_stop 39 = .ok (.invokespecial 111, 3) := zo_183 (b1 := 0) (b2 := 111) (zkb3 zk_cX11_stop zn_cX11_stop rfl) rfl
theorem dX11_stop_42 : decode cX11_stop 42 = .ok (.athrow, 1) := zo_191 (zkb zk_cX11_stop zn_cX11_stop rfl)
theorem dX11_stop_43 : decode cX11_stop 43 = .ok (.aload_n 0, 1) := zo_42 (zkb zk_cX11_stop zn_cX11_stop rfl)
theorem dX11_stop_44 : decode cX11_stop 44 = .ok (.getfield 82, 3) := zo_180 (b1 := 0) (b2 := 82) (zkb3 zk_cX11_stop zn_cX11_stop rfl) rfl
theorem dX11_stop_47 : decode cX11_stop 47 = .ok (.iload_n 1, 1) := zo_27 (zkb zk_cX11_stop zn_cX11_stop rfl)
theorem dX11_stop_48 : decode cX11_stop 48 = .ok (.iload_n 2, 1) := zo_28 (zkb zk_cX11_stop zn_cX11_stop rfl)
theorem dX11_stop_49 : decode cX11_stop 49 = .ok (.invokevirtual 217, 3) := zo_182 (b1 := 0) (b2 := 217) (zkb3 zk_cX11_stop zn_cX11_stop rfl) rfl
theorem dX11_stop_52 : decode cX11_stop 52 = .ok (.ireturn, 1) := zo_172 (zkb zk_cX11_stop zn_cX11_stop rfl)
noncomputable def kn_cX11_save : Nat := 0xb18b00b5042ae700b65200b42ae600b64b00b42ae500b64200b42ae400b63900b42ae300b63000b42ae200b62900b42ae100b62200b42ae000b61900b42add00b61000b42a
theorem zk_cX11_save : zkd cX11_save.data.toList kn_cX11_save = true := by decide +kernel
theorem zn_cX11_save : cX11_save.data.toList.length = 69 := by decide +kernel
theorem dX11_save_0 : decode cX11_save 0 = .ok (.aload_n 0, 1) := zo_42 (zkb zk_cX11_save zn_cX11_save rfl)
theorem dX11_save_1 : decode cX11_save 1 = .ok (.getfield 16, 3) := zo_180 (b1 := 0) (b2 := 16) (zkb3 zk_cX11_save zn_cX11_save rfl) rfl
theorem dX11_save_4 : decode cX11_save 4 = .ok (.invokevirtual 221, 3) := zo_182 (b1 := 0) (b2 := 221) (zkb3 zk_cX11_save zn_cX11_save rfl) rfl
theorem dX11_save_7 : decode cX11_save 7 = .ok (.aload_n 0, 1) := zo_42 (zkb zk_cX11_save zn_cX11_save rfl)
theorem dX11_save_8 : decode cX11_save 8 = .ok (.getfield 25, 3) := zo_180 (b1 := 0) (b2 := 25) (zkb3 zk_cX11_save zn_cX11_save rfl) rfl
theorem dX11_save_11 : decode cX11_save 11 = .ok (.invokevirtual 224, 3) := zo_182 (b1 := 0) (b2 := 224) (zkb3 zk_cX11_save zn_cX11_save rfl) rfl
theorem dX11_save_14 : decode cX11_save 14 = .ok (.aload_n 0, 1) := zo_42 (zkb zk_cX11_save zn_cX11_save rfl)
theorem dX11_save_15 : decode cX11_save 15 = .ok (.getfield 34, 3) := zo_180 (b1 := 0) (b2 := 34) (zkb3 zk_cX11_save zn_cX11_save rfl) rfl
theorem dX11_save_18 : decode cX11_save 18 = .ok (.invokevirtual 225, 3) := zo_182 (b1 := 0) (b2 := 225) (zkb3 zk_cX11_save zn_cX11_save rfl) rfl
theorem dX11_save_21 : decode cX11_save 21 = .ok (.aload_n 0, 1) := zo_42 (zkb zk_cX11_save zn_cX11_save rfl)
theorem dX11_save_22 : decode cX11_save 22 = .ok (.getfield 41, 3) := zo_180 (b1 := 0) (b2 := 41) (zkb3 zk_cX11_save zn_cX11_save rfl) rfl
theorem dX11_save_25 : decode cX11_save 25 = .ok (.invokevirtual 226, 3) := zo_182 (b1 := 0) (b2 := 226) (zkb3 zk_cX11_save zn_cX11_save rfl) rfl
theorem dX11_save_28 : decode cX11_save 28 = .ok (.aload_n 0, 1) := zo_42 (zkb zk_cX11_save zn_cX11_save rfl)
theorem dX11_save_29 : decode cX11_save 29 = .ok (.getfield 48, 3) := zo_180 (b1 := 0) (b2 := 48) (zkb3 zk_cX11_save zn_cX11_save rfl) rfl
theorem dX11_save_32 : decode cX11_save 32 = .ok (.invokevirtual 227, 3) := zo_182 (b1 := 0) (b2 := 227) (zkb3 zk_cX11_save zn_cX11_save rfl) rfl
theorem dX11_save_35 : decode cX11_save 35 = .ok (.aload_n 0, 1) := zo_42 (zkb zk_cX11_save zn_cX11_save rfl)
theorem dX11_save_36 : decode cX11_save 36 = .ok (.getfield 57, 3) := zo_180 (b1 := 0) (b2 := 57) (zkb3 zk_cX11_save zn_cX11_save rfl) rfl
theorem dX11_save_39 : decode cX11_save 39 = .ok (.invokevirtual 228, 3) := zo_182 (b1 := 0) (b2 := 228) (zkb3 zk_cX11_save zn_cX11_save rfl) rfl
theorem dX11_save_42 : decode cX11_save 42 = .ok (.aload_n 0, 1) := zo_42 (zkb zk_cX11_save zn_cX11_save rfl)
theorem dX11_save_43 : decode cX11_save 43 = .ok (.getfield 66, 3) := zo_180 (b1 := 0) (b2 := 66) (zkb3 zk_cX11_save zn_cX11_save rfl) rfl
theorem dX11_save_46 : decode cX11_save 46 = .ok (.invokevirtual 229, 3) := zo_182 (b1 := 0) (b2 := 229) (zkb3 zk_cX11_save zn_cX11_save rfl) rfl
theorem dX11_save_49 : decode cX11_save 49 = .ok (.aload_n 0, 1) := zo_42 (zkb zk_cX11_save zn_cX11_save rfl)
theorem dX11_save_50 : decode cX11_save 50 = .ok (.getfield 75, 3) := zo_180 (b1 := 0) (b2 := 75) (zkb3 zk_cX11_save zn_cX11_save rfl) rfl
theorem dX11_save_53 : decode cX11_save 53 = .ok (.invokevirtual 230, 3) := zo_182 (b1 := 0) (b2 := 230) (zkb3 zk_cX11_save zn_cX11_save rfl) rfl
theorem dX11_save_56 : decode cX11_save 56 = .ok (.aload_n 0, 1) := zo_42 (zkb zk_cX11_save zn_cX11_save rfl)
theorem dX11_save_57 : decode cX11_save 57 = .ok (.getfield 82, 3) := zo_180 (b1 := 0) (b2 := 82) (zkb3 zk_cX11_save zn_cX11_save rfl) rfl
theorem dX11_save_60 : decode cX11_save 60 = .ok (.invokevirtual 231, 3) := zo_182 (b1 := 0) (b2 := 231) (zkb3 zk_cX11_save zn_cX11_save rfl) rfl
theorem dX11_save_63 : decode cX11_save 63 = .ok (.aload_n 0, 1) := zo_42 (zkb zk_cX11_save zn_cX11_save rfl)
theorem dX11_save_64 : decode cX11_save 64 = .ok (.iconst 1, 1) := zo_4 (zkb zk_cX11_save zn_cX11_save rfl)
theorem dX11_save_65 : decode cX11_save 65 = .ok (.putfield 139, 3) := zo_181 (b1 := 0) (b2 := 139) (zkb3 zk_cX11_save zn_cX11_save rfl) rfl
theorem dX11_save_68 : decode cX11_save 68 = .ok (.return_, 1) := zo_177 (zkb zk_cX11_save zn_cX11_save rfl)
noncomputable def kn_cX11_restore : Nat := 0xb1f400b65200b42af300b64b00b42af200b64200b42af100b63900b42af000b63000b42aef00b62900b42aee00b62200b42aed00b61900b42aea00b61000b42abf6f00b7e812596b00bb0d009a8b00b42a
theorem zk_cX11_restore : zkd cX11_restore.data.toList kn_cX11_restore = true := by decide +kernel
theorem zn_cX11_restore : cX11_restore.data.toList.length = 81 := by decide +kernel
theorem dX11_restore_0 : decode cX11_restore 0 = .ok (.aload_n 0, 1) := zo_42 (zkb zk_cX11_restore zn_cX11_restore rfl)
theorem dX11_restore_1 : decode cX11_restore 1 = .ok (.getfield 139, 3) := zo_180 (b1 := 0) (b2 := 139) (zkb3 zk_cX11_restore zn_cX11_restore rfl) rfl
theorem dX11_restore_4 : decode cX11_restore 4 = .ok (.ifCond .ne 13, 3) := zo_154 (b1 := 0) (b2 := 13) (zkb3 zk_cX11_restore zn_cX11_restore rfl) rfl
theorem dX11_restore_7 : decode cX11_restore 7 = .ok (.new 107, 3) := zo_187 (b1 := 0) (b2 := 107) (zkb3 zk_cX11_restore zn_cX11_restore rfl) rfl
theorem dX11_restore_10 : decode cX11_restore 10 = .ok (.dup, 1) := zo_89 (zkb zk_cX11_restore zn_cX11_restore rfl)
theorem dX11_restore_11 : decode cX11_restore 11 = .ok (.ldc 232, 2) := zo_18 (b1 := 232) (zkb2 zk_cX11_restore zn_cX11_restore rfl)
theorem dX11_restore_13 : decode cX11_restore 13 = .ok (.invokespecial 111, 3) := zo_183 (b1 := 0) (b2 := 111) (zkb3 zk_cX11_restore zn_cX11_restore rfl) rfl
theorem dX11_restore_16 : decode cX11_restore 16 = .ok (.athrow, 1) := zo_191 (zkb zk_cX11_restore zn_cX11_restore rfl)
theorem dX11_restore_17 : decode cX11_restore 17 = .ok (.aload_n 0, 1) := zo_42 (zkb zk_cX11_restore zn_cX11_restore rfl)
theorem dX11_restore_18 : decode cX11_restore 18 = .ok (.getfield 16, 3) := zo_180 (b1 := 0) (b2 := 16) (zkb3 zk_cX11_restore zn_cX11_restore rfl) rfl
theorem dX11_restore_21 : decode cX11_restore 21 = .ok (.invokevirtual 234, 3) := zo_182 (b1 := 0) (b2 := 234) (zkb3 zk_cX11_restore zn_cX11_restore rfl) rfl
theorem dX11_restore_24 : decode cX11_restore 24 = .ok (.aload_n 0, 1) := zo_42 (zkb zk_cX11_restore zn_cX11_restore rfl)
theorem dX11_restore_25 : decode cX11_restore 25 = .ok (.getfield 25, 3) := zo_180 (b1 := 0) (b2 := 25) (zkb3 zk_cX11_restore zn_cX11_restore rfl) rfl
theorem dX11_restore_28 : decode cX11_restore 28 = .ok (.invokevirtual 237, 3) := zo_182 (b1 := 0) (b2 := 237) (zkb3 zk_cX11_restore zn_cX11_restore rfl) rfl
theorem dX11_restore_31 : decode cX11_restore 31 = .ok (.aload_n 0, 1) := zo_42 (zkb zk_cX11_restore zn_cX11_restore rfl)
theorem dX11_restore_32 : decode cX11_restore 32 = .ok (.getfield 34, 3) := zo_180 (b1 := 0) (b2 := 34) (zkb3 zk_cX11_restore zn_cX11_restore rfl) rfl
theorem dX11_restore_35 : decode cX11_restore 35 = .ok (.invokevirtual 238, 3) := zo_182 (b1 := 0) (b2 := 238) (zkb3 zk_cX11_restore zn_cX11_restore rfl) rfl
theorem dX11_restore_38 : decode cX11_restore 38 = .ok (.aload_n 0, 1) := zo_42 (zkb zk_cX11_restore zn_cX11_restore rfl)
theorem dX11_restore_39 : decode cX11_restore 39 = .ok (.getfield 41, 3) := zo_180 (b1 := 0) (b2 := 41) (zkb3 zk_cX11_restore zn_cX11_restore rfl) rfl
theorem dX11_restore_42 : decode cX11_restore 42 = .ok (.invokevirtual 239, 3) := zo_182 (b1 := 0) (b2 := 239) (zkb3 zk_cX11_restore zn_cX11_restore rfl) rfl
theorem dX11_restore_45 : decode cX11_restore 45 = .ok (.aload_n 0, 1) := zo_42 (zkb zk_cX11_restore zn_cX11_restore rfl)
theorem dX11_restore_46 : decode cX11_restore 46 = .ok (.getfield 48, 3) := zo_180 (b1 := 0) (b2 := 48) (zkb3 zk_cX11_restore zn_cX11_restore rfl) rfl
theorem dX11_restore_49 : decode cX11_restore 49 = .ok (.invokevirtual 240, 3) := zo_182 (b1 := 0) (b2 := 240) (zkb3 zk_cX11_restore zn_cX11_restore rfl) rfl
theorem dX11_restore_52 : decode cX11_restore 52 = .ok (.aload_n 0, 1) := zo_42 (zkb zk_cX11_restore zn_cX11_restore rfl)
theorem dX11_restore_53 : decode cX11_restore 53 = .ok (.getfield 57, 3) := zo_180 (b1 := 0) (b2 := 57) (zkb3 zk_cX11_restore zn_cX11_restore rfl) rfl
theorem dX11_restore_56 : decode cX11_restore 56 = .ok (.invokevirtual 241, 3) := zo_182 (b1 := 0) (b2 := 241) (zkb3 zk_cX11_restore zn_cX11_restore rfl) rfl
theorem dX11_restore_59 : decode cX11_restore 59 = .ok (.aload_n 0, 1) := zo_42 (zkb zk_cX11_restore zn_cX11_restore rfl)
theorem dX11_restore_60 : decode cX11_restore 60 = .ok (.getfield 66, 3) := zo_180 (b1 := 0) (b2 := 66) (zkb3 zk_cX11_restore zn_cX11_restore rfl) rfl
theorem dX11_restore_63 : decode cX11_restore 63 = .ok (.invokevirtual 242, 3) := zo_182 (b1 := 0) (b2 := 242) (zkb3 zk_cX11_restore zn_cX11_restore rfl) rfl
theorem dX11_restore_66 : decode cX11_restore 66 = .ok (.aload_n 0, 1) := zo_42 (zkb zk_cX11_restore zn_cX11_restore rfl)
theorem dX11_restore_67 : decode cX11_restore 67 = .ok (.getfield 75, 3) := zo_180 (b1 := 0) (b2 := 75) (zkb3 zk_cX11_restore zn_cX11_restore rfl) rfl
theorem dX11_restore_70 : decode cX11_restore 70 = .ok (.invokevirtual 243, 3) := zo_182 (b1 := 0) (b2 := 243) (zkb3 zk_cX11_restore zn_cX11_restore rfl) rfl
theorem dX11_restore_73 : decode cX11_restore 73 = .ok (.aload_n 0, 1) := zo_42 (zkb zk_cX11_restore zn_cX11_restore rfl)
theorem dX11_restore_74 : decode cX11_restore 74 = .ok (.getfield 82, 3) := zo_180 (b1 := 0) (b2 := 82) (zkb3 zk_cX11_restore zn_cX11_restore rfl) rfl
theorem dX11_restore_77 : decode cX11_restore 77 = .ok (.invokevirtual 244, 3) := zo_182 (b1 := 0) (b2 := 244) (zkb3 zk_cX11_restore zn_cX11_restore rfl) rfl
theorem dX11_restore_80 : decode cX11_restore 80 = .ok (.return_, 1) := zo_177 (zkb zk_cX11_restore zn_cX11_restore rfl)
noncomputable def kn_cX11_register : Nat := 0xacf700b61b4200b42abf6300b7f512595f00bb0d00a41a101b09009b1b
theorem zk_cX11_register : zkd cX11_register.data.toList kn_cX11_register = true := by decide +kernel
theorem zn_cX11_register : cX11_register.data.toList.length = 29 := by decide +kernel
theorem dX11_register_0 : decode cX11_register 0 = .ok (.iload_n 1, 1) := zo_27 (zkb zk_cX11_register zn_cX11_register rfl)
theorem dX11_register_1 : decode cX11_register 1 = .ok (.ifCond .lt 9, 3) := zo_155 (b1 := 0) (b2 := 9) (zkb3 zk_cX11_register zn_cX11_register rfl) rfl
theorem dX11_register_4 : decode cX11_register 4 = .ok (.iload_n 1, 1) := zo_27 (zkb zk_cX11_register zn_cX11_register rfl)
theorem dX11_register_5 : decode cX11_register 5 = .ok (.bipush 26, 2) := zo_16 (b1 := 26) (zkb2 zk_cX11_register zn_cX11_register rfl) rfl
theorem dX11_register_7 : decode cX11_register 7 = .ok (.if_icmp .le 13, 3) := zo_164 (b1 := 0) (b2 := 13) (zkb3 zk_cX11_register zn_cX11_register rfl) rfl
theorem dX11_register_10 : decode cX11_register 10 = .ok (.new 95, 3) := zo_187 (b1 := 0) (b2 := 95) (zkb3 zk_cX11_register zn_cX11_register rfl) rfl
theorem dX11_register_13 : decode cX11_register 13 = .ok (.dup, 1) := zo_89 (zkb zk_cX11_register zn_cX11_register rfl)
theorem dX11_register_14 : decode cX11_register 14 = .ok (.ldc 245, 2) := zo_18 (b1 := 245) (zkb2 zk_cX11_register zn_cX11_register rfl)
theorem dX11_register_16 : decode cX11_register 16 = .ok (.invokespecial 99, 3) := zo_183 (b1 := 0) (b2 := 99) (zkb3 zk_cX11_register zn_cX11_register rfl) rfl
theorem dX11_register_19 : decode cX11_register 19 = .ok (.athrow, 1) := zo_191 (zkb zk_cX11_register zn_cX11_register rfl)
theorem dX11_register_20 : decode cX11_register 20 = .ok (.aload_n 0, 1) := zo_42 (zkb zk_cX11_register zn_cX11_register rfl)
theorem dX11_register_21 : decode cX11_register 21 = .ok (.getfield 66, 3) := zo_180 (b1 := 0) (b2 := 66) (zkb3 zk_cX11_register zn_cX11_register rfl) rfl
theorem dX11_register_24 : decode cX11_register 24 = .ok (.iload_n 1, 1) := zo_27 (zkb zk_cX11_register zn_cX11_register rfl)
theorem dX11_register_25 : decode cX11_register 25 = .ok (.invokevirtual 247, 3) := zo_182 (b1 := 0) (b2 := 247) (zkb3 zk_cX11_register zn_cX11_register rfl) rfl
theorem dX11_register_28 : decode cX11_register 28 = .ok (.ireturn, 1) := zo_172 (zkb zk_cX11_register zn_cX11_register rfl)
noncomputable def kn_cX11_peek : Nat := 0xacfd00b67ed1121b1000b42a
theorem zk_cX11_peek : zkd cX11_peek.data.toList kn_cX11_peek = true := by decide +kernel
theorem zn_cX11_peek : cX11_peek.data.toList.length = 12 := by decide +kernel
theorem dX11_peek_0 : decode cX11_peek 0 = .ok (.aload_n 0, 1) := zo_42 (zkb zk_cX11_peek zn_cX11_peek rfl)
theorem dX11_peek_1 : decode cX11_peek 1 = .ok (.getfield 16, 3) := zo_180 (b1 := 0) (b2 := 16) (zkb3 zk_cX11_peek zn_cX11_peek rfl) rfl
theorem dX11_peek_4 : decode cX11_peek 4 = .ok (.iload_n 1, 1) := zo_27 (zkb zk_cX11_peek zn_cX11_peek rfl)
theorem dX11_peek_5 : decode cX11_peek 5 = .ok (.ldc 209, 2) := zo_18 (b1 := 209) (zkb2 zk_cX11_peek zn_cX11_peek rfl)
theorem dX11_peek_7 : decode cX11_peek 7 = .ok (.iand, 1) := zo_126 (zkb zk_cX11_peek zn_cX11_peek rfl)
theorem dX11_peek_8 : decode cX11_peek 8 = .ok (.invokevirtual 253, 3) := zo_182 (b1 := 0) (b2 := 253) (zkb3 zk_cX11_peek zn_cX11_peek rfl) rfl
theorem dX11_peek_11 : decode cX11_peek 11 = .ok (.ireturn, 1) := zo_172 (zkb zk_cX11_peek zn_cX11_peek rfl)
noncomputable def kn_cX11_poke : Nat := 0xb10001b67eff00111c7ed1121b1000b42a
theorem zk_cX11_poke : zkd cX11_poke.data.toList kn_cX11_poke = true := by decide +kernel
theorem zn_cX11_poke : cX11_poke.data.toList.length = 17 := by decide +kernel
theorem dX11_poke_0 : decode cX11_poke 0 = .ok (.aload_n 0, 1) := zo_42 (zkb zk_cX11_poke zn_cX11_poke rfl)
theorem dX11_poke_1 : decode cX11_poke 1 = .ok (.getfield 16, 3) := zo_180 (b1 := 0) (b2 := 16) (zkb3 zk_cX11_poke zn_cX11_poke rfl) rfl
theorem dX11_poke_4 : decode cX11_poke 4 = .ok (.iload_n 1, 1) := zo_27 (zkb zk_cX11_poke zn_cX11_poke rfl)
theorem dX11_poke_5 : decode cX11_poke 5 = .ok (.ldc 209, 2) := zo_18 (b1 := 209) (zkb2 zk_cX11_poke zn_cX11_poke rfl)
theorem dX11_poke_7 : decode cX11_poke 7 = .ok (.iand, 1) := zo_126 (zkb zk_cX11_poke zn_cX11_poke rfl)
theorem dX11_poke_8 : decode cX11_poke 8 = .ok (.iload_n 2, 1) := zo_28 (zkb zk_cX11_poke zn_cX11_poke rfl)
theorem dX11_poke_9 : decode cX11_poke 9 = .ok (.sipush 255, 3) := zo_17 (b1 := 0) (b2 := 255) (zkb3 zk_cX11_poke zn_cX11_poke rfl) rfl
theorem dX11_poke_12 : decode cX11_poke 12 = .ok (.iand, 1) := zo_126 (zkb zk_cX11_poke zn_cX11_poke rfl)
theorem dX11_poke_13 : decode cX11_poke 13 = .ok (.invokevirtual 256, 3) := zo_182 (b1 := 1) (b2 := 0) (zkb3 zk_cX11_poke zn_cX11_poke rfl) rfl
theorem dX11_poke_16 : decode cX11_poke 16 = .ok (.return_, 1) := zo_177 (zkb zk_cX11_poke zn_cX11_poke rfl)
noncomputable def kn_cX11_in : Nat := 0xac0201b67eff00111b3900b42a
theorem zk_cX11_in : zkd cX11_in.data.toList kn_cX11_in = true := by decide +kernel
theorem zn_cX11_in : cX11_in.data.toList.length = 13 := by decide +kernel
theorem dX11_in_0 : decode cX11_in 0 = .ok (.aload_n 0, 1) := zo_42 (zkb zk_cX11_in zn_cX11_in rfl)
theorem dX11_in_1 : decode cX11_in 1 = .ok (.getfield 57, 3) := zo_180 (b1 := 0) (b2 := 57) (zkb3 zk_cX11_in zn_cX11_in rfl) rfl
theorem dX11_in_4 : decode cX11_in 4 = .ok (.iload_n 1, 1) := zo_27 (zkb zk_cX11_in zn_cX11_in rfl)
theorem dX11_in_5 : decode cX11_in 5 = .ok (.sipush 255, 3) := zo_17 (b1 := 0) (b2 := 255) (zkb3 zk_cX11_in zn_cX11_in rfl) rfl
theorem dX11_in_8 : decode cX11_in 8 = .ok (.iand, 1) := zo_126 (zkb zk_cX11_in zn_cX11_in rfl)
theorem dX11_in_9 : decode cX11_in 9 = .ok (.invokevirtual 258, 3) := zo_182 (b1 := 1) (b2 := 2) (zkb3 zk_cX11_in zn_cX11_in rfl) rfl
theorem dX11_in_12 : decode cX11_in 12 = .ok (.ireturn, 1) := zo_172 (zkb zk_cX11_in zn_cX11_in rfl)
noncomputable def kn_cX11_out : Nat := 0xb10301b67eff00111c7eff00111b3900b42a
theorem zk_cX11_out : zkd cX11_out.data.toList kn_cX11_out = true := by decide +kernel
theorem zn_cX11_out : cX11_out.data.toList.length = 18 := by decide +kernel
theorem dX11_out_0 : decode cX11_out 0 = .ok (.aload_n 0, 1) := zo_42 (zkb zk_cX11_out zn_cX11_out rfl)
theorem dX11_out_1 : decode cX11_out 1 = .ok (.getfield 57, 3) := zo_180 (b1 := 0) (b2 := 57) (zkb3 zk_cX11_out zn_cX11_out rfl) rfl
theorem dX11_out_4 : decode cX11_out 4 = .ok (.iload_n 1, 1) := zo_27 (zkb zk_cX11_out zn_cX11_out rfl)
theorem dX11_out_5 : decode cX11_out 5 = .ok (.sipush 255, 3) := zo_17 (b1 := 0) (b2 := 255) (zkb3 zk_cX11_out zn_cX11_out rfl) rfl
theorem dX11_out_8 : decode cX11_out 8 = .ok (.iand, 1) := zo_126 (zkb zk_cX11_out zn_cX11_out rfl)
theorem dX11_out_9 : decode cX11_out 9 = .ok (.iload_n 2, 1) := zo_28 (zkb zk_cX11_out zn_cX11_out rfl)
theorem dX11_out_10 : decode cX11_out 10 = .ok (.sipush 255, 3) := zo_17 (b1 := 0) (b2 := 255) (zkb3 zk_cX11_out zn_cX11_out rfl) rfl
theorem dX11_out_13 : decode cX11_out 13 = .ok (.iand, 1) := zo_126 (zkb zk_cX11_out zn_cX11_out rfl)
theorem dX11_out_14 : decode cX11_out 14 = .ok (.invokevirtual 259, 3) := zo_182 (b1 := 1) (b2 := 3) (zkb3 zk_cX11_out zn_cX11_out rfl) rfl
theorem dX11_out_17 : decode cX11_out 17 = .ok (.return_, 1) := zo_177 (zkb zk_cX11_out zn_cX11_out rfl)
noncomputable def kn_cX11_wipe : Nat := 0xb10a01b61000b42a
theorem zk_cX11_wipe : zkd cX11_wipe.data.toList kn_cX11_wipe = true := by decide +kernel
theorem zn_cX11_wipe : cX11_wipe.data.toList.length = 8 := by decide +kernel
theorem dX11_wipe_0 : decode cX11_wipe 0 = .ok (.aload_n 0, 1) := zo_42 (zkb zk_cX11_wipe zn_cX11_wipe rfl)
theorem dX11_wipe_1 : decode cX11_wipe 1 = .ok (.getfield 16, 3) := zo_180 (b1 := 0) (b2 := 16) (zkb3 zk_cX11_wipe zn_cX11_wipe rfl) rfl
theorem dX11_wipe_4 : decode cX11_wipe 4 = .ok (.invokevirtual 266, 3) := zo_182 (b1 := 1) (b2 := 10) (zkb3 zk_cX11_wipe zn_cX11_wipe rfl) rfl
theorem dX11_wipe_7 : decode cX11_wipe 7 = .ok (.return_, 1) := zo_177 (zkb zk_cX11_wipe zn_cX11_wipe rfl)
noncomputable def kn_cX11_video : Nat := 0xad0d01b61b1900b42a
theorem zk_cX11_video : zkd cX11_video.data.toList kn_cX11_video = true := by decide +kernel
theorem zn_cX11_video : cX11_video.data.toList.length = 9 := by decide +kernel
theorem dX11_video_0 : decode cX11_video 0 = .ok (.aload_n 0, 1) := zo_42 (zkb zk_cX11_video zn_cX11_video rfl)
theorem dX11_video_1 : decode cX11_video 1 = .ok (.getfield 25, 3) := zo_180 (b1 := 0) (b2 := 25) (zkb3 zk_cX11_video zn_cX11_video rfl) rfl
theorem dX11_video_4 : decode cX11_video 4 = .ok (.iload_n 1, 1) := zo_27 (zkb zk_cX11_video zn_cX11_video rfl)
theorem dX11_video_5 : decode cX11_video 5 = .ok (.invokevirtual 269, 3) := zo_182 (b1 := 1) (b2 := 13) (zkb3 zk_cX11_video zn_cX11_video rfl) rfl
theorem dX11_video_8 : decode cX11_video 8 = .ok (.lreturn, 1) := zo_173 (zkb zk_cX11_video zn_cX11_video rfl)
noncomputable def kn_cX11_trace : Nat := 0xac4001b61b5200b42a
theorem zk_cX11_trace : zkd cX11_trace.data.toList kn_cX11_trace = true := by decide +kernel
theorem zn_cX11_trace : cX11_trace.data.toList.length = 9 := by decide +kernel
theorem dX11_trace_0 : decode cX11_trace 0 = .ok (.aload_n 0, 1) := zo_42 (zkb zk_cX11_trace zn_cX11_trace rfl)
theorem dX11_trace_1 : decode cX11_trace 1 = .ok (.getfield 82, 3) := zo_180 (b1 := 0) (b2 := 82) (zkb3 zk_cX11_trace zn_cX11_trace rfl) rfl
theorem dX11_trace_4 : decode cX11_trace 4 = .ok (.iload_n 1, 1) := zo_27 (zkb zk_cX11_trace zn_cX11_trace rfl)
theorem dX11_trace_5 : decode cX11_trace 5 = .ok (.invokevirtual 320, 3) := zo_182 (b1 := 1) (b2 := 64) (zkb3 zk_cX11_trace zn_cX11_trace rfl) rfl
theorem dX11_trace_8 : decode cX11_trace 8 = .ok (.ireturn, 1) := zo_172 (zkb zk_cX11_trace zn_cX11_trace rfl)
noncomputable def kn_cX11_clearAll : Nat := 0xb15b01b64200b42a5a01b63900b42a5901b63000b42a5801b62900b42a5501b61900b42a5201b61000b42a
theorem zk_cX11_clearAll : zkd cX11_clearAll.data.toList kn_cX11_clearAll = true := by decide +kernel
theorem zn_cX11_clearAll : cX11_clearAll.data.toList.length = 43 := by decide +kernel
theorem dX11_clearAll_0 : decode cX11_clearAll 0 = .ok (.aload_n 0, 1) := zo_42 (zkb zk_cX11_clearAll zn_cX11_clearAll rfl)
theorem dX11_clearAll_1 : decode cX11_clearAll 1 = .ok (.getfield 16, 3) := zo_180 (b1 := 0) (b2 := 16) (zkb3 zk_cX11_clearAll zn_cX11_clearAll rfl) rfl
theorem dX11_clearAll_4 : decode cX11_clearAll 4 = .ok (.invokevirtual 338, 3) := zo_182 (b1 := 1) (b2 := 82) (zkb3 zk_cX11_clearAll zn_cX11_clearAll rfl) rfl
theorem dX11_clearAll_7 : decode cX11_clearAll 7 = .ok (.aload_n 0, 1) := zo_42 (zkb zk_cX11_clearAll zn_cX11_clearAll rfl)
theorem dX11_clearAll_8 : decode cX11_clearAll 8 = .ok (.getfield 25, 3) := zo_180 (b1 := 0) (b2 := 25) (zkb3 zk_cX11_clearAll zn_cX11_clearAll rfl) rfl
theorem dX11_clearAll_11 : decode cX11_clearAll 11 = .ok (.invokevirtual 341, 3) := zo_182 (b1 := 1) (b2 := 85) (zkb3 zk_cX11_clearAll zn_cX11_clearAll rfl) rfl
theorem dX11_clearAll_14 : decode cX11_clearAll 14 = .ok (.aload_n 0, 1) := zo_42 (zkb zk_cX11_clearAll zn_cX11_clearAll rfl)
theorem dX11_clearAll_15 : decode cX11_clearAll 15 = .ok (.getfield 41, 3) := zo_180 (b1 := 0) (b2 := 41) (zkb3 zk_cX11_clearAll zn_cX11_clearAll rfl) rfl
theorem dX11_clearAll_18 : decode cX11_clearAll 18 = .ok (.invokevirtual 344, 3) := zo_182 (b1 := 1) (b2 := 88) (zkb3 zk_cX11_clearAll zn_cX11_clearAll rfl) rfl
theorem dX11_clearAll_21 : decode cX11_clearAll 21 = .ok (.aload_n 0, 1) := zo_42 (zkb zk_cX11_clearAll zn_cX11_clearAll rfl)
theorem dX11_clearAll_22 : decode cX11_clearAll 22 = .ok (.getfield 48, 3) := zo_180 (b1 := 0) (b2 := 48) (zkb3 zk_cX11_clearAll zn_cX11_clearAll rfl) rfl
theorem dX11_clearAll_25 : decode cX11_clearAll 25 = .ok (.invokevirtual 345, 3) := zo_182 (b1 := 1) (b2 := 89) (zkb3 zk_cX11_clearAll zn_cX11_clearAll rfl) rfl
theorem dX11_clearAll_28 : decode cX11_clearAll 28 = .ok (.aload_n 0, 1) := zo_42 (zkb zk_cX11_clearAll zn_cX11_clearAll rfl)
theorem dX11_clearAll_29 : decode cX11_clearAll 29 = .ok (.getfield 57, 3) := zo_180 (b1 := 0) (b2 := 57) (zkb3 zk_cX11_clearAll zn_cX11_clearAll rfl) rfl
theorem dX11_clearAll_32 : decode cX11_clearAll 32 = .ok (.invokevirtual 346, 3) := zo_182 (b1 := 1) (b2 := 90) (zkb3 zk_cX11_clearAll zn_cX11_clearAll rfl) rfl
theorem dX11_clearAll_35 : decode cX11_clearAll 35 = .ok (.aload_n 0, 1) := zo_42 (zkb zk_cX11_clearAll zn_cX11_clearAll rfl)
theorem dX11_clearAll_36 : decode cX11_clearAll 36 = .ok (.getfield 66, 3) := zo_180 (b1 := 0) (b2 := 66) (zkb3 zk_cX11_clearAll zn_cX11_clearAll rfl) rfl
theorem dX11_clearAll_39 : decode cX11_clearAll 39 = .ok (.invokevirtual 347, 3) := zo_182 (b1 := 1) (b2 := 91) (zkb3 zk_cX11_clearAll zn_cX11_clearAll rfl) rfl
theorem dX11_clearAll_42 : decode cX11_clearAll 42 = .ok (.return_, 1) := zo_177 (zkb zk_cX11_clearAll zn_cX11_clearAll rfl)
noncomputable def kn_cX11_run : Nat := 0xac05158bffa70105847301b607154b00b42a7001b62a0700996d01b607151900b42a07366a01b64200b42a0c009a071507366601b66201b61900b42a4200b42a5f01b606155200b42a4900a70600995c01b606155200b42a12009e05150636f700b613104200b42a68009c94214501b6054b00b42a7500a21b05150536034261851c4501b6054b00b42a
theorem zk_cX11_run : zkd cX11_run.data.toList kn_cX11_run = true := by decide +kernel
theorem zn_cX11_run : cX11_run.data.toList.length = 138 := by decide +kernel
theorem dX11_run_0 : decode cX11_run 0 = .ok (.aload_n 0, 1) := zo_42 (zkb zk_cX11_run zn_cX11_run rfl)
theorem dX11_run_1 : decode cX11_run 1 = .ok (.getfield 75, 3) := zo_180 (b1 := 0) (b2 := 75) (zkb3 zk_cX11_run zn_cX11_run rfl) rfl
theorem dX11_run_4 : decode cX11_run 4 = .ok (.iconst 2, 1) := zo_5 (zkb zk_cX11_run zn_cX11_run rfl)
theorem dX11_run_5 : decode cX11_run 5 = .ok (.invokevirtual 325, 3) := zo_182 (b1 := 1) (b2 := 69) (zkb3 zk_cX11_run zn_cX11_run rfl) rfl
theorem dX11_run_8 : decode cX11_run 8 = .ok (.iload_n 2, 1) := zo_28 (zkb zk_cX11_run zn_cX11_run rfl)
theorem dX11_run_9 : decode cX11_run 9 = .ok (.i2l, 1) := zo_133 (zkb zk_cX11_run zn_cX11_run rfl)
theorem dX11_run_10 : decode cX11_run 10 = .ok (.ladd, 1) := zo_97 (zkb zk_cX11_run zn_cX11_run rfl)
theorem dX11_run_11 : decode cX11_run 11 = .ok (.lstore_n 3, 1) := zo_66 (zkb zk_cX11_run zn_cX11_run rfl)
theorem dX11_run_12 : decode cX11_run 12 = .ok (.iconst 0, 1) := zo_3 (zkb zk_cX11_run zn_cX11_run rfl)
theorem dX11_run_13 : decode cX11_run 13 = .ok (.istore 5, 2) := zo_54 (b1 := 5) (zkb2 zk_cX11_run zn_cX11_run rfl)
theorem dX11_run_15 : decode cX11_run 15 = .ok (.iload 5, 2) := zo_21 (b1 := 5) (zkb2 zk_cX11_run zn_cX11_run rfl)
theorem dX11_run_17 : decode cX11_run 17 = .ok (.iload_n 1, 1) := zo_27 (zkb zk_cX11_run zn_cX11_run rfl)
theorem dX11_run_18 : decode cX11_run 18 = .ok (.if_icmp .ge 117, 3) := zo_162 (b1 := 0) (b2 := 117) (zkb3 zk_cX11_run zn_cX11_run rfl) rfl
theorem dX11_run_21 : decode cX11_run 21 = .ok (.aload_n 0, 1) := zo_42 (zkb zk_cX11_run zn_cX11_run rfl)
theorem dX11_run_22 : decode cX11_run 22 = .ok (.getfield 75, 3) := zo_180 (b1 := 0) (b2 := 75) (zkb3 zk_cX11_run zn_cX11_run rfl) rfl
theorem dX11_run_25 : decode cX11_run 25 = .ok (.iconst 2, 1) := zo_5 (zkb zk_cX11_run zn_cX11_run rfl)
theorem dX11_run_26 : decode cX11_run 26 = .ok (.invokevirtual 325, 3) := zo_182 (b1 := 1) (b2 := 69) (zkb3 zk_cX11_run zn_cX11_run rfl) rfl
theorem dX11_run_29 : decode cX11_run 29 = .ok (.lload_n 3, 1) := zo_33 (zkb zk_cX11_run zn_cX11_run rfl)
theorem dX11_run_30 : decode cX11_run 30 = .ok (.lcmp, 1) := zo_148 (zkb zk_cX11_run zn_cX11_run rfl)
theorem dX11_run_31 : decode cX11_run 31 = .ok (.ifCond .ge 104, 3) := zo_156 (b1 := 0) (b2 := 104) (zkb3 zk_cX11_run zn_cX11_run rfl) rfl
theorem dX11_run_34 : decode cX11_run 34 = .ok (.aload_n 0, 1) := zo_42 (zkb zk_cX11_run zn_cX11_run rfl)
theorem dX11_run_35 : decode cX11_run 35 = .ok (.getfield 66, 3) := zo_180 (b1 := 0) (b2 := 66) (zkb3 zk_cX11_run zn_cX11_run rfl) rfl
theorem dX11_run_38 : decode cX11_run 38 = .ok (.bipush 19, 2) := zo_16 (b1 := 19) (zkb2 zk_cX11_run zn_cX11_run rfl) rfl
theorem dX11_run_40 : decode cX11_run 40 = .ok (.invokevirtual 247, 3) := zo_182 (b1 := 0) (b2 := 247) (zkb3 zk_cX11_run zn_cX11_run rfl) rfl
theorem dX11_run_43 : decode cX11_run 43 = .ok (.istore 6, 2) := zo_54 (b1 := 6) (zkb2 zk_cX11_run zn_cX11_run rfl)
theorem dX11_run_45 : decode cX11_run 45 = .ok (.iload 5, 2) := zo_21 (b1 := 5) (zkb2 zk_cX11_run zn_cX11_run rfl)
theorem dX11_run_47 : decode cX11_run 47 = .ok (.ifCond .le 18, 3) := zo_158 (b1 := 0) (b2 := 18) (zkb3 zk_cX11_run zn_cX11_run rfl) rfl
theorem dX11_run_50 : decode cX11_run 50 = .ok (.aload_n 0, 1) := zo_42 (zkb zk_cX11_run zn_cX11_run rfl)
theorem dX11_run_51 : decode cX11_run 51 = .ok (.getfield 82, 3) := zo_180 (b1 := 0) (b2 := 82) (zkb3 zk_cX11_run zn_cX11_run rfl) rfl
theorem dX11_run_54 : decode cX11_run 54 = .ok (.iload 6, 2) := zo_21 (b1 := 6) (zkb2 zk_cX11_run zn_cX11_run rfl)
theorem dX11_run_56 : decode cX11_run 56 = .ok (.invokevirtual 348, 3) := zo_182 (b1 := 1) (b2 := 92) (zkb3 zk_cX11_run zn_cX11_run rfl) rfl
theorem dX11_run_59 : decode cX11_run 59 = .ok (.ifCond .eq 6, 3) := zo_153 (b1 := 0) (b2 := 6) (zkb3 zk_cX11_run zn_cX11_run rfl) rfl
theorem dX11_run_62 : decode cX11_run 62 = .ok (.goto 73, 3) := zo_167 (b1 := 0) (b2 := 73) (zkb3 zk_cX11_run zn_cX11_run rfl) rfl
theorem dX11_run_65 : decode cX11_run 65 = .ok (.aload_n 0, 1) := zo_42 (zkb zk_cX11_run zn_cX11_run rfl)
theorem dX11_run_66 : decode cX11_run 66 = .ok (.getfield 82, 3) := zo_180 (b1 := 0) (b2 := 82) (zkb3 zk_cX11_run zn_cX11_run rfl) rfl
theorem dX11_run_69 : decode cX11_run 69 = .ok (.iload 6, 2) := zo_21 (b1 := 6) (zkb2 zk_cX11_run zn_cX11_run rfl)
theorem dX11_run_71 : decode cX11_run 71 = .ok (.invokevirtual 351, 3) := zo_182 (b1 := 1) (b2 := 95) (zkb3 zk_cX11_run zn_cX11_run rfl) rfl
theorem dX11_run_74 : decode cX11_run 74 = .ok (.aload_n 0, 1) := zo_42 (zkb zk_cX11_run zn_cX11_run rfl)
theorem dX11_run_75 : decode cX11_run 75 = .ok (.getfield 66, 3) := zo_180 (b1 := 0) (b2 := 66) (zkb3 zk_cX11_run zn_cX11_run rfl) rfl
theorem dX11_run_78 : decode cX11_run 78 = .ok (.aload_n 0, 1) := zo_42 (zkb zk_cX11_run zn_cX11_run rfl)
theorem dX11_run_79 : decode cX11_run 79 = .ok (.getfield 25, 3) := zo_180 (b1 := 0) (b2 := 25) (zkb3 zk_cX11_run zn_cX11_run rfl) rfl
theorem dX11_run_82 : decode cX11_run 82 = .ok (.invokevirtual 354, 3) := zo_182 (b1 := 1) (b2 := 98) (zkb3 zk_cX11_run zn_cX11_run rfl) rfl
theorem dX11_run_85 : decode cX11_run 85 = .ok (.invokevirtual 358, 3) := zo_182 (b1 := 1) (b2 := 102) (zkb3 zk_cX11_run zn_cX11_run rfl) rfl
theorem dX11_run_88 : decode cX11_run 88 = .ok (.istore 7, 2) := zo_54 (b1 := 7) (zkb2 zk_cX11_run zn_cX11_run rfl)
theorem dX11_run_90 : decode cX11_run 90 = .ok (.iload 7, 2) := zo_21 (b1 := 7) (zkb2 zk_cX11_run zn_cX11_run rfl)
theorem dX11_run_92 : decode cX11_run 92 = .ok (.ifCond .ne 12, 3) := zo_154 (b1 := 0) (b2 := 12) (zkb3 zk_cX11_run zn_cX11_run rfl) rfl
theorem dX11_run_95 : decode cX11_run 95 = .ok (.aload_n 0, 1) := zo_42 (zkb zk_cX11_run zn_cX11_run rfl)
theorem dX11_run_96 : decode cX11_run 96 = .ok (.getfield 66, 3) := zo_180 (b1 := 0) (b2 := 66) (zkb3 zk_cX11_run zn_cX11_run rfl) rfl
theorem dX11_run_99 : decode cX11_run 99 = .ok (.invokevirtual 362, 3) := zo_182 (b1 := 1) (b2 := 106) (zkb3 zk_cX11_run zn_cX11_run rfl) rfl
theorem dX11_run_102 : decode cX11_run 102 = .ok (.istore 7, 2) := zo_54 (b1 := 7) (zkb2 zk_cX11_run zn_cX11_run rfl)
theorem dX11_run_104 : decode cX11_run 104 = .ok (.aload_n 0, 1) := zo_42 (zkb zk_cX11_run zn_cX11_run rfl)
theorem dX11_run_105 : decode cX11_run 105 = .ok (.getfield 25, 3) := zo_180 (b1 := 0) (b2 := 25) (zkb3 zk_cX11_run zn_cX11_run rfl) rfl
theorem dX11_run_108 : decode cX11_run 108 = .ok (.iload 7, 2) := zo_21 (b1 := 7) (zkb2 zk_cX11_run zn_cX11_run rfl)
theorem dX11_run_110 : decode cX11_run 110 = .ok (.invokevirtual 365, 3) := zo_182 (b1 := 1) (b2 := 109) (zkb3 zk_cX11_run zn_cX11_run rfl) rfl
theorem dX11_run_113 : decode cX11_run 113 = .ok (.ifCond .eq 7, 3) := zo_153 (b1 := 0) (b2 := 7) (zkb3 zk_cX11_run zn_cX11_run rfl) rfl
theorem dX11_run_116 : decode cX11_run 116 = .ok (.aload_n 0, 1) := zo_42 (zkb zk_cX11_run zn_cX11_run rfl)
theorem dX11_run_117 : decode cX11_run 117 = .ok (.invokevirtual 368, 3) := zo_182 (b1 := 1) (b2 := 112) (zkb3 zk_cX11_run zn_cX11_run rfl) rfl
theorem dX11_run_120 : decode cX11_run 120 = .ok (.aload_n 0, 1) := zo_42 (zkb zk_cX11_run zn_cX11_run rfl)
theorem dX11_run_121 : decode cX11_run 121 = .ok (.getfield 75, 3) := zo_180 (b1 := 0) (b2 := 75) (zkb3 zk_cX11_run zn_cX11_run rfl) rfl
theorem dX11_run_124 : decode cX11_run 124 = .ok (.iload 7, 2) := zo_21 (b1 := 7) (zkb2 zk_cX11_run zn_cX11_run rfl)
theorem dX11_run_126 : decode cX11_run 126 = .ok (.invokevirtual 371, 3) := zo_182 (b1 := 1) (b2 := 115) (zkb3 zk_cX11_run zn_cX11_run rfl) rfl
theorem dX11_run_129 : decode cX11_run 129 = .ok (.iinc 5 1, 3) := zo_132 (b1 := 5) (b2 := 1) (zkb3 zk_cX11_run zn_cX11_run rfl) rfl
theorem dX11_run_132 : decode cX11_run 132 = .ok (.goto (-117), 3) := zo_167 (b1 := 255) (b2 := 139) (zkb3 zk_cX11_run zn_cX11_run rfl) rfl
theorem dX11_run_135 : decode cX11_run 135 = .ok (.iload 5, 2) := zo_21 (b1 := 5) (zkb2 zk_cX11_run zn_cX11_run rfl)
theorem dX11_run_137 : decode cX11_run 137 = .ok (.ireturn, 1) := zo_172 (zkb zk_cX11_run zn_cX11_run rfl)
noncomputable def kn_cX11_endLine : Nat := 0xb18301b63900b42a4501b6054b00b42a5200b42a8001b64b00b42a1d00997d01b61900b42a7a01b62200b42a0a00a27901b61900b42a7601b614101900b42a
theorem zk_cX11_endLine : zkd cX11_endLine.data.toList kn_cX11_endLine = true := by decide +kernel
theorem zn_cX11_endLine : cX11_endLine.data.toList.length = 63 := by decide +kernel
theorem dX11_endLine_0 : decode cX11_endLine 0 = .ok (.aload_n 0, 1) := zo_42 (zkb zk_cX11_endLine zn_cX11_endLine rfl)
theorem dX11_endLine_1 : decode cX11_endLine 1 = .ok (.getfield 25, 3) := zo_180 (b1 := 0) (b2 := 25) (zkb3 zk_cX11_endLine zn_cX11_endLine rfl) rfl
theorem dX11_endLine_4 : decode cX11_endLine 4 = .ok (.bipush 20, 2) := zo_16 (b1 := 20) (zkb2 zk_cX11_endLine zn_cX11_endLine rfl) rfl
theorem dX11_endLine_6 : decode cX11_endLine 6 = .ok (.invokevirtual 374, 3) := zo_182 (b1 := 1) (b2 := 118) (zkb3 zk_cX11_endLine zn_cX11_endLine rfl) rfl
theorem dX11_endLine_9 : decode cX11_endLine 9 = .ok (.aload_n 0, 1) := zo_42 (zkb zk_cX11_endLine zn_cX11_endLine rfl)
theorem dX11_endLine_10 : decode cX11_endLine 10 = .ok (.getfield 25, 3) := zo_180 (b1 := 0) (b2 := 25) (zkb3 zk_cX11_endLine zn_cX11_endLine rfl) rfl
theorem dX11_endLine_13 : decode cX11_endLine 13 = .ok (.invokevirtual 377, 3) := zo_182 (b1 := 1) (b2 := 121) (zkb3 zk_cX11_endLine zn_cX11_endLine rfl) rfl
theorem dX11_endLine_16 : decode cX11_endLine 16 = .ok (.if_icmp .ge 10, 3) := zo_162 (b1 := 0) (b2 := 10) (zkb3 zk_cX11_endLine zn_cX11_endLine rfl) rfl
theorem dX11_endLine_19 : decode cX11_endLine 19 = .ok (.aload_n 0, 1) := zo_42 (zkb zk_cX11_endLine zn_cX11_endLine rfl)
theorem dX11_endLine_20 : decode cX11_endLine 20 = .ok (.getfield 34, 3) := zo_180 (b1 := 0) (b2 := 34) (zkb3 zk_cX11_endLine zn_cX11_endLine rfl) rfl
theorem dX11_endLine_23 : decode cX11_endLine 23 = .ok (.invokevirtual 378, 3) := zo_182 (b1 := 1) (b2 := 122) (zkb3 zk_cX11_endLine zn_cX11_endLine rfl) rfl
theorem dX11_endLine_26 : decode cX11_endLine 26 = .ok (.aload_n 0, 1) := zo_42 (zkb zk_cX11_endLine zn_cX11_endLine rfl)
theorem dX11_endLine_27 : decode cX11_endLine 27 = .ok (.getfield 25, 3) := zo_180 (b1 := 0) (b2 := 25) (zkb3 zk_cX11_endLine zn_cX11_endLine rfl) rfl
theorem dX11_endLine_30 : decode cX11_endLine 30 = .ok (.invokevirtual 381, 3) := zo_182 (b1 := 1) (b2 := 125) (zkb3 zk_cX11_endLine zn_cX11_endLine rfl) rfl
theorem dX11_endLine_33 : decode cX11_endLine 33 = .ok (.ifCond .eq 29, 3) := zo_153 (b1 := 0) (b2 := 29) (zkb3 zk_cX11_endLine zn_cX11_endLine rfl) rfl
theorem dX11_endLine_36 : decode cX11_endLine 36 = .ok (.aload_n 0, 1) := zo_42 (zkb zk_cX11_endLine zn_cX11_endLine rfl)
theorem dX11_endLine_37 : decode cX11_endLine 37 = .ok (.getfield 75, 3) := zo_180 (b1 := 0) (b2 := 75) (zkb3 zk_cX11_endLine zn_cX11_endLine rfl) rfl
theorem dX11_endLine_40 : decode cX11_endLine 40 = .ok (.invokevirtual 384, 3) := zo_182 (b1 := 1) (b2 := 128) (zkb3 zk_cX11_endLine zn_cX11_endLine rfl) rfl
theorem dX11_endLine_43 : decode cX11_endLine 43 = .ok (.aload_n 0, 1) := zo_42 (zkb zk_cX11_endLine zn_cX11_endLine rfl)
theorem dX11_endLine_44 : decode cX11_endLine 44 = .ok (.getfield 82, 3) := zo_180 (b1 := 0) (b2 := 82) (zkb3 zk_cX11_endLine zn_cX11_endLine rfl) rfl
theorem dX11_endLine_47 : decode cX11_endLine 47 = .ok (.aload_n 0, 1) := zo_42 (zkb zk_cX11_endLine zn_cX11_endLine rfl)
theorem dX11_endLine_48 : decode cX11_endLine 48 = .ok (.getfield 75, 3) := zo_180 (b1 := 0) (b2 := 75) (zkb3 zk_cX11_endLine zn_cX11_endLine rfl) rfl
theorem dX11_endLine_51 : decode cX11_endLine 51 = .ok (.iconst 2, 1) := zo_5 (zkb zk_cX11_endLine zn_cX11_endLine rfl)
theorem dX11_endLine_52 : decode cX11_endLine 52 = .ok (.invokevirtual 325, 3) := zo_182 (b1 := 1) (b2 := 69) (zkb3 zk_cX11_endLine zn_cX11_endLine rfl) rfl
theorem dX11_endLine_55 : decode cX11_endLine 55 = .ok (.aload_n 0, 1) := zo_42 (zkb zk_cX11_endLine zn_cX11_endLine rfl)
theorem dX11_endLine_56 : decode cX11_endLine 56 = .ok (.getfield 57, 3) := zo_180 (b1 := 0) (b2 := 57) (zkb3 zk_cX11_endLine zn_cX11_endLine rfl) rfl
theorem dX11_endLine_59 : decode cX11_endLine 59 = .ok (.invokevirtual 387, 3) := zo_182 (b1 := 1) (b2 := 131) (zkb3 zk_cX11_endLine zn_cX11_endLine rfl) rfl
theorem dX11_endLine_62 : decode cX11_endLine 62 = .ok (.return_, 1) := zo_177 (zkb zk_cX11_endLine zn_cX11_endLine rfl)
noncomputable def rmX8_blockPatterns : Room := { frames := 0, cells := 0, slots := 0, locals := 0 }
noncomputable def wzX8_blockPatterns : List Cond := .code yX8_blockPatterns cX8_blockPatterns 1 (some (.object "java/lang/String")) :: wsL_law
theorem hinX8_blockPatterns_X80 : ∀ w ∈ wsX80, w ∈ wzX8_blockPatterns := fun w h => List.mem_cons_of_mem _ (inlX8 w h)
noncomputable def fX8_blockPatterns_17  (σ : zSt) (s0 : Int32) : Option (zSt × Nat) :=
  if s0 = 0 then some (σ, 10) else
  if s0 = 1 then some (σ, 11) else
  if s0 = 2 then some (σ, 12) else
  if s0 = 3 then some (σ, 13) else
  some (σ, 0)
noncomputable def fX8_blockPatterns  (σ : zSt)  : Option (zSt × Nat) :=
  if 4 ≤ (zgi σ 10 6) then fX8_blockPatterns_17 σ (zgi σ 10 7) else
  fX8_blockPatterns_17 σ 7
set_option maxRecDepth 20000 in
set_option maxHeartbeats 4000000 in
theorem bX8_blockPatterns_17 {st : Nat → Nat} {p : Program} {l : Launch} {e : Env} {s : State} {m : MethodId} {args : Array Value} {below : List Frame} {meth : Method} {c : Code} {D : va_G} {A : Nat → Prop} {ad : Nat → Nat} {cy : Nat → ClassId} (hC : zC p m c cX8_blockPatterns 1 s args wzX8_blockPatterns RX8 meth (some (.object "java/lang/String")))  {res : zSt × Nat} {H : Heap} {locs : List Loc} {σ : zSt} {ls : Array Slot} {s0 : Int32} (hI : zI st D (tC cy) (wC ad cy σ) A s H locs) (hl : lv_has ls 1 []) (hf : fX8_blockPatterns_17  σ s0 = some res) : W p l e rmX8_blockPatterns s m args below meth c H locs 0 0 (zQk st below args s D (tC cy) (wC ad cy) A res) (F0 m 17 ls [.int s0]) := by
  have hx := hC.1
  have hb := hC.2.1
  unfold fX8_blockPatterns_17 at hf
  by_cases q0 : s0 = 0
  · replace hf := zif_t q0 hf
    refine lv_tableIn (tgt := 48) hx hb dX8_blockPatterns_17 (by rw [q0]; decide) (by rw [q0]; decide) (by rw [q0]; rfl) (by decide) ?_
    refine z_ldcS hC hI 10 (by decide) rfl rfl dX8_blockPatterns_48 ?_
    exact z_areturn hC hI hf dX8_blockPatterns_50
  replace hf := zif_f q0 hf
  by_cases q1 : s0 = 1
  · replace hf := zif_t q1 hf
    refine lv_tableIn (tgt := 51) hx hb dX8_blockPatterns_17 (by rw [q1]; decide) (by rw [q1]; decide) (by rw [q1]; rfl) (by decide) ?_
    refine z_ldcS hC hI 11 (by decide) rfl rfl dX8_blockPatterns_51 ?_
    exact z_areturn hC hI hf dX8_blockPatterns_53
  replace hf := zif_f q1 hf
  by_cases q2 : s0 = 2
  · replace hf := zif_t q2 hf
    refine lv_tableIn (tgt := 54) hx hb dX8_blockPatterns_17 (by rw [q2]; decide) (by rw [q2]; decide) (by rw [q2]; rfl) (by decide) ?_
    refine z_ldcS hC hI 12 (by decide) rfl rfl dX8_blockPatterns_54 ?_
    exact z_areturn hC hI hf dX8_blockPatterns_56
  replace hf := zif_f q2 hf
  by_cases q3 : s0 = 3
  · replace hf := zif_t q3 hf
    refine lv_tableIn (tgt := 57) hx hb dX8_blockPatterns_17 (by rw [q3]; decide) (by rw [q3]; decide) (by rw [q3]; rfl) (by decide) ?_
    refine z_ldcS hC hI 13 (by decide) rfl rfl dX8_blockPatterns_57 ?_
    exact z_areturn hC hI hf dX8_blockPatterns_59
  replace hf := zif_f q3 hf
  refine lv_tableOut (tgt := 60) hx hb dX8_blockPatterns_17 (zsw (fun k h1 h2 => by rcases (show k = 0 ∨ k = 1 ∨ k = 2 ∨ k = 3 by omega) with rfl | rfl | rfl | rfl <;> assumption)) (by decide) ?_
  refine z_ldcS hC hI 0 (by decide) rfl rfl dX8_blockPatterns_60 ?_
  exact z_areturn hC hI hf dX8_blockPatterns_62
set_option maxRecDepth 20000 in
set_option maxHeartbeats 4000000 in
theorem bX8_blockPatterns {st : Nat → Nat} {p : Program} {l : Launch} {e : Env} {s : State} {m : MethodId} {args : Array Value} {below : List Frame} {meth : Method} {c : Code} {D : va_G} {A : Nat → Prop} {ad : Nat → Nat} {cy : Nat → ClassId} (hC : zC p m c cX8_blockPatterns 1 s args wzX8_blockPatterns RX8 meth (some (.object "java/lang/String")))  {res : zSt × Nat} {H : Heap} {locs : List Loc} {σ : zSt} {ls : Array Slot}  (hI : zI st D (tC cy) (wC ad cy σ) A s H locs) (hl : lv_has ls 1 [(0, .ref (ad 10))]) (hf : fX8_blockPatterns  σ  = some res) : W p l e rmX8_blockPatterns s m args below meth c H locs 0 0 (zQk st below args s D (tC cy) (wC ad cy) A res) (F0 m 0 ls []) := by
  have hx := hC.1
  have hb := hC.2.1
  unfold fX8_blockPatterns at hf
  refine lv_aload_n hx hb dX8_blockPatterns_0 rfl (lv_at hl 0 rfl) ?_
  refine z_get hC hI hinX8_blockPatterns_X80 10 (wC_e10 ad cy σ) rfl 6 (by decide) (List.mem_cons_of_mem _ zw70_20) rfl dX8_blockPatterns_1 ?_
  refine lv_iconst (v := 4) hx hb dX8_blockPatterns_4 (by decide) ?_
  refine lv_icmp_ge (tgt := 13) hx hb dX8_blockPatterns_5 (by decide) (fun q => ?_) (fun q => ?_)
  · replace hf := zif_t q hf
    refine lv_aload_n hx hb dX8_blockPatterns_13 rfl (lv_at hl 0 rfl) ?_
    refine z_get hC hI hinX8_blockPatterns_X80 10 (wC_e10 ad cy σ) rfl 7 (by decide) (List.mem_cons_of_mem _ zw71_10) rfl dX8_blockPatterns_14 ?_
    exact bX8_blockPatterns_17 hC  hI (lv_sub hl [] rfl) hf
  replace hf := zif_f q hf
  refine lv_bipush (v := 7) hx hb dX8_blockPatterns_8 (by decide) ?_
  refine lv_goto (tgt := 17) hx hb dX8_blockPatterns_10 (by decide) ?_
  exact bX8_blockPatterns_17 hC  hI (lv_sub hl [] rfl) hf
set_option maxRecDepth 20000 in
theorem cX8_blockPatterns_met (st : Nat → Nat) (l : Launch) (D : va_G) (ad : Nat → Nat) (cy : Nat → ClassId) (σ : zSt)  (res : zSt × Nat) (hf : fX8_blockPatterns σ  = some res) (sz : Nat) : zMk st l yX8_blockPatterns wzX8_blockPatterns rmX8_blockPatterns [.ref (ad 10)] D (tC cy) (wC ad cy) sz σ res :=
  zMk.of (cc := cX8_blockPatterns) (maxL := 1) (ret := (some (.object "java/lang/String"))) (by decide) rfl (Nat.le_of_ble_eq_true rfl) (fun p e s m args below meth c hC A hI ls hl => bX8_blockPatterns hC hI hl hf)
theorem hdX8_blockPatterns : yX8_blockPatterns.cls = RX8 ∧ yX8_blockPatterns.cls ≠ "java/lang/invoke/MethodHandle" ∧ yX8_blockPatterns.cls ≠ "java/lang/invoke/VarHandle" ∧ (parseMethodDescriptor yX8_blockPatterns.desc).map (fun d => d.parameters.length) = some 0 := by decide +kernel
noncomputable def rmX8_morePatterns : Room := { frames := 0, cells := 0, slots := 0, locals := 0 }
noncomputable def wzX8_morePatterns : List Cond := .code yX8_morePatterns cX8_morePatterns 1 (some (.object "java/lang/String")) :: wsL_law
theorem hinX8_morePatterns_X80 : ∀ w ∈ wsX80, w ∈ wzX8_morePatterns := fun w h => List.mem_cons_of_mem _ (inlX8 w h)
noncomputable def fX8_morePatterns_114  (σ : zSt) (s0 : Nat) : Option (zSt × Nat) :=
  some (σ, s0)
noncomputable def fX8_morePatterns_89  (σ : zSt) (s0 : Nat) : Option (zSt × Nat) :=
  some (σ, s0)
noncomputable def fX8_morePatterns_72  (σ : zSt) (s0 : Nat) : Option (zSt × Nat) :=
  some (σ, s0)
noncomputable def fX8_morePatterns  (σ : zSt)  : Option (zSt × Nat) :=
  if (zgi σ 10 5) = 1 then if (zgi σ 10 7) = 0 then if (zgi σ 10 6) = 6 then fX8_morePatterns_72 σ 14 else
  fX8_morePatterns_72 σ 15 else
  if (zgi σ 10 7) = 1 then if (zgi σ 10 6) = 6 then fX8_morePatterns_89 σ 16 else
  fX8_morePatterns_89 σ 17 else
  if (zgi σ 10 7) = 2 then some (σ, 18) else
  if (zgi σ 10 7) = 3 then some (σ, 19) else
  if (zgi σ 10 7) = 4 then some (σ, 20) else
  if (zgi σ 10 7) = 5 then if (zgi σ 10 6) = 1 then fX8_morePatterns_114 σ 21 else
  fX8_morePatterns_114 σ 22 else
  if (zgi σ 10 7) = 6 then some (σ, 23) else
  some (σ, 24) else
  some (σ, 0)
set_option maxRecDepth 20000 in
set_option maxHeartbeats 4000000 in
theorem bX8_morePatterns_114 {st : Nat → Nat} {p : Program} {l : Launch} {e : Env} {s : State} {m : MethodId} {args : Array Value} {below : List Frame} {meth : Method} {c : Code} {D : va_G} {A : Nat → Prop} {ad : Nat → Nat} {cy : Nat → ClassId} (hC : zC p m c cX8_morePatterns 1 s args wzX8_morePatterns RX8 meth (some (.object "java/lang/String")))  {res : zSt × Nat} {H : Heap} {locs : List Loc} {σ : zSt} {ls : Array Slot} {s0 : Nat} (hI : zI st D (tC cy) (wC ad cy σ) A s H locs) (hl : lv_has ls 1 []) (hf : fX8_morePatterns_114  σ s0 = some res) : W p l e rmX8_morePatterns s m args below meth c H locs 0 0 (zQk st below args s D (tC cy) (wC ad cy) A res) (F0 m 114 ls [.ref (st (100 + s0))]) := by
  have hx := hC.1
  have hb := hC.2.1
  unfold fX8_morePatterns_114 at hf
  exact z_areturn hC hI hf dX8_morePatterns_114
set_option maxRecDepth 20000 in
set_option maxHeartbeats 4000000 in
theorem bX8_morePatterns_89 {st : Nat → Nat} {p : Program} {l : Launch} {e : Env} {s : State} {m : MethodId} {args : Array Value} {below : List Frame} {meth : Method} {c : Code} {D : va_G} {A : Nat → Prop} {ad : Nat → Nat} {cy : Nat → ClassId} (hC : zC p m c cX8_morePatterns 1 s args wzX8_morePatterns RX8 meth (some (.object "java/lang/String")))  {res : zSt × Nat} {H : Heap} {locs : List Loc} {σ : zSt} {ls : Array Slot} {s0 : Nat} (hI : zI st D (tC cy) (wC ad cy σ) A s H locs) (hl : lv_has ls 1 []) (hf : fX8_morePatterns_89  σ s0 = some res) : W p l e rmX8_morePatterns s m args below meth c H locs 0 0 (zQk st below args s D (tC cy) (wC ad cy) A res) (F0 m 89 ls [.ref (st (100 + s0))]) := by
  have hx := hC.1
  have hb := hC.2.1
  unfold fX8_morePatterns_89 at hf
  exact z_areturn hC hI hf dX8_morePatterns_89
set_option maxRecDepth 20000 in
set_option maxHeartbeats 4000000 in
theorem bX8_morePatterns_72 {st : Nat → Nat} {p : Program} {l : Launch} {e : Env} {s : State} {m : MethodId} {args : Array Value} {below : List Frame} {meth : Method} {c : Code} {D : va_G} {A : Nat → Prop} {ad : Nat → Nat} {cy : Nat → ClassId} (hC : zC p m c cX8_morePatterns 1 s args wzX8_morePatterns RX8 meth (some (.object "java/lang/String")))  {res : zSt × Nat} {H : Heap} {locs : List Loc} {σ : zSt} {ls : Array Slot} {s0 : Nat} (hI : zI st D (tC cy) (wC ad cy σ) A s H locs) (hl : lv_has ls 1 []) (hf : fX8_morePatterns_72  σ s0 = some res) : W p l e rmX8_morePatterns s m args below meth c H locs 0 0 (zQk st below args s D (tC cy) (wC ad cy) A res) (F0 m 72 ls [.ref (st (100 + s0))]) := by
  have hx := hC.1
  have hb := hC.2.1
  unfold fX8_morePatterns_72 at hf
  exact z_areturn hC hI hf dX8_morePatterns_72
set_option maxRecDepth 20000 in
set_option maxHeartbeats 4000000 in
theorem bX8_morePatterns {st : Nat → Nat} {p : Program} {l : Launch} {e : Env} {s : State} {m : MethodId} {args : Array Value} {below : List Frame} {meth : Method} {c : Code} {D : va_G} {A : Nat → Prop} {ad : Nat → Nat} {cy : Nat → ClassId} (hC : zC p m c cX8_morePatterns 1 s args wzX8_morePatterns RX8 meth (some (.object "java/lang/String")))  {res : zSt × Nat} {H : Heap} {locs : List Loc} {σ : zSt} {ls : Array Slot}  (hI : zI st D (tC cy) (wC ad cy σ) A s H locs) (hl : lv_has ls 1 [(0, .ref (ad 10))]) (hf : fX8_morePatterns  σ  = some res) : W p l e rmX8_morePatterns s m args below meth c H locs 0 0 (zQk st below args s D (tC cy) (wC ad cy) A res) (F0 m 0 ls []) := by
  have hx := hC.1
  have hb := hC.2.1
  unfold fX8_morePatterns at hf
  refine lv_aload_n hx hb dX8_morePatterns_0 rfl (lv_at hl 0 rfl) ?_
  refine z_get hC hI hinX8_morePatterns_X80 10 (wC_e10 ad cy σ) rfl 5 (by decide) (List.mem_cons_of_mem _ zw72_16) rfl dX8_morePatterns_1 ?_
  refine lv_iconst (v := 1) hx hb dX8_morePatterns_4 (by decide) ?_
  refine lv_icmp_eq (tgt := 11) hx hb dX8_morePatterns_5 (by decide) (fun q => ?_) (fun q => ?_)
  · replace hf := zif_t q hf
    refine lv_aload_n hx hb dX8_morePatterns_11 rfl (lv_at hl 0 rfl) ?_
    refine z_get hC hI hinX8_morePatterns_X80 10 (wC_e10 ad cy σ) rfl 7 (by decide) (List.mem_cons_of_mem _ zw71_10) rfl dX8_morePatterns_12 ?_
    by_cases q0 : (zgi σ 10 7) = 0
    · replace hf := zif_t q0 hf
      refine lv_tableIn (tgt := 56) hx hb dX8_morePatterns_15 (by rw [q0]; decide) (by rw [q0]; decide) (by rw [q0]; rfl) (by decide) ?_
      refine lv_aload_n hx hb dX8_morePatterns_56 rfl (lv_at hl 0 rfl) ?_
      refine z_get hC hI hinX8_morePatterns_X80 10 (wC_e10 ad cy σ) rfl 6 (by decide) (List.mem_cons_of_mem _ zw70_20) rfl dX8_morePatterns_57 ?_
      refine lv_bipush (v := 6) hx hb dX8_morePatterns_60 (by decide) ?_
      refine lv_icmp_ne (tgt := 70) hx hb dX8_morePatterns_62 (by decide) (fun q => ?_) (fun q => ?_)
      · replace hf := zif_f q hf
        refine z_ldcS hC hI 15 (by decide) rfl rfl dX8_morePatterns_70 ?_
        exact bX8_morePatterns_72 hC  hI (lv_sub hl [] rfl) hf
      replace hf := zif_t q hf
      refine z_ldcS hC hI 14 (by decide) rfl rfl dX8_morePatterns_65 ?_
      refine lv_goto (tgt := 72) hx hb dX8_morePatterns_67 (by decide) ?_
      exact bX8_morePatterns_72 hC  hI (lv_sub hl [] rfl) hf
    replace hf := zif_f q0 hf
    by_cases q1 : (zgi σ 10 7) = 1
    · replace hf := zif_t q1 hf
      refine lv_tableIn (tgt := 73) hx hb dX8_morePatterns_15 (by rw [q1]; decide) (by rw [q1]; decide) (by rw [q1]; rfl) (by decide) ?_
      refine lv_aload_n hx hb dX8_morePatterns_73 rfl (lv_at hl 0 rfl) ?_
      refine z_get hC hI hinX8_morePatterns_X80 10 (wC_e10 ad cy σ) rfl 6 (by decide) (List.mem_cons_of_mem _ zw70_20) rfl dX8_morePatterns_74 ?_
      refine lv_bipush (v := 6) hx hb dX8_morePatterns_77 (by decide) ?_
      refine lv_icmp_ne (tgt := 87) hx hb dX8_morePatterns_79 (by decide) (fun q => ?_) (fun q => ?_)
      · replace hf := zif_f q hf
        refine z_ldcS hC hI 17 (by decide) rfl rfl dX8_morePatterns_87 ?_
        exact bX8_morePatterns_89 hC  hI (lv_sub hl [] rfl) hf
      replace hf := zif_t q hf
      refine z_ldcS hC hI 16 (by decide) rfl rfl dX8_morePatterns_82 ?_
      refine lv_goto (tgt := 89) hx hb dX8_morePatterns_84 (by decide) ?_
      exact bX8_morePatterns_89 hC  hI (lv_sub hl [] rfl) hf
    replace hf := zif_f q1 hf
    by_cases q2 : (zgi σ 10 7) = 2
    · replace hf := zif_t q2 hf
      refine lv_tableIn (tgt := 90) hx hb dX8_morePatterns_15 (by rw [q2]; decide) (by rw [q2]; decide) (by rw [q2]; rfl) (by decide) ?_
      refine z_ldcS hC hI 18 (by decide) rfl rfl dX8_morePatterns_90 ?_
      exact z_areturn hC hI hf dX8_morePatterns_92
    replace hf := zif_f q2 hf
    by_cases q3 : (zgi σ 10 7) = 3
    · replace hf := zif_t q3 hf
      refine lv_tableIn (tgt := 93) hx hb dX8_morePatterns_15 (by rw [q3]; decide) (by rw [q3]; decide) (by rw [q3]; rfl) (by decide) ?_
      refine z_ldcS hC hI 19 (by decide) rfl rfl dX8_morePatterns_93 ?_
      exact z_areturn hC hI hf dX8_morePatterns_95
    replace hf := zif_f q3 hf
    by_cases q4 : (zgi σ 10 7) = 4
    · replace hf := zif_t q4 hf
      refine lv_tableIn (tgt := 96) hx hb dX8_morePatterns_15 (by rw [q4]; decide) (by rw [q4]; decide) (by rw [q4]; rfl) (by decide) ?_
      refine z_ldcS hC hI 20 (by decide) rfl rfl dX8_morePatterns_96 ?_
      exact z_areturn hC hI hf dX8_morePatterns_98
    replace hf := zif_f q4 hf
    by_cases q5 : (zgi σ 10 7) = 5
    · replace hf := zif_t q5 hf
      refine lv_tableIn (tgt := 99) hx hb dX8_morePatterns_15 (by rw [q5]; decide) (by rw [q5]; decide) (by rw [q5]; rfl) (by decide) ?_
      refine lv_aload_n hx hb dX8_morePatterns_99 rfl (lv_at hl 0 rfl) ?_
      refine z_get hC hI hinX8_morePatterns_X80 10 (wC_e10 ad cy σ) rfl 6 (by decide) (List.mem_cons_of_mem _ zw70_20) rfl dX8_morePatterns_100 ?_
      refine lv_iconst (v := 1) hx hb dX8_morePatterns_103 (by decide) ?_
      refine lv_icmp_ne (tgt := 112) hx hb dX8_morePatterns_104 (by decide) (fun q => ?_) (fun q => ?_)
      · replace hf := zif_f q hf
        refine z_ldcS hC hI 22 (by decide) rfl rfl dX8_morePatterns_112 ?_
        exact bX8_morePatterns_114 hC  hI (lv_sub hl [] rfl) hf
      replace hf := zif_t q hf
      refine z_ldcS hC hI 21 (by decide) rfl rfl dX8_morePatterns_107 ?_
      refine lv_goto (tgt := 114) hx hb dX8_morePatterns_109 (by decide) ?_
      exact bX8_morePatterns_114 hC  hI (lv_sub hl [] rfl) hf
    replace hf := zif_f q5 hf
    by_cases q6 : (zgi σ 10 7) = 6
    · replace hf := zif_t q6 hf
      refine lv_tableIn (tgt := 115) hx hb dX8_morePatterns_15 (by rw [q6]; decide) (by rw [q6]; decide) (by rw [q6]; rfl) (by decide) ?_
      refine z_ldcS hC hI 23 (by decide) rfl rfl dX8_morePatterns_115 ?_
      exact z_areturn hC hI hf dX8_morePatterns_117
    replace hf := zif_f q6 hf
    refine lv_tableOut (tgt := 118) hx hb dX8_morePatterns_15 (zsw (fun k h1 h2 => by rcases (show k = 0 ∨ k = 1 ∨ k = 2 ∨ k = 3 ∨ k = 4 ∨ k = 5 ∨ k = 6 by omega) with rfl | rfl | rfl | rfl | rfl | rfl | rfl <;> assumption)) (by decide) ?_
    refine z_ldcS hC hI 24 (by decide) rfl rfl dX8_morePatterns_118 ?_
    exact z_areturn hC hI hf dX8_morePatterns_120
  replace hf := zif_f q hf
  refine z_ldcS hC hI 0 (by decide) rfl rfl dX8_morePatterns_8 ?_
  exact z_areturn hC hI hf dX8_morePatterns_10
set_option maxRecDepth 20000 in
theorem cX8_morePatterns_met (st : Nat → Nat) (l : Launch) (D : va_G) (ad : Nat → Nat) (cy : Nat → ClassId) (σ : zSt)  (res : zSt × Nat) (hf : fX8_morePatterns σ  = some res) (sz : Nat) : zMk st l yX8_morePatterns wzX8_morePatterns rmX8_morePatterns [.ref (ad 10)] D (tC cy) (wC ad cy) sz σ res :=
  zMk.of (cc := cX8_morePatterns) (maxL := 1) (ret := (some (.object "java/lang/String"))) (by decide) rfl (Nat.le_of_ble_eq_true rfl) (fun p e s m args below meth c hC A hI ls hl => bX8_morePatterns hC hI hl hf)
theorem hdX8_morePatterns : yX8_morePatterns.cls = RX8 ∧ yX8_morePatterns.cls ≠ "java/lang/invoke/MethodHandle" ∧ yX8_morePatterns.cls ≠ "java/lang/invoke/VarHandle" ∧ (parseMethodDescriptor yX8_morePatterns.desc).map (fun d => d.parameters.length) = some 0 := by decide +kernel
noncomputable def rmX8_lastPatterns : Room := { frames := 0, cells := 0, slots := 0, locals := 0 }
noncomputable def wzX8_lastPatterns : List Cond := .code yX8_lastPatterns cX8_lastPatterns 1 (some (.object "java/lang/String")) :: wsL_law
theorem hinX8_lastPatterns_X80 : ∀ w ∈ wsX80, w ∈ wzX8_lastPatterns := fun w h => List.mem_cons_of_mem _ (inlX8 w h)
noncomputable def fX8_lastPatterns  (σ : zSt)  : Option (zSt × Nat) :=
  if (zgi σ 10 7) = 0 then some (σ, 36) else
  if (zgi σ 10 7) = 1 then some (σ, 37) else
  if (zgi σ 10 7) = 2 then some (σ, 38) else
  if (zgi σ 10 7) = 3 then some (σ, 39) else
  if (zgi σ 10 7) = 4 then some (σ, 40) else
  if (zgi σ 10 7) = 5 then some (σ, 41) else
  if (zgi σ 10 7) = 6 then some (σ, 42) else
  some (σ, 43)
set_option maxRecDepth 20000 in
set_option maxHeartbeats 4000000 in
theorem bX8_lastPatterns {st : Nat → Nat} {p : Program} {l : Launch} {e : Env} {s : State} {m : MethodId} {args : Array Value} {below : List Frame} {meth : Method} {c : Code} {D : va_G} {A : Nat → Prop} {ad : Nat → Nat} {cy : Nat → ClassId} (hC : zC p m c cX8_lastPatterns 1 s args wzX8_lastPatterns RX8 meth (some (.object "java/lang/String")))  {res : zSt × Nat} {H : Heap} {locs : List Loc} {σ : zSt} {ls : Array Slot}  (hI : zI st D (tC cy) (wC ad cy σ) A s H locs) (hl : lv_has ls 1 [(0, .ref (ad 10))]) (hf : fX8_lastPatterns  σ  = some res) : W p l e rmX8_lastPatterns s m args below meth c H locs 0 0 (zQk st below args s D (tC cy) (wC ad cy) A res) (F0 m 0 ls []) := by
  have hx := hC.1
  have hb := hC.2.1
  unfold fX8_lastPatterns at hf
  refine lv_aload_n hx hb dX8_lastPatterns_0 rfl (lv_at hl 0 rfl) ?_
  refine z_get hC hI hinX8_lastPatterns_X80 10 (wC_e10 ad cy σ) rfl 7 (by decide) (List.mem_cons_of_mem _ zw71_10) rfl dX8_lastPatterns_1 ?_
  by_cases q0 : (zgi σ 10 7) = 0
  · replace hf := zif_t q0 hf
    refine lv_tableIn (tgt := 48) hx hb dX8_lastPatterns_4 (by rw [q0]; decide) (by rw [q0]; decide) (by rw [q0]; rfl) (by decide) ?_
    refine z_ldcS hC hI 36 (by decide) rfl rfl dX8_lastPatterns_48 ?_
    exact z_areturn hC hI hf dX8_lastPatterns_50
  replace hf := zif_f q0 hf
  by_cases q1 : (zgi σ 10 7) = 1
  · replace hf := zif_t q1 hf
    refine lv_tableIn (tgt := 51) hx hb dX8_lastPatterns_4 (by rw [q1]; decide) (by rw [q1]; decide) (by rw [q1]; rfl) (by decide) ?_
    refine z_ldcS hC hI 37 (by decide) rfl rfl dX8_lastPatterns_51 ?_
    exact z_areturn hC hI hf dX8_lastPatterns_53
  replace hf := zif_f q1 hf
  by_cases q2 : (zgi σ 10 7) = 2
  · replace hf := zif_t q2 hf
    refine lv_tableIn (tgt := 54) hx hb dX8_lastPatterns_4 (by rw [q2]; decide) (by rw [q2]; decide) (by rw [q2]; rfl) (by decide) ?_
    refine z_ldcS hC hI 38 (by decide) rfl rfl dX8_lastPatterns_54 ?_
    exact z_areturn hC hI hf dX8_lastPatterns_56
  replace hf := zif_f q2 hf
  by_cases q3 : (zgi σ 10 7) = 3
  · replace hf := zif_t q3 hf
    refine lv_tableIn (tgt := 57) hx hb dX8_lastPatterns_4 (by rw [q3]; decide) (by rw [q3]; decide) (by rw [q3]; rfl) (by decide) ?_
    refine z_ldcS hC hI 39 (by decide) rfl rfl dX8_lastPatterns_57 ?_
    exact z_areturn hC hI hf dX8_lastPatterns_59
  replace hf := zif_f q3 hf
  by_cases q4 : (zgi σ 10 7) = 4
  · replace hf := zif_t q4 hf
    refine lv_tableIn (tgt := 60) hx hb dX8_lastPatterns_4 (by rw [q4]; decide) (by rw [q4]; decide) (by rw [q4]; rfl) (by decide) ?_
    refine z_ldcS hC hI 40 (by decide) rfl rfl dX8_lastPatterns_60 ?_
    exact z_areturn hC hI hf dX8_lastPatterns_62
  replace hf := zif_f q4 hf
  by_cases q5 : (zgi σ 10 7) = 5
  · replace hf := zif_t q5 hf
    refine lv_tableIn (tgt := 63) hx hb dX8_lastPatterns_4 (by rw [q5]; decide) (by rw [q5]; decide) (by rw [q5]; rfl) (by decide) ?_
    refine z_ldcS hC hI 41 (by decide) rfl rfl dX8_lastPatterns_63 ?_
    exact z_areturn hC hI hf dX8_lastPatterns_65
  replace hf := zif_f q5 hf
  by_cases q6 : (zgi σ 10 7) = 6
  · replace hf := zif_t q6 hf
    refine lv_tableIn (tgt := 66) hx hb dX8_lastPatterns_4 (by rw [q6]; decide) (by rw [q6]; decide) (by rw [q6]; rfl) (by decide) ?_
    refine z_ldcS hC hI 42 (by decide) rfl rfl dX8_lastPatterns_66 ?_
    exact z_areturn hC hI hf dX8_lastPatterns_68
  replace hf := zif_f q6 hf
  refine lv_tableOut (tgt := 69) hx hb dX8_lastPatterns_4 (zsw (fun k h1 h2 => by rcases (show k = 0 ∨ k = 1 ∨ k = 2 ∨ k = 3 ∨ k = 4 ∨ k = 5 ∨ k = 6 by omega) with rfl | rfl | rfl | rfl | rfl | rfl | rfl <;> assumption)) (by decide) ?_
  refine z_ldcS hC hI 43 (by decide) rfl rfl dX8_lastPatterns_69 ?_
  exact z_areturn hC hI hf dX8_lastPatterns_71
set_option maxRecDepth 20000 in
theorem cX8_lastPatterns_met (st : Nat → Nat) (l : Launch) (D : va_G) (ad : Nat → Nat) (cy : Nat → ClassId) (σ : zSt)  (res : zSt × Nat) (hf : fX8_lastPatterns σ  = some res) (sz : Nat) : zMk st l yX8_lastPatterns wzX8_lastPatterns rmX8_lastPatterns [.ref (ad 10)] D (tC cy) (wC ad cy) sz σ res :=
  zMk.of (cc := cX8_lastPatterns) (maxL := 1) (ret := (some (.object "java/lang/String"))) (by decide) rfl (Nat.le_of_ble_eq_true rfl) (fun p e s m args below meth c hC A hI ls hl => bX8_lastPatterns hC hI hl hf)
theorem hdX8_lastPatterns : yX8_lastPatterns.cls = RX8 ∧ yX8_lastPatterns.cls ≠ "java/lang/invoke/MethodHandle" ∧ yX8_lastPatterns.cls ≠ "java/lang/invoke/VarHandle" ∧ (parseMethodDescriptor yX8_lastPatterns.desc).map (fun d => d.parameters.length) = some 0 := by decide +kernel
noncomputable def rmX8_firstPatterns : Room := { frames := 0, cells := 0, slots := 0, locals := 0 }
noncomputable def wzX8_firstPatterns : List Cond := .code yX8_firstPatterns cX8_firstPatterns 1 (some (.object "java/lang/String")) :: wsL_law
theorem hinX8_firstPatterns_X80 : ∀ w ∈ wsX80, w ∈ wzX8_firstPatterns := fun w h => List.mem_cons_of_mem _ (inlX8 w h)
noncomputable def fX8_firstPatterns  (σ : zSt)  : Option (zSt × Nat) :=
  if (zgi σ 10 7) = 0 then some (σ, 25) else
  if (zgi σ 10 7) = 1 then some (σ, 26) else
  if (zgi σ 10 7) = 2 then some (σ, 27) else
  if (zgi σ 10 7) = 3 then some (σ, 28) else
  if (zgi σ 10 7) = 4 then some (σ, 29) else
  if (zgi σ 10 7) = 5 then some (σ, 30) else
  if (zgi σ 10 7) = 6 then some (σ, 31) else
  some (σ, 32)
set_option maxRecDepth 20000 in
set_option maxHeartbeats 4000000 in
theorem bX8_firstPatterns {st : Nat → Nat} {p : Program} {l : Launch} {e : Env} {s : State} {m : MethodId} {args : Array Value} {below : List Frame} {meth : Method} {c : Code} {D : va_G} {A : Nat → Prop} {ad : Nat → Nat} {cy : Nat → ClassId} (hC : zC p m c cX8_firstPatterns 1 s args wzX8_firstPatterns RX8 meth (some (.object "java/lang/String")))  {res : zSt × Nat} {H : Heap} {locs : List Loc} {σ : zSt} {ls : Array Slot}  (hI : zI st D (tC cy) (wC ad cy σ) A s H locs) (hl : lv_has ls 1 [(0, .ref (ad 10))]) (hf : fX8_firstPatterns  σ  = some res) : W p l e rmX8_firstPatterns s m args below meth c H locs 0 0 (zQk st below args s D (tC cy) (wC ad cy) A res) (F0 m 0 ls []) := by
  have hx := hC.1
  have hb := hC.2.1
  unfold fX8_firstPatterns at hf
  refine lv_aload_n hx hb dX8_firstPatterns_0 rfl (lv_at hl 0 rfl) ?_
  refine z_get hC hI hinX8_firstPatterns_X80 10 (wC_e10 ad cy σ) rfl 7 (by decide) (List.mem_cons_of_mem _ zw71_10) rfl dX8_firstPatterns_1 ?_
  by_cases q0 : (zgi σ 10 7) = 0
  · replace hf := zif_t q0 hf
    refine lv_tableIn (tgt := 48) hx hb dX8_firstPatterns_4 (by rw [q0]; decide) (by rw [q0]; decide) (by rw [q0]; rfl) (by decide) ?_
    refine z_ldcS hC hI 25 (by decide) rfl rfl dX8_firstPatterns_48 ?_
    exact z_areturn hC hI hf dX8_firstPatterns_50
  replace hf := zif_f q0 hf
  by_cases q1 : (zgi σ 10 7) = 1
  · replace hf := zif_t q1 hf
    refine lv_tableIn (tgt := 51) hx hb dX8_firstPatterns_4 (by rw [q1]; decide) (by rw [q1]; decide) (by rw [q1]; rfl) (by decide) ?_
    refine z_ldcS hC hI 26 (by decide) rfl rfl dX8_firstPatterns_51 ?_
    exact z_areturn hC hI hf dX8_firstPatterns_53
  replace hf := zif_f q1 hf
  by_cases q2 : (zgi σ 10 7) = 2
  · replace hf := zif_t q2 hf
    refine lv_tableIn (tgt := 54) hx hb dX8_firstPatterns_4 (by rw [q2]; decide) (by rw [q2]; decide) (by rw [q2]; rfl) (by decide) ?_
    refine z_ldcS hC hI 27 (by decide) rfl rfl dX8_firstPatterns_54 ?_
    exact z_areturn hC hI hf dX8_firstPatterns_56
  replace hf := zif_f q2 hf
  by_cases q3 : (zgi σ 10 7) = 3
  · replace hf := zif_t q3 hf
    refine lv_tableIn (tgt := 57) hx hb dX8_firstPatterns_4 (by rw [q3]; decide) (by rw [q3]; decide) (by rw [q3]; rfl) (by decide) ?_
    refine z_ldcS hC hI 28 (by decide) rfl rfl dX8_firstPatterns_57 ?_
    exact z_areturn hC hI hf dX8_firstPatterns_59
  replace hf := zif_f q3 hf
  by_cases q4 : (zgi σ 10 7) = 4
  · replace hf := zif_t q4 hf
    refine lv_tableIn (tgt := 60) hx hb dX8_firstPatterns_4 (by rw [q4]; decide) (by rw [q4]; decide) (by rw [q4]; rfl) (by decide) ?_
    refine z_ldcS hC hI 29 (by decide) rfl rfl dX8_firstPatterns_60 ?_
    exact z_areturn hC hI hf dX8_firstPatterns_62
  replace hf := zif_f q4 hf
  by_cases q5 : (zgi σ 10 7) = 5
  · replace hf := zif_t q5 hf
    refine lv_tableIn (tgt := 63) hx hb dX8_firstPatterns_4 (by rw [q5]; decide) (by rw [q5]; decide) (by rw [q5]; rfl) (by decide) ?_
    refine z_ldcS hC hI 30 (by decide) rfl rfl dX8_firstPatterns_63 ?_
    exact z_areturn hC hI hf dX8_firstPatterns_65
  replace hf := zif_f q5 hf
  by_cases q6 : (zgi σ 10 7) = 6
  · replace hf := zif_t q6 hf
    refine lv_tableIn (tgt := 66) hx hb dX8_firstPatterns_4 (by rw [q6]; decide) (by rw [q6]; decide) (by rw [q6]; rfl) (by decide) ?_
    refine z_ldcS hC hI 31 (by decide) rfl rfl dX8_firstPatterns_66 ?_
    exact z_areturn hC hI hf dX8_firstPatterns_68
  replace hf := zif_f q6 hf
  refine lv_tableOut (tgt := 69) hx hb dX8_firstPatterns_4 (zsw (fun k h1 h2 => by rcases (show k = 0 ∨ k = 1 ∨ k = 2 ∨ k = 3 ∨ k = 4 ∨ k = 5 ∨ k = 6 by omega) with rfl | rfl | rfl | rfl | rfl | rfl | rfl <;> assumption)) (by decide) ?_
  refine z_ldcS hC hI 32 (by decide) rfl rfl dX8_firstPatterns_69 ?_
  exact z_areturn hC hI hf dX8_firstPatterns_71
set_option maxRecDepth 20000 in
theorem cX8_firstPatterns_met (st : Nat → Nat) (l : Launch) (D : va_G) (ad : Nat → Nat) (cy : Nat → ClassId) (σ : zSt)  (res : zSt × Nat) (hf : fX8_firstPatterns σ  = some res) (sz : Nat) : zMk st l yX8_firstPatterns wzX8_firstPatterns rmX8_firstPatterns [.ref (ad 10)] D (tC cy) (wC ad cy) sz σ res :=
  zMk.of (cc := cX8_firstPatterns) (maxL := 1) (ret := (some (.object "java/lang/String"))) (by decide) rfl (Nat.le_of_ble_eq_true rfl) (fun p e s m args below meth c hC A hI ls hl => bX8_firstPatterns hC hI hl hf)
theorem hdX8_firstPatterns : yX8_firstPatterns.cls = RX8 ∧ yX8_firstPatterns.cls ≠ "java/lang/invoke/MethodHandle" ∧ yX8_firstPatterns.cls ≠ "java/lang/invoke/VarHandle" ∧ (parseMethodDescriptor yX8_firstPatterns.desc).map (fun d => d.parameters.length) = some 0 := by decide +kernel
noncomputable def rmX8_patternsOf : Room := { frames := 3, cells := 0, slots := 0, locals := 68 }
noncomputable def wzX8_patternsOf : List Cond := .code yX8_patternsOf cX8_patternsOf 2 (some (.object "java/lang/String")) :: wsL_law
theorem hinX8_patternsOf_X80 : ∀ w ∈ wsX80, w ∈ wzX8_patternsOf := fun w h => List.mem_cons_of_mem _ (inlX8 w h)
noncomputable def fX8_patternsOf_23  (σ : zSt) (s0 : Int32) : Option (zSt × Nat) :=
  zbv (zsi σ 10 10 s0) (fun σ1 =>
  zbi (fX8_take σ1 ) (fun σ2 v3 =>
  zbu (fX8_split σ2 v3) (fun σ4 =>
  zbk (fX8_turnPatterns σ4 ) (fun σ5 v6 =>
  some (σ5, v6)))))
noncomputable def fX8_patternsOf_73  (σ : zSt) (s0 : Nat) : Option (zSt × Nat) :=
  some (σ, s0)
noncomputable def fX8_patternsOf_126  (σ : zSt) (s0 : Nat) : Option (zSt × Nat) :=
  some (σ, s0)
noncomputable def fX8_patternsOf  (σ : zSt) (x1 : Int32) : Option (zSt × Nat) :=
  if x1 = 203 then if (zgi σ 10 8) = 0 then fX8_patternsOf_23 σ 0 else
  zbi (fX8_take σ ) (fun σ19 v20 =>
  fX8_patternsOf_23 σ19 v20) else
  if x1 = 237 then zbi (fX8_take σ ) (fun σ12 v13 =>
  zbu (fX8_split σ12 v13) (fun σ14 =>
  if (zgi σ14 10 5) = 2 then zbk (fX8_blockPatterns σ14 ) (fun σ17 v18 =>
  fX8_patternsOf_73 σ17 v18) else
  zbk (fX8_morePatterns σ14 ) (fun σ15 v16 =>
  fX8_patternsOf_73 σ15 v16))) else
  zbu (fX8_split σ x1) (fun σ7 =>
  if (zgi σ7 10 5) = 0 then zbk (fX8_firstPatterns σ7 ) (fun σ8 v9 =>
  some (σ8, v9)) else
  if (zgi σ7 10 5) = 1 then if x1 = 118 then fX8_patternsOf_126 σ7 33 else
  fX8_patternsOf_126 σ7 34 else
  if (zgi σ7 10 5) = 2 then some (σ7, 35) else
  zbk (fX8_lastPatterns σ7 ) (fun σ10 v11 =>
  some (σ10, v11)))
set_option maxRecDepth 20000 in
set_option maxHeartbeats 4000000 in
theorem bX8_patternsOf_23 {st : Nat → Nat} {p : Program} {l : Launch} {e : Env} {s : State} {m : MethodId} {args : Array Value} {below : List Frame} {meth : Method} {c : Code} {D : va_G} {A : Nat → Prop} {ad : Nat → Nat} {cy : Nat → ClassId} (hC : zC p m c cX8_patternsOf 2 s args wzX8_patternsOf RX8 meth (some (.object "java/lang/String")))  {res : zSt × Nat} {H : Heap} {locs : List Loc} {σ : zSt} {ls : Array Slot} {s0 : Int32} (hI : zI st D (tC cy) (wC ad cy σ) A s H locs) (hl : lv_has ls 2 [(0, .ref (ad 10))]) (hf : fX8_patternsOf_23  σ s0 = some res) : W p l e rmX8_patternsOf s m args below meth c H locs 0 0 (zQk st below args s D (tC cy) (wC ad cy) A res) (F0 m 23 ls [.int s0, .ref (ad 10)]) := by
  have hx := hC.1
  have hb := hC.2.1
  unfold fX8_patternsOf_23 at hf
  obtain ⟨σ1, eσ1⟩ : ∃ z, z = zsi σ 10 10 s0 := ⟨_, rfl⟩
  replace hf := zbv_use eσ1 hf
  refine z_put hC hI hinX8_patternsOf_X80 tyX8_ok nmX8 10 (wC_e10 ad cy σ) rfl 10 (by decide) (List.mem_cons_of_mem _ zw72_15) rfl rfl rfl (Nat.le_of_ble_eq_true rfl) ((wC_s10_10 ad cy σ s0).trans (congrArg (wC ad cy) eσ1.symm)) dX8_patternsOf_23 (fun H locs hI => ?_)
  refine lv_aload_n hx hb dX8_patternsOf_26 rfl (lv_at hl 0 rfl) ?_
  refine lv_aload_n hx hb dX8_patternsOf_27 rfl (lv_at hl 0 rfl) ?_
  obtain ⟨σ2, v3, g2, hf⟩ := zbi_use hf
  refine z_callVi (As := []) (rest := [.ref (ad 10)]) hC hI (cX8_take_met st l D ad cy σ1  _ g2) (zgV zw70_11 zw70_12 zw70_13 zw3_9 zw70_14) rfl ⟨rfl, rfl⟩ 0 hdX8_take ⟨Nat.le_of_ble_eq_true rfl, Nat.le_of_ble_eq_true rfl⟩ rfl rfl (wC_e10 ad cy σ1) rfl hl rfl (Nat.le_of_ble_eq_true rfl) dX8_patternsOf_28 ⟨Nat.zero_le _, Nat.zero_le _⟩ (fun H locs hI => ?_)
  obtain ⟨σ4, g4, hf⟩ := zbu_use hf
  refine z_callVu (As := [.int v3]) (rest := []) hC hI (cX8_split_met st l D ad cy σ2 v3 _ g4) (zgV zw73_6 zw73_7 zw73_8 zw3_9 zw73_9) rfl ⟨rfl, rfl⟩ 1 hdX8_split ⟨Nat.le_of_ble_eq_true rfl, Nat.le_of_ble_eq_true rfl⟩ rfl rfl (wC_e10 ad cy σ2) rfl hl rfl (Nat.le_of_ble_eq_true rfl) dX8_patternsOf_31 ⟨Nat.zero_le _, Nat.zero_le _⟩ (fun H locs hI => ?_)
  refine lv_aload_n hx hb dX8_patternsOf_34 rfl (lv_at hl 0 rfl) ?_
  obtain ⟨σ5, v6, g5, hf⟩ := zbk_use hf
  refine z_callVk (As := []) (rest := []) hC hI (cX8_turnPatterns_met st l D ad cy σ4  _ g5) (zgV zw73_10 zw73_11 zw73_12 zw3_9 zw73_13) rfl ⟨rfl, rfl⟩ 0 hdX8_turnPatterns ⟨Nat.le_of_ble_eq_true rfl, Nat.le_of_ble_eq_true rfl⟩ rfl rfl (wC_e10 ad cy σ4) rfl hl rfl (Nat.le_of_ble_eq_true rfl) dX8_patternsOf_35 ⟨Nat.zero_le _, Nat.zero_le _⟩ (fun H locs hI => ?_)
  exact z_areturn hC hI hf dX8_patternsOf_38
set_option maxRecDepth 20000 in
set_option maxHeartbeats 4000000 in
theorem bX8_patternsOf_73 {st : Nat → Nat} {p : Program} {l : Launch} {e : Env} {s : State} {m : MethodId} {args : Array Value} {below : List Frame} {meth : Method} {c : Code} {D : va_G} {A : Nat → Prop} {ad : Nat → Nat} {cy : Nat → ClassId} (hC : zC p m c cX8_patternsOf 2 s args wzX8_patternsOf RX8 meth (some (.object "java/lang/String")))  {res : zSt × Nat} {H : Heap} {locs : List Loc} {σ : zSt} {ls : Array Slot} {s0 : Nat} (hI : zI st D (tC cy) (wC ad cy σ) A s H locs) (hl : lv_has ls 2 []) (hf : fX8_patternsOf_73  σ s0 = some res) : W p l e rmX8_patternsOf s m args below meth c H locs 0 0 (zQk st below args s D (tC cy) (wC ad cy) A res) (F0 m 73 ls [.ref (st (100 + s0))]) := by
  have hx := hC.1
  have hb := hC.2.1
  unfold fX8_patternsOf_73 at hf
  exact z_areturn hC hI hf dX8_patternsOf_73
set_option maxRecDepth 20000 in
set_option maxHeartbeats 4000000 in
theorem bX8_patternsOf_126 {st : Nat → Nat} {p : Program} {l : Launch} {e : Env} {s : State} {m : MethodId} {args : Array Value} {below : List Frame} {meth : Method} {c : Code} {D : va_G} {A : Nat → Prop} {ad : Nat → Nat} {cy : Nat → ClassId} (hC : zC p m c cX8_patternsOf 2 s args wzX8_patternsOf RX8 meth (some (.object "java/lang/String")))  {res : zSt × Nat} {H : Heap} {locs : List Loc} {σ : zSt} {ls : Array Slot} {s0 : Nat} (hI : zI st D (tC cy) (wC ad cy σ) A s H locs) (hl : lv_has ls 2 []) (hf : fX8_patternsOf_126  σ s0 = some res) : W p l e rmX8_patternsOf s m args below meth c H locs 0 0 (zQk st below args s D (tC cy) (wC ad cy) A res) (F0 m 126 ls [.ref (st (100 + s0))]) := by
  have hx := hC.1
  have hb := hC.2.1
  unfold fX8_patternsOf_126 at hf
  exact z_areturn hC hI hf dX8_patternsOf_126
set_option maxRecDepth 20000 in
set_option maxHeartbeats 4000000 in
theorem bX8_patternsOf {st : Nat → Nat} {p : Program} {l : Launch} {e : Env} {s : State} {m : MethodId} {args : Array Value} {below : List Frame} {meth : Method} {c : Code} {D : va_G} {A : Nat → Prop} {ad : Nat → Nat} {cy : Nat → ClassId} (hC : zC p m c cX8_patternsOf 2 s args wzX8_patternsOf RX8 meth (some (.object "java/lang/String")))  {res : zSt × Nat} {H : Heap} {locs : List Loc} {σ : zSt} {ls : Array Slot} {x1 : Int32} (hI : zI st D (tC cy) (wC ad cy σ) A s H locs) (hl : lv_has ls 2 [(0, .ref (ad 10)), (1, .int x1)]) (hf : fX8_patternsOf  σ x1 = some res) : W p l e rmX8_patternsOf s m args below meth c H locs 0 0 (zQk st below args s D (tC cy) (wC ad cy) A res) (F0 m 0 ls []) := by
  have hx := hC.1
  have hb := hC.2.1
  unfold fX8_patternsOf at hf
  refine lv_iload_n hx hb dX8_patternsOf_0 rfl (lv_at hl 1 rfl) ?_
  refine lv_sipush (v := 203) hx hb dX8_patternsOf_1 (by decide) ?_
  refine lv_icmp_ne (tgt := 39) hx hb dX8_patternsOf_4 (by decide) (fun q => ?_) (fun q => ?_)
  · replace hf := zif_f q hf
    refine lv_iload_n hx hb dX8_patternsOf_39 rfl (lv_at hl 1 rfl) ?_
    refine lv_sipush (v := 237) hx hb dX8_patternsOf_40 (by decide) ?_
    refine lv_icmp_ne (tgt := 74) hx hb dX8_patternsOf_43 (by decide) (fun q => ?_) (fun q => ?_)
    · replace hf := zif_f q hf
      refine lv_aload_n hx hb dX8_patternsOf_74 rfl (lv_at hl 0 rfl) ?_
      refine lv_iload_n hx hb dX8_patternsOf_75 rfl (lv_at hl 1 rfl) ?_
      obtain ⟨σ7, g7, hf⟩ := zbu_use hf
      refine z_callVu (As := [.int x1]) (rest := []) hC hI (cX8_split_met st l D ad cy σ x1 _ g7) (zgV zw73_6 zw73_7 zw73_8 zw3_9 zw73_9) rfl ⟨rfl, rfl⟩ 1 hdX8_split ⟨Nat.le_of_ble_eq_true rfl, Nat.le_of_ble_eq_true rfl⟩ rfl rfl (wC_e10 ad cy σ) rfl hl rfl (Nat.le_of_ble_eq_true rfl) dX8_patternsOf_76 ⟨Nat.zero_le _, Nat.zero_le _⟩ (fun H locs hI => ?_)
      refine lv_aload_n hx hb dX8_patternsOf_79 rfl (lv_at hl 0 rfl) ?_
      refine z_get hC hI hinX8_patternsOf_X80 10 (wC_e10 ad cy σ7) rfl 5 (by decide) (List.mem_cons_of_mem _ zw72_16) rfl dX8_patternsOf_80 ?_
      by_cases q0 : (zgi σ7 10 5) = 0
      · replace hf := zif_t q0 hf
        refine lv_tableIn (tgt := 108) hx hb dX8_patternsOf_83 (by rw [q0]; decide) (by rw [q0]; decide) (by rw [q0]; rfl) (by decide) ?_
        refine lv_aload_n hx hb dX8_patternsOf_108 rfl (lv_at hl 0 rfl) ?_
        obtain ⟨σ8, v9, g8, hf⟩ := zbk_use hf
        refine z_callVk (As := []) (rest := []) hC hI (cX8_firstPatterns_met st l D ad cy σ7  _ g8) (zgV zw73_22 zw73_23 zw74_0 zw3_9 zw74_1) rfl ⟨rfl, rfl⟩ 0 hdX8_firstPatterns ⟨Nat.le_of_ble_eq_true rfl, Nat.le_of_ble_eq_true rfl⟩ rfl rfl (wC_e10 ad cy σ7) rfl hl rfl (Nat.le_of_ble_eq_true rfl) dX8_patternsOf_109 ⟨Nat.zero_le _, Nat.zero_le _⟩ (fun H locs hI => ?_)
        exact z_areturn hC hI hf dX8_patternsOf_112
      replace hf := zif_f q0 hf
      by_cases q1 : (zgi σ7 10 5) = 1
      · replace hf := zif_t q1 hf
        refine lv_tableIn (tgt := 113) hx hb dX8_patternsOf_83 (by rw [q1]; decide) (by rw [q1]; decide) (by rw [q1]; rfl) (by decide) ?_
        refine lv_iload_n hx hb dX8_patternsOf_113 rfl (lv_at hl 1 rfl) ?_
        refine lv_bipush (v := 118) hx hb dX8_patternsOf_114 (by decide) ?_
        refine lv_icmp_ne (tgt := 124) hx hb dX8_patternsOf_116 (by decide) (fun q => ?_) (fun q => ?_)
        · replace hf := zif_f q hf
          refine z_ldcS hC hI 34 (by decide) rfl rfl dX8_patternsOf_124 ?_
          exact bX8_patternsOf_126 hC  hI (lv_sub hl [] rfl) hf
        replace hf := zif_t q hf
        refine z_ldcS hC hI 33 (by decide) rfl rfl dX8_patternsOf_119 ?_
        refine lv_goto (tgt := 126) hx hb dX8_patternsOf_121 (by decide) ?_
        exact bX8_patternsOf_126 hC  hI (lv_sub hl [] rfl) hf
      replace hf := zif_f q1 hf
      by_cases q2 : (zgi σ7 10 5) = 2
      · replace hf := zif_t q2 hf
        refine lv_tableIn (tgt := 127) hx hb dX8_patternsOf_83 (by rw [q2]; decide) (by rw [q2]; decide) (by rw [q2]; rfl) (by decide) ?_
        refine z_ldcS hC hI 35 (by decide) rfl rfl dX8_patternsOf_127 ?_
        exact z_areturn hC hI hf dX8_patternsOf_129
      replace hf := zif_f q2 hf
      refine lv_tableOut (tgt := 130) hx hb dX8_patternsOf_83 (zsw (fun k h1 h2 => by rcases (show k = 0 ∨ k = 1 ∨ k = 2 by omega) with rfl | rfl | rfl <;> assumption)) (by decide) ?_
      refine lv_aload_n hx hb dX8_patternsOf_130 rfl (lv_at hl 0 rfl) ?_
      obtain ⟨σ10, v11, g10, hf⟩ := zbk_use hf
      refine z_callVk (As := []) (rest := []) hC hI (cX8_lastPatterns_met st l D ad cy σ7  _ g10) (zgV zw74_2 zw74_3 zw74_4 zw3_9 zw74_5) rfl ⟨rfl, rfl⟩ 0 hdX8_lastPatterns ⟨Nat.le_of_ble_eq_true rfl, Nat.le_of_ble_eq_true rfl⟩ rfl rfl (wC_e10 ad cy σ7) rfl hl rfl (Nat.le_of_ble_eq_true rfl) dX8_patternsOf_131 ⟨Nat.zero_le _, Nat.zero_le _⟩ (fun H locs hI => ?_)
      exact z_areturn hC hI hf dX8_patternsOf_134
    replace hf := zif_t q hf
    refine lv_aload_n hx hb dX8_patternsOf_46 rfl (lv_at hl 0 rfl) ?_
    refine lv_aload_n hx hb dX8_patternsOf_47 rfl (lv_at hl 0 rfl) ?_
    obtain ⟨σ12, v13, g12, hf⟩ := zbi_use hf
    refine z_callVi (As := []) (rest := [.ref (ad 10)]) hC hI (cX8_take_met st l D ad cy σ  _ g12) (zgV zw70_11 zw70_12 zw70_13 zw3_9 zw70_14) rfl ⟨rfl, rfl⟩ 0 hdX8_take ⟨Nat.le_of_ble_eq_true rfl, Nat.le_of_ble_eq_true rfl⟩ rfl rfl (wC_e10 ad cy σ) rfl hl rfl (Nat.le_of_ble_eq_true rfl) dX8_patternsOf_48 ⟨Nat.zero_le _, Nat.zero_le _⟩ (fun H locs hI => ?_)
    obtain ⟨σ14, g14, hf⟩ := zbu_use hf
    refine z_callVu (As := [.int v13]) (rest := []) hC hI (cX8_split_met st l D ad cy σ12 v13 _ g14) (zgV zw73_6 zw73_7 zw73_8 zw3_9 zw73_9) rfl ⟨rfl, rfl⟩ 1 hdX8_split ⟨Nat.le_of_ble_eq_true rfl, Nat.le_of_ble_eq_true rfl⟩ rfl rfl (wC_e10 ad cy σ12) rfl hl rfl (Nat.le_of_ble_eq_true rfl) dX8_patternsOf_51 ⟨Nat.zero_le _, Nat.zero_le _⟩ (fun H locs hI => ?_)
    refine lv_aload_n hx hb dX8_patternsOf_54 rfl (lv_at hl 0 rfl) ?_
    refine z_get hC hI hinX8_patternsOf_X80 10 (wC_e10 ad cy σ14) rfl 5 (by decide) (List.mem_cons_of_mem _ zw72_16) rfl dX8_patternsOf_55 ?_
    refine lv_iconst (v := 2) hx hb dX8_patternsOf_58 (by decide) ?_
    refine lv_icmp_ne (tgt := 69) hx hb dX8_patternsOf_59 (by decide) (fun q => ?_) (fun q => ?_)
    · replace hf := zif_f q hf
      refine lv_aload_n hx hb dX8_patternsOf_69 rfl (lv_at hl 0 rfl) ?_
      obtain ⟨σ15, v16, g15, hf⟩ := zbk_use hf
      refine z_callVk (As := []) (rest := []) hC hI (cX8_morePatterns_met st l D ad cy σ14  _ g15) (zgV zw73_18 zw73_19 zw73_20 zw3_9 zw73_21) rfl ⟨rfl, rfl⟩ 0 hdX8_morePatterns ⟨Nat.le_of_ble_eq_true rfl, Nat.le_of_ble_eq_true rfl⟩ rfl rfl (wC_e10 ad cy σ14) rfl hl rfl (Nat.le_of_ble_eq_true rfl) dX8_patternsOf_70 ⟨Nat.zero_le _, Nat.zero_le _⟩ (fun H locs hI => ?_)
      exact bX8_patternsOf_73 hC  hI (lv_sub hl [] rfl) hf
    replace hf := zif_t q hf
    refine lv_aload_n hx hb dX8_patternsOf_62 rfl (lv_at hl 0 rfl) ?_
    obtain ⟨σ17, v18, g17, hf⟩ := zbk_use hf
    refine z_callVk (As := []) (rest := []) hC hI (cX8_blockPatterns_met st l D ad cy σ14  _ g17) (zgV zw73_14 zw73_15 zw73_16 zw3_9 zw73_17) rfl ⟨rfl, rfl⟩ 0 hdX8_blockPatterns ⟨Nat.le_of_ble_eq_true rfl, Nat.le_of_ble_eq_true rfl⟩ rfl rfl (wC_e10 ad cy σ14) rfl hl rfl (Nat.le_of_ble_eq_true rfl) dX8_patternsOf_63 ⟨Nat.zero_le _, Nat.zero_le _⟩ (fun H locs hI => ?_)
    refine lv_goto (tgt := 73) hx hb dX8_patternsOf_66 (by decide) ?_
    exact bX8_patternsOf_73 hC  hI (lv_sub hl [] rfl) hf
  replace hf := zif_t q hf
  refine lv_aload_n hx hb dX8_patternsOf_7 rfl (lv_at hl 0 rfl) ?_
  refine lv_aload_n hx hb dX8_patternsOf_8 rfl (lv_at hl 0 rfl) ?_
  refine z_get hC hI hinX8_patternsOf_X80 10 (wC_e10 ad cy σ) rfl 8 (by decide) (List.mem_cons_of_mem _ zw70_9) rfl dX8_patternsOf_9 ?_
  refine lv_if_ne (tgt := 19) hx hb dX8_patternsOf_12 (by decide) (fun q => ?_) (fun q => ?_)
  · replace hf := zif_f q hf
    refine lv_aload_n hx hb dX8_patternsOf_19 rfl (lv_at hl 0 rfl) ?_
    obtain ⟨σ19, v20, g19, hf⟩ := zbi_use hf
    refine z_callVi (As := []) (rest := [.ref (ad 10)]) hC hI (cX8_take_met st l D ad cy σ  _ g19) (zgV zw70_11 zw70_12 zw70_13 zw3_9 zw70_14) rfl ⟨rfl, rfl⟩ 0 hdX8_take ⟨Nat.le_of_ble_eq_true rfl, Nat.le_of_ble_eq_true rfl⟩ rfl rfl (wC_e10 ad cy σ) rfl hl rfl (Nat.le_of_ble_eq_true rfl) dX8_patternsOf_20 ⟨Nat.zero_le _, Nat.zero_le _⟩ (fun H locs hI => ?_)
    exact bX8_patternsOf_23 hC  hI (lv_sub hl [0] rfl) hf
  replace hf := zif_t q hf
  refine lv_iconst (v := 0) hx hb dX8_patternsOf_15 (by decide) ?_
  refine lv_goto (tgt := 23) hx hb dX8_patternsOf_16 (by decide) ?_
  exact bX8_patternsOf_23 hC  hI (lv_sub hl [0] rfl) hf
set_option maxRecDepth 20000 in
theorem cX8_patternsOf_met (st : Nat → Nat) (l : Launch) (D : va_G) (ad : Nat → Nat) (cy : Nat → ClassId) (σ : zSt) (x1 : Int32) (res : zSt × Nat) (hf : fX8_patternsOf σ x1 = some res) (sz : Nat) : zMk st l yX8_patternsOf wzX8_patternsOf rmX8_patternsOf [.ref (ad 10), .int x1] D (tC cy) (wC ad cy) sz σ res :=
  zMk.of (cc := cX8_patternsOf) (maxL := 2) (ret := (some (.object "java/lang/String"))) (by decide) rfl (Nat.le_of_ble_eq_true rfl) (fun p e s m args below meth c hC A hI ls hl => bX8_patternsOf hC hI hl hf)
theorem hdX8_patternsOf : yX8_patternsOf.cls = RX8 ∧ yX8_patternsOf.cls ≠ "java/lang/invoke/MethodHandle" ∧ yX8_patternsOf.cls ≠ "java/lang/invoke/VarHandle" ∧ (parseMethodDescriptor yX8_patternsOf.desc).map (fun d => d.parameters.length) = some 1 := by decide +kernel
noncomputable def rmX8_write : Room := { frames := 9, cells := 0, slots := 0, locals := 226 }
noncomputable def wzX8_write : List Cond := .code yX8_write cX8_write 4 (some .int) :: wsL_law
theorem hinX8_write_X80 : ∀ w ∈ wsX80, w ∈ wzX8_write := fun w h => List.mem_cons_of_mem _ (inlX8 w h)
noncomputable def fX8_write_82  (σ : zSt)  : Option (zSt × Int32) :=
  zbu (fX8_put σ 0) (fun σ1 =>
  some (σ1, zgi σ1 10 4))
noncomputable def fX8_write_124  (σ : zSt) (x2 : Int32) : Option (zSt × Int32) :=
  zbk (fX8_patternsOf σ x2) (fun σ2 v3 =>
  zbu (fX8_put σ2 v3) (fun σ4 =>
  some (σ4, zgi σ4 10 4)))
noncomputable def fX8_write_108  (σ : zSt) (s0 : Int32) : Option (zSt × Int32) :=
  zbv (zsi σ 10 8 s0) (fun σ5 =>
  zbi (fX8_take σ5 ) (fun σ6 v7 =>
  zbi (fX5_meansPlace σ6 v7) (fun σ8 v9 =>
  zck (zbo v9) (zbv (zsi σ8 10 9 v9) (fun σ10 =>
  fX8_write_124 σ10 v7)))))
noncomputable def fX8_write_47  (σ : zSt) (x2 : Int32) : Option (zSt × Int32) :=
  zbi (fX2_read σ ((zgi σ 10 3) + 1)) (fun σ11 v12 =>
  if v12 = 221 then fX8_write_82 σ11 else
  if v12 = 237 then fX8_write_82 σ11 else
  if v12 = 253 then fX8_write_82 σ11 else
  if x2 = 221 then fX8_write_108 σ11 120 else
  fX8_write_108 σ11 121)
noncomputable def fX8_write  (σ : zSt) (x1 : Int32) : Option (zSt × Int32) :=
  zbv (zsi σ 10 3 (x1 &&& 65535)) (fun σ13 =>
  zbv (zsi σ13 10 4 0) (fun σ14 =>
  zbv (zsi σ14 10 2 0) (fun σ15 =>
  zbv (zsi σ15 10 8 0) (fun σ16 =>
  zck (zbo 0) (zbv (zsi σ16 10 9 0) (fun σ17 =>
  zbi (fX8_take σ17 ) (fun σ18 v19 =>
  if v19 = 221 then fX8_write_47 σ18 v19 else
  if v19 = 253 then fX8_write_47 σ18 v19 else
  fX8_write_124 σ18 v19)))))))
set_option maxRecDepth 20000 in
set_option maxHeartbeats 4000000 in
theorem bX8_write_82 {st : Nat → Nat} {p : Program} {l : Launch} {e : Env} {s : State} {m : MethodId} {args : Array Value} {below : List Frame} {meth : Method} {c : Code} {D : va_G} {A : Nat → Prop} {ad : Nat → Nat} {cy : Nat → ClassId} (hC : zC p m c cX8_write 4 s args wzX8_write RX8 meth (some .int))  {res : zSt × Int32} {H : Heap} {locs : List Loc} {σ : zSt} {ls : Array Slot}  (hI : zI st D (tC cy) (wC ad cy σ) A s H locs) (hl : lv_has ls 4 [(0, .ref (ad 10))]) (hf : fX8_write_82  σ  = some res) : W p l e rmX8_write s m args below meth c H locs 0 0 (zQi below args s D (tC cy) (wC ad cy) A res) (F0 m 82 ls []) := by
  have hx := hC.1
  have hb := hC.2.1
  unfold fX8_write_82 at hf
  refine lv_aload_n hx hb dX8_write_82 rfl (lv_at hl 0 rfl) ?_
  refine z_ldcS hC hI 0 (by decide) rfl rfl dX8_write_83 ?_
  obtain ⟨σ1, g1, hf⟩ := zbu_use hf
  refine z_callVu (As := [.ref (st (100 + 0))]) (rest := []) hC hI (cX8_put_met st l D ad cy σ 0 _ g1) (zgV zw70_16 zw70_17 zw70_18 zw3_9 zw70_19) rfl ⟨rfl, rfl⟩ 1 hdX8_put ⟨Nat.le_of_ble_eq_true rfl, Nat.le_of_ble_eq_true rfl⟩ rfl rfl (wC_e10 ad cy σ) rfl hl rfl (Nat.le_of_ble_eq_true rfl) dX8_write_85 ⟨Nat.zero_le _, Nat.zero_le _⟩ (fun H locs hI => ?_)
  refine lv_aload_n hx hb dX8_write_88 rfl (lv_at hl 0 rfl) ?_
  refine z_get hC hI hinX8_write_X80 10 (wC_e10 ad cy σ1) rfl 4 (by decide) (List.mem_cons_of_mem _ zw70_7) rfl dX8_write_89 ?_
  exact z_ireturn hC hI hf dX8_write_92
set_option maxRecDepth 20000 in
set_option maxHeartbeats 4000000 in
theorem bX8_write_124 {st : Nat → Nat} {p : Program} {l : Launch} {e : Env} {s : State} {m : MethodId} {args : Array Value} {below : List Frame} {meth : Method} {c : Code} {D : va_G} {A : Nat → Prop} {ad : Nat → Nat} {cy : Nat → ClassId} (hC : zC p m c cX8_write 4 s args wzX8_write RX8 meth (some .int))  {res : zSt × Int32} {H : Heap} {locs : List Loc} {σ : zSt} {ls : Array Slot} {x2 : Int32} (hI : zI st D (tC cy) (wC ad cy σ) A s H locs) (hl : lv_has ls 4 [(0, .ref (ad 10)), (2, .int x2)]) (hf : fX8_write_124  σ x2 = some res) : W p l e rmX8_write s m args below meth c H locs 0 0 (zQi below args s D (tC cy) (wC ad cy) A res) (F0 m 124 ls []) := by
  have hx := hC.1
  have hb := hC.2.1
  unfold fX8_write_124 at hf
  refine lv_aload_n hx hb dX8_write_124 rfl (lv_at hl 0 rfl) ?_
  refine lv_aload_n hx hb dX8_write_125 rfl (lv_at hl 0 rfl) ?_
  refine lv_iload_n hx hb dX8_write_126 rfl (lv_at hl 1 rfl) ?_
  obtain ⟨σ2, v3, g2, hf⟩ := zbk_use hf
  refine z_callVk (As := [.int x2]) (rest := [.ref (ad 10)]) hC hI (cX8_patternsOf_met st l D ad cy σ x2 _ g2) (zgV zw73_2 zw73_3 zw73_4 zw3_9 zw73_5) rfl ⟨rfl, rfl⟩ 1 hdX8_patternsOf ⟨Nat.le_of_ble_eq_true rfl, Nat.le_of_ble_eq_true rfl⟩ rfl rfl (wC_e10 ad cy σ) rfl hl rfl (Nat.le_of_ble_eq_true rfl) dX8_write_127 ⟨Nat.zero_le _, Nat.zero_le _⟩ (fun H locs hI => ?_)
  obtain ⟨σ4, g4, hf⟩ := zbu_use hf
  refine z_callVu (As := [.ref (st (100 + v3))]) (rest := []) hC hI (cX8_put_met st l D ad cy σ2 v3 _ g4) (zgV zw70_16 zw70_17 zw70_18 zw3_9 zw70_19) rfl ⟨rfl, rfl⟩ 1 hdX8_put ⟨Nat.le_of_ble_eq_true rfl, Nat.le_of_ble_eq_true rfl⟩ rfl rfl (wC_e10 ad cy σ2) rfl hl rfl (Nat.le_of_ble_eq_true rfl) dX8_write_130 ⟨Nat.zero_le _, Nat.zero_le _⟩ (fun H locs hI => ?_)
  refine lv_aload_n hx hb dX8_write_133 rfl (lv_at hl 0 rfl) ?_
  refine z_get hC hI hinX8_write_X80 10 (wC_e10 ad cy σ4) rfl 4 (by decide) (List.mem_cons_of_mem _ zw70_7) rfl dX8_write_134 ?_
  exact z_ireturn hC hI hf dX8_write_137
set_option maxRecDepth 20000 in
set_option maxHeartbeats 4000000 in
theorem bX8_write_108 {st : Nat → Nat} {p : Program} {l : Launch} {e : Env} {s : State} {m : MethodId} {args : Array Value} {below : List Frame} {meth : Method} {c : Code} {D : va_G} {A : Nat → Prop} {ad : Nat → Nat} {cy : Nat → ClassId} (hC : zC p m c cX8_write 4 s args wzX8_write RX8 meth (some .int))  {res : zSt × Int32} {H : Heap} {locs : List Loc} {σ : zSt} {ls : Array Slot} {s0 : Int32} (hI : zI st D (tC cy) (wC ad cy σ) A s H locs) (hl : lv_has ls 4 [(0, .ref (ad 10))]) (hf : fX8_write_108  σ s0 = some res) : W p l e rmX8_write s m args below meth c H locs 0 0 (zQi below args s D (tC cy) (wC ad cy) A res) (F0 m 108 ls [.int s0, .ref (ad 10)]) := by
  have hx := hC.1
  have hb := hC.2.1
  unfold fX8_write_108 at hf
  obtain ⟨σ5, eσ5⟩ : ∃ z, z = zsi σ 10 8 s0 := ⟨_, rfl⟩
  replace hf := zbv_use eσ5 hf
  refine z_put hC hI hinX8_write_X80 tyX8_ok nmX8 10 (wC_e10 ad cy σ) rfl 8 (by decide) (List.mem_cons_of_mem _ zw70_9) rfl rfl rfl (Nat.le_of_ble_eq_true rfl) ((wC_s10_8 ad cy σ s0).trans (congrArg (wC ad cy) eσ5.symm)) dX8_write_108 (fun H locs hI => ?_)
  refine lv_aload_n hx hb dX8_write_111 rfl (lv_at hl 0 rfl) ?_
  obtain ⟨σ6, v7, g6, hf⟩ := zbi_use hf
  refine z_callVi (As := []) (rest := []) hC hI (cX8_take_met st l D ad cy σ5  _ g6) (zgV zw70_11 zw70_12 zw70_13 zw3_9 zw70_14) rfl ⟨rfl, rfl⟩ 0 hdX8_take ⟨Nat.le_of_ble_eq_true rfl, Nat.le_of_ble_eq_true rfl⟩ rfl rfl (wC_e10 ad cy σ5) rfl hl rfl (Nat.le_of_ble_eq_true rfl) dX8_write_112 ⟨Nat.zero_le _, Nat.zero_le _⟩ (fun H locs hI => ?_)
  refine lv_istore_n (lv' := [(2, .int v7), (0, .ref (ad 10))]) hx hb dX8_write_115 rfl hl (by decide) rfl (fun ls hl => ?_)
  refine lv_aload_n hx hb dX8_write_116 rfl (lv_at hl 1 rfl) ?_
  refine lv_iload_n hx hb dX8_write_117 rfl (lv_at hl 0 rfl) ?_
  obtain ⟨σ8, v9, g8, hf⟩ := zbi_use hf
  refine z_callSi (As := [.int v7]) (rest := [.ref (ad 10)]) hC hI (cX5_meansPlace_met st l D ad cy σ6 v7 _ g8) (zgS zw73_1 zw23_22 zw2_21 zw23_23) rfl ⟨rfl, rfl⟩ 1 hdX5_meansPlace ⟨Nat.le_of_ble_eq_true rfl, Nat.le_of_ble_eq_true rfl⟩ rfl hl rfl (Nat.le_of_ble_eq_true rfl) dX8_write_118 ⟨Nat.zero_le _, Nat.zero_le _⟩ (fun H locs hI => ?_)
  obtain ⟨q, hf⟩ := zck_use hf
  obtain ⟨σ10, eσ10⟩ : ∃ z, z = zsi σ8 10 9 v9 := ⟨_, rfl⟩
  replace hf := zbv_use eσ10 hf
  refine z_put hC hI hinX8_write_X80 tyX8_ok nmX8 10 (wC_e10 ad cy σ8) rfl 9 (by decide) (List.mem_cons_of_mem _ zw70_10) rfl (zbo_n q) (zbo_f q) (Nat.le_of_ble_eq_true rfl) ((wC_s10_9 ad cy σ8 v9).trans (congrArg (wC ad cy) eσ10.symm)) dX8_write_121 (fun H locs hI => ?_)
  exact bX8_write_124 hC  hI (lv_sub hl [1, 0] rfl) hf
set_option maxRecDepth 20000 in
set_option maxHeartbeats 4000000 in
theorem bX8_write_47 {st : Nat → Nat} {p : Program} {l : Launch} {e : Env} {s : State} {m : MethodId} {args : Array Value} {below : List Frame} {meth : Method} {c : Code} {D : va_G} {A : Nat → Prop} {ad : Nat → Nat} {cy : Nat → ClassId} (hC : zC p m c cX8_write 4 s args wzX8_write RX8 meth (some .int))  {res : zSt × Int32} {H : Heap} {locs : List Loc} {σ : zSt} {ls : Array Slot} {x2 : Int32} (hI : zI st D (tC cy) (wC ad cy σ) A s H locs) (hl : lv_has ls 4 [(0, .ref (ad 10)), (2, .int x2)]) (hf : fX8_write_47  σ x2 = some res) : W p l e rmX8_write s m args below meth c H locs 0 0 (zQi below args s D (tC cy) (wC ad cy) A res) (F0 m 47 ls []) := by
  have hx := hC.1
  have hb := hC.2.1
  unfold fX8_write_47 at hf
  refine lv_aload_n hx hb dX8_write_47 rfl (lv_at hl 0 rfl) ?_
  refine z_get hC hI hinX8_write_X80 10 (wC_e10 ad cy σ) rfl 0 (by decide) (List.mem_cons_of_mem _ zw8_20) rfl dX8_write_48 ?_
  refine lv_aload_n hx hb dX8_write_51 rfl (lv_at hl 0 rfl) ?_
  refine z_get hC hI hinX8_write_X80 10 (wC_e10 ad cy σ) rfl 3 (by decide) (List.mem_cons_of_mem _ zw70_6) rfl dX8_write_52 ?_
  refine lv_iconst (v := 1) hx hb dX8_write_55 (by decide) ?_
  refine lv_iadd hx hb dX8_write_56 ?_
  obtain ⟨σ11, v12, g11, hf⟩ := zbi_use hf
  refine z_callVi (As := [.int ((zgi σ 10 3) + 1)]) (rest := []) hC hI (cX2_read_met st l D ad cy σ ((zgi σ 10 3) + 1) _ g11) (zgV zw70_15 zw21_7 zw21_8 zw1_21 zw21_9) rfl ⟨rfl, rfl⟩ 1 hdX2_read ⟨Nat.le_of_ble_eq_true rfl, Nat.le_of_ble_eq_true rfl⟩ rfl rfl (wC_e1 ad cy σ) rfl hl rfl (Nat.le_of_ble_eq_true rfl) dX8_write_57 ⟨Nat.zero_le _, Nat.zero_le _⟩ (fun H locs hI => ?_)
  refine lv_istore_n (lv' := [(3, .int v12), (0, .ref (ad 10)), (2, .int x2)]) hx hb dX8_write_60 rfl hl (by decide) rfl (fun ls hl => ?_)
  refine lv_iload_n hx hb dX8_write_61 rfl (lv_at hl 0 rfl) ?_
  refine lv_sipush (v := 221) hx hb dX8_write_62 (by decide) ?_
  refine lv_icmp_eq (tgt := 82) hx hb dX8_write_65 (by decide) (fun q => ?_) (fun q => ?_)
  · replace hf := zif_t q hf
    exact bX8_write_82 hC  hI (lv_sub hl [1] rfl) hf
  replace hf := zif_f q hf
  refine lv_iload_n hx hb dX8_write_68 rfl (lv_at hl 0 rfl) ?_
  refine lv_sipush (v := 237) hx hb dX8_write_69 (by decide) ?_
  refine lv_icmp_eq (tgt := 82) hx hb dX8_write_72 (by decide) (fun q => ?_) (fun q => ?_)
  · replace hf := zif_t q hf
    exact bX8_write_82 hC  hI (lv_sub hl [1] rfl) hf
  replace hf := zif_f q hf
  refine lv_iload_n hx hb dX8_write_75 rfl (lv_at hl 0 rfl) ?_
  refine lv_sipush (v := 253) hx hb dX8_write_76 (by decide) ?_
  refine lv_icmp_ne (tgt := 93) hx hb dX8_write_79 (by decide) (fun q => ?_) (fun q => ?_)
  · replace hf := zif_f q hf
    refine lv_aload_n hx hb dX8_write_93 rfl (lv_at hl 1 rfl) ?_
    refine lv_iload_n hx hb dX8_write_94 rfl (lv_at hl 2 rfl) ?_
    refine lv_sipush (v := 221) hx hb dX8_write_95 (by decide) ?_
    refine lv_icmp_ne (tgt := 106) hx hb dX8_write_98 (by decide) (fun q => ?_) (fun q => ?_)
    · replace hf := zif_f q hf
      refine lv_bipush (v := 121) hx hb dX8_write_106 (by decide) ?_
      exact bX8_write_108 hC  hI (lv_sub hl [1] rfl) hf
    replace hf := zif_t q hf
    refine lv_bipush (v := 120) hx hb dX8_write_101 (by decide) ?_
    refine lv_goto (tgt := 108) hx hb dX8_write_103 (by decide) ?_
    exact bX8_write_108 hC  hI (lv_sub hl [1] rfl) hf
  replace hf := zif_t q hf
  exact bX8_write_82 hC  hI (lv_sub hl [1] rfl) hf
set_option maxRecDepth 20000 in
set_option maxHeartbeats 4000000 in
theorem bX8_write {st : Nat → Nat} {p : Program} {l : Launch} {e : Env} {s : State} {m : MethodId} {args : Array Value} {below : List Frame} {meth : Method} {c : Code} {D : va_G} {A : Nat → Prop} {ad : Nat → Nat} {cy : Nat → ClassId} (hC : zC p m c cX8_write 4 s args wzX8_write RX8 meth (some .int))  {res : zSt × Int32} {H : Heap} {locs : List Loc} {σ : zSt} {ls : Array Slot} {x1 : Int32} (hI : zI st D (tC cy) (wC ad cy σ) A s H locs) (hl : lv_has ls 4 [(0, .ref (ad 10)), (1, .int x1)]) (hf : fX8_write  σ x1 = some res) : W p l e rmX8_write s m args below meth c H locs 0 0 (zQi below args s D (tC cy) (wC ad cy) A res) (F0 m 0 ls []) := by
  have hx := hC.1
  have hb := hC.2.1
  unfold fX8_write at hf
  refine lv_aload_n hx hb dX8_write_0 rfl (lv_at hl 0 rfl) ?_
  refine lv_iload_n hx hb dX8_write_1 rfl (lv_at hl 1 rfl) ?_
  refine lv_ldc (v := 65535) hx hb hC.2.2.2.1 (hC.2.2.2.2.1 _ (List.mem_cons_of_mem _ zw70_5)) dX8_write_2 ?_
  refine lv_iand hx hb dX8_write_4 ?_
  obtain ⟨σ13, eσ13⟩ : ∃ z, z = zsi σ 10 3 (x1 &&& 65535) := ⟨_, rfl⟩
  replace hf := zbv_use eσ13 hf
  refine z_put hC hI hinX8_write_X80 tyX8_ok nmX8 10 (wC_e10 ad cy σ) rfl 3 (by decide) (List.mem_cons_of_mem _ zw70_6) rfl rfl rfl (Nat.le_of_ble_eq_true rfl) ((wC_s10_3 ad cy σ (x1 &&& 65535)).trans (congrArg (wC ad cy) eσ13.symm)) dX8_write_5 (fun H locs hI => ?_)
  refine lv_aload_n hx hb dX8_write_8 rfl (lv_at hl 0 rfl) ?_
  refine lv_iconst (v := 0) hx hb dX8_write_9 (by decide) ?_
  obtain ⟨σ14, eσ14⟩ : ∃ z, z = zsi σ13 10 4 0 := ⟨_, rfl⟩
  replace hf := zbv_use eσ14 hf
  refine z_put hC hI hinX8_write_X80 tyX8_ok nmX8 10 (wC_e10 ad cy σ13) rfl 4 (by decide) (List.mem_cons_of_mem _ zw70_7) rfl rfl rfl (Nat.le_of_ble_eq_true rfl) ((wC_s10_4 ad cy σ13 0).trans (congrArg (wC ad cy) eσ14.symm)) dX8_write_10 (fun H locs hI => ?_)
  refine lv_aload_n hx hb dX8_write_13 rfl (lv_at hl 0 rfl) ?_
  refine lv_iconst (v := 0) hx hb dX8_write_14 (by decide) ?_
  obtain ⟨σ15, eσ15⟩ : ∃ z, z = zsi σ14 10 2 0 := ⟨_, rfl⟩
  replace hf := zbv_use eσ15 hf
  refine z_put hC hI hinX8_write_X80 tyX8_ok nmX8 10 (wC_e10 ad cy σ14) rfl 2 (by decide) (List.mem_cons_of_mem _ zw70_8) rfl rfl rfl (Nat.le_of_ble_eq_true rfl) ((wC_s10_2 ad cy σ14 0).trans (congrArg (wC ad cy) eσ15.symm)) dX8_write_15 (fun H locs hI => ?_)
  refine lv_aload_n hx hb dX8_write_18 rfl (lv_at hl 0 rfl) ?_
  refine lv_iconst (v := 0) hx hb dX8_write_19 (by decide) ?_
  obtain ⟨σ16, eσ16⟩ : ∃ z, z = zsi σ15 10 8 0 := ⟨_, rfl⟩
  replace hf := zbv_use eσ16 hf
  refine z_put hC hI hinX8_write_X80 tyX8_ok nmX8 10 (wC_e10 ad cy σ15) rfl 8 (by decide) (List.mem_cons_of_mem _ zw70_9) rfl rfl rfl (Nat.le_of_ble_eq_true rfl) ((wC_s10_8 ad cy σ15 0).trans (congrArg (wC ad cy) eσ16.symm)) dX8_write_20 (fun H locs hI => ?_)
  refine lv_aload_n hx hb dX8_write_23 rfl (lv_at hl 0 rfl) ?_
  refine lv_iconst (v := 0) hx hb dX8_write_24 (by decide) ?_
  obtain ⟨q, hf⟩ := zck_use hf
  obtain ⟨σ17, eσ17⟩ : ∃ z, z = zsi σ16 10 9 0 := ⟨_, rfl⟩
  replace hf := zbv_use eσ17 hf
  refine z_put hC hI hinX8_write_X80 tyX8_ok nmX8 10 (wC_e10 ad cy σ16) rfl 9 (by decide) (List.mem_cons_of_mem _ zw70_10) rfl (zbo_n q) (zbo_f q) (Nat.le_of_ble_eq_true rfl) ((wC_s10_9 ad cy σ16 0).trans (congrArg (wC ad cy) eσ17.symm)) dX8_write_25 (fun H locs hI => ?_)
  refine lv_aload_n hx hb dX8_write_28 rfl (lv_at hl 0 rfl) ?_
  obtain ⟨σ18, v19, g18, hf⟩ := zbi_use hf
  refine z_callVi (As := []) (rest := []) hC hI (cX8_take_met st l D ad cy σ17  _ g18) (zgV zw70_11 zw70_12 zw70_13 zw3_9 zw70_14) rfl ⟨rfl, rfl⟩ 0 hdX8_take ⟨Nat.le_of_ble_eq_true rfl, Nat.le_of_ble_eq_true rfl⟩ rfl rfl (wC_e10 ad cy σ17) rfl hl rfl (Nat.le_of_ble_eq_true rfl) dX8_write_29 ⟨Nat.zero_le _, Nat.zero_le _⟩ (fun H locs hI => ?_)
  refine lv_istore_n (lv' := [(2, .int v19), (0, .ref (ad 10)), (1, .int x1)]) hx hb dX8_write_32 rfl hl (by decide) rfl (fun ls hl => ?_)
  refine lv_iload_n hx hb dX8_write_33 rfl (lv_at hl 0 rfl) ?_
  refine lv_sipush (v := 221) hx hb dX8_write_34 (by decide) ?_
  refine lv_icmp_eq (tgt := 47) hx hb dX8_write_37 (by decide) (fun q => ?_) (fun q => ?_)
  · replace hf := zif_t q hf
    exact bX8_write_47 hC  hI (lv_sub hl [1, 0] rfl) hf
  replace hf := zif_f q hf
  refine lv_iload_n hx hb dX8_write_40 rfl (lv_at hl 0 rfl) ?_
  refine lv_sipush (v := 253) hx hb dX8_write_41 (by decide) ?_
  refine lv_icmp_ne (tgt := 124) hx hb dX8_write_44 (by decide) (fun q => ?_) (fun q => ?_)
  · replace hf := zif_f q hf
    exact bX8_write_124 hC  hI (lv_sub hl [1, 0] rfl) hf
  replace hf := zif_t q hf
  exact bX8_write_47 hC  hI (lv_sub hl [1, 0] rfl) hf
set_option maxRecDepth 20000 in
theorem cX8_write_met (st : Nat → Nat) (l : Launch) (D : va_G) (ad : Nat → Nat) (cy : Nat → ClassId) (σ : zSt) (x1 : Int32) (res : zSt × Int32) (hf : fX8_write σ x1 = some res) (sz : Nat) : zMi st l yX8_write wzX8_write rmX8_write [.ref (ad 10), .int x1] D (tC cy) (wC ad cy) sz σ res :=
  zMi.of (cc := cX8_write) (maxL := 4) (ret := (some .int)) (by decide) rfl (Nat.le_of_ble_eq_true rfl) (fun p e s m args below meth c hC A hI ls hl => bX8_write hC hI hl hf)
theorem hdX8_write : yX8_write.cls = RX8 ∧ yX8_write.cls ≠ "java/lang/invoke/MethodHandle" ∧ yX8_write.cls ≠ "java/lang/invoke/VarHandle" ∧ (parseMethodDescriptor yX8_write.desc).map (fun d => d.parameters.length) = some 1 := by decide +kernel
noncomputable def rmX8_eightFrom : Room := { frames := 0, cells := 0, slots := 0, locals := 0 }
noncomputable def wzX8_eightFrom : List Cond := .code yX8_eightFrom cX8_eightFrom 6 (some .long) :: wsL_law
theorem hinX8_eightFrom_X80 : ∀ w ∈ wsX80, w ∈ wzX8_eightFrom := fun w h => List.mem_cons_of_mem _ (inlX8 w h)
noncomputable def fX8_eightFrom_39 (k6 : zSt → Int32 → Int64 → Int32 → Option (zSt × Int64)) (σ : zSt) (x1 : Int32) (x2 : Int64) (x4 : Int32) (s0 : Int32) : Option (zSt × Int64) :=
  zbv ((zlshl x2 8) ||| (s0.toInt64)) (fun v1 =>
  zbv (x4 + (-1)) (fun v2 =>
  k6 σ x1 v1 v2))
noncomputable def fX8_eightFrom_38 (k6 : zSt → Int32 → Int64 → Int32 → Option (zSt × Int64)) (σ : zSt) (x1 : Int32) (x2 : Int64) (x4 : Int32) : Option (zSt × Int64) :=
  fX8_eightFrom_39 k6 σ x1 x2 x4 0
noncomputable def fX8_eightFrom_6_body (k6 : zSt → Int32 → Int64 → Int32 → Option (zSt × Int64)) (σ : zSt) (x1 : Int32) (x2 : Int64) (x4 : Int32) : Option (zSt × Int64) :=
  if x4 < 0 then some (σ, x2) else
  if x1 < 0 then fX8_eightFrom_38 k6 σ x1 x2 x4 else
  if ((zgi σ 10 2) - x4) ≤ x1 then fX8_eightFrom_38 k6 σ x1 x2 x4 else
  zck (zin (x1 + x4) 32) (
  fX8_eightFrom_39 k6 σ x1 x2 x4 (zgi σ 45 (x1 + x4).toNatClampNeg))
noncomputable def fX8_eightFrom_6  : Nat → zSt → Int32 → Int64 → Int32 → Option (zSt × Int64)
  | 0, _, _, _, _ => none
  | n + 1, σ, x1, x2, x4 => fX8_eightFrom_6_body (fX8_eightFrom_6  n) σ x1 x2 x4
noncomputable def fX8_eightFrom  (σ : zSt) (x1 : Int32) : Option (zSt × Int64) :=
  fX8_eightFrom_6 zfuel σ x1 0 7
set_option maxRecDepth 20000 in
set_option maxHeartbeats 4000000 in
theorem bX8_eightFrom_39 {st : Nat → Nat} {p : Program} {l : Launch} {e : Env} {s : State} {m : MethodId} {args : Array Value} {below : List Frame} {meth : Method} {c : Code} {D : va_G} {A : Nat → Prop} {ad : Nat → Nat} {cy : Nat → ClassId} (hC : zC p m c cX8_eightFrom 6 s args wzX8_eightFrom RX8 meth (some .long)) {k6 : zSt → Int32 → Int64 → Int32 → Option (zSt × Int64)} {res : zSt × Int64} (hk6 : ∀ (H : Heap) (locs : List Loc) (σ : zSt) (ls : Array Slot) (x1 : Int32) (x2 : Int64) (x4 : Int32), zI st D (tC cy) (wC ad cy σ) A s H locs → lv_has ls 6 [(0, .ref (ad 10)), (1, .int x1), (2, .long x2), (4, .int x4)] → k6 σ x1 x2 x4 = some res → W p l e rmX8_eightFrom s m args below meth c H locs 0 0 (zQl below args s D (tC cy) (wC ad cy) A res) (F0 m 6 ls [])) {H : Heap} {locs : List Loc} {σ : zSt} {ls : Array Slot} {x1 : Int32} {x2 : Int64} {x4 : Int32} {s0 : Int32} (hI : zI st D (tC cy) (wC ad cy σ) A s H locs) (hl : lv_has ls 6 [(0, .ref (ad 10)), (1, .int x1), (2, .long x2), (4, .int x4)]) (hf : fX8_eightFrom_39 k6 σ x1 x2 x4 s0 = some res) : W p l e rmX8_eightFrom s m args below meth c H locs 0 0 (zQl below args s D (tC cy) (wC ad cy) A res) (F0 m 39 ls [.int s0]) := by
  have hx := hC.1
  have hb := hC.2.1
  unfold fX8_eightFrom_39 at hf
  refine lv_istore (lv' := [(5, .int s0), (0, .ref (ad 10)), (1, .int x1), (2, .long x2), (4, .int x4)]) hx hb dX8_eightFrom_39 hl (by decide) rfl (fun ls hl => ?_)
  refine lv_lload_n hx hb dX8_eightFrom_41 rfl (lv_at hl 3 rfl) ?_
  refine lv_bipush (v := 8) hx hb dX8_eightFrom_42 (by decide) ?_
  refine lv_lshl (v := zlshl x2 8) hx hb dX8_eightFrom_44 rfl ?_
  refine lv_iload hx hb dX8_eightFrom_45 (lv_at hl 0 rfl) ?_
  refine lv_i2l (v := s0.toInt64) hx hb dX8_eightFrom_47 rfl ?_
  refine lv_lor hx hb dX8_eightFrom_48 ?_
  refine lv_topl (fun v1 ev1 => ?_)
  replace hf := zbv_use ev1 hf
  refine lv_lstore_n (lv' := [(2, .long v1), (5, .int s0), (0, .ref (ad 10)), (1, .int x1), (4, .int x4)]) hx hb dX8_eightFrom_49 rfl hl (by decide) rfl (fun ls hl => ?_)
  obtain ⟨v2, ev2⟩ : ∃ z : Int32, z = x4 + (-1) := ⟨_, rfl⟩
  replace hf := zbv_use ev2 hf
  refine lv_iinc (v := v2) (lv' := [(4, .int v2), (2, .long v1), (5, .int s0), (0, .ref (ad 10)), (1, .int x1)]) hx hb dX8_eightFrom_50 hl (k := 4) rfl (by rw [ev2]; rfl) (by decide) rfl (fun ls hl => ?_)
  refine lv_goto (tgt := 6) hx hb dX8_eightFrom_53 (by decide) ?_
  exact hk6 _ _ _ _ _ _ _ hI (lv_sub hl [3, 4, 1, 0] rfl) hf
set_option maxRecDepth 20000 in
set_option maxHeartbeats 4000000 in
theorem bX8_eightFrom_38 {st : Nat → Nat} {p : Program} {l : Launch} {e : Env} {s : State} {m : MethodId} {args : Array Value} {below : List Frame} {meth : Method} {c : Code} {D : va_G} {A : Nat → Prop} {ad : Nat → Nat} {cy : Nat → ClassId} (hC : zC p m c cX8_eightFrom 6 s args wzX8_eightFrom RX8 meth (some .long)) {k6 : zSt → Int32 → Int64 → Int32 → Option (zSt × Int64)} {res : zSt × Int64} (hk6 : ∀ (H : Heap) (locs : List Loc) (σ : zSt) (ls : Array Slot) (x1 : Int32) (x2 : Int64) (x4 : Int32), zI st D (tC cy) (wC ad cy σ) A s H locs → lv_has ls 6 [(0, .ref (ad 10)), (1, .int x1), (2, .long x2), (4, .int x4)] → k6 σ x1 x2 x4 = some res → W p l e rmX8_eightFrom s m args below meth c H locs 0 0 (zQl below args s D (tC cy) (wC ad cy) A res) (F0 m 6 ls [])) {H : Heap} {locs : List Loc} {σ : zSt} {ls : Array Slot} {x1 : Int32} {x2 : Int64} {x4 : Int32} (hI : zI st D (tC cy) (wC ad cy σ) A s H locs) (hl : lv_has ls 6 [(0, .ref (ad 10)), (1, .int x1), (2, .long x2), (4, .int x4)]) (hf : fX8_eightFrom_38 k6 σ x1 x2 x4 = some res) : W p l e rmX8_eightFrom s m args below meth c H locs 0 0 (zQl below args s D (tC cy) (wC ad cy) A res) (F0 m 38 ls []) := by
  have hx := hC.1
  have hb := hC.2.1
  unfold fX8_eightFrom_38 at hf
  refine lv_iconst (v := 0) hx hb dX8_eightFrom_38 (by decide) ?_
  exact bX8_eightFrom_39 hC hk6 hI hl hf
set_option maxRecDepth 20000 in
set_option maxHeartbeats 4000000 in
theorem bX8_eightFrom_6_body {st : Nat → Nat} {p : Program} {l : Launch} {e : Env} {s : State} {m : MethodId} {args : Array Value} {below : List Frame} {meth : Method} {c : Code} {D : va_G} {A : Nat → Prop} {ad : Nat → Nat} {cy : Nat → ClassId} (hC : zC p m c cX8_eightFrom 6 s args wzX8_eightFrom RX8 meth (some .long)) {k6 : zSt → Int32 → Int64 → Int32 → Option (zSt × Int64)} {res : zSt × Int64} (hk6 : ∀ (H : Heap) (locs : List Loc) (σ : zSt) (ls : Array Slot) (x1 : Int32) (x2 : Int64) (x4 : Int32), zI st D (tC cy) (wC ad cy σ) A s H locs → lv_has ls 6 [(0, .ref (ad 10)), (1, .int x1), (2, .long x2), (4, .int x4)] → k6 σ x1 x2 x4 = some res → W p l e rmX8_eightFrom s m args below meth c H locs 0 0 (zQl below args s D (tC cy) (wC ad cy) A res) (F0 m 6 ls [])) {H : Heap} {locs : List Loc} {σ : zSt} {ls : Array Slot} {x1 : Int32} {x2 : Int64} {x4 : Int32} (hI : zI st D (tC cy) (wC ad cy σ) A s H locs) (hl : lv_has ls 6 [(0, .ref (ad 10)), (1, .int x1), (2, .long x2), (4, .int x4)]) (hf : fX8_eightFrom_6_body k6 σ x1 x2 x4 = some res) : W p l e rmX8_eightFrom s m args below meth c H locs 0 0 (zQl below args s D (tC cy) (wC ad cy) A res) (F0 m 6 ls []) := by
  have hx := hC.1
  have hb := hC.2.1
  unfold fX8_eightFrom_6_body at hf
  refine lv_iload hx hb dX8_eightFrom_6 (lv_at hl 3 rfl) ?_
  refine lv_if_lt (tgt := 56) hx hb dX8_eightFrom_8 (by decide) (fun q => ?_) (fun q => ?_)
  · replace hf := zif_t q hf
    refine lv_lload_n hx hb dX8_eightFrom_56 rfl (lv_at hl 2 rfl) ?_
    exact z_lreturn hC hI hf dX8_eightFrom_57
  replace hf := zif_f q hf
  refine lv_iload_n hx hb dX8_eightFrom_11 rfl (lv_at hl 1 rfl) ?_
  refine lv_if_lt (tgt := 38) hx hb dX8_eightFrom_12 (by decide) (fun q => ?_) (fun q => ?_)
  · replace hf := zif_t q hf
    exact bX8_eightFrom_38 hC hk6 hI hl hf
  replace hf := zif_f q hf
  refine lv_iload_n hx hb dX8_eightFrom_15 rfl (lv_at hl 1 rfl) ?_
  refine lv_aload_n hx hb dX8_eightFrom_16 rfl (lv_at hl 0 rfl) ?_
  refine z_get hC hI hinX8_eightFrom_X80 10 (wC_e10 ad cy σ) rfl 2 (by decide) (List.mem_cons_of_mem _ zw70_8) rfl dX8_eightFrom_17 ?_
  refine lv_iload hx hb dX8_eightFrom_20 (lv_at hl 3 rfl) ?_
  refine lv_isub hx hb dX8_eightFrom_22 ?_
  refine lv_icmp_ge (tgt := 38) hx hb dX8_eightFrom_23 (by decide) (fun q => ?_) (fun q => ?_)
  · replace hf := zif_t q hf
    exact bX8_eightFrom_38 hC hk6 hI hl hf
  replace hf := zif_f q hf
  refine lv_aload_n hx hb dX8_eightFrom_26 rfl (lv_at hl 0 rfl) ?_
  refine z_get hC hI hinX8_eightFrom_X80 10 (wC_e10 ad cy σ) rfl 1 (by decide) (List.mem_cons_of_mem _ zw8_19) rfl dX8_eightFrom_27 ?_
  refine lv_iload_n hx hb dX8_eightFrom_30 rfl (lv_at hl 1 rfl) ?_
  refine lv_iload hx hb dX8_eightFrom_31 (lv_at hl 3 rfl) ?_
  refine lv_iadd hx hb dX8_eightFrom_33 ?_
  obtain ⟨q, hf⟩ := zck_use hf
  refine z_iald hC hI 45 32 (wC_e45 ad cy σ) (tC_t45 cy) q dX8_eightFrom_34 ?_
  refine lv_goto (tgt := 39) hx hb dX8_eightFrom_35 (by decide) ?_
  exact bX8_eightFrom_39 hC hk6 hI hl hf
theorem blX8_eightFrom_6 {st : Nat → Nat} {p : Program} {l : Launch} {e : Env} {s : State} {m : MethodId} {args : Array Value} {below : List Frame} {meth : Method} {c : Code} {D : va_G} {A : Nat → Prop} {ad : Nat → Nat} {cy : Nat → ClassId} (hC : zC p m c cX8_eightFrom 6 s args wzX8_eightFrom RX8 meth (some .long))  {res : zSt × Int64} : ∀ (n : Nat) (H : Heap) (locs : List Loc) (σ : zSt) (ls : Array Slot) (x1 : Int32) (x2 : Int64) (x4 : Int32), zI st D (tC cy) (wC ad cy σ) A s H locs → lv_has ls 6 [(0, .ref (ad 10)), (1, .int x1), (2, .long x2), (4, .int x4)] → fX8_eightFrom_6  n σ x1 x2 x4 = some res → W p l e rmX8_eightFrom s m args below meth c H locs 0 0 (zQl below args s D (tC cy) (wC ad cy) A res) (F0 m 6 ls []) := by
  intro n
  induction n with
  | zero => intro H locs σ ls x1 x2 x4 hI hl hf; cases hf
  | succ n ih => intro H locs σ ls x1 x2 x4 hI hl hf; exact bX8_eightFrom_6_body hC ih hI hl hf
set_option maxRecDepth 20000 in
set_option maxHeartbeats 4000000 in
theorem bX8_eightFrom {st : Nat → Nat} {p : Program} {l : Launch} {e : Env} {s : State} {m : MethodId} {args : Array Value} {below : List Frame} {meth : Method} {c : Code} {D : va_G} {A : Nat → Prop} {ad : Nat → Nat} {cy : Nat → ClassId} (hC : zC p m c cX8_eightFrom 6 s args wzX8_eightFrom RX8 meth (some .long))  {res : zSt × Int64} {H : Heap} {locs : List Loc} {σ : zSt} {ls : Array Slot} {x1 : Int32} (hI : zI st D (tC cy) (wC ad cy σ) A s H locs) (hl : lv_has ls 6 [(0, .ref (ad 10)), (1, .int x1)]) (hf : fX8_eightFrom  σ x1 = some res) : W p l e rmX8_eightFrom s m args below meth c H locs 0 0 (zQl below args s D (tC cy) (wC ad cy) A res) (F0 m 0 ls []) := by
  have hx := hC.1
  have hb := hC.2.1
  unfold fX8_eightFrom at hf
  refine lv_lconst (v := 0) hx hb dX8_eightFrom_0 (by decide) ?_
  refine lv_lstore_n (lv' := [(2, .long 0), (0, .ref (ad 10)), (1, .int x1)]) hx hb dX8_eightFrom_1 rfl hl (by decide) rfl (fun ls hl => ?_)
  refine lv_bipush (v := 7) hx hb dX8_eightFrom_2 (by decide) ?_
  refine lv_istore (lv' := [(4, .int 7), (2, .long 0), (0, .ref (ad 10)), (1, .int x1)]) hx hb dX8_eightFrom_4 hl (by decide) rfl (fun ls hl => ?_)
  exact blX8_eightFrom_6 hC  zfuel _ _ _ _ _ _ _ hI (lv_sub hl [2, 3, 1, 0] rfl) hf
set_option maxRecDepth 20000 in
theorem cX8_eightFrom_met (st : Nat → Nat) (l : Launch) (D : va_G) (ad : Nat → Nat) (cy : Nat → ClassId) (σ : zSt) (x1 : Int32) (res : zSt × Int64) (hf : fX8_eightFrom σ x1 = some res) (sz : Nat) : zMl st l yX8_eightFrom wzX8_eightFrom rmX8_eightFrom [.ref (ad 10), .int x1] D (tC cy) (wC ad cy) sz σ res :=
  zMl.of (cc := cX8_eightFrom) (maxL := 6) (ret := (some .long)) (by decide) rfl (Nat.le_of_ble_eq_true rfl) (fun p e s m args below meth c hC A hI ls hl => bX8_eightFrom hC hI hl hf)
theorem hdX8_eightFrom : yX8_eightFrom.cls = RX8 ∧ yX8_eightFrom.cls ≠ "java/lang/invoke/MethodHandle" ∧ yX8_eightFrom.cls ≠ "java/lang/invoke/VarHandle" ∧ (parseMethodDescriptor yX8_eightFrom.desc).map (fun d => d.parameters.length) = some 1 := by decide +kernel
noncomputable def rmJ7_fill_53178_k21 : Room := { frames := 0, cells := 0, slots := 0, locals := 0 }
noncomputable def fJ7_fill_53178_k21_5_body (k5 : zSt → Int32 → Int32 → Int32 → Option (zSt)) (σ : zSt) (x1 : Int32) (x2 : Int32) (x3 : Int32) : Option (zSt) :=
  if x3 ≤ x2 then some σ else
  zck (zin x2 16384) (zbv (zsi σ 21 (x2.toNatClampNeg) x1) (fun σ1 =>
  zbv (x2 + 1) (fun v2 =>
  k5 σ1 x1 v2 x3)))
noncomputable def fJ7_fill_53178_k21_5  : Nat → zSt → Int32 → Int32 → Int32 → Option (zSt)
  | 0, _, _, _, _ => none
  | n + 1, σ, x1, x2, x3 => fJ7_fill_53178_k21_5_body (fJ7_fill_53178_k21_5  n) σ x1 x2 x3
noncomputable def fJ7_fill_53178_k21  (σ : zSt) (x1 : Int32) : Option (zSt) :=
  fJ7_fill_53178_k21_5 zfuel σ x1 0 16384
set_option maxRecDepth 20000 in
set_option maxHeartbeats 4000000 in
theorem bJ7_fill_53178_k21_5_body {st : Nat → Nat} {p : Program} {l : Launch} {e : Env} {s : State} {m : MethodId} {args : Array Value} {below : List Frame} {meth : Method} {c : Code} {D : va_G} {A : Nat → Prop} {ad : Nat → Nat} {cy : Nat → ClassId} (hC : zC p m c cJ7_fill_53178 4 s args wzJ7_fill_53178 RJ7 meth none) {k5 : zSt → Int32 → Int32 → Int32 → Option (zSt)} {res : zSt} (hk5 : ∀ (H : Heap) (locs : List Loc) (σ : zSt) (ls : Array Slot) (x1 : Int32) (x2 : Int32) (x3 : Int32), zI st D (tC cy) (wC ad cy σ) A s H locs → lv_has ls 4 [(0, .ref (ad 21)), (1, .int x1), (2, .int x2), (3, .int x3)] → k5 σ x1 x2 x3 = some res → W p l e rmJ7_fill_53178_k21 s m args below meth c H locs 0 0 (zQu below args s D (tC cy) (wC ad cy) A res) (F0 m 5 ls [])) {H : Heap} {locs : List Loc} {σ : zSt} {ls : Array Slot} {x1 : Int32} {x2 : Int32} {x3 : Int32} (hI : zI st D (tC cy) (wC ad cy σ) A s H locs) (hl : lv_has ls 4 [(0, .ref (ad 21)), (1, .int x1), (2, .int x2), (3, .int x3)]) (hf : fJ7_fill_53178_k21_5_body k5 σ x1 x2 x3 = some res) : W p l e rmJ7_fill_53178_k21 s m args below meth c H locs 0 0 (zQu below args s D (tC cy) (wC ad cy) A res) (F0 m 5 ls []) := by
  have hx := hC.1
  have hb := hC.2.1
  unfold fJ7_fill_53178_k21_5_body at hf
  refine lv_iload_n hx hb dJ7_fill_53178_5 rfl (lv_at hl 2 rfl) ?_
  refine lv_iload_n hx hb dJ7_fill_53178_6 rfl (lv_at hl 3 rfl) ?_
  refine lv_icmp_ge (tgt := 20) hx hb dJ7_fill_53178_7 (by decide) (fun q => ?_) (fun q => ?_)
  · replace hf := zif_t q hf
    exact z_return hC hI hf dJ7_fill_53178_20
  replace hf := zif_f q hf
  refine lv_aload_n hx hb dJ7_fill_53178_10 rfl (lv_at hl 0 rfl) ?_
  refine lv_iload_n hx hb dJ7_fill_53178_11 rfl (lv_at hl 2 rfl) ?_
  refine lv_iload_n hx hb dJ7_fill_53178_12 rfl (lv_at hl 1 rfl) ?_
  obtain ⟨q, hf⟩ := zck_use hf
  obtain ⟨σ1, eσ1⟩ : ∃ z, z = zsi σ 21 (x2.toNatClampNeg) x1 := ⟨_, rfl⟩
  replace hf := zbv_use eσ1 hf
  refine z_iast hC hI 21 8 (wC_e21 ad cy σ) (tC_t21 cy) q ((wC_s21 ad cy σ _ _).trans (congrArg (wC ad cy) eσ1.symm)) dJ7_fill_53178_13 (fun H locs hI => ?_)
  obtain ⟨v2, ev2⟩ : ∃ z : Int32, z = x2 + 1 := ⟨_, rfl⟩
  replace hf := zbv_use ev2 hf
  refine lv_iinc (v := v2) (lv' := [(2, .int v2), (0, .ref (ad 21)), (1, .int x1), (3, .int x3)]) hx hb dJ7_fill_53178_14 hl (k := 2) rfl (by rw [ev2]; rfl) (by decide) rfl (fun ls hl => ?_)
  refine lv_goto (tgt := 5) hx hb dJ7_fill_53178_17 (by decide) ?_
  exact hk5 _ _ _ _ _ _ _ hI (lv_sub hl [1, 2, 0, 3] rfl) hf
theorem blJ7_fill_53178_k21_5 {st : Nat → Nat} {p : Program} {l : Launch} {e : Env} {s : State} {m : MethodId} {args : Array Value} {below : List Frame} {meth : Method} {c : Code} {D : va_G} {A : Nat → Prop} {ad : Nat → Nat} {cy : Nat → ClassId} (hC : zC p m c cJ7_fill_53178 4 s args wzJ7_fill_53178 RJ7 meth none)  {res : zSt} : ∀ (n : Nat) (H : Heap) (locs : List Loc) (σ : zSt) (ls : Array Slot) (x1 : Int32) (x2 : Int32) (x3 : Int32), zI st D (tC cy) (wC ad cy σ) A s H locs → lv_has ls 4 [(0, .ref (ad 21)), (1, .int x1), (2, .int x2), (3, .int x3)] → fJ7_fill_53178_k21_5  n σ x1 x2 x3 = some res → W p l e rmJ7_fill_53178_k21 s m args below meth c H locs 0 0 (zQu below args s D (tC cy) (wC ad cy) A res) (F0 m 5 ls []) := by
  intro n
  induction n with
  | zero => intro H locs σ ls x1 x2 x3 hI hl hf; cases hf
  | succ n ih => intro H locs σ ls x1 x2 x3 hI hl hf; exact bJ7_fill_53178_k21_5_body hC ih hI hl hf
set_option maxRecDepth 20000 in
set_option maxHeartbeats 4000000 in
theorem bJ7_fill_53178_k21 {st : Nat → Nat} {p : Program} {l : Launch} {e : Env} {s : State} {m : MethodId} {args : Array Value} {below : List Frame} {meth : Method} {c : Code} {D : va_G} {A : Nat → Prop} {ad : Nat → Nat} {cy : Nat → ClassId} (hC : zC p m c cJ7_fill_53178 4 s args wzJ7_fill_53178 RJ7 meth none)  {res : zSt} {H : Heap} {locs : List Loc} {σ : zSt} {ls : Array Slot} {x1 : Int32} (hI : zI st D (tC cy) (wC ad cy σ) A s H locs) (hl : lv_has ls 4 [(0, .ref (ad 21)), (1, .int x1)]) (hf : fJ7_fill_53178_k21  σ x1 = some res) : W p l e rmJ7_fill_53178_k21 s m args below meth c H locs 0 0 (zQu below args s D (tC cy) (wC ad cy) A res) (F0 m 0 ls []) := by
  have hx := hC.1
  have hb := hC.2.1
  unfold fJ7_fill_53178_k21 at hf
  refine lv_iconst (v := 0) hx hb dJ7_fill_53178_0 (by decide) ?_
  refine lv_istore_n (lv' := [(2, .int 0), (0, .ref (ad 21)), (1, .int x1)]) hx hb dJ7_fill_53178_1 rfl hl (by decide) rfl (fun ls hl => ?_)
  refine lv_aload_n hx hb dJ7_fill_53178_2 rfl (lv_at hl 1 rfl) ?_
  refine z_alen (v := 16384) hC hI 21 8 (wC_e21 ad cy σ) (tC_t21 cy) rfl dJ7_fill_53178_3 ?_
  refine lv_istore_n (lv' := [(3, .int 16384), (2, .int 0), (0, .ref (ad 21)), (1, .int x1)]) hx hb dJ7_fill_53178_4 rfl hl (by decide) rfl (fun ls hl => ?_)
  exact blJ7_fill_53178_k21_5 hC  zfuel _ _ _ _ _ _ _ hI (lv_sub hl [2, 3, 1, 0] rfl) hf
set_option maxRecDepth 20000 in
theorem cJ7_fill_53178_k21_met (st : Nat → Nat) (l : Launch) (D : va_G) (ad : Nat → Nat) (cy : Nat → ClassId) (σ : zSt) (x1 : Int32) (res : zSt) (hf : fJ7_fill_53178_k21 σ x1 = some res) (sz : Nat) : zMu st l yJ7_fill_53178 wzJ7_fill_53178 rmJ7_fill_53178_k21 [.ref (ad 21), .int x1] D (tC cy) (wC ad cy) sz σ res :=
  zMu.of (cc := cJ7_fill_53178) (maxL := 4) (ret := none) (by decide) rfl (Nat.le_of_ble_eq_true rfl) (fun p e s m args below meth c hC A hI ls hl => bJ7_fill_53178_k21 hC hI hl hf)
theorem hdJ7_fill_53178_k21 : yJ7_fill_53178.cls ≠ "java/lang/invoke/MethodHandle" ∧ yJ7_fill_53178.cls ≠ "java/lang/invoke/VarHandle" ∧ (parseMethodDescriptor yJ7_fill_53178.desc).map (fun d => d.parameters.length) = some 2 := by decide +kernel
noncomputable def rmJ7_fill_53178_k23 : Room := { frames := 0, cells := 0, slots := 0, locals := 0 }
noncomputable def fJ7_fill_53178_k23_5_body (k5 : zSt → Int32 → Int32 → Int32 → Option (zSt)) (σ : zSt) (x1 : Int32) (x2 : Int32) (x3 : Int32) : Option (zSt) :=
  if x3 ≤ x2 then some σ else
  zck (zin x2 96) (zbv (zsi σ 23 (x2.toNatClampNeg) x1) (fun σ1 =>
  zbv (x2 + 1) (fun v2 =>
  k5 σ1 x1 v2 x3)))
noncomputable def fJ7_fill_53178_k23_5  : Nat → zSt → Int32 → Int32 → Int32 → Option (zSt)
  | 0, _, _, _, _ => none
  | n + 1, σ, x1, x2, x3 => fJ7_fill_53178_k23_5_body (fJ7_fill_53178_k23_5  n) σ x1 x2 x3
noncomputable def fJ7_fill_53178_k23  (σ : zSt) (x1 : Int32) : Option (zSt) :=
  fJ7_fill_53178_k23_5 zfuel σ x1 0 96
set_option maxRecDepth 20000 in
set_option maxHeartbeats 4000000 in
theorem bJ7_fill_53178_k23_5_body {st : Nat → Nat} {p : Program} {l : Launch} {e : Env} {s : State} {m : MethodId} {args : Array Value} {below : List Frame} {meth : Method} {c : Code} {D : va_G} {A : Nat → Prop} {ad : Nat → Nat} {cy : Nat → ClassId} (hC : zC p m c cJ7_fill_53178 4 s args wzJ7_fill_53178 RJ7 meth none) {k5 : zSt → Int32 → Int32 → Int32 → Option (zSt)} {res : zSt} (hk5 : ∀ (H : Heap) (locs : List Loc) (σ : zSt) (ls : Array Slot) (x1 : Int32) (x2 : Int32) (x3 : Int32), zI st D (tC cy) (wC ad cy σ) A s H locs → lv_has ls 4 [(0, .ref (ad 23)), (1, .int x1), (2, .int x2), (3, .int x3)] → k5 σ x1 x2 x3 = some res → W p l e rmJ7_fill_53178_k23 s m args below meth c H locs 0 0 (zQu below args s D (tC cy) (wC ad cy) A res) (F0 m 5 ls [])) {H : Heap} {locs : List Loc} {σ : zSt} {ls : Array Slot} {x1 : Int32} {x2 : Int32} {x3 : Int32} (hI : zI st D (tC cy) (wC ad cy σ) A s H locs) (hl : lv_has ls 4 [(0, .ref (ad 23)), (1, .int x1), (2, .int x2), (3, .int x3)]) (hf : fJ7_fill_53178_k23_5_body k5 σ x1 x2 x3 = some res) : W p l e rmJ7_fill_53178_k23 s m args below meth c H locs 0 0 (zQu below args s D (tC cy) (wC ad cy) A res) (F0 m 5 ls []) := by
  have hx := hC.1
  have hb := hC.2.1
  unfold fJ7_fill_53178_k23_5_body at hf
  refine lv_iload_n hx hb dJ7_fill_53178_5 rfl (lv_at hl 2 rfl) ?_
  refine lv_iload_n hx hb dJ7_fill_53178_6 rfl (lv_at hl 3 rfl) ?_
  refine lv_icmp_ge (tgt := 20) hx hb dJ7_fill_53178_7 (by decide) (fun q => ?_) (fun q => ?_)
  · replace hf := zif_t q hf
    exact z_return hC hI hf dJ7_fill_53178_20
  replace hf := zif_f q hf
  refine lv_aload_n hx hb dJ7_fill_53178_10 rfl (lv_at hl 0 rfl) ?_
  refine lv_iload_n hx hb dJ7_fill_53178_11 rfl (lv_at hl 2 rfl) ?_
  refine lv_iload_n hx hb dJ7_fill_53178_12 rfl (lv_at hl 1 rfl) ?_
  obtain ⟨q, hf⟩ := zck_use hf
  obtain ⟨σ1, eσ1⟩ : ∃ z, z = zsi σ 23 (x2.toNatClampNeg) x1 := ⟨_, rfl⟩
  replace hf := zbv_use eσ1 hf
  refine z_iast hC hI 23 10 (wC_e23 ad cy σ) (tC_t23 cy) q ((wC_s23 ad cy σ _ _).trans (congrArg (wC ad cy) eσ1.symm)) dJ7_fill_53178_13 (fun H locs hI => ?_)
  obtain ⟨v2, ev2⟩ : ∃ z : Int32, z = x2 + 1 := ⟨_, rfl⟩
  replace hf := zbv_use ev2 hf
  refine lv_iinc (v := v2) (lv' := [(2, .int v2), (0, .ref (ad 23)), (1, .int x1), (3, .int x3)]) hx hb dJ7_fill_53178_14 hl (k := 2) rfl (by rw [ev2]; rfl) (by decide) rfl (fun ls hl => ?_)
  refine lv_goto (tgt := 5) hx hb dJ7_fill_53178_17 (by decide) ?_
  exact hk5 _ _ _ _ _ _ _ hI (lv_sub hl [1, 2, 0, 3] rfl) hf
theorem blJ7_fill_53178_k23_5 {st : Nat → Nat} {p : Program} {l : Launch} {e : Env} {s : State} {m : MethodId} {args : Array Value} {below : List Frame} {meth : Method} {c : Code} {D : va_G} {A : Nat → Prop} {ad : Nat → Nat} {cy : Nat → ClassId} (hC : zC p m c cJ7_fill_53178 4 s args wzJ7_fill_53178 RJ7 meth none)  {res : zSt} : ∀ (n : Nat) (H : Heap) (locs : List Loc) (σ : zSt) (ls : Array Slot) (x1 : Int32) (x2 : Int32) (x3 : Int32), zI st D (tC cy) (wC ad cy σ) A s H locs → lv_has ls 4 [(0, .ref (ad 23)), (1, .int x1), (2, .int x2), (3, .int x3)] → fJ7_fill_53178_k23_5  n σ x1 x2 x3 = some res → W p l e rmJ7_fill_53178_k23 s m args below meth c H locs 0 0 (zQu below args s D (tC cy) (wC ad cy) A res) (F0 m 5 ls []) := by
  intro n
  induction n with
  | zero => intro H locs σ ls x1 x2 x3 hI hl hf; cases hf
  | succ n ih => intro H locs σ ls x1 x2 x3 hI hl hf; exact bJ7_fill_53178_k23_5_body hC ih hI hl hf
set_option maxRecDepth 20000 in
set_option maxHeartbeats 4000000 in
theorem bJ7_fill_53178_k23 {st : Nat → Nat} {p : Program} {l : Launch} {e : Env} {s : State} {m : MethodId} {args : Array Value} {below : List Frame} {meth : Method} {c : Code} {D : va_G} {A : Nat → Prop} {ad : Nat → Nat} {cy : Nat → ClassId} (hC : zC p m c cJ7_fill_53178 4 s args wzJ7_fill_53178 RJ7 meth none)  {res : zSt} {H : Heap} {locs : List Loc} {σ : zSt} {ls : Array Slot} {x1 : Int32} (hI : zI st D (tC cy) (wC ad cy σ) A s H locs) (hl : lv_has ls 4 [(0, .ref (ad 23)), (1, .int x1)]) (hf : fJ7_fill_53178_k23  σ x1 = some res) : W p l e rmJ7_fill_53178_k23 s m args below meth c H locs 0 0 (zQu below args s D (tC cy) (wC ad cy) A res) (F0 m 0 ls []) := by
  have hx := hC.1
  have hb := hC.2.1
  unfold fJ7_fill_53178_k23 at hf
  refine lv_iconst (v := 0) hx hb dJ7_fill_53178_0 (by decide) ?_
  refine lv_istore_n (lv' := [(2, .int 0), (0, .ref (ad 23)), (1, .int x1)]) hx hb dJ7_fill_53178_1 rfl hl (by decide) rfl (fun ls hl => ?_)
  refine lv_aload_n hx hb dJ7_fill_53178_2 rfl (lv_at hl 1 rfl) ?_
  refine z_alen (v := 96) hC hI 23 10 (wC_e23 ad cy σ) (tC_t23 cy) rfl dJ7_fill_53178_3 ?_
  refine lv_istore_n (lv' := [(3, .int 96), (2, .int 0), (0, .ref (ad 23)), (1, .int x1)]) hx hb dJ7_fill_53178_4 rfl hl (by decide) rfl (fun ls hl => ?_)
  exact blJ7_fill_53178_k23_5 hC  zfuel _ _ _ _ _ _ _ hI (lv_sub hl [2, 3, 1, 0] rfl) hf
set_option maxRecDepth 20000 in
theorem cJ7_fill_53178_k23_met (st : Nat → Nat) (l : Launch) (D : va_G) (ad : Nat → Nat) (cy : Nat → ClassId) (σ : zSt) (x1 : Int32) (res : zSt) (hf : fJ7_fill_53178_k23 σ x1 = some res) (sz : Nat) : zMu st l yJ7_fill_53178 wzJ7_fill_53178 rmJ7_fill_53178_k23 [.ref (ad 23), .int x1] D (tC cy) (wC ad cy) sz σ res :=
  zMu.of (cc := cJ7_fill_53178) (maxL := 4) (ret := none) (by decide) rfl (Nat.le_of_ble_eq_true rfl) (fun p e s m args below meth c hC A hI ls hl => bJ7_fill_53178_k23 hC hI hl hf)
theorem hdJ7_fill_53178_k23 : yJ7_fill_53178.cls ≠ "java/lang/invoke/MethodHandle" ∧ yJ7_fill_53178.cls ≠ "java/lang/invoke/VarHandle" ∧ (parseMethodDescriptor yJ7_fill_53178.desc).map (fun d => d.parameters.length) = some 2 := by decide +kernel
noncomputable def rmX9_clear : Room := { frames := 1, cells := 0, slots := 0, locals := 23 }
noncomputable def wzX9_clear : List Cond := .code yX9_clear cX9_clear 1 none :: wsL_law
theorem hinX9_clear_X90 : ∀ w ∈ wsX90, w ∈ wzX9_clear := fun w h => List.mem_cons_of_mem _ (inlX9 w h)
noncomputable def fX9_clear  (σ : zSt)  : Option (zSt) :=
  zbu (fJ7_fill_53178_k21 σ 0) (fun σ1 =>
  zbu (fJ7_fill_53178_k23 σ1 0) (fun σ2 =>
  some σ2))
set_option maxRecDepth 20000 in
set_option maxHeartbeats 4000000 in
theorem bX9_clear {st : Nat → Nat} {p : Program} {l : Launch} {e : Env} {s : State} {m : MethodId} {args : Array Value} {below : List Frame} {meth : Method} {c : Code} {D : va_G} {A : Nat → Prop} {ad : Nat → Nat} {cy : Nat → ClassId} (hC : zC p m c cX9_clear 1 s args wzX9_clear RX9 meth none)  {res : zSt} {H : Heap} {locs : List Loc} {σ : zSt} {ls : Array Slot}  (hI : zI st D (tC cy) (wC ad cy σ) A s H locs) (hl : lv_has ls 1 [(0, .ref (ad 2))]) (hf : fX9_clear  σ  = some res) : W p l e rmX9_clear s m args below meth c H locs 0 0 (zQu below args s D (tC cy) (wC ad cy) A res) (F0 m 0 ls []) := by
  have hx := hC.1
  have hb := hC.2.1
  unfold fX9_clear at hf
  refine lv_aload_n hx hb dX9_clear_0 rfl (lv_at hl 0 rfl) ?_
  refine z_get hC hI hinX9_clear_X90 2 (wC_e2 ad cy σ) rfl 2 (by decide) (List.mem_cons_of_mem _ zw4_6) rfl dX9_clear_1 ?_
  refine lv_iconst (v := 0) hx hb dX9_clear_4 (by decide) ?_
  obtain ⟨σ1, g1, hf⟩ := zbu_use hf
  refine z_callSu (As := [.ref (ad 21), .int 0]) (rest := []) hC hI (cJ7_fill_53178_k21_met st l D ad cy σ 0 _ g1) (zgS zw15_17 zw5_12 zw5_13 zw5_14) rfl ⟨rfl, rfl⟩ 2 hdJ7_fill_53178_k21 ⟨Nat.le_of_ble_eq_true rfl, Nat.le_of_ble_eq_true rfl⟩ rfl hl rfl (Nat.le_of_ble_eq_true rfl) dX9_clear_5 ⟨Nat.zero_le _, Nat.zero_le _⟩ (fun H locs hI => ?_)
  refine lv_aload_n hx hb dX9_clear_8 rfl (lv_at hl 0 rfl) ?_
  refine z_get hC hI hinX9_clear_X90 2 (wC_e2 ad cy σ1) rfl 4 (by decide) (List.mem_cons_of_mem _ zw4_8) rfl dX9_clear_9 ?_
  refine lv_iconst (v := 0) hx hb dX9_clear_12 (by decide) ?_
  obtain ⟨σ2, g2, hf⟩ := zbu_use hf
  refine z_callSu (As := [.ref (ad 23), .int 0]) (rest := []) hC hI (cJ7_fill_53178_k23_met st l D ad cy σ1 0 _ g2) (zgS zw15_17 zw5_12 zw5_13 zw5_14) rfl ⟨rfl, rfl⟩ 2 hdJ7_fill_53178_k23 ⟨Nat.le_of_ble_eq_true rfl, Nat.le_of_ble_eq_true rfl⟩ rfl hl rfl (Nat.le_of_ble_eq_true rfl) dX9_clear_13 ⟨Nat.zero_le _, Nat.zero_le _⟩ (fun H locs hI => ?_)
  exact z_return hC hI hf dX9_clear_16
set_option maxRecDepth 20000 in
theorem cX9_clear_met (st : Nat → Nat) (l : Launch) (D : va_G) (ad : Nat → Nat) (cy : Nat → ClassId) (σ : zSt)  (res : zSt) (hf : fX9_clear σ  = some res) (sz : Nat) : zMu st l yX9_clear wzX9_clear rmX9_clear [.ref (ad 2)] D (tC cy) (wC ad cy) sz σ res :=
  zMu.of (cc := cX9_clear) (maxL := 1) (ret := none) (by decide) rfl (Nat.le_of_ble_eq_true rfl) (fun p e s m args below meth c hC A hI ls hl => bX9_clear hC hI hl hf)
theorem hdX9_clear : yX9_clear.cls = RX9 ∧ yX9_clear.cls ≠ "java/lang/invoke/MethodHandle" ∧ yX9_clear.cls ≠ "java/lang/invoke/VarHandle" ∧ (parseMethodDescriptor yX9_clear.desc).map (fun d => d.parameters.length) = some 0 := by decide +kernel
noncomputable def rmX9_keep : Room := { frames := 1, cells := 0, slots := 0, locals := 64 }
noncomputable def wzX9_keep : List Cond := .code yX9_keep cX9_keep 1 none :: wsL_law
theorem hinX9_keep_X90 : ∀ w ∈ wsX90, w ∈ wzX9_keep := fun w h => List.mem_cons_of_mem _ (inlX9 w h)
noncomputable def fX9_keep  (σ : zSt)  : Option (zSt) :=
  zck (zco 0 0 16384 16384 16384) (zbv (zcpi σ 21 22 ((0 : Int32).toNatClampNeg) ((0 : Int32).toNatClampNeg) ((16384 : Int32).toNatClampNeg)) (fun σ1 =>
  zck (zco 0 0 96 96 96) (zbv (zcpi σ1 23 24 ((0 : Int32).toNatClampNeg) ((0 : Int32).toNatClampNeg) ((96 : Int32).toNatClampNeg)) (fun σ2 =>
  some σ2))))
set_option maxRecDepth 20000 in
set_option maxHeartbeats 4000000 in
theorem bX9_keep {st : Nat → Nat} {p : Program} {l : Launch} {e : Env} {s : State} {m : MethodId} {args : Array Value} {below : List Frame} {meth : Method} {c : Code} {D : va_G} {A : Nat → Prop} {ad : Nat → Nat} {cy : Nat → ClassId} (hC : zC p m c cX9_keep 1 s args wzX9_keep RX9 meth none)  {res : zSt} {H : Heap} {locs : List Loc} {σ : zSt} {ls : Array Slot}  (hI : zI st D (tC cy) (wC ad cy σ) A s H locs) (hl : lv_has ls 1 [(0, .ref (ad 2))]) (hf : fX9_keep  σ  = some res) : W p l e rmX9_keep s m args below meth c H locs 0 0 (zQu below args s D (tC cy) (wC ad cy) A res) (F0 m 0 ls []) := by
  have hx := hC.1
  have hb := hC.2.1
  unfold fX9_keep at hf
  refine lv_aload_n hx hb dX9_keep_0 rfl (lv_at hl 0 rfl) ?_
  refine z_get hC hI hinX9_keep_X90 2 (wC_e2 ad cy σ) rfl 2 (by decide) (List.mem_cons_of_mem _ zw4_6) rfl dX9_keep_1 ?_
  refine lv_iconst (v := 0) hx hb dX9_keep_4 (by decide) ?_
  refine lv_aload_n hx hb dX9_keep_5 rfl (lv_at hl 0 rfl) ?_
  refine z_get hC hI hinX9_keep_X90 2 (wC_e2 ad cy σ) rfl 3 (by decide) (List.mem_cons_of_mem _ zw4_7) rfl dX9_keep_6 ?_
  refine lv_iconst (v := 0) hx hb dX9_keep_9 (by decide) ?_
  refine lv_sipush (v := 16384) hx hb dX9_keep_10 (by decide) ?_
  obtain ⟨q, hf⟩ := zck_use hf
  obtain ⟨σ1, eσ1⟩ : ∃ z, z = zcpi σ 21 22 ((0 : Int32).toNatClampNeg) ((0 : Int32).toNatClampNeg) ((16384 : Int32).toNatClampNeg) := ⟨_, rfl⟩
  replace hf := zbv_use eσ1 hf
  refine z_cpi hC hI (List.mem_cons_of_mem _ zw80_13) (List.mem_cons_of_mem _ zw80_6) (List.mem_cons_of_mem _ zw80_7) (List.mem_cons_of_mem _ zw80_8) hl 21 22 8 9 (wC_e21 ad cy σ) (wC_e22 ad cy σ) (tC_t21 cy) (tC_t22 cy) q (show _ = wC ad cy σ1 from eσ1 ▸ rfl) (Nat.le_of_ble_eq_true rfl) (Nat.le_of_ble_eq_true rfl) dX9_keep_13 (fun H locs hI => ?_)
  refine lv_aload_n hx hb dX9_keep_16 rfl (lv_at hl 0 rfl) ?_
  refine z_get hC hI hinX9_keep_X90 2 (wC_e2 ad cy σ1) rfl 4 (by decide) (List.mem_cons_of_mem _ zw4_8) rfl dX9_keep_17 ?_
  refine lv_iconst (v := 0) hx hb dX9_keep_20 (by decide) ?_
  refine lv_aload_n hx hb dX9_keep_21 rfl (lv_at hl 0 rfl) ?_
  refine z_get hC hI hinX9_keep_X90 2 (wC_e2 ad cy σ1) rfl 5 (by decide) (List.mem_cons_of_mem _ zw4_9) rfl dX9_keep_22 ?_
  refine lv_iconst (v := 0) hx hb dX9_keep_25 (by decide) ?_
  refine lv_bipush (v := 96) hx hb dX9_keep_26 (by decide) ?_
  obtain ⟨q, hf⟩ := zck_use hf
  obtain ⟨σ2, eσ2⟩ : ∃ z, z = zcpi σ1 23 24 ((0 : Int32).toNatClampNeg) ((0 : Int32).toNatClampNeg) ((96 : Int32).toNatClampNeg) := ⟨_, rfl⟩
  replace hf := zbv_use eσ2 hf
  refine z_cpi hC hI (List.mem_cons_of_mem _ zw80_13) (List.mem_cons_of_mem _ zw80_6) (List.mem_cons_of_mem _ zw80_7) (List.mem_cons_of_mem _ zw80_8) hl 23 24 10 11 (wC_e23 ad cy σ1) (wC_e24 ad cy σ1) (tC_t23 cy) (tC_t24 cy) q (show _ = wC ad cy σ2 from eσ2 ▸ rfl) (Nat.le_of_ble_eq_true rfl) (Nat.le_of_ble_eq_true rfl) dX9_keep_28 (fun H locs hI => ?_)
  exact z_return hC hI hf dX9_keep_31
set_option maxRecDepth 20000 in
theorem cX9_keep_met (st : Nat → Nat) (l : Launch) (D : va_G) (ad : Nat → Nat) (cy : Nat → ClassId) (σ : zSt)  (res : zSt) (hf : fX9_keep σ  = some res) (sz : Nat) : zMu st l yX9_keep wzX9_keep rmX9_keep [.ref (ad 2)] D (tC cy) (wC ad cy) sz σ res :=
  zMu.of (cc := cX9_keep) (maxL := 1) (ret := none) (by decide) rfl (Nat.le_of_ble_eq_true rfl) (fun p e s m args below meth c hC A hI ls hl => bX9_keep hC hI hl hf)
theorem hdX9_keep : yX9_keep.cls = RX9 ∧ yX9_keep.cls ≠ "java/lang/invoke/MethodHandle" ∧ yX9_keep.cls ≠ "java/lang/invoke/VarHandle" ∧ (parseMethodDescriptor yX9_keep.desc).map (fun d => d.parameters.length) = some 0 := by decide +kernel
noncomputable def rmX9_bringBack : Room := { frames := 1, cells := 0, slots := 0, locals := 64 }
noncomputable def wzX9_bringBack : List Cond := .code yX9_bringBack cX9_bringBack 1 none :: wsL_law
theorem hinX9_bringBack_X90 : ∀ w ∈ wsX90, w ∈ wzX9_bringBack := fun w h => List.mem_cons_of_mem _ (inlX9 w h)
noncomputable def fX9_bringBack  (σ : zSt)  : Option (zSt) :=
  zck (zco 0 0 16384 16384 16384) (zbv (zcpi σ 22 21 ((0 : Int32).toNatClampNeg) ((0 : Int32).toNatClampNeg) ((16384 : Int32).toNatClampNeg)) (fun σ1 =>
  zck (zco 0 0 96 96 96) (zbv (zcpi σ1 24 23 ((0 : Int32).toNatClampNeg) ((0 : Int32).toNatClampNeg) ((96 : Int32).toNatClampNeg)) (fun σ2 =>
  some σ2))))
set_option maxRecDepth 20000 in
set_option maxHeartbeats 4000000 in
theorem bX9_bringBack {st : Nat → Nat} {p : Program} {l : Launch} {e : Env} {s : State} {m : MethodId} {args : Array Value} {below : List Frame} {meth : Method} {c : Code} {D : va_G} {A : Nat → Prop} {ad : Nat → Nat} {cy : Nat → ClassId} (hC : zC p m c cX9_bringBack 1 s args wzX9_bringBack RX9 meth none)  {res : zSt} {H : Heap} {locs : List Loc} {σ : zSt} {ls : Array Slot}  (hI : zI st D (tC cy) (wC ad cy σ) A s H locs) (hl : lv_has ls 1 [(0, .ref (ad 2))]) (hf : fX9_bringBack  σ  = some res) : W p l e rmX9_bringBack s m args below meth c H locs 0 0 (zQu below args s D (tC cy) (wC ad cy) A res) (F0 m 0 ls []) := by
  have hx := hC.1
  have hb := hC.2.1
  unfold fX9_bringBack at hf
  refine lv_aload_n hx hb dX9_bringBack_0 rfl (lv_at hl 0 rfl) ?_
  refine z_get hC hI hinX9_bringBack_X90 2 (wC_e2 ad cy σ) rfl 3 (by decide) (List.mem_cons_of_mem _ zw4_7) rfl dX9_bringBack_1 ?_
  refine lv_iconst (v := 0) hx hb dX9_bringBack_4 (by decide) ?_
  refine lv_aload_n hx hb dX9_bringBack_5 rfl (lv_at hl 0 rfl) ?_
  refine z_get hC hI hinX9_bringBack_X90 2 (wC_e2 ad cy σ) rfl 2 (by decide) (List.mem_cons_of_mem _ zw4_6) rfl dX9_bringBack_6 ?_
  refine lv_iconst (v := 0) hx hb dX9_bringBack_9 (by decide) ?_
  refine lv_sipush (v := 16384) hx hb dX9_bringBack_10 (by decide) ?_
  obtain ⟨q, hf⟩ := zck_use hf
  obtain ⟨σ1, eσ1⟩ : ∃ z, z = zcpi σ 22 21 ((0 : Int32).toNatClampNeg) ((0 : Int32).toNatClampNeg) ((16384 : Int32).toNatClampNeg) := ⟨_, rfl⟩
  replace hf := zbv_use eσ1 hf
  refine z_cpi hC hI (List.mem_cons_of_mem _ zw80_13) (List.mem_cons_of_mem _ zw80_6) (List.mem_cons_of_mem _ zw80_7) (List.mem_cons_of_mem _ zw80_8) hl 22 21 9 8 (wC_e22 ad cy σ) (wC_e21 ad cy σ) (tC_t22 cy) (tC_t21 cy) q (show _ = wC ad cy σ1 from eσ1 ▸ rfl) (Nat.le_of_ble_eq_true rfl) (Nat.le_of_ble_eq_true rfl) dX9_bringBack_13 (fun H locs hI => ?_)
  refine lv_aload_n hx hb dX9_bringBack_16 rfl (lv_at hl 0 rfl) ?_
  refine z_get hC hI hinX9_bringBack_X90 2 (wC_e2 ad cy σ1) rfl 5 (by decide) (List.mem_cons_of_mem _ zw4_9) rfl dX9_bringBack_17 ?_
  refine lv_iconst (v := 0) hx hb dX9_bringBack_20 (by decide) ?_
  refine lv_aload_n hx hb dX9_bringBack_21 rfl (lv_at hl 0 rfl) ?_
  refine z_get hC hI hinX9_bringBack_X90 2 (wC_e2 ad cy σ1) rfl 4 (by decide) (List.mem_cons_of_mem _ zw4_8) rfl dX9_bringBack_22 ?_
  refine lv_iconst (v := 0) hx hb dX9_bringBack_25 (by decide) ?_
  refine lv_bipush (v := 96) hx hb dX9_bringBack_26 (by decide) ?_
  obtain ⟨q, hf⟩ := zck_use hf
  obtain ⟨σ2, eσ2⟩ : ∃ z, z = zcpi σ1 24 23 ((0 : Int32).toNatClampNeg) ((0 : Int32).toNatClampNeg) ((96 : Int32).toNatClampNeg) := ⟨_, rfl⟩
  replace hf := zbv_use eσ2 hf
  refine z_cpi hC hI (List.mem_cons_of_mem _ zw80_13) (List.mem_cons_of_mem _ zw80_6) (List.mem_cons_of_mem _ zw80_7) (List.mem_cons_of_mem _ zw80_8) hl 24 23 11 10 (wC_e24 ad cy σ1) (wC_e23 ad cy σ1) (tC_t24 cy) (tC_t23 cy) q (show _ = wC ad cy σ2 from eσ2 ▸ rfl) (Nat.le_of_ble_eq_true rfl) (Nat.le_of_ble_eq_true rfl) dX9_bringBack_28 (fun H locs hI => ?_)
  exact z_return hC hI hf dX9_bringBack_31
set_option maxRecDepth 20000 in
theorem cX9_bringBack_met (st : Nat → Nat) (l : Launch) (D : va_G) (ad : Nat → Nat) (cy : Nat → ClassId) (σ : zSt)  (res : zSt) (hf : fX9_bringBack σ  = some res) (sz : Nat) : zMu st l yX9_bringBack wzX9_bringBack rmX9_bringBack [.ref (ad 2)] D (tC cy) (wC ad cy) sz σ res :=
  zMu.of (cc := cX9_bringBack) (maxL := 1) (ret := none) (by decide) rfl (Nat.le_of_ble_eq_true rfl) (fun p e s m args below meth c hC A hI ls hl => bX9_bringBack hC hI hl hf)
theorem hdX9_bringBack : yX9_bringBack.cls = RX9 ∧ yX9_bringBack.cls ≠ "java/lang/invoke/MethodHandle" ∧ yX9_bringBack.cls ≠ "java/lang/invoke/VarHandle" ∧ (parseMethodDescriptor yX9_bringBack.desc).map (fun d => d.parameters.length) = some 0 := by decide +kernel
noncomputable def rmX9_has : Room := { frames := 0, cells := 0, slots := 0, locals := 0 }
noncomputable def wzX9_has : List Cond := .code yX9_has cX9_has 1 (some .boolean) :: wsL_law
noncomputable def fX9_has_27  (σ : zSt) (s0 : Int32) : Option (zSt × Int32) :=
  zck (zbo s0) (some (σ, s0))
noncomputable def fX9_has_26  (σ : zSt)  : Option (zSt × Int32) :=
  fX9_has_27 σ 0
noncomputable def fX9_has_22  (σ : zSt)  : Option (zSt × Int32) :=
  fX9_has_27 σ 1
noncomputable def fX9_has_10  (σ : zSt) (x0 : Int32) : Option (zSt × Int32) :=
  if x0 < 32 then fX9_has_26 σ else
  if 96 ≤ x0 then fX9_has_26 σ else
  fX9_has_22 σ
noncomputable def fX9_has  (σ : zSt) (x0 : Int32) : Option (zSt × Int32) :=
  if x0 < 0 then fX9_has_10 σ x0 else
  if x0 ≤ 25 then fX9_has_22 σ else
  fX9_has_10 σ x0
set_option maxRecDepth 20000 in
set_option maxHeartbeats 4000000 in
theorem bX9_has_27 {st : Nat → Nat} {p : Program} {l : Launch} {e : Env} {s : State} {m : MethodId} {args : Array Value} {below : List Frame} {meth : Method} {c : Code} {D : va_G} {A : Nat → Prop} {ad : Nat → Nat} {cy : Nat → ClassId} (hC : zC p m c cX9_has 1 s args wzX9_has RX9 meth (some .boolean))  {res : zSt × Int32} {H : Heap} {locs : List Loc} {σ : zSt} {ls : Array Slot} {s0 : Int32} (hI : zI st D (tC cy) (wC ad cy σ) A s H locs) (hl : lv_has ls 1 []) (hf : fX9_has_27  σ s0 = some res) : W p l e rmX9_has s m args below meth c H locs 0 0 (zQi below args s D (tC cy) (wC ad cy) A res) (F0 m 27 ls [.int s0]) := by
  have hx := hC.1
  have hb := hC.2.1
  unfold fX9_has_27 at hf
  obtain ⟨q, hf⟩ := zck_use hf
  exact z_zreturn hC hI (zbo_n q) hf dX9_has_27
set_option maxRecDepth 20000 in
set_option maxHeartbeats 4000000 in
theorem bX9_has_26 {st : Nat → Nat} {p : Program} {l : Launch} {e : Env} {s : State} {m : MethodId} {args : Array Value} {below : List Frame} {meth : Method} {c : Code} {D : va_G} {A : Nat → Prop} {ad : Nat → Nat} {cy : Nat → ClassId} (hC : zC p m c cX9_has 1 s args wzX9_has RX9 meth (some .boolean))  {res : zSt × Int32} {H : Heap} {locs : List Loc} {σ : zSt} {ls : Array Slot}  (hI : zI st D (tC cy) (wC ad cy σ) A s H locs) (hl : lv_has ls 1 []) (hf : fX9_has_26  σ  = some res) : W p l e rmX9_has s m args below meth c H locs 0 0 (zQi below args s D (tC cy) (wC ad cy) A res) (F0 m 26 ls []) := by
  have hx := hC.1
  have hb := hC.2.1
  unfold fX9_has_26 at hf
  refine lv_iconst (v := 0) hx hb dX9_has_26 (by decide) ?_
  exact bX9_has_27 hC  hI hl hf
set_option maxRecDepth 20000 in
set_option maxHeartbeats 4000000 in
theorem bX9_has_22 {st : Nat → Nat} {p : Program} {l : Launch} {e : Env} {s : State} {m : MethodId} {args : Array Value} {below : List Frame} {meth : Method} {c : Code} {D : va_G} {A : Nat → Prop} {ad : Nat → Nat} {cy : Nat → ClassId} (hC : zC p m c cX9_has 1 s args wzX9_has RX9 meth (some .boolean))  {res : zSt × Int32} {H : Heap} {locs : List Loc} {σ : zSt} {ls : Array Slot}  (hI : zI st D (tC cy) (wC ad cy σ) A s H locs) (hl : lv_has ls 1 []) (hf : fX9_has_22  σ  = some res) : W p l e rmX9_has s m args below meth c H locs 0 0 (zQi below args s D (tC cy) (wC ad cy) A res) (F0 m 22 ls []) := by
  have hx := hC.1
  have hb := hC.2.1
  unfold fX9_has_22 at hf
  refine lv_iconst (v := 1) hx hb dX9_has_22 (by decide) ?_
  refine lv_goto (tgt := 27) hx hb dX9_has_23 (by decide) ?_
  exact bX9_has_27 hC  hI hl hf
set_option maxRecDepth 20000 in
set_option maxHeartbeats 4000000 in
theorem bX9_has_10 {st : Nat → Nat} {p : Program} {l : Launch} {e : Env} {s : State} {m : MethodId} {args : Array Value} {below : List Frame} {meth : Method} {c : Code} {D : va_G} {A : Nat → Prop} {ad : Nat → Nat} {cy : Nat → ClassId} (hC : zC p m c cX9_has 1 s args wzX9_has RX9 meth (some .boolean))  {res : zSt × Int32} {H : Heap} {locs : List Loc} {σ : zSt} {ls : Array Slot} {x0 : Int32} (hI : zI st D (tC cy) (wC ad cy σ) A s H locs) (hl : lv_has ls 1 [(0, .int x0)]) (hf : fX9_has_10  σ x0 = some res) : W p l e rmX9_has s m args below meth c H locs 0 0 (zQi below args s D (tC cy) (wC ad cy) A res) (F0 m 10 ls []) := by
  have hx := hC.1
  have hb := hC.2.1
  unfold fX9_has_10 at hf
  refine lv_iload_n hx hb dX9_has_10 rfl (lv_at hl 0 rfl) ?_
  refine lv_bipush (v := 32) hx hb dX9_has_11 (by decide) ?_
  refine lv_icmp_lt (tgt := 26) hx hb dX9_has_13 (by decide) (fun q => ?_) (fun q => ?_)
  · replace hf := zif_t q hf
    exact bX9_has_26 hC  hI (lv_sub hl [] rfl) hf
  replace hf := zif_f q hf
  refine lv_iload_n hx hb dX9_has_16 rfl (lv_at hl 0 rfl) ?_
  refine lv_bipush (v := 96) hx hb dX9_has_17 (by decide) ?_
  refine lv_icmp_ge (tgt := 26) hx hb dX9_has_19 (by decide) (fun q => ?_) (fun q => ?_)
  · replace hf := zif_t q hf
    exact bX9_has_26 hC  hI (lv_sub hl [] rfl) hf
  replace hf := zif_f q hf
  exact bX9_has_22 hC  hI (lv_sub hl [] rfl) hf
set_option maxRecDepth 20000 in
set_option maxHeartbeats 4000000 in
theorem bX9_has {st : Nat → Nat} {p : Program} {l : Launch} {e : Env} {s : State} {m : MethodId} {args : Array Value} {below : List Frame} {meth : Method} {c : Code} {D : va_G} {A : Nat → Prop} {ad : Nat → Nat} {cy : Nat → ClassId} (hC : zC p m c cX9_has 1 s args wzX9_has RX9 meth (some .boolean))  {res : zSt × Int32} {H : Heap} {locs : List Loc} {σ : zSt} {ls : Array Slot} {x0 : Int32} (hI : zI st D (tC cy) (wC ad cy σ) A s H locs) (hl : lv_has ls 1 [(0, .int x0)]) (hf : fX9_has  σ x0 = some res) : W p l e rmX9_has s m args below meth c H locs 0 0 (zQi below args s D (tC cy) (wC ad cy) A res) (F0 m 0 ls []) := by
  have hx := hC.1
  have hb := hC.2.1
  unfold fX9_has at hf
  refine lv_iload_n hx hb dX9_has_0 rfl (lv_at hl 0 rfl) ?_
  refine lv_if_lt (tgt := 10) hx hb dX9_has_1 (by decide) (fun q => ?_) (fun q => ?_)
  · replace hf := zif_t q hf
    exact bX9_has_10 hC  hI hl hf
  replace hf := zif_f q hf
  refine lv_iload_n hx hb dX9_has_4 rfl (lv_at hl 0 rfl) ?_
  refine lv_bipush (v := 25) hx hb dX9_has_5 (by decide) ?_
  refine lv_icmp_le (tgt := 22) hx hb dX9_has_7 (by decide) (fun q => ?_) (fun q => ?_)
  · replace hf := zif_t q hf
    exact bX9_has_22 hC  hI (lv_sub hl [] rfl) hf
  replace hf := zif_f q hf
  exact bX9_has_10 hC  hI hl hf
set_option maxRecDepth 20000 in
theorem cX9_has_met (st : Nat → Nat) (l : Launch) (D : va_G) (ad : Nat → Nat) (cy : Nat → ClassId) (σ : zSt) (x0 : Int32) (res : zSt × Int32) (hf : fX9_has σ x0 = some res) (sz : Nat) : zMi st l yX9_has wzX9_has rmX9_has [.int x0] D (tC cy) (wC ad cy) sz σ res :=
  zMi.of (cc := cX9_has) (maxL := 1) (ret := (some .boolean)) (by decide) rfl (Nat.le_of_ble_eq_true rfl) (fun p e s m args below meth c hC A hI ls hl => bX9_has hC hI hl hf)
theorem hdX9_has : yX9_has.cls ≠ "java/lang/invoke/MethodHandle" ∧ yX9_has.cls ≠ "java/lang/invoke/VarHandle" ∧ (parseMethodDescriptor yX9_has.desc).map (fun d => d.parameters.length) = some 1 := by decide +kernel
noncomputable def rmX9_asks : Room := { frames := 0, cells := 0, slots := 0, locals := 0 }
noncomputable def wzX9_asks : List Cond := .code yX9_asks cX9_asks 1 (some .boolean) :: wsL_law
theorem hinX9_asks_X90 : ∀ w ∈ wsX90, w ∈ wzX9_asks := fun w h => List.mem_cons_of_mem _ (inlX9 w h)
noncomputable def fX9_asks_54  (σ : zSt) (s0 : Int32) : Option (zSt × Int32) :=
  zck (zbo s0) (some (σ, s0))
noncomputable def fX9_asks_53  (σ : zSt)  : Option (zSt × Int32) :=
  fX9_asks_54 σ 0
noncomputable def fX9_asks_49  (σ : zSt)  : Option (zSt × Int32) :=
  fX9_asks_54 σ 1
noncomputable def fX9_asks_26  (σ : zSt)  : Option (zSt × Int32) :=
  zck (zin 0 96) (
  if ((zgi σ 23 (0 : Int32).toNatClampNeg) &&& 16) = 0 then fX9_asks_53 σ else
  zck (zin 16 96) (
  if (zgi σ 23 (16 : Int32).toNatClampNeg) = 1 then fX9_asks_49 σ else
  fX9_asks_53 σ))
noncomputable def fX9_asks  (σ : zSt)  : Option (zSt × Int32) :=
  zck (zin 1 96) (
  if ((zgi σ 23 (1 : Int32).toNatClampNeg) &&& 32) = 0 then fX9_asks_26 σ else
  zck (zin 15 96) (
  if ((zgi σ 23 (15 : Int32).toNatClampNeg) &&& 128) = 0 then fX9_asks_26 σ else
  fX9_asks_49 σ))
set_option maxRecDepth 20000 in
set_option maxHeartbeats 4000000 in
theorem bX9_asks_54 {st : Nat → Nat} {p : Program} {l : Launch} {e : Env} {s : State} {m : MethodId} {args : Array Value} {below : List Frame} {meth : Method} {c : Code} {D : va_G} {A : Nat → Prop} {ad : Nat → Nat} {cy : Nat → ClassId} (hC : zC p m c cX9_asks 1 s args wzX9_asks RX9 meth (some .boolean))  {res : zSt × Int32} {H : Heap} {locs : List Loc} {σ : zSt} {ls : Array Slot} {s0 : Int32} (hI : zI st D (tC cy) (wC ad cy σ) A s H locs) (hl : lv_has ls 1 []) (hf : fX9_asks_54  σ s0 = some res) : W p l e rmX9_asks s m args below meth c H locs 0 0 (zQi below args s D (tC cy) (wC ad cy) A res) (F0 m 54 ls [.int s0]) := by
  have hx := hC.1
  have hb := hC.2.1
  unfold fX9_asks_54 at hf
  obtain ⟨q, hf⟩ := zck_use hf
  exact z_zreturn hC hI (zbo_n q) hf dX9_asks_54
set_option maxRecDepth 20000 in
set_option maxHeartbeats 4000000 in
theorem bX9_asks_53 {st : Nat → Nat} {p : Program} {l : Launch} {e : Env} {s : State} {m : MethodId} {args : Array Value} {below : List Frame} {meth : Method} {c : Code} {D : va_G} {A : Nat → Prop} {ad : Nat → Nat} {cy : Nat → ClassId} (hC : zC p m c cX9_asks 1 s args wzX9_asks RX9 meth (some .boolean))  {res : zSt × Int32} {H : Heap} {locs : List Loc} {σ : zSt} {ls : Array Slot}  (hI : zI st D (tC cy) (wC ad cy σ) A s H locs) (hl : lv_has ls 1 []) (hf : fX9_asks_53  σ  = some res) : W p l e rmX9_asks s m args below meth c H locs 0 0 (zQi below args s D (tC cy) (wC ad cy) A res) (F0 m 53 ls []) := by
  have hx := hC.1
  have hb := hC.2.1
  unfold fX9_asks_53 at hf
  refine lv_iconst (v := 0) hx hb dX9_asks_53 (by decide) ?_
  exact bX9_asks_54 hC  hI hl hf
set_option maxRecDepth 20000 in
set_option maxHeartbeats 4000000 in
theorem bX9_asks_49 {st : Nat → Nat} {p : Program} {l : Launch} {e : Env} {s : State} {m : MethodId} {args : Array Value} {below : List Frame} {meth : Method} {c : Code} {D : va_G} {A : Nat → Prop} {ad : Nat → Nat} {cy : Nat → ClassId} (hC : zC p m c cX9_asks 1 s args wzX9_asks RX9 meth (some .boolean))  {res : zSt × Int32} {H : Heap} {locs : List Loc} {σ : zSt} {ls : Array Slot}  (hI : zI st D (tC cy) (wC ad cy σ) A s H locs) (hl : lv_has ls 1 []) (hf : fX9_asks_49  σ  = some res) : W p l e rmX9_asks s m args below meth c H locs 0 0 (zQi below args s D (tC cy) (wC ad cy) A res) (F0 m 49 ls []) := by
  have hx := hC.1
  have hb := hC.2.1
  unfold fX9_asks_49 at hf
  refine lv_iconst (v := 1) hx hb dX9_asks_49 (by decide) ?_
  refine lv_goto (tgt := 54) hx hb dX9_asks_50 (by decide) ?_
  exact bX9_asks_54 hC  hI hl hf
set_option maxRecDepth 20000 in
set_option maxHeartbeats 4000000 in
theorem bX9_asks_26 {st : Nat → Nat} {p : Program} {l : Launch} {e : Env} {s : State} {m : MethodId} {args : Array Value} {below : List Frame} {meth : Method} {c : Code} {D : va_G} {A : Nat → Prop} {ad : Nat → Nat} {cy : Nat → ClassId} (hC : zC p m c cX9_asks 1 s args wzX9_asks RX9 meth (some .boolean))  {res : zSt × Int32} {H : Heap} {locs : List Loc} {σ : zSt} {ls : Array Slot}  (hI : zI st D (tC cy) (wC ad cy σ) A s H locs) (hl : lv_has ls 1 [(0, .ref (ad 2))]) (hf : fX9_asks_26  σ  = some res) : W p l e rmX9_asks s m args below meth c H locs 0 0 (zQi below args s D (tC cy) (wC ad cy) A res) (F0 m 26 ls []) := by
  have hx := hC.1
  have hb := hC.2.1
  unfold fX9_asks_26 at hf
  refine lv_aload_n hx hb dX9_asks_26 rfl (lv_at hl 0 rfl) ?_
  refine z_get hC hI hinX9_asks_X90 2 (wC_e2 ad cy σ) rfl 4 (by decide) (List.mem_cons_of_mem _ zw4_8) rfl dX9_asks_27 ?_
  refine lv_iconst (v := 0) hx hb dX9_asks_30 (by decide) ?_
  obtain ⟨q, hf⟩ := zck_use hf
  refine z_iald hC hI 23 10 (wC_e23 ad cy σ) (tC_t23 cy) q dX9_asks_31 ?_
  refine lv_bipush (v := 16) hx hb dX9_asks_32 (by decide) ?_
  refine lv_iand hx hb dX9_asks_34 ?_
  refine lv_if_eq (tgt := 53) hx hb dX9_asks_35 (by decide) (fun q => ?_) (fun q => ?_)
  · replace hf := zif_t q hf
    exact bX9_asks_53 hC  hI (lv_sub hl [] rfl) hf
  replace hf := zif_f q hf
  refine lv_aload_n hx hb dX9_asks_38 rfl (lv_at hl 0 rfl) ?_
  refine z_get hC hI hinX9_asks_X90 2 (wC_e2 ad cy σ) rfl 4 (by decide) (List.mem_cons_of_mem _ zw4_8) rfl dX9_asks_39 ?_
  refine lv_bipush (v := 16) hx hb dX9_asks_42 (by decide) ?_
  obtain ⟨q, hf⟩ := zck_use hf
  refine z_iald hC hI 23 10 (wC_e23 ad cy σ) (tC_t23 cy) q dX9_asks_44 ?_
  refine lv_iconst (v := 1) hx hb dX9_asks_45 (by decide) ?_
  refine lv_icmp_ne (tgt := 53) hx hb dX9_asks_46 (by decide) (fun q => ?_) (fun q => ?_)
  · replace hf := zif_f q hf
    exact bX9_asks_53 hC  hI (lv_sub hl [] rfl) hf
  replace hf := zif_t q hf
  exact bX9_asks_49 hC  hI (lv_sub hl [] rfl) hf
set_option maxRecDepth 20000 in
set_option maxHeartbeats 4000000 in
theorem bX9_asks {st : Nat → Nat} {p : Program} {l : Launch} {e : Env} {s : State} {m : MethodId} {args : Array Value} {below : List Frame} {meth : Method} {c : Code} {D : va_G} {A : Nat → Prop} {ad : Nat → Nat} {cy : Nat → ClassId} (hC : zC p m c cX9_asks 1 s args wzX9_asks RX9 meth (some .boolean))  {res : zSt × Int32} {H : Heap} {locs : List Loc} {σ : zSt} {ls : Array Slot}  (hI : zI st D (tC cy) (wC ad cy σ) A s H locs) (hl : lv_has ls 1 [(0, .ref (ad 2))]) (hf : fX9_asks  σ  = some res) : W p l e rmX9_asks s m args below meth c H locs 0 0 (zQi below args s D (tC cy) (wC ad cy) A res) (F0 m 0 ls []) := by
  have hx := hC.1
  have hb := hC.2.1
  unfold fX9_asks at hf
  refine lv_aload_n hx hb dX9_asks_0 rfl (lv_at hl 0 rfl) ?_
  refine z_get hC hI hinX9_asks_X90 2 (wC_e2 ad cy σ) rfl 4 (by decide) (List.mem_cons_of_mem _ zw4_8) rfl dX9_asks_1 ?_
  refine lv_iconst (v := 1) hx hb dX9_asks_4 (by decide) ?_
  obtain ⟨q, hf⟩ := zck_use hf
  refine z_iald hC hI 23 10 (wC_e23 ad cy σ) (tC_t23 cy) q dX9_asks_5 ?_
  refine lv_bipush (v := 32) hx hb dX9_asks_6 (by decide) ?_
  refine lv_iand hx hb dX9_asks_8 ?_
  refine lv_if_eq (tgt := 26) hx hb dX9_asks_9 (by decide) (fun q => ?_) (fun q => ?_)
  · replace hf := zif_t q hf
    exact bX9_asks_26 hC  hI hl hf
  replace hf := zif_f q hf
  refine lv_aload_n hx hb dX9_asks_12 rfl (lv_at hl 0 rfl) ?_
  refine z_get hC hI hinX9_asks_X90 2 (wC_e2 ad cy σ) rfl 4 (by decide) (List.mem_cons_of_mem _ zw4_8) rfl dX9_asks_13 ?_
  refine lv_bipush (v := 15) hx hb dX9_asks_16 (by decide) ?_
  obtain ⟨q, hf⟩ := zck_use hf
  refine z_iald hC hI 23 10 (wC_e23 ad cy σ) (tC_t23 cy) q dX9_asks_18 ?_
  refine lv_sipush (v := 128) hx hb dX9_asks_19 (by decide) ?_
  refine lv_iand hx hb dX9_asks_22 ?_
  refine lv_if_ne (tgt := 49) hx hb dX9_asks_23 (by decide) (fun q => ?_) (fun q => ?_)
  · replace hf := zif_f q hf
    exact bX9_asks_49 hC  hI (lv_sub hl [] rfl) hf
  replace hf := zif_t q hf
  exact bX9_asks_26 hC  hI hl hf
set_option maxRecDepth 20000 in
theorem cX9_asks_met (st : Nat → Nat) (l : Launch) (D : va_G) (ad : Nat → Nat) (cy : Nat → ClassId) (σ : zSt)  (res : zSt × Int32) (hf : fX9_asks σ  = some res) (sz : Nat) : zMi st l yX9_asks wzX9_asks rmX9_asks [.ref (ad 2)] D (tC cy) (wC ad cy) sz σ res :=
  zMi.of (cc := cX9_asks) (maxL := 1) (ret := (some .boolean)) (by decide) rfl (Nat.le_of_ble_eq_true rfl) (fun p e s m args below meth c hC A hI ls hl => bX9_asks hC hI hl hf)
theorem hdX9_asks : yX9_asks.cls = RX9 ∧ yX9_asks.cls ≠ "java/lang/invoke/MethodHandle" ∧ yX9_asks.cls ≠ "java/lang/invoke/VarHandle" ∧ (parseMethodDescriptor yX9_asks.desc).map (fun d => d.parameters.length) = some 0 := by decide +kernel
noncomputable def rmX9_value : Room := { frames := 2, cells := 0, slots := 0, locals := 44 }
noncomputable def wzX9_value : List Cond := .code yX9_value cX9_value 2 (some .int) :: wsL_law
noncomputable def fX9_value_85  (σ : zSt) (x1 : Int32) : Option (zSt × Int32) :=
  zbi (fX9_held σ x1) (fun σ1 v2 =>
  some (σ1, v2))
noncomputable def fX9_value_64  (σ : zSt) (s0 : Int32) : Option (zSt × Int32) :=
  some (σ, s0)
noncomputable def fX9_value  (σ : zSt) (x1 : Int32) : Option (zSt × Int32) :=
  if x1 = 17 then zbi (fX9_asks σ ) (fun σ3 v4 =>
  if v4 = 0 then fX9_value_64 σ3 0 else
  fX9_value_64 σ3 1) else
  if x1 = 18 then fX9_value_85 σ x1 else
  if x1 = 19 then fX9_value_85 σ x1 else
  if x1 = 20 then fX9_value_85 σ x1 else
  if x1 = 21 then fX9_value_85 σ x1 else
  if x1 = 22 then zbi (fX9_mode σ ) (fun σ5 v6 =>
  some (σ5, v6)) else
  if x1 = 23 then zbi (fX9_height σ ) (fun σ7 v8 =>
  some (σ7, v8)) else
  if x1 = 24 then zbi (fX9_hCount σ ) (fun σ9 v10 =>
  some (σ9, v10)) else
  if x1 = 25 then zbi (fX9_vCount σ ) (fun σ11 v12 =>
  some (σ11, v12)) else
  fX9_value_85 σ x1
set_option maxRecDepth 20000 in
set_option maxHeartbeats 4000000 in
theorem bX9_value_85 {st : Nat → Nat} {p : Program} {l : Launch} {e : Env} {s : State} {m : MethodId} {args : Array Value} {below : List Frame} {meth : Method} {c : Code} {D : va_G} {A : Nat → Prop} {ad : Nat → Nat} {cy : Nat → ClassId} (hC : zC p m c cX9_value 2 s args wzX9_value RX9 meth (some .int))  {res : zSt × Int32} {H : Heap} {locs : List Loc} {σ : zSt} {ls : Array Slot} {x1 : Int32} (hI : zI st D (tC cy) (wC ad cy σ) A s H locs) (hl : lv_has ls 2 [(0, .ref (ad 2)), (1, .int x1)]) (hf : fX9_value_85  σ x1 = some res) : W p l e rmX9_value s m args below meth c H locs 0 0 (zQi below args s D (tC cy) (wC ad cy) A res) (F0 m 85 ls []) := by
  have hx := hC.1
  have hb := hC.2.1
  unfold fX9_value_85 at hf
  refine lv_aload_n hx hb dX9_value_85 rfl (lv_at hl 0 rfl) ?_
  refine lv_iload_n hx hb dX9_value_86 rfl (lv_at hl 1 rfl) ?_
  obtain ⟨σ1, v2, g1, hf⟩ := zbi_use hf
  refine z_callVi (As := [.int x1]) (rest := []) hC hI (cX9_held_met st l D ad cy σ x1 _ g1) (zgV zw89_20 zw35_13 zw35_14 zw2_1 zw35_15) rfl ⟨rfl, rfl⟩ 1 hdX9_held ⟨Nat.le_of_ble_eq_true rfl, Nat.le_of_ble_eq_true rfl⟩ rfl rfl (wC_e2 ad cy σ) rfl hl rfl (Nat.le_of_ble_eq_true rfl) dX9_value_87 ⟨Nat.zero_le _, Nat.zero_le _⟩ (fun H locs hI => ?_)
  exact z_ireturn hC hI hf dX9_value_90
set_option maxRecDepth 20000 in
set_option maxHeartbeats 4000000 in
theorem bX9_value_64 {st : Nat → Nat} {p : Program} {l : Launch} {e : Env} {s : State} {m : MethodId} {args : Array Value} {below : List Frame} {meth : Method} {c : Code} {D : va_G} {A : Nat → Prop} {ad : Nat → Nat} {cy : Nat → ClassId} (hC : zC p m c cX9_value 2 s args wzX9_value RX9 meth (some .int))  {res : zSt × Int32} {H : Heap} {locs : List Loc} {σ : zSt} {ls : Array Slot} {s0 : Int32} (hI : zI st D (tC cy) (wC ad cy σ) A s H locs) (hl : lv_has ls 2 []) (hf : fX9_value_64  σ s0 = some res) : W p l e rmX9_value s m args below meth c H locs 0 0 (zQi below args s D (tC cy) (wC ad cy) A res) (F0 m 64 ls [.int s0]) := by
  have hx := hC.1
  have hb := hC.2.1
  unfold fX9_value_64 at hf
  exact z_ireturn hC hI hf dX9_value_64
set_option maxRecDepth 20000 in
set_option maxHeartbeats 4000000 in
theorem bX9_value {st : Nat → Nat} {p : Program} {l : Launch} {e : Env} {s : State} {m : MethodId} {args : Array Value} {below : List Frame} {meth : Method} {c : Code} {D : va_G} {A : Nat → Prop} {ad : Nat → Nat} {cy : Nat → ClassId} (hC : zC p m c cX9_value 2 s args wzX9_value RX9 meth (some .int))  {res : zSt × Int32} {H : Heap} {locs : List Loc} {σ : zSt} {ls : Array Slot} {x1 : Int32} (hI : zI st D (tC cy) (wC ad cy σ) A s H locs) (hl : lv_has ls 2 [(0, .ref (ad 2)), (1, .int x1)]) (hf : fX9_value  σ x1 = some res) : W p l e rmX9_value s m args below meth c H locs 0 0 (zQi below args s D (tC cy) (wC ad cy) A res) (F0 m 0 ls []) := by
  have hx := hC.1
  have hb := hC.2.1
  unfold fX9_value at hf
  refine lv_iload_n hx hb dX9_value_0 rfl (lv_at hl 1 rfl) ?_
  by_cases q0 : x1 = 17
  · replace hf := zif_t q0 hf
    refine lv_tableIn (tgt := 52) hx hb dX9_value_1 (by rw [q0]; decide) (by rw [q0]; decide) (by rw [q0]; rfl) (by decide) ?_
    refine lv_aload_n hx hb dX9_value_52 rfl (lv_at hl 0 rfl) ?_
    obtain ⟨σ3, v4, g3, hf⟩ := zbi_use hf
    refine z_callVi (As := []) (rest := []) hC hI (cX9_asks_met st l D ad cy σ  _ g3) (zgV zw89_16 zw19_11 zw19_12 zw2_1 zw19_13) rfl ⟨rfl, rfl⟩ 0 hdX9_asks ⟨Nat.le_of_ble_eq_true rfl, Nat.le_of_ble_eq_true rfl⟩ rfl rfl (wC_e2 ad cy σ) rfl hl rfl (Nat.le_of_ble_eq_true rfl) dX9_value_53 ⟨Nat.zero_le _, Nat.zero_le _⟩ (fun H locs hI => ?_)
    refine lv_if_eq (tgt := 63) hx hb dX9_value_56 (by decide) (fun q => ?_) (fun q => ?_)
    · replace hf := zif_t q hf
      refine lv_iconst (v := 0) hx hb dX9_value_63 (by decide) ?_
      exact bX9_value_64 hC  hI (lv_sub hl [] rfl) hf
    replace hf := zif_f q hf
    refine lv_iconst (v := 1) hx hb dX9_value_59 (by decide) ?_
    refine lv_goto (tgt := 64) hx hb dX9_value_60 (by decide) ?_
    exact bX9_value_64 hC  hI (lv_sub hl [] rfl) hf
  replace hf := zif_f q0 hf
  by_cases q1 : x1 = 18
  · replace hf := zif_t q1 hf
    refine lv_tableIn (tgt := 85) hx hb dX9_value_1 (by rw [q1]; decide) (by rw [q1]; decide) (by rw [q1]; rfl) (by decide) ?_
    exact bX9_value_85 hC  hI hl hf
  replace hf := zif_f q1 hf
  by_cases q2 : x1 = 19
  · replace hf := zif_t q2 hf
    refine lv_tableIn (tgt := 85) hx hb dX9_value_1 (by rw [q2]; decide) (by rw [q2]; decide) (by rw [q2]; rfl) (by decide) ?_
    exact bX9_value_85 hC  hI hl hf
  replace hf := zif_f q2 hf
  by_cases q3 : x1 = 20
  · replace hf := zif_t q3 hf
    refine lv_tableIn (tgt := 85) hx hb dX9_value_1 (by rw [q3]; decide) (by rw [q3]; decide) (by rw [q3]; rfl) (by decide) ?_
    exact bX9_value_85 hC  hI hl hf
  replace hf := zif_f q3 hf
  by_cases q4 : x1 = 21
  · replace hf := zif_t q4 hf
    refine lv_tableIn (tgt := 85) hx hb dX9_value_1 (by rw [q4]; decide) (by rw [q4]; decide) (by rw [q4]; rfl) (by decide) ?_
    exact bX9_value_85 hC  hI hl hf
  replace hf := zif_f q4 hf
  by_cases q5 : x1 = 22
  · replace hf := zif_t q5 hf
    refine lv_tableIn (tgt := 65) hx hb dX9_value_1 (by rw [q5]; decide) (by rw [q5]; decide) (by rw [q5]; rfl) (by decide) ?_
    refine lv_aload_n hx hb dX9_value_65 rfl (lv_at hl 0 rfl) ?_
    obtain ⟨σ5, v6, g5, hf⟩ := zbi_use hf
    refine z_callVi (As := []) (rest := []) hC hI (cX9_mode_met st l D ad cy σ  _ g5) (zgV zw89_17 zw35_23 zw36_0 zw2_1 zw36_1) rfl ⟨rfl, rfl⟩ 0 hdX9_mode ⟨Nat.le_of_ble_eq_true rfl, Nat.le_of_ble_eq_true rfl⟩ rfl rfl (wC_e2 ad cy σ) rfl hl rfl (Nat.le_of_ble_eq_true rfl) dX9_value_66 ⟨Nat.zero_le _, Nat.zero_le _⟩ (fun H locs hI => ?_)
    exact z_ireturn hC hI hf dX9_value_69
  replace hf := zif_f q5 hf
  by_cases q6 : x1 = 23
  · replace hf := zif_t q6 hf
    refine lv_tableIn (tgt := 70) hx hb dX9_value_1 (by rw [q6]; decide) (by rw [q6]; decide) (by rw [q6]; rfl) (by decide) ?_
    refine lv_aload_n hx hb dX9_value_70 rfl (lv_at hl 0 rfl) ?_
    obtain ⟨σ7, v8, g7, hf⟩ := zbi_use hf
    refine z_callVi (As := []) (rest := []) hC hI (cX9_height_met st l D ad cy σ  _ g7) (zgV zw25_16 zw25_17 zw25_18 zw2_1 zw25_19) rfl ⟨rfl, rfl⟩ 0 hdX9_height ⟨Nat.le_of_ble_eq_true rfl, Nat.le_of_ble_eq_true rfl⟩ rfl rfl (wC_e2 ad cy σ) rfl hl rfl (Nat.le_of_ble_eq_true rfl) dX9_value_71 ⟨Nat.zero_le _, Nat.zero_le _⟩ (fun H locs hI => ?_)
    exact z_ireturn hC hI hf dX9_value_74
  replace hf := zif_f q6 hf
  by_cases q7 : x1 = 24
  · replace hf := zif_t q7 hf
    refine lv_tableIn (tgt := 75) hx hb dX9_value_1 (by rw [q7]; decide) (by rw [q7]; decide) (by rw [q7]; rfl) (by decide) ?_
    refine lv_aload_n hx hb dX9_value_75 rfl (lv_at hl 0 rfl) ?_
    obtain ⟨σ9, v10, g9, hf⟩ := zbi_use hf
    refine z_callVi (As := []) (rest := []) hC hI (cX9_hCount_met st l D ad cy σ  _ g9) (zgV zw89_18 zw28_2 zw28_3 zw2_1 zw28_4) rfl ⟨rfl, rfl⟩ 0 hdX9_hCount ⟨Nat.le_of_ble_eq_true rfl, Nat.le_of_ble_eq_true rfl⟩ rfl rfl (wC_e2 ad cy σ) rfl hl rfl (Nat.le_of_ble_eq_true rfl) dX9_value_76 ⟨Nat.zero_le _, Nat.zero_le _⟩ (fun H locs hI => ?_)
    exact z_ireturn hC hI hf dX9_value_79
  replace hf := zif_f q7 hf
  by_cases q8 : x1 = 25
  · replace hf := zif_t q8 hf
    refine lv_tableIn (tgt := 80) hx hb dX9_value_1 (by rw [q8]; decide) (by rw [q8]; decide) (by rw [q8]; rfl) (by decide) ?_
    refine lv_aload_n hx hb dX9_value_80 rfl (lv_at hl 0 rfl) ?_
    obtain ⟨σ11, v12, g11, hf⟩ := zbi_use hf
    refine z_callVi (As := []) (rest := []) hC hI (cX9_vCount_met st l D ad cy σ  _ g11) (zgV zw89_19 zw25_13 zw25_14 zw2_1 zw25_15) rfl ⟨rfl, rfl⟩ 0 hdX9_vCount ⟨Nat.le_of_ble_eq_true rfl, Nat.le_of_ble_eq_true rfl⟩ rfl rfl (wC_e2 ad cy σ) rfl hl rfl (Nat.le_of_ble_eq_true rfl) dX9_value_81 ⟨Nat.zero_le _, Nat.zero_le _⟩ (fun H locs hI => ?_)
    exact z_ireturn hC hI hf dX9_value_84
  replace hf := zif_f q8 hf
  refine lv_tableOut (tgt := 85) hx hb dX9_value_1 (zsw (fun k h1 h2 => by rcases (show k = 17 ∨ k = 18 ∨ k = 19 ∨ k = 20 ∨ k = 21 ∨ k = 22 ∨ k = 23 ∨ k = 24 ∨ k = 25 by omega) with rfl | rfl | rfl | rfl | rfl | rfl | rfl | rfl | rfl <;> assumption)) (by decide) ?_
  exact bX9_value_85 hC  hI hl hf
set_option maxRecDepth 20000 in
theorem cX9_value_met (st : Nat → Nat) (l : Launch) (D : va_G) (ad : Nat → Nat) (cy : Nat → ClassId) (σ : zSt) (x1 : Int32) (res : zSt × Int32) (hf : fX9_value σ x1 = some res) (sz : Nat) : zMi st l yX9_value wzX9_value rmX9_value [.ref (ad 2), .int x1] D (tC cy) (wC ad cy) sz σ res :=
  zMi.of (cc := cX9_value) (maxL := 2) (ret := (some .int)) (by decide) rfl (Nat.le_of_ble_eq_true rfl) (fun p e s m args below meth c hC A hI ls hl => bX9_value hC hI hl hf)
theorem hdX9_value : yX9_value.cls = RX9 ∧ yX9_value.cls ≠ "java/lang/invoke/MethodHandle" ∧ yX9_value.cls ≠ "java/lang/invoke/VarHandle" ∧ (parseMethodDescriptor yX9_value.desc).map (fun d => d.parameters.length) = some 1 := by decide +kernel
noncomputable def rmX9_eightFrom : Room := { frames := 0, cells := 0, slots := 0, locals := 0 }
noncomputable def wzX9_eightFrom : List Cond := .code yX9_eightFrom cX9_eightFrom 5 (some .long) :: wsL_law
theorem hinX9_eightFrom_X90 : ∀ w ∈ wsX90, w ∈ wzX9_eightFrom := fun w h => List.mem_cons_of_mem _ (inlX9 w h)
noncomputable def fX9_eightFrom_6_body (k6 : zSt → Int32 → Int64 → Int32 → Option (zSt × Int64)) (σ : zSt) (x1 : Int32) (x2 : Int64) (x4 : Int32) : Option (zSt × Int64) :=
  if x4 < 0 then some (σ, x2) else
  zck (zin ((x1 + x4) &&& 16383) 16384) (
  zbv ((zlshl x2 8) ||| ((zgi σ 21 ((x1 + x4) &&& 16383).toNatClampNeg).toInt64)) (fun v1 =>
  zbv (x4 + (-1)) (fun v2 =>
  k6 σ x1 v1 v2)))
noncomputable def fX9_eightFrom_6  : Nat → zSt → Int32 → Int64 → Int32 → Option (zSt × Int64)
  | 0, _, _, _, _ => none
  | n + 1, σ, x1, x2, x4 => fX9_eightFrom_6_body (fX9_eightFrom_6  n) σ x1 x2 x4
noncomputable def fX9_eightFrom  (σ : zSt) (x1 : Int32) : Option (zSt × Int64) :=
  fX9_eightFrom_6 zfuel σ x1 0 7
set_option maxRecDepth 20000 in
set_option maxHeartbeats 4000000 in
theorem bX9_eightFrom_6_body {st : Nat → Nat} {p : Program} {l : Launch} {e : Env} {s : State} {m : MethodId} {args : Array Value} {below : List Frame} {meth : Method} {c : Code} {D : va_G} {A : Nat → Prop} {ad : Nat → Nat} {cy : Nat → ClassId} (hC : zC p m c cX9_eightFrom 5 s args wzX9_eightFrom RX9 meth (some .long)) {k6 : zSt → Int32 → Int64 → Int32 → Option (zSt × Int64)} {res : zSt × Int64} (hk6 : ∀ (H : Heap) (locs : List Loc) (σ : zSt) (ls : Array Slot) (x1 : Int32) (x2 : Int64) (x4 : Int32), zI st D (tC cy) (wC ad cy σ) A s H locs → lv_has ls 5 [(0, .ref (ad 2)), (1, .int x1), (2, .long x2), (4, .int x4)] → k6 σ x1 x2 x4 = some res → W p l e rmX9_eightFrom s m args below meth c H locs 0 0 (zQl below args s D (tC cy) (wC ad cy) A res) (F0 m 6 ls [])) {H : Heap} {locs : List Loc} {σ : zSt} {ls : Array Slot} {x1 : Int32} {x2 : Int64} {x4 : Int32} (hI : zI st D (tC cy) (wC ad cy σ) A s H locs) (hl : lv_has ls 5 [(0, .ref (ad 2)), (1, .int x1), (2, .long x2), (4, .int x4)]) (hf : fX9_eightFrom_6_body k6 σ x1 x2 x4 = some res) : W p l e rmX9_eightFrom s m args below meth c H locs 0 0 (zQl below args s D (tC cy) (wC ad cy) A res) (F0 m 6 ls []) := by
  have hx := hC.1
  have hb := hC.2.1
  unfold fX9_eightFrom_6_body at hf
  refine lv_iload hx hb dX9_eightFrom_6 (lv_at hl 3 rfl) ?_
  refine lv_if_lt (tgt := 37) hx hb dX9_eightFrom_8 (by decide) (fun q => ?_) (fun q => ?_)
  · replace hf := zif_t q hf
    refine lv_lload_n hx hb dX9_eightFrom_37 rfl (lv_at hl 2 rfl) ?_
    exact z_lreturn hC hI hf dX9_eightFrom_38
  replace hf := zif_f q hf
  refine lv_lload_n hx hb dX9_eightFrom_11 rfl (lv_at hl 2 rfl) ?_
  refine lv_bipush (v := 8) hx hb dX9_eightFrom_12 (by decide) ?_
  refine lv_lshl (v := zlshl x2 8) hx hb dX9_eightFrom_14 rfl ?_
  refine lv_aload_n hx hb dX9_eightFrom_15 rfl (lv_at hl 0 rfl) ?_
  refine z_get hC hI hinX9_eightFrom_X90 2 (wC_e2 ad cy σ) rfl 2 (by decide) (List.mem_cons_of_mem _ zw4_6) rfl dX9_eightFrom_16 ?_
  refine lv_iload_n hx hb dX9_eightFrom_19 rfl (lv_at hl 1 rfl) ?_
  refine lv_iload hx hb dX9_eightFrom_20 (lv_at hl 3 rfl) ?_
  refine lv_iadd hx hb dX9_eightFrom_22 ?_
  refine lv_sipush (v := 16383) hx hb dX9_eightFrom_23 (by decide) ?_
  refine lv_iand hx hb dX9_eightFrom_26 ?_
  obtain ⟨q, hf⟩ := zck_use hf
  refine z_iald hC hI 21 8 (wC_e21 ad cy σ) (tC_t21 cy) q dX9_eightFrom_27 ?_
  refine lv_i2l (v := (zgi σ 21 ((x1 + x4) &&& 16383).toNatClampNeg).toInt64) hx hb dX9_eightFrom_28 rfl ?_
  refine lv_lor hx hb dX9_eightFrom_29 ?_
  refine lv_topl (fun v1 ev1 => ?_)
  replace hf := zbv_use ev1 hf
  refine lv_lstore_n (lv' := [(2, .long v1), (0, .ref (ad 2)), (1, .int x1), (4, .int x4)]) hx hb dX9_eightFrom_30 rfl hl (by decide) rfl (fun ls hl => ?_)
  obtain ⟨v2, ev2⟩ : ∃ z : Int32, z = x4 + (-1) := ⟨_, rfl⟩
  replace hf := zbv_use ev2 hf
  refine lv_iinc (v := v2) (lv' := [(4, .int v2), (2, .long v1), (0, .ref (ad 2)), (1, .int x1)]) hx hb dX9_eightFrom_31 hl (k := 3) rfl (by rw [ev2]; rfl) (by decide) rfl (fun ls hl => ?_)
  refine lv_goto (tgt := 6) hx hb dX9_eightFrom_34 (by decide) ?_
  exact hk6 _ _ _ _ _ _ _ hI (lv_sub hl [2, 3, 1, 0] rfl) hf
theorem blX9_eightFrom_6 {st : Nat → Nat} {p : Program} {l : Launch} {e : Env} {s : State} {m : MethodId} {args : Array Value} {below : List Frame} {meth : Method} {c : Code} {D : va_G} {A : Nat → Prop} {ad : Nat → Nat} {cy : Nat → ClassId} (hC : zC p m c cX9_eightFrom 5 s args wzX9_eightFrom RX9 meth (some .long))  {res : zSt × Int64} : ∀ (n : Nat) (H : Heap) (locs : List Loc) (σ : zSt) (ls : Array Slot) (x1 : Int32) (x2 : Int64) (x4 : Int32), zI st D (tC cy) (wC ad cy σ) A s H locs → lv_has ls 5 [(0, .ref (ad 2)), (1, .int x1), (2, .long x2), (4, .int x4)] → fX9_eightFrom_6  n σ x1 x2 x4 = some res → W p l e rmX9_eightFrom s m args below meth c H locs 0 0 (zQl below args s D (tC cy) (wC ad cy) A res) (F0 m 6 ls []) := by
  intro n
  induction n with
  | zero => intro H locs σ ls x1 x2 x4 hI hl hf; cases hf
  | succ n ih => intro H locs σ ls x1 x2 x4 hI hl hf; exact bX9_eightFrom_6_body hC ih hI hl hf
set_option maxRecDepth 20000 in
set_option maxHeartbeats 4000000 in
theorem bX9_eightFrom {st : Nat → Nat} {p : Program} {l : Launch} {e : Env} {s : State} {m : MethodId} {args : Array Value} {below : List Frame} {meth : Method} {c : Code} {D : va_G} {A : Nat → Prop} {ad : Nat → Nat} {cy : Nat → ClassId} (hC : zC p m c cX9_eightFrom 5 s args wzX9_eightFrom RX9 meth (some .long))  {res : zSt × Int64} {H : Heap} {locs : List Loc} {σ : zSt} {ls : Array Slot} {x1 : Int32} (hI : zI st D (tC cy) (wC ad cy σ) A s H locs) (hl : lv_has ls 5 [(0, .ref (ad 2)), (1, .int x1)]) (hf : fX9_eightFrom  σ x1 = some res) : W p l e rmX9_eightFrom s m args below meth c H locs 0 0 (zQl below args s D (tC cy) (wC ad cy) A res) (F0 m 0 ls []) := by
  have hx := hC.1
  have hb := hC.2.1
  unfold fX9_eightFrom at hf
  refine lv_lconst (v := 0) hx hb dX9_eightFrom_0 (by decide) ?_
  refine lv_lstore_n (lv' := [(2, .long 0), (0, .ref (ad 2)), (1, .int x1)]) hx hb dX9_eightFrom_1 rfl hl (by decide) rfl (fun ls hl => ?_)
  refine lv_bipush (v := 7) hx hb dX9_eightFrom_2 (by decide) ?_
  refine lv_istore (lv' := [(4, .int 7), (2, .long 0), (0, .ref (ad 2)), (1, .int x1)]) hx hb dX9_eightFrom_4 hl (by decide) rfl (fun ls hl => ?_)
  exact blX9_eightFrom_6 hC  zfuel _ _ _ _ _ _ _ hI (lv_sub hl [2, 3, 1, 0] rfl) hf
set_option maxRecDepth 20000 in
theorem cX9_eightFrom_met (st : Nat → Nat) (l : Launch) (D : va_G) (ad : Nat → Nat) (cy : Nat → ClassId) (σ : zSt) (x1 : Int32) (res : zSt × Int64) (hf : fX9_eightFrom σ x1 = some res) (sz : Nat) : zMl st l yX9_eightFrom wzX9_eightFrom rmX9_eightFrom [.ref (ad 2), .int x1] D (tC cy) (wC ad cy) sz σ res :=
  zMl.of (cc := cX9_eightFrom) (maxL := 5) (ret := (some .long)) (by decide) rfl (Nat.le_of_ble_eq_true rfl) (fun p e s m args below meth c hC A hI ls hl => bX9_eightFrom hC hI hl hf)
theorem hdX9_eightFrom : yX9_eightFrom.cls = RX9 ∧ yX9_eightFrom.cls ≠ "java/lang/invoke/MethodHandle" ∧ yX9_eightFrom.cls ≠ "java/lang/invoke/VarHandle" ∧ (parseMethodDescriptor yX9_eightFrom.desc).map (fun d => d.parameters.length) = some 1 := by decide +kernel
noncomputable def rmX9_passes : Room := { frames := 0, cells := 0, slots := 0, locals := 0 }
noncomputable def wzX9_passes : List Cond := .code yX9_passes cX9_passes 2 (some .boolean) :: wsL_law
theorem hinX9_passes_X90 : ∀ w ∈ wsX90, w ∈ wzX9_passes := fun w h => List.mem_cons_of_mem _ (inlX9 w h)
noncomputable def fX9_passes  (σ : zSt) (x1 : Int32) : Option (zSt × Int32) :=
  zck (zin 21 96) (
  zck (zin 21 96) (zbv (zsi σ 23 ((21 : Int32).toNatClampNeg) ((zgi σ 23 (21 : Int32).toNatClampNeg) + x1)) (fun σ1 =>
  zck (zin 21 96) (
  if 228 ≤ (zgi σ1 23 (21 : Int32).toNatClampNeg) then zck (zin 21 96) (
  zck (zin 21 96) (zbv (zsi σ1 23 ((21 : Int32).toNatClampNeg) ((zgi σ1 23 (21 : Int32).toNatClampNeg) - 228)) (fun σ2 =>
  zck (zbo 1) (some (σ2, 1))))) else
  zck (zbo 0) (some (σ1, 0))))))
set_option maxRecDepth 20000 in
set_option maxHeartbeats 4000000 in
theorem bX9_passes {st : Nat → Nat} {p : Program} {l : Launch} {e : Env} {s : State} {m : MethodId} {args : Array Value} {below : List Frame} {meth : Method} {c : Code} {D : va_G} {A : Nat → Prop} {ad : Nat → Nat} {cy : Nat → ClassId} (hC : zC p m c cX9_passes 2 s args wzX9_passes RX9 meth (some .boolean))  {res : zSt × Int32} {H : Heap} {locs : List Loc} {σ : zSt} {ls : Array Slot} {x1 : Int32} (hI : zI st D (tC cy) (wC ad cy σ) A s H locs) (hl : lv_has ls 2 [(0, .ref (ad 2)), (1, .int x1)]) (hf : fX9_passes  σ x1 = some res) : W p l e rmX9_passes s m args below meth c H locs 0 0 (zQi below args s D (tC cy) (wC ad cy) A res) (F0 m 0 ls []) := by
  have hx := hC.1
  have hb := hC.2.1
  unfold fX9_passes at hf
  refine lv_aload_n hx hb dX9_passes_0 rfl (lv_at hl 0 rfl) ?_
  refine z_get hC hI hinX9_passes_X90 2 (wC_e2 ad cy σ) rfl 4 (by decide) (List.mem_cons_of_mem _ zw4_8) rfl dX9_passes_1 ?_
  refine lv_bipush (v := 21) hx hb dX9_passes_4 (by decide) ?_
  refine lv_dup2_11 hx hb dX9_passes_6 rfl rfl ?_
  obtain ⟨q, hf⟩ := zck_use hf
  refine z_iald hC hI 23 10 (wC_e23 ad cy σ) (tC_t23 cy) q dX9_passes_7 ?_
  refine lv_iload_n hx hb dX9_passes_8 rfl (lv_at hl 1 rfl) ?_
  refine lv_iadd hx hb dX9_passes_9 ?_
  obtain ⟨q, hf⟩ := zck_use hf
  obtain ⟨σ1, eσ1⟩ : ∃ z, z = zsi σ 23 ((21 : Int32).toNatClampNeg) ((zgi σ 23 (21 : Int32).toNatClampNeg) + x1) := ⟨_, rfl⟩
  replace hf := zbv_use eσ1 hf
  refine z_iast hC hI 23 10 (wC_e23 ad cy σ) (tC_t23 cy) q ((wC_s23 ad cy σ _ _).trans (congrArg (wC ad cy) eσ1.symm)) dX9_passes_10 (fun H locs hI => ?_)
  refine lv_aload_n hx hb dX9_passes_11 rfl (lv_at hl 0 rfl) ?_
  refine z_get hC hI hinX9_passes_X90 2 (wC_e2 ad cy σ1) rfl 4 (by decide) (List.mem_cons_of_mem _ zw4_8) rfl dX9_passes_12 ?_
  refine lv_bipush (v := 21) hx hb dX9_passes_15 (by decide) ?_
  obtain ⟨q, hf⟩ := zck_use hf
  refine z_iald hC hI 23 10 (wC_e23 ad cy σ1) (tC_t23 cy) q dX9_passes_17 ?_
  refine lv_sipush (v := 228) hx hb dX9_passes_18 (by decide) ?_
  refine lv_icmp_ge (tgt := 26) hx hb dX9_passes_21 (by decide) (fun q => ?_) (fun q => ?_)
  · replace hf := zif_t q hf
    refine lv_aload_n hx hb dX9_passes_26 rfl (lv_at hl 0 rfl) ?_
    refine z_get hC hI hinX9_passes_X90 2 (wC_e2 ad cy σ1) rfl 4 (by decide) (List.mem_cons_of_mem _ zw4_8) rfl dX9_passes_27 ?_
    refine lv_bipush (v := 21) hx hb dX9_passes_30 (by decide) ?_
    refine lv_dup2_11 hx hb dX9_passes_32 rfl rfl ?_
    obtain ⟨q, hf⟩ := zck_use hf
    refine z_iald hC hI 23 10 (wC_e23 ad cy σ1) (tC_t23 cy) q dX9_passes_33 ?_
    refine lv_sipush (v := 228) hx hb dX9_passes_34 (by decide) ?_
    refine lv_isub hx hb dX9_passes_37 ?_
    obtain ⟨q, hf⟩ := zck_use hf
    obtain ⟨σ2, eσ2⟩ : ∃ z, z = zsi σ1 23 ((21 : Int32).toNatClampNeg) ((zgi σ1 23 (21 : Int32).toNatClampNeg) - 228) := ⟨_, rfl⟩
    replace hf := zbv_use eσ2 hf
    refine z_iast hC hI 23 10 (wC_e23 ad cy σ1) (tC_t23 cy) q ((wC_s23 ad cy σ1 _ _).trans (congrArg (wC ad cy) eσ2.symm)) dX9_passes_38 (fun H locs hI => ?_)
    refine lv_iconst (v := 1) hx hb dX9_passes_39 (by decide) ?_
    obtain ⟨q, hf⟩ := zck_use hf
    exact z_zreturn hC hI (zbo_n q) hf dX9_passes_40
  replace hf := zif_f q hf
  refine lv_iconst (v := 0) hx hb dX9_passes_24 (by decide) ?_
  obtain ⟨q, hf⟩ := zck_use hf
  exact z_zreturn hC hI (zbo_n q) hf dX9_passes_25
set_option maxRecDepth 20000 in
theorem cX9_passes_met (st : Nat → Nat) (l : Launch) (D : va_G) (ad : Nat → Nat) (cy : Nat → ClassId) (σ : zSt) (x1 : Int32) (res : zSt × Int32) (hf : fX9_passes σ x1 = some res) (sz : Nat) : zMi st l yX9_passes wzX9_passes rmX9_passes [.ref (ad 2), .int x1] D (tC cy) (wC ad cy) sz σ res :=
  zMi.of (cc := cX9_passes) (maxL := 2) (ret := (some .boolean)) (by decide) rfl (Nat.le_of_ble_eq_true rfl) (fun p e s m args below meth c hC A hI ls hl => bX9_passes hC hI hl hf)
theorem hdX9_passes : yX9_passes.cls = RX9 ∧ yX9_passes.cls ≠ "java/lang/invoke/MethodHandle" ∧ yX9_passes.cls ≠ "java/lang/invoke/VarHandle" ∧ (parseMethodDescriptor yX9_passes.desc).map (fun d => d.parameters.length) = some 1 := by decide +kernel
noncomputable def rmX9_goesToNextLine : Room := { frames := 1, cells := 0, slots := 0, locals := 20 }
noncomputable def wzX9_goesToNextLine : List Cond := .code yX9_goesToNextLine cX9_goesToNextLine 3 (some .boolean) :: wsL_law
theorem hinX9_goesToNextLine_X90 : ∀ w ∈ wsX90, w ∈ wzX9_goesToNextLine := fun w h => List.mem_cons_of_mem _ (inlX9 w h)
noncomputable def fX9_goesToNextLine_159  (σ : zSt) (x2 : Int32) : Option (zSt × Int32) :=
  zck (zbo x2) (some (σ, x2))
noncomputable def fX9_goesToNextLine_133  (σ : zSt) (x1 : Int32) (x2 : Int32) : Option (zSt × Int32) :=
  zck (zin 20 96) (
  if (zgi σ 23 (20 : Int32).toNatClampNeg) = (x1 + 1) then zck (zin 15 96) (
  zck (zin 15 96) (zbv (zsi σ 23 ((15 : Int32).toNatClampNeg) ((zgi σ 23 (15 : Int32).toNatClampNeg) ||| 128)) (fun σ1 =>
  fX9_goesToNextLine_159 σ1 x2))) else
  fX9_goesToNextLine_159 σ x2)
noncomputable def fX9_goesToNextLine_106  (σ : zSt) (x1 : Int32) (s0 : Int32) : Option (zSt × Int32) :=
  if s0 = 0 then fX9_goesToNextLine_133 σ x1 s0 else
  zck (zin 20 96) (zbv (zsi σ 23 ((20 : Int32).toNatClampNeg) 0) (fun σ2 =>
  zck (zin 9 96) (
  zck (zin 19 96) (zbv (zsi σ2 23 ((19 : Int32).toNatClampNeg) (zgi σ2 23 (9 : Int32).toNatClampNeg)) (fun σ3 =>
  fX9_goesToNextLine_133 σ3 x1 s0)))))
noncomputable def fX9_goesToNextLine_76  (σ : zSt) (x1 : Int32) : Option (zSt × Int32) :=
  zck (zin 20 96) (
  zck (zin 20 96) (zbv (zsi σ 23 ((20 : Int32).toNatClampNeg) ((zgi σ 23 (20 : Int32).toNatClampNeg) + 1)) (fun σ4 =>
  zck (zin 20 96) (
  if (zgi σ4 23 (20 : Int32).toNatClampNeg) < (zgi σ4 2 1) then fX9_goesToNextLine_106 σ4 x1 0 else
  fX9_goesToNextLine_106 σ4 x1 1))))
noncomputable def fX9_goesToNextLine  (σ : zSt)  : Option (zSt × Int32) :=
  zbi (fX9_height σ ) (fun σ5 v6 =>
  zck (zin 20 96) (
  if (zgi σ5 23 (20 : Int32).toNatClampNeg) ≤ v6 then zck (zin 18 96) (
  zck (zin 18 96) (zbv (zsi σ5 23 ((18 : Int32).toNatClampNeg) ((zgi σ5 23 (18 : Int32).toNatClampNeg) - 1)) (fun σ7 =>
  zck (zin 18 96) (
  if 0 ≤ (zgi σ7 23 (18 : Int32).toNatClampNeg) then fX9_goesToNextLine_76 σ7 v6 else
  zck (zin 10 96) (
  zck (zin 18 96) (zbv (zsi σ7 23 ((18 : Int32).toNatClampNeg) (zgi σ7 23 (10 : Int32).toNatClampNeg)) (fun σ8 =>
  zck (zin 16 96) (zbv (zsi σ8 23 ((16 : Int32).toNatClampNeg) 1) (fun σ9 =>
  fX9_goesToNextLine_76 σ9 v6))))))))) else
  zck (zin 10 96) (
  zck (zin 18 96) (zbv (zsi σ5 23 ((18 : Int32).toNatClampNeg) (zgi σ5 23 (10 : Int32).toNatClampNeg)) (fun σ10 =>
  fX9_goesToNextLine_76 σ10 v6)))))
set_option maxRecDepth 20000 in
set_option maxHeartbeats 4000000 in
theorem bX9_goesToNextLine_159 {st : Nat → Nat} {p : Program} {l : Launch} {e : Env} {s : State} {m : MethodId} {args : Array Value} {below : List Frame} {meth : Method} {c : Code} {D : va_G} {A : Nat → Prop} {ad : Nat → Nat} {cy : Nat → ClassId} (hC : zC p m c cX9_goesToNextLine 3 s args wzX9_goesToNextLine RX9 meth (some .boolean))  {res : zSt × Int32} {H : Heap} {locs : List Loc} {σ : zSt} {ls : Array Slot} {x2 : Int32} (hI : zI st D (tC cy) (wC ad cy σ) A s H locs) (hl : lv_has ls 3 [(2, .int x2)]) (hf : fX9_goesToNextLine_159  σ x2 = some res) : W p l e rmX9_goesToNextLine s m args below meth c H locs 0 0 (zQi below args s D (tC cy) (wC ad cy) A res) (F0 m 159 ls []) := by
  have hx := hC.1
  have hb := hC.2.1
  unfold fX9_goesToNextLine_159 at hf
  refine lv_iload_n hx hb dX9_goesToNextLine_159 rfl (lv_at hl 0 rfl) ?_
  obtain ⟨q, hf⟩ := zck_use hf
  exact z_zreturn hC hI (zbo_n q) hf dX9_goesToNextLine_160
set_option maxRecDepth 20000 in
set_option maxHeartbeats 4000000 in
theorem bX9_goesToNextLine_133 {st : Nat → Nat} {p : Program} {l : Launch} {e : Env} {s : State} {m : MethodId} {args : Array Value} {below : List Frame} {meth : Method} {c : Code} {D : va_G} {A : Nat → Prop} {ad : Nat → Nat} {cy : Nat → ClassId} (hC : zC p m c cX9_goesToNextLine 3 s args wzX9_goesToNextLine RX9 meth (some .boolean))  {res : zSt × Int32} {H : Heap} {locs : List Loc} {σ : zSt} {ls : Array Slot} {x1 : Int32} {x2 : Int32} (hI : zI st D (tC cy) (wC ad cy σ) A s H locs) (hl : lv_has ls 3 [(0, .ref (ad 2)), (1, .int x1), (2, .int x2)]) (hf : fX9_goesToNextLine_133  σ x1 x2 = some res) : W p l e rmX9_goesToNextLine s m args below meth c H locs 0 0 (zQi below args s D (tC cy) (wC ad cy) A res) (F0 m 133 ls []) := by
  have hx := hC.1
  have hb := hC.2.1
  unfold fX9_goesToNextLine_133 at hf
  refine lv_aload_n hx hb dX9_goesToNextLine_133 rfl (lv_at hl 0 rfl) ?_
  refine z_get hC hI hinX9_goesToNextLine_X90 2 (wC_e2 ad cy σ) rfl 4 (by decide) (List.mem_cons_of_mem _ zw4_8) rfl dX9_goesToNextLine_134 ?_
  refine lv_bipush (v := 20) hx hb dX9_goesToNextLine_137 (by decide) ?_
  obtain ⟨q, hf⟩ := zck_use hf
  refine z_iald hC hI 23 10 (wC_e23 ad cy σ) (tC_t23 cy) q dX9_goesToNextLine_139 ?_
  refine lv_iload_n hx hb dX9_goesToNextLine_140 rfl (lv_at hl 1 rfl) ?_
  refine lv_iconst (v := 1) hx hb dX9_goesToNextLine_141 (by decide) ?_
  refine lv_iadd hx hb dX9_goesToNextLine_142 ?_
  refine lv_icmp_ne (tgt := 159) hx hb dX9_goesToNextLine_143 (by decide) (fun q => ?_) (fun q => ?_)
  · replace hf := zif_f q hf
    exact bX9_goesToNextLine_159 hC  hI (lv_sub hl [2] rfl) hf
  replace hf := zif_t q hf
  refine lv_aload_n hx hb dX9_goesToNextLine_146 rfl (lv_at hl 0 rfl) ?_
  refine z_get hC hI hinX9_goesToNextLine_X90 2 (wC_e2 ad cy σ) rfl 4 (by decide) (List.mem_cons_of_mem _ zw4_8) rfl dX9_goesToNextLine_147 ?_
  refine lv_bipush (v := 15) hx hb dX9_goesToNextLine_150 (by decide) ?_
  refine lv_dup2_11 hx hb dX9_goesToNextLine_152 rfl rfl ?_
  obtain ⟨q, hf⟩ := zck_use hf
  refine z_iald hC hI 23 10 (wC_e23 ad cy σ) (tC_t23 cy) q dX9_goesToNextLine_153 ?_
  refine lv_sipush (v := 128) hx hb dX9_goesToNextLine_154 (by decide) ?_
  refine lv_ior hx hb dX9_goesToNextLine_157 ?_
  obtain ⟨q, hf⟩ := zck_use hf
  obtain ⟨σ1, eσ1⟩ : ∃ z, z = zsi σ 23 ((15 : Int32).toNatClampNeg) ((zgi σ 23 (15 : Int32).toNatClampNeg) ||| 128) := ⟨_, rfl⟩
  replace hf := zbv_use eσ1 hf
  refine z_iast hC hI 23 10 (wC_e23 ad cy σ) (tC_t23 cy) q ((wC_s23 ad cy σ _ _).trans (congrArg (wC ad cy) eσ1.symm)) dX9_goesToNextLine_158 (fun H locs hI => ?_)
  exact bX9_goesToNextLine_159 hC  hI (lv_sub hl [2] rfl) hf
set_option maxRecDepth 20000 in
set_option maxHeartbeats 4000000 in
theorem bX9_goesToNextLine_106 {st : Nat → Nat} {p : Program} {l : Launch} {e : Env} {s : State} {m : MethodId} {args : Array Value} {below : List Frame} {meth : Method} {c : Code} {D : va_G} {A : Nat → Prop} {ad : Nat → Nat} {cy : Nat → ClassId} (hC : zC p m c cX9_goesToNextLine 3 s args wzX9_goesToNextLine RX9 meth (some .boolean))  {res : zSt × Int32} {H : Heap} {locs : List Loc} {σ : zSt} {ls : Array Slot} {x1 : Int32} {s0 : Int32} (hI : zI st D (tC cy) (wC ad cy σ) A s H locs) (hl : lv_has ls 3 [(0, .ref (ad 2)), (1, .int x1)]) (hf : fX9_goesToNextLine_106  σ x1 s0 = some res) : W p l e rmX9_goesToNextLine s m args below meth c H locs 0 0 (zQi below args s D (tC cy) (wC ad cy) A res) (F0 m 106 ls [.int s0]) := by
  have hx := hC.1
  have hb := hC.2.1
  unfold fX9_goesToNextLine_106 at hf
  refine lv_istore_n (lv' := [(2, .int s0), (0, .ref (ad 2)), (1, .int x1)]) hx hb dX9_goesToNextLine_106 rfl hl (by decide) rfl (fun ls hl => ?_)
  refine lv_iload_n hx hb dX9_goesToNextLine_107 rfl (lv_at hl 0 rfl) ?_
  refine lv_if_eq (tgt := 133) hx hb dX9_goesToNextLine_108 (by decide) (fun q => ?_) (fun q => ?_)
  · replace hf := zif_t q hf
    exact bX9_goesToNextLine_133 hC  hI (lv_sub hl [1, 2, 0] rfl) hf
  replace hf := zif_f q hf
  refine lv_aload_n hx hb dX9_goesToNextLine_111 rfl (lv_at hl 1 rfl) ?_
  refine z_get hC hI hinX9_goesToNextLine_X90 2 (wC_e2 ad cy σ) rfl 4 (by decide) (List.mem_cons_of_mem _ zw4_8) rfl dX9_goesToNextLine_112 ?_
  refine lv_bipush (v := 20) hx hb dX9_goesToNextLine_115 (by decide) ?_
  refine lv_iconst (v := 0) hx hb dX9_goesToNextLine_117 (by decide) ?_
  obtain ⟨q, hf⟩ := zck_use hf
  obtain ⟨σ2, eσ2⟩ : ∃ z, z = zsi σ 23 ((20 : Int32).toNatClampNeg) 0 := ⟨_, rfl⟩
  replace hf := zbv_use eσ2 hf
  refine z_iast hC hI 23 10 (wC_e23 ad cy σ) (tC_t23 cy) q ((wC_s23 ad cy σ _ _).trans (congrArg (wC ad cy) eσ2.symm)) dX9_goesToNextLine_118 (fun H locs hI => ?_)
  refine lv_aload_n hx hb dX9_goesToNextLine_119 rfl (lv_at hl 1 rfl) ?_
  refine z_get hC hI hinX9_goesToNextLine_X90 2 (wC_e2 ad cy σ2) rfl 4 (by decide) (List.mem_cons_of_mem _ zw4_8) rfl dX9_goesToNextLine_120 ?_
  refine lv_bipush (v := 19) hx hb dX9_goesToNextLine_123 (by decide) ?_
  refine lv_aload_n hx hb dX9_goesToNextLine_125 rfl (lv_at hl 1 rfl) ?_
  refine z_get hC hI hinX9_goesToNextLine_X90 2 (wC_e2 ad cy σ2) rfl 4 (by decide) (List.mem_cons_of_mem _ zw4_8) rfl dX9_goesToNextLine_126 ?_
  refine lv_bipush (v := 9) hx hb dX9_goesToNextLine_129 (by decide) ?_
  obtain ⟨q, hf⟩ := zck_use hf
  refine z_iald hC hI 23 10 (wC_e23 ad cy σ2) (tC_t23 cy) q dX9_goesToNextLine_131 ?_
  obtain ⟨q, hf⟩ := zck_use hf
  obtain ⟨σ3, eσ3⟩ : ∃ z, z = zsi σ2 23 ((19 : Int32).toNatClampNeg) (zgi σ2 23 (9 : Int32).toNatClampNeg) := ⟨_, rfl⟩
  replace hf := zbv_use eσ3 hf
  refine z_iast hC hI 23 10 (wC_e23 ad cy σ2) (tC_t23 cy) q ((wC_s23 ad cy σ2 _ _).trans (congrArg (wC ad cy) eσ3.symm)) dX9_goesToNextLine_132 (fun H locs hI => ?_)
  exact bX9_goesToNextLine_133 hC  hI (lv_sub hl [1, 2, 0] rfl) hf
set_option maxRecDepth 20000 in
set_option maxHeartbeats 4000000 in
theorem bX9_goesToNextLine_76 {st : Nat → Nat} {p : Program} {l : Launch} {e : Env} {s : State} {m : MethodId} {args : Array Value} {below : List Frame} {meth : Method} {c : Code} {D : va_G} {A : Nat → Prop} {ad : Nat → Nat} {cy : Nat → ClassId} (hC : zC p m c cX9_goesToNextLine 3 s args wzX9_goesToNextLine RX9 meth (some .boolean))  {res : zSt × Int32} {H : Heap} {locs : List Loc} {σ : zSt} {ls : Array Slot} {x1 : Int32} (hI : zI st D (tC cy) (wC ad cy σ) A s H locs) (hl : lv_has ls 3 [(0, .ref (ad 2)), (1, .int x1)]) (hf : fX9_goesToNextLine_76  σ x1 = some res) : W p l e rmX9_goesToNextLine s m args below meth c H locs 0 0 (zQi below args s D (tC cy) (wC ad cy) A res) (F0 m 76 ls []) := by
  have hx := hC.1
  have hb := hC.2.1
  unfold fX9_goesToNextLine_76 at hf
  refine lv_aload_n hx hb dX9_goesToNextLine_76 rfl (lv_at hl 0 rfl) ?_
  refine z_get hC hI hinX9_goesToNextLine_X90 2 (wC_e2 ad cy σ) rfl 4 (by decide) (List.mem_cons_of_mem _ zw4_8) rfl dX9_goesToNextLine_77 ?_
  refine lv_bipush (v := 20) hx hb dX9_goesToNextLine_80 (by decide) ?_
  refine lv_dup2_11 hx hb dX9_goesToNextLine_82 rfl rfl ?_
  obtain ⟨q, hf⟩ := zck_use hf
  refine z_iald hC hI 23 10 (wC_e23 ad cy σ) (tC_t23 cy) q dX9_goesToNextLine_83 ?_
  refine lv_iconst (v := 1) hx hb dX9_goesToNextLine_84 (by decide) ?_
  refine lv_iadd hx hb dX9_goesToNextLine_85 ?_
  obtain ⟨q, hf⟩ := zck_use hf
  obtain ⟨σ4, eσ4⟩ : ∃ z, z = zsi σ 23 ((20 : Int32).toNatClampNeg) ((zgi σ 23 (20 : Int32).toNatClampNeg) + 1) := ⟨_, rfl⟩
  replace hf := zbv_use eσ4 hf
  refine z_iast hC hI 23 10 (wC_e23 ad cy σ) (tC_t23 cy) q ((wC_s23 ad cy σ _ _).trans (congrArg (wC ad cy) eσ4.symm)) dX9_goesToNextLine_86 (fun H locs hI => ?_)
  refine lv_aload_n hx hb dX9_goesToNextLine_87 rfl (lv_at hl 0 rfl) ?_
  refine z_get hC hI hinX9_goesToNextLine_X90 2 (wC_e2 ad cy σ4) rfl 4 (by decide) (List.mem_cons_of_mem _ zw4_8) rfl dX9_goesToNextLine_88 ?_
  refine lv_bipush (v := 20) hx hb dX9_goesToNextLine_91 (by decide) ?_
  obtain ⟨q, hf⟩ := zck_use hf
  refine z_iald hC hI 23 10 (wC_e23 ad cy σ4) (tC_t23 cy) q dX9_goesToNextLine_93 ?_
  refine lv_aload_n hx hb dX9_goesToNextLine_94 rfl (lv_at hl 0 rfl) ?_
  refine z_get hC hI hinX9_goesToNextLine_X90 2 (wC_e2 ad cy σ4) rfl 1 (by decide) (List.mem_cons_of_mem _ zw4_11) rfl dX9_goesToNextLine_95 ?_
  refine lv_icmp_lt (tgt := 105) hx hb dX9_goesToNextLine_98 (by decide) (fun q => ?_) (fun q => ?_)
  · replace hf := zif_t q hf
    refine lv_iconst (v := 0) hx hb dX9_goesToNextLine_105 (by decide) ?_
    exact bX9_goesToNextLine_106 hC  hI hl hf
  replace hf := zif_f q hf
  refine lv_iconst (v := 1) hx hb dX9_goesToNextLine_101 (by decide) ?_
  refine lv_goto (tgt := 106) hx hb dX9_goesToNextLine_102 (by decide) ?_
  exact bX9_goesToNextLine_106 hC  hI hl hf
set_option maxRecDepth 20000 in
set_option maxHeartbeats 4000000 in
theorem bX9_goesToNextLine {st : Nat → Nat} {p : Program} {l : Launch} {e : Env} {s : State} {m : MethodId} {args : Array Value} {below : List Frame} {meth : Method} {c : Code} {D : va_G} {A : Nat → Prop} {ad : Nat → Nat} {cy : Nat → ClassId} (hC : zC p m c cX9_goesToNextLine 3 s args wzX9_goesToNextLine RX9 meth (some .boolean))  {res : zSt × Int32} {H : Heap} {locs : List Loc} {σ : zSt} {ls : Array Slot}  (hI : zI st D (tC cy) (wC ad cy σ) A s H locs) (hl : lv_has ls 3 [(0, .ref (ad 2))]) (hf : fX9_goesToNextLine  σ  = some res) : W p l e rmX9_goesToNextLine s m args below meth c H locs 0 0 (zQi below args s D (tC cy) (wC ad cy) A res) (F0 m 0 ls []) := by
  have hx := hC.1
  have hb := hC.2.1
  unfold fX9_goesToNextLine at hf
  refine lv_aload_n hx hb dX9_goesToNextLine_0 rfl (lv_at hl 0 rfl) ?_
  obtain ⟨σ5, v6, g5, hf⟩ := zbi_use hf
  refine z_callVi (As := []) (rest := []) hC hI (cX9_height_met st l D ad cy σ  _ g5) (zgV zw25_16 zw25_17 zw25_18 zw2_1 zw25_19) rfl ⟨rfl, rfl⟩ 0 hdX9_height ⟨Nat.le_of_ble_eq_true rfl, Nat.le_of_ble_eq_true rfl⟩ rfl rfl (wC_e2 ad cy σ) rfl hl rfl (Nat.le_of_ble_eq_true rfl) dX9_goesToNextLine_1 ⟨Nat.zero_le _, Nat.zero_le _⟩ (fun H locs hI => ?_)
  refine lv_istore_n (lv' := [(1, .int v6), (0, .ref (ad 2))]) hx hb dX9_goesToNextLine_4 rfl hl (by decide) rfl (fun ls hl => ?_)
  refine lv_aload_n hx hb dX9_goesToNextLine_5 rfl (lv_at hl 1 rfl) ?_
  refine z_get hC hI hinX9_goesToNextLine_X90 2 (wC_e2 ad cy σ5) rfl 4 (by decide) (List.mem_cons_of_mem _ zw4_8) rfl dX9_goesToNextLine_6 ?_
  refine lv_bipush (v := 20) hx hb dX9_goesToNextLine_9 (by decide) ?_
  obtain ⟨q, hf⟩ := zck_use hf
  refine z_iald hC hI 23 10 (wC_e23 ad cy σ5) (tC_t23 cy) q dX9_goesToNextLine_11 ?_
  refine lv_iload_n hx hb dX9_goesToNextLine_12 rfl (lv_at hl 0 rfl) ?_
  refine lv_icmp_le (tgt := 33) hx hb dX9_goesToNextLine_13 (by decide) (fun q => ?_) (fun q => ?_)
  · replace hf := zif_t q hf
    refine lv_aload_n hx hb dX9_goesToNextLine_33 rfl (lv_at hl 1 rfl) ?_
    refine z_get hC hI hinX9_goesToNextLine_X90 2 (wC_e2 ad cy σ5) rfl 4 (by decide) (List.mem_cons_of_mem _ zw4_8) rfl dX9_goesToNextLine_34 ?_
    refine lv_bipush (v := 18) hx hb dX9_goesToNextLine_37 (by decide) ?_
    refine lv_dup2_11 hx hb dX9_goesToNextLine_39 rfl rfl ?_
    obtain ⟨q, hf⟩ := zck_use hf
    refine z_iald hC hI 23 10 (wC_e23 ad cy σ5) (tC_t23 cy) q dX9_goesToNextLine_40 ?_
    refine lv_iconst (v := 1) hx hb dX9_goesToNextLine_41 (by decide) ?_
    refine lv_isub hx hb dX9_goesToNextLine_42 ?_
    obtain ⟨q, hf⟩ := zck_use hf
    obtain ⟨σ7, eσ7⟩ : ∃ z, z = zsi σ5 23 ((18 : Int32).toNatClampNeg) ((zgi σ5 23 (18 : Int32).toNatClampNeg) - 1) := ⟨_, rfl⟩
    replace hf := zbv_use eσ7 hf
    refine z_iast hC hI 23 10 (wC_e23 ad cy σ5) (tC_t23 cy) q ((wC_s23 ad cy σ5 _ _).trans (congrArg (wC ad cy) eσ7.symm)) dX9_goesToNextLine_43 (fun H locs hI => ?_)
    refine lv_aload_n hx hb dX9_goesToNextLine_44 rfl (lv_at hl 1 rfl) ?_
    refine z_get hC hI hinX9_goesToNextLine_X90 2 (wC_e2 ad cy σ7) rfl 4 (by decide) (List.mem_cons_of_mem _ zw4_8) rfl dX9_goesToNextLine_45 ?_
    refine lv_bipush (v := 18) hx hb dX9_goesToNextLine_48 (by decide) ?_
    obtain ⟨q, hf⟩ := zck_use hf
    refine z_iald hC hI 23 10 (wC_e23 ad cy σ7) (tC_t23 cy) q dX9_goesToNextLine_50 ?_
    refine lv_if_ge (tgt := 76) hx hb dX9_goesToNextLine_51 (by decide) (fun q => ?_) (fun q => ?_)
    · replace hf := zif_t q hf
      exact bX9_goesToNextLine_76 hC  hI (lv_sub hl [1, 0] rfl) hf
    replace hf := zif_f q hf
    refine lv_aload_n hx hb dX9_goesToNextLine_54 rfl (lv_at hl 1 rfl) ?_
    refine z_get hC hI hinX9_goesToNextLine_X90 2 (wC_e2 ad cy σ7) rfl 4 (by decide) (List.mem_cons_of_mem _ zw4_8) rfl dX9_goesToNextLine_55 ?_
    refine lv_bipush (v := 18) hx hb dX9_goesToNextLine_58 (by decide) ?_
    refine lv_aload_n hx hb dX9_goesToNextLine_60 rfl (lv_at hl 1 rfl) ?_
    refine z_get hC hI hinX9_goesToNextLine_X90 2 (wC_e2 ad cy σ7) rfl 4 (by decide) (List.mem_cons_of_mem _ zw4_8) rfl dX9_goesToNextLine_61 ?_
    refine lv_bipush (v := 10) hx hb dX9_goesToNextLine_64 (by decide) ?_
    obtain ⟨q, hf⟩ := zck_use hf
    refine z_iald hC hI 23 10 (wC_e23 ad cy σ7) (tC_t23 cy) q dX9_goesToNextLine_66 ?_
    obtain ⟨q, hf⟩ := zck_use hf
    obtain ⟨σ8, eσ8⟩ : ∃ z, z = zsi σ7 23 ((18 : Int32).toNatClampNeg) (zgi σ7 23 (10 : Int32).toNatClampNeg) := ⟨_, rfl⟩
    replace hf := zbv_use eσ8 hf
    refine z_iast hC hI 23 10 (wC_e23 ad cy σ7) (tC_t23 cy) q ((wC_s23 ad cy σ7 _ _).trans (congrArg (wC ad cy) eσ8.symm)) dX9_goesToNextLine_67 (fun H locs hI => ?_)
    refine lv_aload_n hx hb dX9_goesToNextLine_68 rfl (lv_at hl 1 rfl) ?_
    refine z_get hC hI hinX9_goesToNextLine_X90 2 (wC_e2 ad cy σ8) rfl 4 (by decide) (List.mem_cons_of_mem _ zw4_8) rfl dX9_goesToNextLine_69 ?_
    refine lv_bipush (v := 16) hx hb dX9_goesToNextLine_72 (by decide) ?_
    refine lv_iconst (v := 1) hx hb dX9_goesToNextLine_74 (by decide) ?_
    obtain ⟨q, hf⟩ := zck_use hf
    obtain ⟨σ9, eσ9⟩ : ∃ z, z = zsi σ8 23 ((16 : Int32).toNatClampNeg) 1 := ⟨_, rfl⟩
    replace hf := zbv_use eσ9 hf
    refine z_iast hC hI 23 10 (wC_e23 ad cy σ8) (tC_t23 cy) q ((wC_s23 ad cy σ8 _ _).trans (congrArg (wC ad cy) eσ9.symm)) dX9_goesToNextLine_75 (fun H locs hI => ?_)
    exact bX9_goesToNextLine_76 hC  hI (lv_sub hl [1, 0] rfl) hf
  replace hf := zif_f q hf
  refine lv_aload_n hx hb dX9_goesToNextLine_16 rfl (lv_at hl 1 rfl) ?_
  refine z_get hC hI hinX9_goesToNextLine_X90 2 (wC_e2 ad cy σ5) rfl 4 (by decide) (List.mem_cons_of_mem _ zw4_8) rfl dX9_goesToNextLine_17 ?_
  refine lv_bipush (v := 18) hx hb dX9_goesToNextLine_20 (by decide) ?_
  refine lv_aload_n hx hb dX9_goesToNextLine_22 rfl (lv_at hl 1 rfl) ?_
  refine z_get hC hI hinX9_goesToNextLine_X90 2 (wC_e2 ad cy σ5) rfl 4 (by decide) (List.mem_cons_of_mem _ zw4_8) rfl dX9_goesToNextLine_23 ?_
  refine lv_bipush (v := 10) hx hb dX9_goesToNextLine_26 (by decide) ?_
  obtain ⟨q, hf⟩ := zck_use hf
  refine z_iald hC hI 23 10 (wC_e23 ad cy σ5) (tC_t23 cy) q dX9_goesToNextLine_28 ?_
  obtain ⟨q, hf⟩ := zck_use hf
  obtain ⟨σ10, eσ10⟩ : ∃ z, z = zsi σ5 23 ((18 : Int32).toNatClampNeg) (zgi σ5 23 (10 : Int32).toNatClampNeg) := ⟨_, rfl⟩
  replace hf := zbv_use eσ10 hf
  refine z_iast hC hI 23 10 (wC_e23 ad cy σ5) (tC_t23 cy) q ((wC_s23 ad cy σ5 _ _).trans (congrArg (wC ad cy) eσ10.symm)) dX9_goesToNextLine_29 (fun H locs hI => ?_)
  refine lv_goto (tgt := 76) hx hb dX9_goesToNextLine_30 (by decide) ?_
  exact bX9_goesToNextLine_76 hC  hI (lv_sub hl [1, 0] rfl) hf
set_option maxRecDepth 20000 in
theorem cX9_goesToNextLine_met (st : Nat → Nat) (l : Launch) (D : va_G) (ad : Nat → Nat) (cy : Nat → ClassId) (σ : zSt)  (res : zSt × Int32) (hf : fX9_goesToNextLine σ  = some res) (sz : Nat) : zMi st l yX9_goesToNextLine wzX9_goesToNextLine rmX9_goesToNextLine [.ref (ad 2)] D (tC cy) (wC ad cy) sz σ res :=
  zMi.of (cc := cX9_goesToNextLine) (maxL := 3) (ret := (some .boolean)) (by decide) rfl (Nat.le_of_ble_eq_true rfl) (fun p e s m args below meth c hC A hI ls hl => bX9_goesToNextLine hC hI hl hf)
theorem hdX9_goesToNextLine : yX9_goesToNextLine.cls = RX9 ∧ yX9_goesToNextLine.cls ≠ "java/lang/invoke/MethodHandle" ∧ yX9_goesToNextLine.cls ≠ "java/lang/invoke/VarHandle" ∧ (parseMethodDescriptor yX9_goesToNextLine.desc).map (fun d => d.parameters.length) = some 0 := by decide +kernel
noncomputable def rmJ7_fill_53178_k32 : Room := { frames := 0, cells := 0, slots := 0, locals := 0 }
noncomputable def fJ7_fill_53178_k32_5_body (k5 : zSt → Int32 → Int32 → Int32 → Option (zSt)) (σ : zSt) (x1 : Int32) (x2 : Int32) (x3 : Int32) : Option (zSt) :=
  if x3 ≤ x2 then some σ else
  zck (zin x2 272) (zbv (zsi σ 32 (x2.toNatClampNeg) x1) (fun σ1 =>
  zbv (x2 + 1) (fun v2 =>
  k5 σ1 x1 v2 x3)))
noncomputable def fJ7_fill_53178_k32_5  : Nat → zSt → Int32 → Int32 → Int32 → Option (zSt)
  | 0, _, _, _, _ => none
  | n + 1, σ, x1, x2, x3 => fJ7_fill_53178_k32_5_body (fJ7_fill_53178_k32_5  n) σ x1 x2 x3
noncomputable def fJ7_fill_53178_k32  (σ : zSt) (x1 : Int32) : Option (zSt) :=
  fJ7_fill_53178_k32_5 zfuel σ x1 0 272
set_option maxRecDepth 20000 in
set_option maxHeartbeats 4000000 in
theorem bJ7_fill_53178_k32_5_body {st : Nat → Nat} {p : Program} {l : Launch} {e : Env} {s : State} {m : MethodId} {args : Array Value} {below : List Frame} {meth : Method} {c : Code} {D : va_G} {A : Nat → Prop} {ad : Nat → Nat} {cy : Nat → ClassId} (hC : zC p m c cJ7_fill_53178 4 s args wzJ7_fill_53178 RJ7 meth none) {k5 : zSt → Int32 → Int32 → Int32 → Option (zSt)} {res : zSt} (hk5 : ∀ (H : Heap) (locs : List Loc) (σ : zSt) (ls : Array Slot) (x1 : Int32) (x2 : Int32) (x3 : Int32), zI st D (tC cy) (wC ad cy σ) A s H locs → lv_has ls 4 [(0, .ref (ad 32)), (1, .int x1), (2, .int x2), (3, .int x3)] → k5 σ x1 x2 x3 = some res → W p l e rmJ7_fill_53178_k32 s m args below meth c H locs 0 0 (zQu below args s D (tC cy) (wC ad cy) A res) (F0 m 5 ls [])) {H : Heap} {locs : List Loc} {σ : zSt} {ls : Array Slot} {x1 : Int32} {x2 : Int32} {x3 : Int32} (hI : zI st D (tC cy) (wC ad cy σ) A s H locs) (hl : lv_has ls 4 [(0, .ref (ad 32)), (1, .int x1), (2, .int x2), (3, .int x3)]) (hf : fJ7_fill_53178_k32_5_body k5 σ x1 x2 x3 = some res) : W p l e rmJ7_fill_53178_k32 s m args below meth c H locs 0 0 (zQu below args s D (tC cy) (wC ad cy) A res) (F0 m 5 ls []) := by
  have hx := hC.1
  have hb := hC.2.1
  unfold fJ7_fill_53178_k32_5_body at hf
  refine lv_iload_n hx hb dJ7_fill_53178_5 rfl (lv_at hl 2 rfl) ?_
  refine lv_iload_n hx hb dJ7_fill_53178_6 rfl (lv_at hl 3 rfl) ?_
  refine lv_icmp_ge (tgt := 20) hx hb dJ7_fill_53178_7 (by decide) (fun q => ?_) (fun q => ?_)
  · replace hf := zif_t q hf
    exact z_return hC hI hf dJ7_fill_53178_20
  replace hf := zif_f q hf
  refine lv_aload_n hx hb dJ7_fill_53178_10 rfl (lv_at hl 0 rfl) ?_
  refine lv_iload_n hx hb dJ7_fill_53178_11 rfl (lv_at hl 2 rfl) ?_
  refine lv_iload_n hx hb dJ7_fill_53178_12 rfl (lv_at hl 1 rfl) ?_
  obtain ⟨q, hf⟩ := zck_use hf
  obtain ⟨σ1, eσ1⟩ : ∃ z, z = zsi σ 32 (x2.toNatClampNeg) x1 := ⟨_, rfl⟩
  replace hf := zbv_use eσ1 hf
  refine z_iast hC hI 32 19 (wC_e32 ad cy σ) (tC_t32 cy) q ((wC_s32 ad cy σ _ _).trans (congrArg (wC ad cy) eσ1.symm)) dJ7_fill_53178_13 (fun H locs hI => ?_)
  obtain ⟨v2, ev2⟩ : ∃ z : Int32, z = x2 + 1 := ⟨_, rfl⟩
  replace hf := zbv_use ev2 hf
  refine lv_iinc (v := v2) (lv' := [(2, .int v2), (0, .ref (ad 32)), (1, .int x1), (3, .int x3)]) hx hb dJ7_fill_53178_14 hl (k := 2) rfl (by rw [ev2]; rfl) (by decide) rfl (fun ls hl => ?_)
  refine lv_goto (tgt := 5) hx hb dJ7_fill_53178_17 (by decide) ?_
  exact hk5 _ _ _ _ _ _ _ hI (lv_sub hl [1, 2, 0, 3] rfl) hf
theorem blJ7_fill_53178_k32_5 {st : Nat → Nat} {p : Program} {l : Launch} {e : Env} {s : State} {m : MethodId} {args : Array Value} {below : List Frame} {meth : Method} {c : Code} {D : va_G} {A : Nat → Prop} {ad : Nat → Nat} {cy : Nat → ClassId} (hC : zC p m c cJ7_fill_53178 4 s args wzJ7_fill_53178 RJ7 meth none)  {res : zSt} : ∀ (n : Nat) (H : Heap) (locs : List Loc) (σ : zSt) (ls : Array Slot) (x1 : Int32) (x2 : Int32) (x3 : Int32), zI st D (tC cy) (wC ad cy σ) A s H locs → lv_has ls 4 [(0, .ref (ad 32)), (1, .int x1), (2, .int x2), (3, .int x3)] → fJ7_fill_53178_k32_5  n σ x1 x2 x3 = some res → W p l e rmJ7_fill_53178_k32 s m args below meth c H locs 0 0 (zQu below args s D (tC cy) (wC ad cy) A res) (F0 m 5 ls []) := by
  intro n
  induction n with
  | zero => intro H locs σ ls x1 x2 x3 hI hl hf; cases hf
  | succ n ih => intro H locs σ ls x1 x2 x3 hI hl hf; exact bJ7_fill_53178_k32_5_body hC ih hI hl hf
set_option maxRecDepth 20000 in
set_option maxHeartbeats 4000000 in
theorem bJ7_fill_53178_k32 {st : Nat → Nat} {p : Program} {l : Launch} {e : Env} {s : State} {m : MethodId} {args : Array Value} {below : List Frame} {meth : Method} {c : Code} {D : va_G} {A : Nat → Prop} {ad : Nat → Nat} {cy : Nat → ClassId} (hC : zC p m c cJ7_fill_53178 4 s args wzJ7_fill_53178 RJ7 meth none)  {res : zSt} {H : Heap} {locs : List Loc} {σ : zSt} {ls : Array Slot} {x1 : Int32} (hI : zI st D (tC cy) (wC ad cy σ) A s H locs) (hl : lv_has ls 4 [(0, .ref (ad 32)), (1, .int x1)]) (hf : fJ7_fill_53178_k32  σ x1 = some res) : W p l e rmJ7_fill_53178_k32 s m args below meth c H locs 0 0 (zQu below args s D (tC cy) (wC ad cy) A res) (F0 m 0 ls []) := by
  have hx := hC.1
  have hb := hC.2.1
  unfold fJ7_fill_53178_k32 at hf
  refine lv_iconst (v := 0) hx hb dJ7_fill_53178_0 (by decide) ?_
  refine lv_istore_n (lv' := [(2, .int 0), (0, .ref (ad 32)), (1, .int x1)]) hx hb dJ7_fill_53178_1 rfl hl (by decide) rfl (fun ls hl => ?_)
  refine lv_aload_n hx hb dJ7_fill_53178_2 rfl (lv_at hl 1 rfl) ?_
  refine z_alen (v := 272) hC hI 32 19 (wC_e32 ad cy σ) (tC_t32 cy) rfl dJ7_fill_53178_3 ?_
  refine lv_istore_n (lv' := [(3, .int 272), (2, .int 0), (0, .ref (ad 32)), (1, .int x1)]) hx hb dJ7_fill_53178_4 rfl hl (by decide) rfl (fun ls hl => ?_)
  exact blJ7_fill_53178_k32_5 hC  zfuel _ _ _ _ _ _ _ hI (lv_sub hl [2, 3, 1, 0] rfl) hf
set_option maxRecDepth 20000 in
theorem cJ7_fill_53178_k32_met (st : Nat → Nat) (l : Launch) (D : va_G) (ad : Nat → Nat) (cy : Nat → ClassId) (σ : zSt) (x1 : Int32) (res : zSt) (hf : fJ7_fill_53178_k32 σ x1 = some res) (sz : Nat) : zMu st l yJ7_fill_53178 wzJ7_fill_53178 rmJ7_fill_53178_k32 [.ref (ad 32), .int x1] D (tC cy) (wC ad cy) sz σ res :=
  zMu.of (cc := cJ7_fill_53178) (maxL := 4) (ret := none) (by decide) rfl (Nat.le_of_ble_eq_true rfl) (fun p e s m args below meth c hC A hI ls hl => bJ7_fill_53178_k32 hC hI hl hf)
theorem hdJ7_fill_53178_k32 : yJ7_fill_53178.cls ≠ "java/lang/invoke/MethodHandle" ∧ yJ7_fill_53178.cls ≠ "java/lang/invoke/VarHandle" ∧ (parseMethodDescriptor yJ7_fill_53178.desc).map (fun d => d.parameters.length) = some 2 := by decide +kernel
noncomputable def rmX10_clear : Room := { frames := 1, cells := 0, slots := 0, locals := 23 }
noncomputable def wzX10_clear : List Cond := .code yX10_clear cX10_clear 3 none :: wsL_law
theorem hinX10_clear_X100 : ∀ w ∈ wsX100, w ∈ wzX10_clear := fun w h => List.mem_cons_of_mem _ (inlX10 w h)
noncomputable def fX10_clear_36_body (k36 : zSt → Int32 → Option (zSt)) (σ : zSt) (x2 : Int32) : Option (zSt) :=
  if 272 ≤ x2 then some σ else
  zck (zin (x2 + 0) 272) (zbv (zsi σ 32 ((x2 + 0).toNatClampNeg) 127) (fun σ1 =>
  zck (zin (x2 + 1) 272) (zbv (zsi σ1 32 ((x2 + 1).toNatClampNeg) 4) (fun σ2 =>
  zbv (x2 + 8) (fun v3 =>
  k36 σ2 v3)))))
noncomputable def fX10_clear_36  : Nat → zSt → Int32 → Option (zSt)
  | 0, _, _ => none
  | n + 1, σ, x2 => fX10_clear_36_body (fX10_clear_36  n) σ x2
noncomputable def fX10_clear  (σ : zSt)  : Option (zSt) :=
  zck (zin 66 272) (
  zbv (zgi σ 32 (66 : Int32).toNatClampNeg) (fun v4 =>
  zbu (fJ7_fill_53178_k32 σ 0) (fun σ5 =>
  zck (zin 66 272) (zbv (zsi σ5 32 ((66 : Int32).toNatClampNeg) v4) (fun σ6 =>
  zck (zin 65 272) (zbv (zsi σ6 32 ((65 : Int32).toNatClampNeg) 1) (fun σ7 =>
  fX10_clear_36 zfuel σ7 128)))))))
set_option maxRecDepth 20000 in
set_option maxHeartbeats 4000000 in
theorem bX10_clear_36_body {st : Nat → Nat} {p : Program} {l : Launch} {e : Env} {s : State} {m : MethodId} {args : Array Value} {below : List Frame} {meth : Method} {c : Code} {D : va_G} {A : Nat → Prop} {ad : Nat → Nat} {cy : Nat → ClassId} (hC : zC p m c cX10_clear 3 s args wzX10_clear RX10 meth none) {k36 : zSt → Int32 → Option (zSt)} {res : zSt} (hk36 : ∀ (H : Heap) (locs : List Loc) (σ : zSt) (ls : Array Slot) (x2 : Int32), zI st D (tC cy) (wC ad cy σ) A s H locs → lv_has ls 3 [(0, .ref (ad 5)), (2, .int x2)] → k36 σ x2 = some res → W p l e rmX10_clear s m args below meth c H locs 0 0 (zQu below args s D (tC cy) (wC ad cy) A res) (F0 m 36 ls [])) {H : Heap} {locs : List Loc} {σ : zSt} {ls : Array Slot} {x2 : Int32} (hI : zI st D (tC cy) (wC ad cy σ) A s H locs) (hl : lv_has ls 3 [(0, .ref (ad 5)), (2, .int x2)]) (hf : fX10_clear_36_body k36 σ x2 = some res) : W p l e rmX10_clear s m args below meth c H locs 0 0 (zQu below args s D (tC cy) (wC ad cy) A res) (F0 m 36 ls []) := by
  have hx := hC.1
  have hb := hC.2.1
  unfold fX10_clear_36_body at hf
  refine lv_iload_n hx hb dX10_clear_36 rfl (lv_at hl 1 rfl) ?_
  refine lv_sipush (v := 272) hx hb dX10_clear_37 (by decide) ?_
  refine lv_icmp_ge (tgt := 68) hx hb dX10_clear_40 (by decide) (fun q => ?_) (fun q => ?_)
  · replace hf := zif_t q hf
    exact z_return hC hI hf dX10_clear_68
  replace hf := zif_f q hf
  refine lv_aload_n hx hb dX10_clear_43 rfl (lv_at hl 0 rfl) ?_
  refine z_get hC hI hinX10_clear_X100 5 (wC_e5 ad cy σ) rfl 0 (by decide) (List.mem_cons_of_mem _ zw6_4) rfl dX10_clear_44 ?_
  refine lv_iload_n hx hb dX10_clear_47 rfl (lv_at hl 1 rfl) ?_
  refine lv_iconst (v := 0) hx hb dX10_clear_48 (by decide) ?_
  refine lv_iadd hx hb dX10_clear_49 ?_
  refine lv_bipush (v := 127) hx hb dX10_clear_50 (by decide) ?_
  obtain ⟨q, hf⟩ := zck_use hf
  obtain ⟨σ1, eσ1⟩ : ∃ z, z = zsi σ 32 ((x2 + 0).toNatClampNeg) 127 := ⟨_, rfl⟩
  replace hf := zbv_use eσ1 hf
  refine z_iast hC hI 32 19 (wC_e32 ad cy σ) (tC_t32 cy) q ((wC_s32 ad cy σ _ _).trans (congrArg (wC ad cy) eσ1.symm)) dX10_clear_52 (fun H locs hI => ?_)
  refine lv_aload_n hx hb dX10_clear_53 rfl (lv_at hl 0 rfl) ?_
  refine z_get hC hI hinX10_clear_X100 5 (wC_e5 ad cy σ1) rfl 0 (by decide) (List.mem_cons_of_mem _ zw6_4) rfl dX10_clear_54 ?_
  refine lv_iload_n hx hb dX10_clear_57 rfl (lv_at hl 1 rfl) ?_
  refine lv_iconst (v := 1) hx hb dX10_clear_58 (by decide) ?_
  refine lv_iadd hx hb dX10_clear_59 ?_
  refine lv_iconst (v := 4) hx hb dX10_clear_60 (by decide) ?_
  obtain ⟨q, hf⟩ := zck_use hf
  obtain ⟨σ2, eσ2⟩ : ∃ z, z = zsi σ1 32 ((x2 + 1).toNatClampNeg) 4 := ⟨_, rfl⟩
  replace hf := zbv_use eσ2 hf
  refine z_iast hC hI 32 19 (wC_e32 ad cy σ1) (tC_t32 cy) q ((wC_s32 ad cy σ1 _ _).trans (congrArg (wC ad cy) eσ2.symm)) dX10_clear_61 (fun H locs hI => ?_)
  obtain ⟨v3, ev3⟩ : ∃ z : Int32, z = x2 + 8 := ⟨_, rfl⟩
  replace hf := zbv_use ev3 hf
  refine lv_iinc (v := v3) (lv' := [(2, .int v3), (0, .ref (ad 5))]) hx hb dX10_clear_62 hl (k := 1) rfl (by rw [ev3]; rfl) (by decide) rfl (fun ls hl => ?_)
  refine lv_goto (tgt := 36) hx hb dX10_clear_65 (by decide) ?_
  exact hk36 _ _ _ _ _ hI (lv_sub hl [1, 0] rfl) hf
theorem blX10_clear_36 {st : Nat → Nat} {p : Program} {l : Launch} {e : Env} {s : State} {m : MethodId} {args : Array Value} {below : List Frame} {meth : Method} {c : Code} {D : va_G} {A : Nat → Prop} {ad : Nat → Nat} {cy : Nat → ClassId} (hC : zC p m c cX10_clear 3 s args wzX10_clear RX10 meth none)  {res : zSt} : ∀ (n : Nat) (H : Heap) (locs : List Loc) (σ : zSt) (ls : Array Slot) (x2 : Int32), zI st D (tC cy) (wC ad cy σ) A s H locs → lv_has ls 3 [(0, .ref (ad 5)), (2, .int x2)] → fX10_clear_36  n σ x2 = some res → W p l e rmX10_clear s m args below meth c H locs 0 0 (zQu below args s D (tC cy) (wC ad cy) A res) (F0 m 36 ls []) := by
  intro n
  induction n with
  | zero => intro H locs σ ls x2 hI hl hf; cases hf
  | succ n ih => intro H locs σ ls x2 hI hl hf; exact bX10_clear_36_body hC ih hI hl hf
set_option maxRecDepth 20000 in
set_option maxHeartbeats 4000000 in
theorem bX10_clear {st : Nat → Nat} {p : Program} {l : Launch} {e : Env} {s : State} {m : MethodId} {args : Array Value} {below : List Frame} {meth : Method} {c : Code} {D : va_G} {A : Nat → Prop} {ad : Nat → Nat} {cy : Nat → ClassId} (hC : zC p m c cX10_clear 3 s args wzX10_clear RX10 meth none)  {res : zSt} {H : Heap} {locs : List Loc} {σ : zSt} {ls : Array Slot}  (hI : zI st D (tC cy) (wC ad cy σ) A s H locs) (hl : lv_has ls 3 [(0, .ref (ad 5))]) (hf : fX10_clear  σ  = some res) : W p l e rmX10_clear s m args below meth c H locs 0 0 (zQu below args s D (tC cy) (wC ad cy) A res) (F0 m 0 ls []) := by
  have hx := hC.1
  have hb := hC.2.1
  unfold fX10_clear at hf
  refine lv_aload_n hx hb dX10_clear_0 rfl (lv_at hl 0 rfl) ?_
  refine z_get hC hI hinX10_clear_X100 5 (wC_e5 ad cy σ) rfl 0 (by decide) (List.mem_cons_of_mem _ zw6_4) rfl dX10_clear_1 ?_
  refine lv_bipush (v := 66) hx hb dX10_clear_4 (by decide) ?_
  obtain ⟨q, hf⟩ := zck_use hf
  refine z_iald hC hI 32 19 (wC_e32 ad cy σ) (tC_t32 cy) q dX10_clear_6 ?_
  refine lv_topi (fun v4 ev4 => ?_)
  replace hf := zbv_use ev4 hf
  refine lv_istore_n (lv' := [(1, .int v4), (0, .ref (ad 5))]) hx hb dX10_clear_7 rfl hl (by decide) rfl (fun ls hl => ?_)
  refine lv_aload_n hx hb dX10_clear_8 rfl (lv_at hl 1 rfl) ?_
  refine z_get hC hI hinX10_clear_X100 5 (wC_e5 ad cy σ) rfl 0 (by decide) (List.mem_cons_of_mem _ zw6_4) rfl dX10_clear_9 ?_
  refine lv_iconst (v := 0) hx hb dX10_clear_12 (by decide) ?_
  obtain ⟨σ5, g5, hf⟩ := zbu_use hf
  refine z_callSu (As := [.ref (ad 32), .int 0]) (rest := []) hC hI (cJ7_fill_53178_k32_met st l D ad cy σ 0 _ g5) (zgS zw6_10 zw5_12 zw5_13 zw5_14) rfl ⟨rfl, rfl⟩ 2 hdJ7_fill_53178_k32 ⟨Nat.le_of_ble_eq_true rfl, Nat.le_of_ble_eq_true rfl⟩ rfl hl rfl (Nat.le_of_ble_eq_true rfl) dX10_clear_13 ⟨Nat.zero_le _, Nat.zero_le _⟩ (fun H locs hI => ?_)
  refine lv_aload_n hx hb dX10_clear_16 rfl (lv_at hl 1 rfl) ?_
  refine z_get hC hI hinX10_clear_X100 5 (wC_e5 ad cy σ5) rfl 0 (by decide) (List.mem_cons_of_mem _ zw6_4) rfl dX10_clear_17 ?_
  refine lv_bipush (v := 66) hx hb dX10_clear_20 (by decide) ?_
  refine lv_iload_n hx hb dX10_clear_22 rfl (lv_at hl 0 rfl) ?_
  obtain ⟨q, hf⟩ := zck_use hf
  obtain ⟨σ6, eσ6⟩ : ∃ z, z = zsi σ5 32 ((66 : Int32).toNatClampNeg) v4 := ⟨_, rfl⟩
  replace hf := zbv_use eσ6 hf
  refine z_iast hC hI 32 19 (wC_e32 ad cy σ5) (tC_t32 cy) q ((wC_s32 ad cy σ5 _ _).trans (congrArg (wC ad cy) eσ6.symm)) dX10_clear_23 (fun H locs hI => ?_)
  refine lv_aload_n hx hb dX10_clear_24 rfl (lv_at hl 1 rfl) ?_
  refine z_get hC hI hinX10_clear_X100 5 (wC_e5 ad cy σ6) rfl 0 (by decide) (List.mem_cons_of_mem _ zw6_4) rfl dX10_clear_25 ?_
  refine lv_bipush (v := 65) hx hb dX10_clear_28 (by decide) ?_
  refine lv_iconst (v := 1) hx hb dX10_clear_30 (by decide) ?_
  obtain ⟨q, hf⟩ := zck_use hf
  obtain ⟨σ7, eσ7⟩ : ∃ z, z = zsi σ6 32 ((65 : Int32).toNatClampNeg) 1 := ⟨_, rfl⟩
  replace hf := zbv_use eσ7 hf
  refine z_iast hC hI 32 19 (wC_e32 ad cy σ6) (tC_t32 cy) q ((wC_s32 ad cy σ6 _ _).trans (congrArg (wC ad cy) eσ7.symm)) dX10_clear_31 (fun H locs hI => ?_)
  refine lv_sipush (v := 128) hx hb dX10_clear_32 (by decide) ?_
  refine lv_istore_n (lv' := [(2, .int 128), (1, .int v4), (0, .ref (ad 5))]) hx hb dX10_clear_35 rfl hl (by decide) rfl (fun ls hl => ?_)
  exact blX10_clear_36 hC  zfuel _ _ _ _ _ hI (lv_sub hl [2, 0] rfl) hf
set_option maxRecDepth 20000 in
theorem cX10_clear_met (st : Nat → Nat) (l : Launch) (D : va_G) (ad : Nat → Nat) (cy : Nat → ClassId) (σ : zSt)  (res : zSt) (hf : fX10_clear σ  = some res) (sz : Nat) : zMu st l yX10_clear wzX10_clear rmX10_clear [.ref (ad 5)] D (tC cy) (wC ad cy) sz σ res :=
  zMu.of (cc := cX10_clear) (maxL := 3) (ret := none) (by decide) rfl (Nat.le_of_ble_eq_true rfl) (fun p e s m args below meth c hC A hI ls hl => bX10_clear hC hI hl hf)
theorem hdX10_clear : yX10_clear.cls = RX10 ∧ yX10_clear.cls ≠ "java/lang/invoke/MethodHandle" ∧ yX10_clear.cls ≠ "java/lang/invoke/VarHandle" ∧ (parseMethodDescriptor yX10_clear.desc).map (fun d => d.parameters.length) = some 0 := by decide +kernel
noncomputable def rmX10_keep : Room := { frames := 1, cells := 0, slots := 0, locals := 64 }
noncomputable def wzX10_keep : List Cond := .code yX10_keep cX10_keep 1 none :: wsL_law
theorem hinX10_keep_X100 : ∀ w ∈ wsX100, w ∈ wzX10_keep := fun w h => List.mem_cons_of_mem _ (inlX10 w h)
noncomputable def fX10_keep  (σ : zSt)  : Option (zSt) :=
  zck (zco 0 0 272 272 272) (zbv (zcpi σ 32 33 ((0 : Int32).toNatClampNeg) ((0 : Int32).toNatClampNeg) ((272 : Int32).toNatClampNeg)) (fun σ1 =>
  some σ1))
set_option maxRecDepth 20000 in
set_option maxHeartbeats 4000000 in
theorem bX10_keep {st : Nat → Nat} {p : Program} {l : Launch} {e : Env} {s : State} {m : MethodId} {args : Array Value} {below : List Frame} {meth : Method} {c : Code} {D : va_G} {A : Nat → Prop} {ad : Nat → Nat} {cy : Nat → ClassId} (hC : zC p m c cX10_keep 1 s args wzX10_keep RX10 meth none)  {res : zSt} {H : Heap} {locs : List Loc} {σ : zSt} {ls : Array Slot}  (hI : zI st D (tC cy) (wC ad cy σ) A s H locs) (hl : lv_has ls 1 [(0, .ref (ad 5))]) (hf : fX10_keep  σ  = some res) : W p l e rmX10_keep s m args below meth c H locs 0 0 (zQu below args s D (tC cy) (wC ad cy) A res) (F0 m 0 ls []) := by
  have hx := hC.1
  have hb := hC.2.1
  unfold fX10_keep at hf
  refine lv_aload_n hx hb dX10_keep_0 rfl (lv_at hl 0 rfl) ?_
  refine z_get hC hI hinX10_keep_X100 5 (wC_e5 ad cy σ) rfl 0 (by decide) (List.mem_cons_of_mem _ zw6_4) rfl dX10_keep_1 ?_
  refine lv_iconst (v := 0) hx hb dX10_keep_4 (by decide) ?_
  refine lv_aload_n hx hb dX10_keep_5 rfl (lv_at hl 0 rfl) ?_
  refine z_get hC hI hinX10_keep_X100 5 (wC_e5 ad cy σ) rfl 1 (by decide) (List.mem_cons_of_mem _ zw6_5) rfl dX10_keep_6 ?_
  refine lv_iconst (v := 0) hx hb dX10_keep_9 (by decide) ?_
  refine lv_sipush (v := 272) hx hb dX10_keep_10 (by decide) ?_
  obtain ⟨q, hf⟩ := zck_use hf
  obtain ⟨σ1, eσ1⟩ : ∃ z, z = zcpi σ 32 33 ((0 : Int32).toNatClampNeg) ((0 : Int32).toNatClampNeg) ((272 : Int32).toNatClampNeg) := ⟨_, rfl⟩
  replace hf := zbv_use eσ1 hf
  refine z_cpi hC hI (List.mem_cons_of_mem _ zw81_4) (List.mem_cons_of_mem _ zw80_6) (List.mem_cons_of_mem _ zw80_7) (List.mem_cons_of_mem _ zw80_8) hl 32 33 19 20 (wC_e32 ad cy σ) (wC_e33 ad cy σ) (tC_t32 cy) (tC_t33 cy) q (show _ = wC ad cy σ1 from eσ1 ▸ rfl) (Nat.le_of_ble_eq_true rfl) (Nat.le_of_ble_eq_true rfl) dX10_keep_13 (fun H locs hI => ?_)
  exact z_return hC hI hf dX10_keep_16
set_option maxRecDepth 20000 in
theorem cX10_keep_met (st : Nat → Nat) (l : Launch) (D : va_G) (ad : Nat → Nat) (cy : Nat → ClassId) (σ : zSt)  (res : zSt) (hf : fX10_keep σ  = some res) (sz : Nat) : zMu st l yX10_keep wzX10_keep rmX10_keep [.ref (ad 5)] D (tC cy) (wC ad cy) sz σ res :=
  zMu.of (cc := cX10_keep) (maxL := 1) (ret := none) (by decide) rfl (Nat.le_of_ble_eq_true rfl) (fun p e s m args below meth c hC A hI ls hl => bX10_keep hC hI hl hf)
theorem hdX10_keep : yX10_keep.cls = RX10 ∧ yX10_keep.cls ≠ "java/lang/invoke/MethodHandle" ∧ yX10_keep.cls ≠ "java/lang/invoke/VarHandle" ∧ (parseMethodDescriptor yX10_keep.desc).map (fun d => d.parameters.length) = some 0 := by decide +kernel
noncomputable def rmX10_bringBack : Room := { frames := 1, cells := 0, slots := 0, locals := 64 }
noncomputable def wzX10_bringBack : List Cond := .code yX10_bringBack cX10_bringBack 1 none :: wsL_law
theorem hinX10_bringBack_X100 : ∀ w ∈ wsX100, w ∈ wzX10_bringBack := fun w h => List.mem_cons_of_mem _ (inlX10 w h)
noncomputable def fX10_bringBack  (σ : zSt)  : Option (zSt) :=
  zck (zco 0 0 272 272 272) (zbv (zcpi σ 33 32 ((0 : Int32).toNatClampNeg) ((0 : Int32).toNatClampNeg) ((272 : Int32).toNatClampNeg)) (fun σ1 =>
  some σ1))
set_option maxRecDepth 20000 in
set_option maxHeartbeats 4000000 in
theorem bX10_bringBack {st : Nat → Nat} {p : Program} {l : Launch} {e : Env} {s : State} {m : MethodId} {args : Array Value} {below : List Frame} {meth : Method} {c : Code} {D : va_G} {A : Nat → Prop} {ad : Nat → Nat} {cy : Nat → ClassId} (hC : zC p m c cX10_bringBack 1 s args wzX10_bringBack RX10 meth none)  {res : zSt} {H : Heap} {locs : List Loc} {σ : zSt} {ls : Array Slot}  (hI : zI st D (tC cy) (wC ad cy σ) A s H locs) (hl : lv_has ls 1 [(0, .ref (ad 5))]) (hf : fX10_bringBack  σ  = some res) : W p l e rmX10_bringBack s m args below meth c H locs 0 0 (zQu below args s D (tC cy) (wC ad cy) A res) (F0 m 0 ls []) := by
  have hx := hC.1
  have hb := hC.2.1
  unfold fX10_bringBack at hf
  refine lv_aload_n hx hb dX10_bringBack_0 rfl (lv_at hl 0 rfl) ?_
  refine z_get hC hI hinX10_bringBack_X100 5 (wC_e5 ad cy σ) rfl 1 (by decide) (List.mem_cons_of_mem _ zw6_5) rfl dX10_bringBack_1 ?_
  refine lv_iconst (v := 0) hx hb dX10_bringBack_4 (by decide) ?_
  refine lv_aload_n hx hb dX10_bringBack_5 rfl (lv_at hl 0 rfl) ?_
  refine z_get hC hI hinX10_bringBack_X100 5 (wC_e5 ad cy σ) rfl 0 (by decide) (List.mem_cons_of_mem _ zw6_4) rfl dX10_bringBack_6 ?_
  refine lv_iconst (v := 0) hx hb dX10_bringBack_9 (by decide) ?_
  refine lv_sipush (v := 272) hx hb dX10_bringBack_10 (by decide) ?_
  obtain ⟨q, hf⟩ := zck_use hf
  obtain ⟨σ1, eσ1⟩ : ∃ z, z = zcpi σ 33 32 ((0 : Int32).toNatClampNeg) ((0 : Int32).toNatClampNeg) ((272 : Int32).toNatClampNeg) := ⟨_, rfl⟩
  replace hf := zbv_use eσ1 hf
  refine z_cpi hC hI (List.mem_cons_of_mem _ zw81_4) (List.mem_cons_of_mem _ zw80_6) (List.mem_cons_of_mem _ zw80_7) (List.mem_cons_of_mem _ zw80_8) hl 33 32 20 19 (wC_e33 ad cy σ) (wC_e32 ad cy σ) (tC_t33 cy) (tC_t32 cy) q (show _ = wC ad cy σ1 from eσ1 ▸ rfl) (Nat.le_of_ble_eq_true rfl) (Nat.le_of_ble_eq_true rfl) dX10_bringBack_13 (fun H locs hI => ?_)
  exact z_return hC hI hf dX10_bringBack_16
set_option maxRecDepth 20000 in
theorem cX10_bringBack_met (st : Nat → Nat) (l : Launch) (D : va_G) (ad : Nat → Nat) (cy : Nat → ClassId) (σ : zSt)  (res : zSt) (hf : fX10_bringBack σ  = some res) (sz : Nat) : zMu st l yX10_bringBack wzX10_bringBack rmX10_bringBack [.ref (ad 5)] D (tC cy) (wC ad cy) sz σ res :=
  zMu.of (cc := cX10_bringBack) (maxL := 1) (ret := none) (by decide) rfl (Nat.le_of_ble_eq_true rfl) (fun p e s m args below meth c hC A hI ls hl => bX10_bringBack hC hI hl hf)
theorem hdX10_bringBack : yX10_bringBack.cls = RX10 ∧ yX10_bringBack.cls ≠ "java/lang/invoke/MethodHandle" ∧ yX10_bringBack.cls ≠ "java/lang/invoke/VarHandle" ∧ (parseMethodDescriptor yX10_bringBack.desc).map (fun d => d.parameters.length) = some 0 := by decide +kernel
noncomputable def rmX10_has : Room := { frames := 0, cells := 0, slots := 0, locals := 0 }
noncomputable def wzX10_has : List Cond := .code yX10_has cX10_has 1 (some .boolean) :: wsL_law
noncomputable def fX10_has_37  (σ : zSt) (s0 : Int32) : Option (zSt × Int32) :=
  zck (zbo s0) (some (σ, s0))
noncomputable def fX10_has_36  (σ : zSt)  : Option (zSt × Int32) :=
  fX10_has_37 σ 0
noncomputable def fX10_has_32  (σ : zSt)  : Option (zSt × Int32) :=
  fX10_has_37 σ 1
noncomputable def fX10_has_10  (σ : zSt) (x0 : Int32) : Option (zSt × Int32) :=
  if x0 < 128 then fX10_has_36 σ else
  if 272 ≤ x0 then fX10_has_36 σ else
  if 5 < (x0 &&& 7) then fX10_has_36 σ else
  fX10_has_32 σ
noncomputable def fX10_has  (σ : zSt) (x0 : Int32) : Option (zSt × Int32) :=
  if x0 < 0 then fX10_has_10 σ x0 else
  if x0 ≤ 67 then fX10_has_32 σ else
  fX10_has_10 σ x0
set_option maxRecDepth 20000 in
set_option maxHeartbeats 4000000 in
theorem bX10_has_37 {st : Nat → Nat} {p : Program} {l : Launch} {e : Env} {s : State} {m : MethodId} {args : Array Value} {below : List Frame} {meth : Method} {c : Code} {D : va_G} {A : Nat → Prop} {ad : Nat → Nat} {cy : Nat → ClassId} (hC : zC p m c cX10_has 1 s args wzX10_has RX10 meth (some .boolean))  {res : zSt × Int32} {H : Heap} {locs : List Loc} {σ : zSt} {ls : Array Slot} {s0 : Int32} (hI : zI st D (tC cy) (wC ad cy σ) A s H locs) (hl : lv_has ls 1 []) (hf : fX10_has_37  σ s0 = some res) : W p l e rmX10_has s m args below meth c H locs 0 0 (zQi below args s D (tC cy) (wC ad cy) A res) (F0 m 37 ls [.int s0]) := by
  have hx := hC.1
  have hb := hC.2.1
  unfold fX10_has_37 at hf
  obtain ⟨q, hf⟩ := zck_use hf
  exact z_zreturn hC hI (zbo_n q) hf dX10_has_37
set_option maxRecDepth 20000 in
set_option maxHeartbeats 4000000 in
theorem bX10_has_36 {st : Nat → Nat} {p : Program} {l : Launch} {e : Env} {s : State} {m : MethodId} {args : Array Value} {below : List Frame} {meth : Method} {c : Code} {D : va_G} {A : Nat → Prop} {ad : Nat → Nat} {cy : Nat → ClassId} (hC : zC p m c cX10_has 1 s args wzX10_has RX10 meth (some .boolean))  {res : zSt × Int32} {H : Heap} {locs : List Loc} {σ : zSt} {ls : Array Slot}  (hI : zI st D (tC cy) (wC ad cy σ) A s H locs) (hl : lv_has ls 1 []) (hf : fX10_has_36  σ  = some res) : W p l e rmX10_has s m args below meth c H locs 0 0 (zQi below args s D (tC cy) (wC ad cy) A res) (F0 m 36 ls []) := by
  have hx := hC.1
  have hb := hC.2.1
  unfold fX10_has_36 at hf
  refine lv_iconst (v := 0) hx hb dX10_has_36 (by decide) ?_
  exact bX10_has_37 hC  hI hl hf
set_option maxRecDepth 20000 in
set_option maxHeartbeats 4000000 in
theorem bX10_has_32 {st : Nat → Nat} {p : Program} {l : Launch} {e : Env} {s : State} {m : MethodId} {args : Array Value} {below : List Frame} {meth : Method} {c : Code} {D : va_G} {A : Nat → Prop} {ad : Nat → Nat} {cy : Nat → ClassId} (hC : zC p m c cX10_has 1 s args wzX10_has RX10 meth (some .boolean))  {res : zSt × Int32} {H : Heap} {locs : List Loc} {σ : zSt} {ls : Array Slot}  (hI : zI st D (tC cy) (wC ad cy σ) A s H locs) (hl : lv_has ls 1 []) (hf : fX10_has_32  σ  = some res) : W p l e rmX10_has s m args below meth c H locs 0 0 (zQi below args s D (tC cy) (wC ad cy) A res) (F0 m 32 ls []) := by
  have hx := hC.1
  have hb := hC.2.1
  unfold fX10_has_32 at hf
  refine lv_iconst (v := 1) hx hb dX10_has_32 (by decide) ?_
  refine lv_goto (tgt := 37) hx hb dX10_has_33 (by decide) ?_
  exact bX10_has_37 hC  hI hl hf
set_option maxRecDepth 20000 in
set_option maxHeartbeats 4000000 in
theorem bX10_has_10 {st : Nat → Nat} {p : Program} {l : Launch} {e : Env} {s : State} {m : MethodId} {args : Array Value} {below : List Frame} {meth : Method} {c : Code} {D : va_G} {A : Nat → Prop} {ad : Nat → Nat} {cy : Nat → ClassId} (hC : zC p m c cX10_has 1 s args wzX10_has RX10 meth (some .boolean))  {res : zSt × Int32} {H : Heap} {locs : List Loc} {σ : zSt} {ls : Array Slot} {x0 : Int32} (hI : zI st D (tC cy) (wC ad cy σ) A s H locs) (hl : lv_has ls 1 [(0, .int x0)]) (hf : fX10_has_10  σ x0 = some res) : W p l e rmX10_has s m args below meth c H locs 0 0 (zQi below args s D (tC cy) (wC ad cy) A res) (F0 m 10 ls []) := by
  have hx := hC.1
  have hb := hC.2.1
  unfold fX10_has_10 at hf
  refine lv_iload_n hx hb dX10_has_10 rfl (lv_at hl 0 rfl) ?_
  refine lv_sipush (v := 128) hx hb dX10_has_11 (by decide) ?_
  refine lv_icmp_lt (tgt := 36) hx hb dX10_has_14 (by decide) (fun q => ?_) (fun q => ?_)
  · replace hf := zif_t q hf
    exact bX10_has_36 hC  hI (lv_sub hl [] rfl) hf
  replace hf := zif_f q hf
  refine lv_iload_n hx hb dX10_has_17 rfl (lv_at hl 0 rfl) ?_
  refine lv_sipush (v := 272) hx hb dX10_has_18 (by decide) ?_
  refine lv_icmp_ge (tgt := 36) hx hb dX10_has_21 (by decide) (fun q => ?_) (fun q => ?_)
  · replace hf := zif_t q hf
    exact bX10_has_36 hC  hI (lv_sub hl [] rfl) hf
  replace hf := zif_f q hf
  refine lv_iload_n hx hb dX10_has_24 rfl (lv_at hl 0 rfl) ?_
  refine lv_bipush (v := 7) hx hb dX10_has_25 (by decide) ?_
  refine lv_iand hx hb dX10_has_27 ?_
  refine lv_iconst (v := 5) hx hb dX10_has_28 (by decide) ?_
  refine lv_icmp_gt (tgt := 36) hx hb dX10_has_29 (by decide) (fun q => ?_) (fun q => ?_)
  · replace hf := zif_t q hf
    exact bX10_has_36 hC  hI (lv_sub hl [] rfl) hf
  replace hf := zif_f q hf
  exact bX10_has_32 hC  hI (lv_sub hl [] rfl) hf
set_option maxRecDepth 20000 in
set_option maxHeartbeats 4000000 in
theorem bX10_has {st : Nat → Nat} {p : Program} {l : Launch} {e : Env} {s : State} {m : MethodId} {args : Array Value} {below : List Frame} {meth : Method} {c : Code} {D : va_G} {A : Nat → Prop} {ad : Nat → Nat} {cy : Nat → ClassId} (hC : zC p m c cX10_has 1 s args wzX10_has RX10 meth (some .boolean))  {res : zSt × Int32} {H : Heap} {locs : List Loc} {σ : zSt} {ls : Array Slot} {x0 : Int32} (hI : zI st D (tC cy) (wC ad cy σ) A s H locs) (hl : lv_has ls 1 [(0, .int x0)]) (hf : fX10_has  σ x0 = some res) : W p l e rmX10_has s m args below meth c H locs 0 0 (zQi below args s D (tC cy) (wC ad cy) A res) (F0 m 0 ls []) := by
  have hx := hC.1
  have hb := hC.2.1
  unfold fX10_has at hf
  refine lv_iload_n hx hb dX10_has_0 rfl (lv_at hl 0 rfl) ?_
  refine lv_if_lt (tgt := 10) hx hb dX10_has_1 (by decide) (fun q => ?_) (fun q => ?_)
  · replace hf := zif_t q hf
    exact bX10_has_10 hC  hI hl hf
  replace hf := zif_f q hf
  refine lv_iload_n hx hb dX10_has_4 rfl (lv_at hl 0 rfl) ?_
  refine lv_bipush (v := 67) hx hb dX10_has_5 (by decide) ?_
  refine lv_icmp_le (tgt := 32) hx hb dX10_has_7 (by decide) (fun q => ?_) (fun q => ?_)
  · replace hf := zif_t q hf
    exact bX10_has_32 hC  hI (lv_sub hl [] rfl) hf
  replace hf := zif_f q hf
  exact bX10_has_10 hC  hI hl hf
set_option maxRecDepth 20000 in
theorem cX10_has_met (st : Nat → Nat) (l : Launch) (D : va_G) (ad : Nat → Nat) (cy : Nat → ClassId) (σ : zSt) (x0 : Int32) (res : zSt × Int32) (hf : fX10_has σ x0 = some res) (sz : Nat) : zMi st l yX10_has wzX10_has rmX10_has [.int x0] D (tC cy) (wC ad cy) sz σ res :=
  zMi.of (cc := cX10_has) (maxL := 1) (ret := (some .boolean)) (by decide) rfl (Nat.le_of_ble_eq_true rfl) (fun p e s m args below meth c hC A hI ls hl => bX10_has hC hI hl hf)
theorem hdX10_has : yX10_has.cls ≠ "java/lang/invoke/MethodHandle" ∧ yX10_has.cls ≠ "java/lang/invoke/VarHandle" ∧ (parseMethodDescriptor yX10_has.desc).map (fun d => d.parameters.length) = some 1 := by decide +kernel
noncomputable def rmX11_clearAll : Room := { frames := 3, cells := 0, slots := 0, locals := 66 }
noncomputable def wzX11_clearAll : List Cond := .code yX11_clearAll cX11_clearAll 1 none :: wsL_law
theorem hinX11_clearAll_X110 : ∀ w ∈ wsX110, w ∈ wzX11_clearAll := fun w h => List.mem_cons_of_mem _ (inlX11 w h)
noncomputable def fX11_clearAll  (σ : zSt)  : Option (zSt) :=
  zbu (fX2_clearPages σ ) (fun σ1 =>
  zbu (fX9_clear σ1 ) (fun σ2 =>
  zbu (fX7_clear σ2 ) (fun σ3 =>
  zbu (fX10_clear σ3 ) (fun σ4 =>
  zbu (fX4_clear σ4 ) (fun σ5 =>
  zbu (fX5_clear σ5 ) (fun σ6 =>
  some σ6))))))
set_option maxRecDepth 20000 in
set_option maxHeartbeats 4000000 in
theorem bX11_clearAll {st : Nat → Nat} {p : Program} {l : Launch} {e : Env} {s : State} {m : MethodId} {args : Array Value} {below : List Frame} {meth : Method} {c : Code} {D : va_G} {A : Nat → Prop} {ad : Nat → Nat} {cy : Nat → ClassId} (hC : zC p m c cX11_clearAll 1 s args wzX11_clearAll RX11 meth none)  {res : zSt} {H : Heap} {locs : List Loc} {σ : zSt} {ls : Array Slot}  (hI : zI st D (tC cy) (wC ad cy σ) A s H locs) (hl : lv_has ls 1 [(0, .ref (ad 0))]) (hf : fX11_clearAll  σ  = some res) : W p l e rmX11_clearAll s m args below meth c H locs 0 0 (zQu below args s D (tC cy) (wC ad cy) A res) (F0 m 0 ls []) := by
  have hx := hC.1
  have hb := hC.2.1
  unfold fX11_clearAll at hf
  refine lv_aload_n hx hb dX11_clearAll_0 rfl (lv_at hl 0 rfl) ?_
  refine z_get hC hI hinX11_clearAll_X110 0 (wC_e0 ad cy σ) rfl 1 (by decide) (List.mem_cons_of_mem _ zw1_22) rfl dX11_clearAll_1 ?_
  obtain ⟨σ1, g1, hf⟩ := zbu_use hf
  refine z_callVu (As := []) (rest := []) hC hI (cX2_clearPages_met st l D ad cy σ  _ g1) (zgV zw15_9 zw15_10 zw15_11 zw1_21 zw15_12) rfl ⟨rfl, rfl⟩ 0 hdX2_clearPages ⟨Nat.le_of_ble_eq_true rfl, Nat.le_of_ble_eq_true rfl⟩ rfl rfl (wC_e1 ad cy σ) rfl hl rfl (Nat.le_of_ble_eq_true rfl) dX11_clearAll_4 ⟨Nat.zero_le _, Nat.zero_le _⟩ (fun H locs hI => ?_)
  refine lv_aload_n hx hb dX11_clearAll_7 rfl (lv_at hl 0 rfl) ?_
  refine z_get hC hI hinX11_clearAll_X110 0 (wC_e0 ad cy σ1) rfl 2 (by decide) (List.mem_cons_of_mem _ zw2_2) rfl dX11_clearAll_8 ?_
  obtain ⟨σ2, g2, hf⟩ := zbu_use hf
  refine z_callVu (As := []) (rest := []) hC hI (cX9_clear_met st l D ad cy σ1  _ g2) (zgV zw15_13 zw15_14 zw15_15 zw2_1 zw15_16) rfl ⟨rfl, rfl⟩ 0 hdX9_clear ⟨Nat.le_of_ble_eq_true rfl, Nat.le_of_ble_eq_true rfl⟩ rfl rfl (wC_e2 ad cy σ1) rfl hl rfl (Nat.le_of_ble_eq_true rfl) dX11_clearAll_11 ⟨Nat.zero_le _, Nat.zero_le _⟩ (fun H locs hI => ?_)
  refine lv_aload_n hx hb dX11_clearAll_14 rfl (lv_at hl 0 rfl) ?_
  refine z_get hC hI hinX11_clearAll_X110 0 (wC_e0 ad cy σ2) rfl 4 (by decide) (List.mem_cons_of_mem _ zw2_10) rfl dX11_clearAll_15 ?_
  obtain ⟨σ3, g3, hf⟩ := zbu_use hf
  refine z_callVu (As := []) (rest := []) hC hI (cX7_clear_met st l D ad cy σ2  _ g3) (zgV zw15_18 zw5_7 zw5_8 zw2_9 zw5_9) rfl ⟨rfl, rfl⟩ 0 hdX7_clear ⟨Nat.le_of_ble_eq_true rfl, Nat.le_of_ble_eq_true rfl⟩ rfl rfl (wC_e4 ad cy σ2) rfl hl rfl (Nat.le_of_ble_eq_true rfl) dX11_clearAll_18 ⟨Nat.zero_le _, Nat.zero_le _⟩ (fun H locs hI => ?_)
  refine lv_aload_n hx hb dX11_clearAll_21 rfl (lv_at hl 0 rfl) ?_
  refine z_get hC hI hinX11_clearAll_X110 0 (wC_e0 ad cy σ3) rfl 5 (by decide) (List.mem_cons_of_mem _ zw2_14) rfl dX11_clearAll_22 ?_
  obtain ⟨σ4, g4, hf⟩ := zbu_use hf
  refine z_callVu (As := []) (rest := []) hC hI (cX10_clear_met st l D ad cy σ3  _ g4) (zgV zw15_19 zw6_7 zw6_8 zw2_13 zw6_9) rfl ⟨rfl, rfl⟩ 0 hdX10_clear ⟨Nat.le_of_ble_eq_true rfl, Nat.le_of_ble_eq_true rfl⟩ rfl rfl (wC_e5 ad cy σ3) rfl hl rfl (Nat.le_of_ble_eq_true rfl) dX11_clearAll_25 ⟨Nat.zero_le _, Nat.zero_le _⟩ (fun H locs hI => ?_)
  refine lv_aload_n hx hb dX11_clearAll_28 rfl (lv_at hl 0 rfl) ?_
  refine z_get hC hI hinX11_clearAll_X110 0 (wC_e0 ad cy σ4) rfl 6 (by decide) (List.mem_cons_of_mem _ zw2_18) rfl dX11_clearAll_29 ?_
  obtain ⟨σ5, g5, hf⟩ := zbu_use hf
  refine z_callVu (As := []) (rest := []) hC hI (cX4_clear_met st l D ad cy σ4  _ g5) (zgV zw15_20 zw6_22 zw6_23 zw2_17 zw7_0) rfl ⟨rfl, rfl⟩ 0 hdX4_clear ⟨Nat.le_of_ble_eq_true rfl, Nat.le_of_ble_eq_true rfl⟩ rfl rfl (wC_e6 ad cy σ4) rfl hl rfl (Nat.le_of_ble_eq_true rfl) dX11_clearAll_32 ⟨Nat.zero_le _, Nat.zero_le _⟩ (fun H locs hI => ?_)
  refine lv_aload_n hx hb dX11_clearAll_35 rfl (lv_at hl 0 rfl) ?_
  refine z_get hC hI hinX11_clearAll_X110 0 (wC_e0 ad cy σ5) rfl 7 (by decide) (List.mem_cons_of_mem _ zw2_22) rfl dX11_clearAll_36 ?_
  obtain ⟨σ6, g6, hf⟩ := zbu_use hf
  refine z_callVu (As := []) (rest := []) hC hI (cX5_clear_met st l D ad cy σ5  _ g6) (zgV zw15_21 zw15_22 zw15_23 zw2_21 zw16_0) rfl ⟨rfl, rfl⟩ 0 hdX5_clear ⟨Nat.le_of_ble_eq_true rfl, Nat.le_of_ble_eq_true rfl⟩ rfl rfl (wC_e7 ad cy σ5) rfl hl rfl (Nat.le_of_ble_eq_true rfl) dX11_clearAll_39 ⟨Nat.zero_le _, Nat.zero_le _⟩ (fun H locs hI => ?_)
  exact z_return hC hI hf dX11_clearAll_42
set_option maxRecDepth 20000 in
theorem cX11_clearAll_met (st : Nat → Nat) (l : Launch) (D : va_G) (ad : Nat → Nat) (cy : Nat → ClassId) (σ : zSt)  (res : zSt) (hf : fX11_clearAll σ  = some res) (sz : Nat) : zMu st l yX11_clearAll wzX11_clearAll rmX11_clearAll [.ref (ad 0)] D (tC cy) (wC ad cy) sz σ res :=
  zMu.of (cc := cX11_clearAll) (maxL := 1) (ret := none) (by decide) rfl (Nat.le_of_ble_eq_true rfl) (fun p e s m args below meth c hC A hI ls hl => bX11_clearAll hC hI hl hf)
theorem hdX11_clearAll : yX11_clearAll.cls = RX11 ∧ yX11_clearAll.cls ≠ "java/lang/invoke/MethodHandle" ∧ yX11_clearAll.cls ≠ "java/lang/invoke/VarHandle" ∧ (parseMethodDescriptor yX11_clearAll.desc).map (fun d => d.parameters.length) = some 0 := by decide +kernel
noncomputable def rmX11_load : Room := { frames := 4, cells := 0, slots := 0, locals := 86 }
noncomputable def wzX11_load : List Cond := .code yX11_load cX11_load 2 (some .int) :: wsL_law
theorem hinX11_load_X110 : ∀ w ∈ wsX110, w ∈ wzX11_load := fun w h => List.mem_cons_of_mem _ (inlX11 w h)
noncomputable def fX11_load_28  (σ : zSt) (x1 : Int32) : Option (zSt × Int32) :=
  some (σ, x1)
noncomputable def fX11_load  (σ : zSt)  : Option (zSt × Int32) :=
  zbi (fX2_takeTape σ ) (fun σ1 v2 =>
  if v2 = 0 then zbu (fX2_clearRam σ1 ) (fun σ3 =>
  zbu (fX11_clearAll σ3 ) (fun σ4 =>
  zck (zbo 0) (zbv (zsi σ4 0 11 0) (fun σ5 =>
  fX11_load_28 σ5 v2)))) else
  fX11_load_28 σ1 v2)
set_option maxRecDepth 20000 in
set_option maxHeartbeats 4000000 in
theorem bX11_load_28 {st : Nat → Nat} {p : Program} {l : Launch} {e : Env} {s : State} {m : MethodId} {args : Array Value} {below : List Frame} {meth : Method} {c : Code} {D : va_G} {A : Nat → Prop} {ad : Nat → Nat} {cy : Nat → ClassId} (hC : zC p m c cX11_load 2 s args wzX11_load RX11 meth (some .int))  {res : zSt × Int32} {H : Heap} {locs : List Loc} {σ : zSt} {ls : Array Slot} {x1 : Int32} (hI : zI st D (tC cy) (wC ad cy σ) A s H locs) (hl : lv_has ls 2 [(1, .int x1)]) (hf : fX11_load_28  σ x1 = some res) : W p l e rmX11_load s m args below meth c H locs 0 0 (zQi below args s D (tC cy) (wC ad cy) A res) (F0 m 28 ls []) := by
  have hx := hC.1
  have hb := hC.2.1
  unfold fX11_load_28 at hf
  refine lv_iload_n hx hb dX11_load_28 rfl (lv_at hl 0 rfl) ?_
  exact z_ireturn hC hI hf dX11_load_29
set_option maxRecDepth 20000 in
set_option maxHeartbeats 4000000 in
theorem bX11_load {st : Nat → Nat} {p : Program} {l : Launch} {e : Env} {s : State} {m : MethodId} {args : Array Value} {below : List Frame} {meth : Method} {c : Code} {D : va_G} {A : Nat → Prop} {ad : Nat → Nat} {cy : Nat → ClassId} (hC : zC p m c cX11_load 2 s args wzX11_load RX11 meth (some .int))  {res : zSt × Int32} {H : Heap} {locs : List Loc} {σ : zSt} {ls : Array Slot}  (hI : zI st D (tC cy) (wC ad cy σ) A s H locs) (hl : lv_has ls 2 [(0, .ref (ad 0))]) (hf : fX11_load  σ  = some res) : W p l e rmX11_load s m args below meth c H locs 0 0 (zQi below args s D (tC cy) (wC ad cy) A res) (F0 m 0 ls []) := by
  have hx := hC.1
  have hb := hC.2.1
  unfold fX11_load at hf
  refine lv_aload_n hx hb dX11_load_0 rfl (lv_at hl 0 rfl) ?_
  refine z_get hC hI hinX11_load_X110 0 (wC_e0 ad cy σ) rfl 1 (by decide) (List.mem_cons_of_mem _ zw1_22) rfl dX11_load_1 ?_
  obtain ⟨σ1, v2, g1, hf⟩ := zbi_use hf
  refine z_callVi (As := []) (rest := []) hC hI (cX2_takeTape_met st l D ad cy σ  _ g1) (zgV zw13_20 zw13_21 zw13_22 zw1_21 zw13_23) rfl ⟨rfl, rfl⟩ 0 hdX2_takeTape ⟨Nat.le_of_ble_eq_true rfl, Nat.le_of_ble_eq_true rfl⟩ rfl rfl (wC_e1 ad cy σ) rfl hl rfl (Nat.le_of_ble_eq_true rfl) dX11_load_4 ⟨Nat.zero_le _, Nat.zero_le _⟩ (fun H locs hI => ?_)
  refine lv_istore_n (lv' := [(1, .int v2), (0, .ref (ad 0))]) hx hb dX11_load_7 rfl hl (by decide) rfl (fun ls hl => ?_)
  refine lv_iload_n hx hb dX11_load_8 rfl (lv_at hl 0 rfl) ?_
  refine lv_if_ne (tgt := 28) hx hb dX11_load_9 (by decide) (fun q => ?_) (fun q => ?_)
  · replace hf := zif_f q hf
    exact bX11_load_28 hC  hI (lv_sub hl [0] rfl) hf
  replace hf := zif_t q hf
  refine lv_aload_n hx hb dX11_load_12 rfl (lv_at hl 1 rfl) ?_
  refine z_get hC hI hinX11_load_X110 0 (wC_e0 ad cy σ1) rfl 1 (by decide) (List.mem_cons_of_mem _ zw1_22) rfl dX11_load_13 ?_
  obtain ⟨σ3, g3, hf⟩ := zbu_use hf
  refine z_callVu (As := []) (rest := []) hC hI (cX2_clearRam_met st l D ad cy σ1  _ g3) (zgV zw15_0 zw15_1 zw15_2 zw1_21 zw15_3) rfl ⟨rfl, rfl⟩ 0 hdX2_clearRam ⟨Nat.le_of_ble_eq_true rfl, Nat.le_of_ble_eq_true rfl⟩ rfl rfl (wC_e1 ad cy σ1) rfl hl rfl (Nat.le_of_ble_eq_true rfl) dX11_load_16 ⟨Nat.zero_le _, Nat.zero_le _⟩ (fun H locs hI => ?_)
  refine lv_aload_n hx hb dX11_load_19 rfl (lv_at hl 1 rfl) ?_
  obtain ⟨σ4, g4, hf⟩ := zbu_use hf
  refine z_callVu (As := []) (rest := []) hC hI (cX11_clearAll_met st l D ad cy σ3  _ g4) (zgV zw15_5 zw15_6 zw15_7 zw1_2 zw15_8) rfl ⟨rfl, rfl⟩ 0 hdX11_clearAll ⟨Nat.le_of_ble_eq_true rfl, Nat.le_of_ble_eq_true rfl⟩ rfl rfl (wC_e0 ad cy σ3) rfl hl rfl (Nat.le_of_ble_eq_true rfl) dX11_load_20 ⟨Nat.zero_le _, Nat.zero_le _⟩ (fun H locs hI => ?_)
  refine lv_aload_n hx hb dX11_load_23 rfl (lv_at hl 1 rfl) ?_
  refine lv_iconst (v := 0) hx hb dX11_load_24 (by decide) ?_
  obtain ⟨q, hf⟩ := zck_use hf
  obtain ⟨σ5, eσ5⟩ : ∃ z, z = zsi σ4 0 11 0 := ⟨_, rfl⟩
  replace hf := zbv_use eσ5 hf
  refine z_put hC hI hinX11_load_X110 tyX11_ok nmX11 0 (wC_e0 ad cy σ4) rfl 11 (by decide) (List.mem_cons_of_mem _ zw13_19) rfl (zbo_n q) (zbo_f q) (Nat.le_of_ble_eq_true rfl) ((wC_s0_11 ad cy σ4 0).trans (congrArg (wC ad cy) eσ5.symm)) dX11_load_25 (fun H locs hI => ?_)
  exact bX11_load_28 hC  hI (lv_sub hl [0] rfl) hf
set_option maxRecDepth 20000 in
theorem cX11_load_met (st : Nat → Nat) (l : Launch) (D : va_G) (ad : Nat → Nat) (cy : Nat → ClassId) (σ : zSt)  (res : zSt × Int32) (hf : fX11_load σ  = some res) (sz : Nat) : zMi st l yX11_load wzX11_load rmX11_load [.ref (ad 0)] D (tC cy) (wC ad cy) sz σ res :=
  zMi.of (cc := cX11_load) (maxL := 2) (ret := (some .int)) (by decide) rfl (Nat.le_of_ble_eq_true rfl) (fun p e s m args below meth c hC A hI ls hl => bX11_load hC hI hl hf)
theorem hdX11_load : yX11_load.cls = RX11 ∧ yX11_load.cls ≠ "java/lang/invoke/MethodHandle" ∧ yX11_load.cls ≠ "java/lang/invoke/VarHandle" ∧ (parseMethodDescriptor yX11_load.desc).map (fun d => d.parameters.length) = some 0 := by decide +kernel
noncomputable def rmX11_endLine : Room := { frames := 5, cells := 0, slots := 0, locals := 126 }
noncomputable def wzX11_endLine : List Cond := .code yX11_endLine cX11_endLine 1 none :: wsL_law
theorem hinX11_endLine_X110 : ∀ w ∈ wsX110, w ∈ wzX11_endLine := fun w h => List.mem_cons_of_mem _ (inlX11 w h)
noncomputable def fX11_endLine_62  (σ : zSt)  : Option (zSt) :=
  some σ
noncomputable def fX11_endLine_26  (σ : zSt)  : Option (zSt) :=
  zbi (fX9_goesToNextLine σ ) (fun σ1 v2 =>
  if v2 = 0 then fX11_endLine_62 σ1 else
  zbu (fX0_countPicture σ1 ) (fun σ3 =>
  zbl (fX0_count σ3 2) (fun σ4 v5 =>
  zbu (fX1_carryOutPlans σ4 v5) (fun σ6 =>
  fX11_endLine_62 σ6))))
noncomputable def fX11_endLine  (σ : zSt)  : Option (zSt) :=
  zbi (fX9_held σ 20) (fun σ7 v8 =>
  zbi (fX9_height σ7 ) (fun σ9 v10 =>
  if v10 ≤ v8 then fX11_endLine_26 σ9 else
  zbu (fX3_draw σ9 ) (fun σ11 =>
  fX11_endLine_26 σ11)))
set_option maxRecDepth 20000 in
set_option maxHeartbeats 4000000 in
theorem bX11_endLine_62 {st : Nat → Nat} {p : Program} {l : Launch} {e : Env} {s : State} {m : MethodId} {args : Array Value} {below : List Frame} {meth : Method} {c : Code} {D : va_G} {A : Nat → Prop} {ad : Nat → Nat} {cy : Nat → ClassId} (hC : zC p m c cX11_endLine 1 s args wzX11_endLine RX11 meth none)  {res : zSt} {H : Heap} {locs : List Loc} {σ : zSt} {ls : Array Slot}  (hI : zI st D (tC cy) (wC ad cy σ) A s H locs) (hl : lv_has ls 1 []) (hf : fX11_endLine_62  σ  = some res) : W p l e rmX11_endLine s m args below meth c H locs 0 0 (zQu below args s D (tC cy) (wC ad cy) A res) (F0 m 62 ls []) := by
  have hx := hC.1
  have hb := hC.2.1
  unfold fX11_endLine_62 at hf
  exact z_return hC hI hf dX11_endLine_62
set_option maxRecDepth 20000 in
set_option maxHeartbeats 4000000 in
theorem bX11_endLine_26 {st : Nat → Nat} {p : Program} {l : Launch} {e : Env} {s : State} {m : MethodId} {args : Array Value} {below : List Frame} {meth : Method} {c : Code} {D : va_G} {A : Nat → Prop} {ad : Nat → Nat} {cy : Nat → ClassId} (hC : zC p m c cX11_endLine 1 s args wzX11_endLine RX11 meth none)  {res : zSt} {H : Heap} {locs : List Loc} {σ : zSt} {ls : Array Slot}  (hI : zI st D (tC cy) (wC ad cy σ) A s H locs) (hl : lv_has ls 1 [(0, .ref (ad 0))]) (hf : fX11_endLine_26  σ  = some res) : W p l e rmX11_endLine s m args below meth c H locs 0 0 (zQu below args s D (tC cy) (wC ad cy) A res) (F0 m 26 ls []) := by
  have hx := hC.1
  have hb := hC.2.1
  unfold fX11_endLine_26 at hf
  refine lv_aload_n hx hb dX11_endLine_26 rfl (lv_at hl 0 rfl) ?_
  refine z_get hC hI hinX11_endLine_X110 0 (wC_e0 ad cy σ) rfl 2 (by decide) (List.mem_cons_of_mem _ zw2_2) rfl dX11_endLine_27 ?_
  obtain ⟨σ1, v2, g1, hf⟩ := zbi_use hf
  refine z_callVi (As := []) (rest := []) hC hI (cX9_goesToNextLine_met st l D ad cy σ  _ g1) (zgV zw39_20 zw39_21 zw39_22 zw2_1 zw39_23) rfl ⟨rfl, rfl⟩ 0 hdX9_goesToNextLine ⟨Nat.le_of_ble_eq_true rfl, Nat.le_of_ble_eq_true rfl⟩ rfl rfl (wC_e2 ad cy σ) rfl hl rfl (Nat.le_of_ble_eq_true rfl) dX11_endLine_30 ⟨Nat.zero_le _, Nat.zero_le _⟩ (fun H locs hI => ?_)
  refine lv_if_eq (tgt := 62) hx hb dX11_endLine_33 (by decide) (fun q => ?_) (fun q => ?_)
  · replace hf := zif_t q hf
    exact bX11_endLine_62 hC  hI (lv_sub hl [] rfl) hf
  replace hf := zif_f q hf
  refine lv_aload_n hx hb dX11_endLine_36 rfl (lv_at hl 0 rfl) ?_
  refine z_get hC hI hinX11_endLine_X110 0 (wC_e0 ad cy σ1) rfl 8 (by decide) (List.mem_cons_of_mem _ zw3_2) rfl dX11_endLine_37 ?_
  obtain ⟨σ3, g3, hf⟩ := zbu_use hf
  refine z_callVu (As := []) (rest := []) hC hI (cX0_countPicture_met st l D ad cy σ1  _ g3) (zgV zw40_0 zw40_1 zw40_2 zw3_1 zw40_3) rfl ⟨rfl, rfl⟩ 0 hdX0_countPicture ⟨Nat.le_of_ble_eq_true rfl, Nat.le_of_ble_eq_true rfl⟩ rfl rfl (wC_e8 ad cy σ1) rfl hl rfl (Nat.le_of_ble_eq_true rfl) dX11_endLine_40 ⟨Nat.zero_le _, Nat.zero_le _⟩ (fun H locs hI => ?_)
  refine lv_aload_n hx hb dX11_endLine_43 rfl (lv_at hl 0 rfl) ?_
  refine z_get hC hI hinX11_endLine_X110 0 (wC_e0 ad cy σ3) rfl 9 (by decide) (List.mem_cons_of_mem _ zw3_6) rfl dX11_endLine_44 ?_
  refine lv_aload_n hx hb dX11_endLine_47 rfl (lv_at hl 0 rfl) ?_
  refine z_get hC hI hinX11_endLine_X110 0 (wC_e0 ad cy σ3) rfl 8 (by decide) (List.mem_cons_of_mem _ zw3_2) rfl dX11_endLine_48 ?_
  refine lv_iconst (v := 2) hx hb dX11_endLine_51 (by decide) ?_
  obtain ⟨σ4, v5, g4, hf⟩ := zbl_use hf
  refine z_callVl (As := [.int 2]) (rest := [.ref (ad 9)]) hC hI (cX0_count_met st l D ad cy σ3 2 _ g4) (zgV zw18_13 zw18_14 zw18_15 zw3_1 zw18_16) rfl ⟨rfl, rfl⟩ 1 hdX0_count ⟨Nat.le_of_ble_eq_true rfl, Nat.le_of_ble_eq_true rfl⟩ rfl rfl (wC_e8 ad cy σ3) rfl hl rfl (Nat.le_of_ble_eq_true rfl) dX11_endLine_52 ⟨Nat.zero_le _, Nat.zero_le _⟩ (fun H locs hI => ?_)
  refine lv_aload_n hx hb dX11_endLine_55 rfl (lv_at hl 0 rfl) ?_
  refine z_get hC hI hinX11_endLine_X110 0 (wC_e0 ad cy σ4) rfl 6 (by decide) (List.mem_cons_of_mem _ zw2_18) rfl dX11_endLine_56 ?_
  obtain ⟨σ6, g6, hf⟩ := zbu_use hf
  refine z_callVu (As := [.long v5, .ref (ad 6)]) (rest := []) hC hI (cX1_carryOutPlans_met st l D ad cy σ4 v5 _ g6) (zgV zw40_4 zw40_5 zw40_6 zw3_5 zw40_7) rfl ⟨rfl, rfl⟩ 2 hdX1_carryOutPlans ⟨Nat.le_of_ble_eq_true rfl, Nat.le_of_ble_eq_true rfl⟩ rfl rfl (wC_e9 ad cy σ4) rfl hl rfl (Nat.le_of_ble_eq_true rfl) dX11_endLine_59 ⟨Nat.zero_le _, Nat.zero_le _⟩ (fun H locs hI => ?_)
  exact bX11_endLine_62 hC  hI (lv_sub hl [] rfl) hf
set_option maxRecDepth 20000 in
set_option maxHeartbeats 4000000 in
theorem bX11_endLine {st : Nat → Nat} {p : Program} {l : Launch} {e : Env} {s : State} {m : MethodId} {args : Array Value} {below : List Frame} {meth : Method} {c : Code} {D : va_G} {A : Nat → Prop} {ad : Nat → Nat} {cy : Nat → ClassId} (hC : zC p m c cX11_endLine 1 s args wzX11_endLine RX11 meth none)  {res : zSt} {H : Heap} {locs : List Loc} {σ : zSt} {ls : Array Slot}  (hI : zI st D (tC cy) (wC ad cy σ) A s H locs) (hl : lv_has ls 1 [(0, .ref (ad 0))]) (hf : fX11_endLine  σ  = some res) : W p l e rmX11_endLine s m args below meth c H locs 0 0 (zQu below args s D (tC cy) (wC ad cy) A res) (F0 m 0 ls []) := by
  have hx := hC.1
  have hb := hC.2.1
  unfold fX11_endLine at hf
  refine lv_aload_n hx hb dX11_endLine_0 rfl (lv_at hl 0 rfl) ?_
  refine z_get hC hI hinX11_endLine_X110 0 (wC_e0 ad cy σ) rfl 2 (by decide) (List.mem_cons_of_mem _ zw2_2) rfl dX11_endLine_1 ?_
  refine lv_bipush (v := 20) hx hb dX11_endLine_4 (by decide) ?_
  obtain ⟨σ7, v8, g7, hf⟩ := zbi_use hf
  refine z_callVi (As := [.int 20]) (rest := []) hC hI (cX9_held_met st l D ad cy σ 20 _ g7) (zgV zw35_12 zw35_13 zw35_14 zw2_1 zw35_15) rfl ⟨rfl, rfl⟩ 1 hdX9_held ⟨Nat.le_of_ble_eq_true rfl, Nat.le_of_ble_eq_true rfl⟩ rfl rfl (wC_e2 ad cy σ) rfl hl rfl (Nat.le_of_ble_eq_true rfl) dX11_endLine_6 ⟨Nat.zero_le _, Nat.zero_le _⟩ (fun H locs hI => ?_)
  refine lv_aload_n hx hb dX11_endLine_9 rfl (lv_at hl 0 rfl) ?_
  refine z_get hC hI hinX11_endLine_X110 0 (wC_e0 ad cy σ7) rfl 2 (by decide) (List.mem_cons_of_mem _ zw2_2) rfl dX11_endLine_10 ?_
  obtain ⟨σ9, v10, g9, hf⟩ := zbi_use hf
  refine z_callVi (As := []) (rest := [.int v8]) hC hI (cX9_height_met st l D ad cy σ7  _ g9) (zgV zw35_16 zw25_17 zw25_18 zw2_1 zw25_19) rfl ⟨rfl, rfl⟩ 0 hdX9_height ⟨Nat.le_of_ble_eq_true rfl, Nat.le_of_ble_eq_true rfl⟩ rfl rfl (wC_e2 ad cy σ7) rfl hl rfl (Nat.le_of_ble_eq_true rfl) dX11_endLine_13 ⟨Nat.zero_le _, Nat.zero_le _⟩ (fun H locs hI => ?_)
  refine lv_icmp_ge (tgt := 26) hx hb dX11_endLine_16 (by decide) (fun q => ?_) (fun q => ?_)
  · replace hf := zif_t q hf
    exact bX11_endLine_26 hC  hI hl hf
  replace hf := zif_f q hf
  refine lv_aload_n hx hb dX11_endLine_19 rfl (lv_at hl 0 rfl) ?_
  refine z_get hC hI hinX11_endLine_X110 0 (wC_e0 ad cy σ9) rfl 3 (by decide) (List.mem_cons_of_mem _ zw2_6) rfl dX11_endLine_20 ?_
  obtain ⟨σ11, g11, hf⟩ := zbu_use hf
  refine z_callVu (As := []) (rest := []) hC hI (cX3_draw_met st l D ad cy σ9  _ g11) (zgV zw35_17 zw35_18 zw35_19 zw2_5 zw35_20) rfl ⟨rfl, rfl⟩ 0 hdX3_draw ⟨Nat.le_of_ble_eq_true rfl, Nat.le_of_ble_eq_true rfl⟩ rfl rfl (wC_e3 ad cy σ9) rfl hl rfl (Nat.le_of_ble_eq_true rfl) dX11_endLine_23 ⟨Nat.zero_le _, Nat.zero_le _⟩ (fun H locs hI => ?_)
  exact bX11_endLine_26 hC  hI hl hf
set_option maxRecDepth 20000 in
theorem cX11_endLine_met (st : Nat → Nat) (l : Launch) (D : va_G) (ad : Nat → Nat) (cy : Nat → ClassId) (σ : zSt)  (res : zSt) (hf : fX11_endLine σ  = some res) (sz : Nat) : zMu st l yX11_endLine wzX11_endLine rmX11_endLine [.ref (ad 0)] D (tC cy) (wC ad cy) sz σ res :=
  zMu.of (cc := cX11_endLine) (maxL := 1) (ret := none) (by decide) rfl (Nat.le_of_ble_eq_true rfl) (fun p e s m args below meth c hC A hI ls hl => bX11_endLine hC hI hl hf)
theorem hdX11_endLine : yX11_endLine.cls = RX11 ∧ yX11_endLine.cls ≠ "java/lang/invoke/MethodHandle" ∧ yX11_endLine.cls ≠ "java/lang/invoke/VarHandle" ∧ (parseMethodDescriptor yX11_endLine.desc).map (fun d => d.parameters.length) = some 0 := by decide +kernel
noncomputable def rmX11_run : Room := { frames := 6, cells := 0, slots := 0, locals := 147 }
noncomputable def wzX11_run : List Cond := .code yX11_run cX11_run 8 (some .int) :: wsL_law
theorem hinX11_run_X110 : ∀ w ∈ wsX110, w ∈ wzX11_run := fun w h => List.mem_cons_of_mem _ (inlX11 w h)
noncomputable def fX11_run_135  (σ : zSt) (x5 : Int32) : Option (zSt × Int32) :=
  some (σ, x5)
noncomputable def fX11_run_120 (k15 : zSt → Int32 → Int64 → Int32 → Option (zSt × Int32)) (σ : zSt) (x1 : Int32) (x3 : Int64) (x5 : Int32) (x7 : Int32) : Option (zSt × Int32) :=
  zbu (fX0_pass σ x7) (fun σ1 =>
  zbv (x5 + 1) (fun v2 =>
  k15 σ1 x1 x3 v2))
noncomputable def fX11_run_104 (k15 : zSt → Int32 → Int64 → Int32 → Option (zSt × Int32)) (σ : zSt) (x1 : Int32) (x3 : Int64) (x5 : Int32) (x7 : Int32) : Option (zSt × Int32) :=
  zbi (fX9_passes σ x7) (fun σ3 v4 =>
  if v4 = 0 then fX11_run_120 k15 σ3 x1 x3 x5 x7 else
  zbu (fX11_endLine σ3 ) (fun σ5 =>
  fX11_run_120 k15 σ5 x1 x3 x5 x7))
noncomputable def fX11_run_65 (k15 : zSt → Int32 → Int64 → Int32 → Option (zSt × Int32)) (σ : zSt) (x1 : Int32) (x3 : Int64) (x5 : Int32) (x6 : Int32) : Option (zSt × Int32) :=
  zbu (fX1_noteStep σ x6) (fun σ6 =>
  zbi (fX9_asks σ6 ) (fun σ7 v8 =>
  zbi (fX5_answerCalls σ7 v8) (fun σ9 v10 =>
  if v10 = 0 then zbi (fX5_carryOn σ9 ) (fun σ11 v12 =>
  fX11_run_104 k15 σ11 x1 x3 x5 v12) else
  fX11_run_104 k15 σ9 x1 x3 x5 v10)))
noncomputable def fX11_run_15_body (k15 : zSt → Int32 → Int64 → Int32 → Option (zSt × Int32)) (σ : zSt) (x1 : Int32) (x3 : Int64) (x5 : Int32) : Option (zSt × Int32) :=
  if x1 ≤ x5 then fX11_run_135 σ x5 else
  zbl (fX0_count σ 2) (fun σ13 v14 =>
  if 0 ≤ (lg_cmp v14 x3) then fX11_run_135 σ13 x5 else
  zbi (fX5_value σ13 19) (fun σ15 v16 =>
  if x5 ≤ 0 then fX11_run_65 k15 σ15 x1 x3 x5 v16 else
  zbi (fX1_isStop σ15 v16) (fun σ17 v18 =>
  if v18 = 0 then fX11_run_65 k15 σ17 x1 x3 x5 v16 else
  fX11_run_135 σ17 x5)))
noncomputable def fX11_run_15  : Nat → zSt → Int32 → Int64 → Int32 → Option (zSt × Int32)
  | 0, _, _, _, _ => none
  | n + 1, σ, x1, x3, x5 => fX11_run_15_body (fX11_run_15  n) σ x1 x3 x5
noncomputable def fX11_run  (σ : zSt) (x1 : Int32) (x2 : Int32) : Option (zSt × Int32) :=
  zbl (fX0_count σ 2) (fun σ19 v20 =>
  zbv (v20 + (x2.toInt64)) (fun v21 =>
  fX11_run_15 zfuel σ19 x1 v21 0))
set_option maxRecDepth 20000 in
set_option maxHeartbeats 4000000 in
theorem bX11_run_135 {st : Nat → Nat} {p : Program} {l : Launch} {e : Env} {s : State} {m : MethodId} {args : Array Value} {below : List Frame} {meth : Method} {c : Code} {D : va_G} {A : Nat → Prop} {ad : Nat → Nat} {cy : Nat → ClassId} (hC : zC p m c cX11_run 8 s args wzX11_run RX11 meth (some .int))  {res : zSt × Int32} {H : Heap} {locs : List Loc} {σ : zSt} {ls : Array Slot} {x5 : Int32} (hI : zI st D (tC cy) (wC ad cy σ) A s H locs) (hl : lv_has ls 8 [(5, .int x5)]) (hf : fX11_run_135  σ x5 = some res) : W p l e rmX11_run s m args below meth c H locs 0 0 (zQi below args s D (tC cy) (wC ad cy) A res) (F0 m 135 ls []) := by
  have hx := hC.1
  have hb := hC.2.1
  unfold fX11_run_135 at hf
  refine lv_iload hx hb dX11_run_135 (lv_at hl 0 rfl) ?_
  exact z_ireturn hC hI hf dX11_run_137
set_option maxRecDepth 20000 in
set_option maxHeartbeats 4000000 in
theorem bX11_run_120 {st : Nat → Nat} {p : Program} {l : Launch} {e : Env} {s : State} {m : MethodId} {args : Array Value} {below : List Frame} {meth : Method} {c : Code} {D : va_G} {A : Nat → Prop} {ad : Nat → Nat} {cy : Nat → ClassId} (hC : zC p m c cX11_run 8 s args wzX11_run RX11 meth (some .int)) {k15 : zSt → Int32 → Int64 → Int32 → Option (zSt × Int32)} {res : zSt × Int32} (hk15 : ∀ (H : Heap) (locs : List Loc) (σ : zSt) (ls : Array Slot) (x1 : Int32) (x3 : Int64) (x5 : Int32), zI st D (tC cy) (wC ad cy σ) A s H locs → lv_has ls 8 [(0, .ref (ad 0)), (1, .int x1), (3, .long x3), (5, .int x5)] → k15 σ x1 x3 x5 = some res → W p l e rmX11_run s m args below meth c H locs 0 0 (zQi below args s D (tC cy) (wC ad cy) A res) (F0 m 15 ls [])) {H : Heap} {locs : List Loc} {σ : zSt} {ls : Array Slot} {x1 : Int32} {x3 : Int64} {x5 : Int32} {x7 : Int32} (hI : zI st D (tC cy) (wC ad cy σ) A s H locs) (hl : lv_has ls 8 [(0, .ref (ad 0)), (1, .int x1), (3, .long x3), (5, .int x5), (7, .int x7)]) (hf : fX11_run_120 k15 σ x1 x3 x5 x7 = some res) : W p l e rmX11_run s m args below meth c H locs 0 0 (zQi below args s D (tC cy) (wC ad cy) A res) (F0 m 120 ls []) := by
  have hx := hC.1
  have hb := hC.2.1
  unfold fX11_run_120 at hf
  refine lv_aload_n hx hb dX11_run_120 rfl (lv_at hl 0 rfl) ?_
  refine z_get hC hI hinX11_run_X110 0 (wC_e0 ad cy σ) rfl 8 (by decide) (List.mem_cons_of_mem _ zw3_2) rfl dX11_run_121 ?_
  refine lv_iload hx hb dX11_run_124 (lv_at hl 4 rfl) ?_
  obtain ⟨σ1, g1, hf⟩ := zbu_use hf
  refine z_callVu (As := [.int x7]) (rest := []) hC hI (cX0_pass_met st l D ad cy σ x7 _ g1) (zgV zw40_16 zw40_17 zw40_18 zw3_1 zw40_19) rfl ⟨rfl, rfl⟩ 1 hdX0_pass ⟨Nat.le_of_ble_eq_true rfl, Nat.le_of_ble_eq_true rfl⟩ rfl rfl (wC_e8 ad cy σ) rfl hl rfl (Nat.le_of_ble_eq_true rfl) dX11_run_126 ⟨Nat.zero_le _, Nat.zero_le _⟩ (fun H locs hI => ?_)
  obtain ⟨v2, ev2⟩ : ∃ z : Int32, z = x5 + 1 := ⟨_, rfl⟩
  replace hf := zbv_use ev2 hf
  refine lv_iinc (v := v2) (lv' := [(5, .int v2), (0, .ref (ad 0)), (1, .int x1), (3, .long x3), (7, .int x7)]) hx hb dX11_run_129 hl (k := 3) rfl (by rw [ev2]; rfl) (by decide) rfl (fun ls hl => ?_)
  refine lv_goto (tgt := 15) hx hb dX11_run_132 (by decide) ?_
  exact hk15 _ _ _ _ _ _ _ hI (lv_sub hl [1, 2, 3, 0] rfl) hf
set_option maxRecDepth 20000 in
set_option maxHeartbeats 4000000 in
theorem bX11_run_104 {st : Nat → Nat} {p : Program} {l : Launch} {e : Env} {s : State} {m : MethodId} {args : Array Value} {below : List Frame} {meth : Method} {c : Code} {D : va_G} {A : Nat → Prop} {ad : Nat → Nat} {cy : Nat → ClassId} (hC : zC p m c cX11_run 8 s args wzX11_run RX11 meth (some .int)) {k15 : zSt → Int32 → Int64 → Int32 → Option (zSt × Int32)} {res : zSt × Int32} (hk15 : ∀ (H : Heap) (locs : List Loc) (σ : zSt) (ls : Array Slot) (x1 : Int32) (x3 : Int64) (x5 : Int32), zI st D (tC cy) (wC ad cy σ) A s H locs → lv_has ls 8 [(0, .ref (ad 0)), (1, .int x1), (3, .long x3), (5, .int x5)] → k15 σ x1 x3 x5 = some res → W p l e rmX11_run s m args below meth c H locs 0 0 (zQi below args s D (tC cy) (wC ad cy) A res) (F0 m 15 ls [])) {H : Heap} {locs : List Loc} {σ : zSt} {ls : Array Slot} {x1 : Int32} {x3 : Int64} {x5 : Int32} {x7 : Int32} (hI : zI st D (tC cy) (wC ad cy σ) A s H locs) (hl : lv_has ls 8 [(0, .ref (ad 0)), (1, .int x1), (3, .long x3), (5, .int x5), (7, .int x7)]) (hf : fX11_run_104 k15 σ x1 x3 x5 x7 = some res) : W p l e rmX11_run s m args below meth c H locs 0 0 (zQi below args s D (tC cy) (wC ad cy) A res) (F0 m 104 ls []) := by
  have hx := hC.1
  have hb := hC.2.1
  unfold fX11_run_104 at hf
  refine lv_aload_n hx hb dX11_run_104 rfl (lv_at hl 0 rfl) ?_
  refine z_get hC hI hinX11_run_X110 0 (wC_e0 ad cy σ) rfl 2 (by decide) (List.mem_cons_of_mem _ zw2_2) rfl dX11_run_105 ?_
  refine lv_iload hx hb dX11_run_108 (lv_at hl 4 rfl) ?_
  obtain ⟨σ3, v4, g3, hf⟩ := zbi_use hf
  refine z_callVi (As := [.int x7]) (rest := []) hC hI (cX9_passes_met st l D ad cy σ x7 _ g3) (zgV zw35_4 zw35_5 zw35_6 zw2_1 zw35_7) rfl ⟨rfl, rfl⟩ 1 hdX9_passes ⟨Nat.le_of_ble_eq_true rfl, Nat.le_of_ble_eq_true rfl⟩ rfl rfl (wC_e2 ad cy σ) rfl hl rfl (Nat.le_of_ble_eq_true rfl) dX11_run_110 ⟨Nat.zero_le _, Nat.zero_le _⟩ (fun H locs hI => ?_)
  refine lv_if_eq (tgt := 120) hx hb dX11_run_113 (by decide) (fun q => ?_) (fun q => ?_)
  · replace hf := zif_t q hf
    exact bX11_run_120 hC hk15 hI hl hf
  replace hf := zif_f q hf
  refine lv_aload_n hx hb dX11_run_116 rfl (lv_at hl 0 rfl) ?_
  obtain ⟨σ5, g5, hf⟩ := zbu_use hf
  refine z_callVu (As := []) (rest := []) hC hI (cX11_endLine_met st l D ad cy σ3  _ g5) (zgV zw35_8 zw35_9 zw35_10 zw1_2 zw35_11) rfl ⟨rfl, rfl⟩ 0 hdX11_endLine ⟨Nat.le_of_ble_eq_true rfl, Nat.le_of_ble_eq_true rfl⟩ rfl rfl (wC_e0 ad cy σ3) rfl hl rfl (Nat.le_of_ble_eq_true rfl) dX11_run_117 ⟨Nat.zero_le _, Nat.zero_le _⟩ (fun H locs hI => ?_)
  exact bX11_run_120 hC hk15 hI hl hf
set_option maxRecDepth 20000 in
set_option maxHeartbeats 4000000 in
theorem bX11_run_65 {st : Nat → Nat} {p : Program} {l : Launch} {e : Env} {s : State} {m : MethodId} {args : Array Value} {below : List Frame} {meth : Method} {c : Code} {D : va_G} {A : Nat → Prop} {ad : Nat → Nat} {cy : Nat → ClassId} (hC : zC p m c cX11_run 8 s args wzX11_run RX11 meth (some .int)) {k15 : zSt → Int32 → Int64 → Int32 → Option (zSt × Int32)} {res : zSt × Int32} (hk15 : ∀ (H : Heap) (locs : List Loc) (σ : zSt) (ls : Array Slot) (x1 : Int32) (x3 : Int64) (x5 : Int32), zI st D (tC cy) (wC ad cy σ) A s H locs → lv_has ls 8 [(0, .ref (ad 0)), (1, .int x1), (3, .long x3), (5, .int x5)] → k15 σ x1 x3 x5 = some res → W p l e rmX11_run s m args below meth c H locs 0 0 (zQi below args s D (tC cy) (wC ad cy) A res) (F0 m 15 ls [])) {H : Heap} {locs : List Loc} {σ : zSt} {ls : Array Slot} {x1 : Int32} {x3 : Int64} {x5 : Int32} {x6 : Int32} (hI : zI st D (tC cy) (wC ad cy σ) A s H locs) (hl : lv_has ls 8 [(0, .ref (ad 0)), (1, .int x1), (3, .long x3), (5, .int x5), (6, .int x6)]) (hf : fX11_run_65 k15 σ x1 x3 x5 x6 = some res) : W p l e rmX11_run s m args below meth c H locs 0 0 (zQi below args s D (tC cy) (wC ad cy) A res) (F0 m 65 ls []) := by
  have hx := hC.1
  have hb := hC.2.1
  unfold fX11_run_65 at hf
  refine lv_aload_n hx hb dX11_run_65 rfl (lv_at hl 0 rfl) ?_
  refine z_get hC hI hinX11_run_X110 0 (wC_e0 ad cy σ) rfl 9 (by decide) (List.mem_cons_of_mem _ zw3_6) rfl dX11_run_66 ?_
  refine lv_iload hx hb dX11_run_69 (lv_at hl 4 rfl) ?_
  obtain ⟨σ6, g6, hf⟩ := zbu_use hf
  refine z_callVu (As := [.int x6]) (rest := []) hC hI (cX1_noteStep_met st l D ad cy σ x6 _ g6) (zgV zw19_5 zw19_6 zw19_7 zw3_5 zw19_8) rfl ⟨rfl, rfl⟩ 1 hdX1_noteStep ⟨Nat.le_of_ble_eq_true rfl, Nat.le_of_ble_eq_true rfl⟩ rfl rfl (wC_e9 ad cy σ) rfl hl rfl (Nat.le_of_ble_eq_true rfl) dX11_run_71 ⟨Nat.zero_le _, Nat.zero_le _⟩ (fun H locs hI => ?_)
  refine lv_aload_n hx hb dX11_run_74 rfl (lv_at hl 0 rfl) ?_
  refine z_get hC hI hinX11_run_X110 0 (wC_e0 ad cy σ6) rfl 7 (by decide) (List.mem_cons_of_mem _ zw2_22) rfl dX11_run_75 ?_
  refine lv_aload_n hx hb dX11_run_78 rfl (lv_at hl 0 rfl) ?_
  refine z_get hC hI hinX11_run_X110 0 (wC_e0 ad cy σ6) rfl 2 (by decide) (List.mem_cons_of_mem _ zw2_2) rfl dX11_run_79 ?_
  obtain ⟨σ7, v8, g7, hf⟩ := zbi_use hf
  refine z_callVi (As := []) (rest := [.ref (ad 7)]) hC hI (cX9_asks_met st l D ad cy σ6  _ g7) (zgV zw19_10 zw19_11 zw19_12 zw2_1 zw19_13) rfl ⟨rfl, rfl⟩ 0 hdX9_asks ⟨Nat.le_of_ble_eq_true rfl, Nat.le_of_ble_eq_true rfl⟩ rfl rfl (wC_e2 ad cy σ6) rfl hl rfl (Nat.le_of_ble_eq_true rfl) dX11_run_82 ⟨Nat.zero_le _, Nat.zero_le _⟩ (fun H locs hI => ?_)
  obtain ⟨σ9, v10, g9, hf⟩ := zbi_use hf
  refine z_callVi (As := [.int v8]) (rest := []) hC hI (cX5_answerCalls_met st l D ad cy σ7 v8 _ g9) (zgV zw19_14 zw19_15 zw19_16 zw2_21 zw19_17) rfl ⟨rfl, rfl⟩ 1 hdX5_answerCalls ⟨Nat.le_of_ble_eq_true rfl, Nat.le_of_ble_eq_true rfl⟩ rfl rfl (wC_e7 ad cy σ7) rfl hl rfl (Nat.le_of_ble_eq_true rfl) dX11_run_85 ⟨Nat.zero_le _, Nat.zero_le _⟩ (fun H locs hI => ?_)
  refine lv_istore (lv' := [(7, .int v10), (0, .ref (ad 0)), (1, .int x1), (3, .long x3), (5, .int x5), (6, .int x6)]) hx hb dX11_run_88 hl (by decide) rfl (fun ls hl => ?_)
  refine lv_iload hx hb dX11_run_90 (lv_at hl 0 rfl) ?_
  refine lv_if_ne (tgt := 104) hx hb dX11_run_92 (by decide) (fun q => ?_) (fun q => ?_)
  · replace hf := zif_f q hf
    exact bX11_run_104 hC hk15 hI (lv_sub hl [1, 2, 3, 4, 0] rfl) hf
  replace hf := zif_t q hf
  refine lv_aload_n hx hb dX11_run_95 rfl (lv_at hl 1 rfl) ?_
  refine z_get hC hI hinX11_run_X110 0 (wC_e0 ad cy σ9) rfl 7 (by decide) (List.mem_cons_of_mem _ zw2_22) rfl dX11_run_96 ?_
  obtain ⟨σ11, v12, g11, hf⟩ := zbi_use hf
  refine z_callVi (As := []) (rest := []) hC hI (cX5_carryOn_met st l D ad cy σ9  _ g11) (zgV zw21_10 zw21_11 zw21_12 zw2_21 zw21_13) rfl ⟨rfl, rfl⟩ 0 hdX5_carryOn ⟨Nat.le_of_ble_eq_true rfl, Nat.le_of_ble_eq_true rfl⟩ rfl rfl (wC_e7 ad cy σ9) rfl hl rfl (Nat.le_of_ble_eq_true rfl) dX11_run_99 ⟨Nat.zero_le _, Nat.zero_le _⟩ (fun H locs hI => ?_)
  refine lv_istore (lv' := [(7, .int v12), (0, .ref (ad 0)), (1, .int x1), (3, .long x3), (5, .int x5), (6, .int x6)]) hx hb dX11_run_102 hl (by decide) rfl (fun ls hl => ?_)
  exact bX11_run_104 hC hk15 hI (lv_sub hl [1, 2, 3, 4, 0] rfl) hf
set_option maxRecDepth 20000 in
set_option maxHeartbeats 4000000 in
theorem bX11_run_15_body {st : Nat → Nat} {p : Program} {l : Launch} {e : Env} {s : State} {m : MethodId} {args : Array Value} {below : List Frame} {meth : Method} {c : Code} {D : va_G} {A : Nat → Prop} {ad : Nat → Nat} {cy : Nat → ClassId} (hC : zC p m c cX11_run 8 s args wzX11_run RX11 meth (some .int)) {k15 : zSt → Int32 → Int64 → Int32 → Option (zSt × Int32)} {res : zSt × Int32} (hk15 : ∀ (H : Heap) (locs : List Loc) (σ : zSt) (ls : Array Slot) (x1 : Int32) (x3 : Int64) (x5 : Int32), zI st D (tC cy) (wC ad cy σ) A s H locs → lv_has ls 8 [(0, .ref (ad 0)), (1, .int x1), (3, .long x3), (5, .int x5)] → k15 σ x1 x3 x5 = some res → W p l e rmX11_run s m args below meth c H locs 0 0 (zQi below args s D (tC cy) (wC ad cy) A res) (F0 m 15 ls [])) {H : Heap} {locs : List Loc} {σ : zSt} {ls : Array Slot} {x1 : Int32} {x3 : Int64} {x5 : Int32} (hI : zI st D (tC cy) (wC ad cy σ) A s H locs) (hl : lv_has ls 8 [(0, .ref (ad 0)), (1, .int x1), (3, .long x3), (5, .int x5)]) (hf : fX11_run_15_body k15 σ x1 x3 x5 = some res) : W p l e rmX11_run s m args below meth c H locs 0 0 (zQi below args s D (tC cy) (wC ad cy) A res) (F0 m 15 ls []) := by
  have hx := hC.1
  have hb := hC.2.1
  unfold fX11_run_15_body at hf
  refine lv_iload hx hb dX11_run_15 (lv_at hl 3 rfl) ?_
  refine lv_iload_n hx hb dX11_run_17 rfl (lv_at hl 1 rfl) ?_
  refine lv_icmp_ge (tgt := 135) hx hb dX11_run_18 (by decide) (fun q => ?_) (fun q => ?_)
  · replace hf := zif_t q hf
    exact bX11_run_135 hC  hI (lv_sub hl [3] rfl) hf
  replace hf := zif_f q hf
  refine lv_aload_n hx hb dX11_run_21 rfl (lv_at hl 0 rfl) ?_
  refine z_get hC hI hinX11_run_X110 0 (wC_e0 ad cy σ) rfl 8 (by decide) (List.mem_cons_of_mem _ zw3_2) rfl dX11_run_22 ?_
  refine lv_iconst (v := 2) hx hb dX11_run_25 (by decide) ?_
  obtain ⟨σ13, v14, g13, hf⟩ := zbl_use hf
  refine z_callVl (As := [.int 2]) (rest := []) hC hI (cX0_count_met st l D ad cy σ 2 _ g13) (zgV zw18_13 zw18_14 zw18_15 zw3_1 zw18_16) rfl ⟨rfl, rfl⟩ 1 hdX0_count ⟨Nat.le_of_ble_eq_true rfl, Nat.le_of_ble_eq_true rfl⟩ rfl rfl (wC_e8 ad cy σ) rfl hl rfl (Nat.le_of_ble_eq_true rfl) dX11_run_26 ⟨Nat.zero_le _, Nat.zero_le _⟩ (fun H locs hI => ?_)
  refine lv_lload_n hx hb dX11_run_29 rfl (lv_at hl 2 rfl) ?_
  refine W.lcmp hx hb dX11_run_30 ?_
  refine lv_if_ge (tgt := 135) hx hb dX11_run_31 (by decide) (fun q => ?_) (fun q => ?_)
  · replace hf := zif_t q hf
    exact bX11_run_135 hC  hI (lv_sub hl [3] rfl) hf
  replace hf := zif_f q hf
  refine lv_aload_n hx hb dX11_run_34 rfl (lv_at hl 0 rfl) ?_
  refine z_get hC hI hinX11_run_X110 0 (wC_e0 ad cy σ13) rfl 7 (by decide) (List.mem_cons_of_mem _ zw2_22) rfl dX11_run_35 ?_
  refine lv_bipush (v := 19) hx hb dX11_run_38 (by decide) ?_
  obtain ⟨σ15, v16, g15, hf⟩ := zbi_use hf
  refine z_callVi (As := [.int 19]) (rest := []) hC hI (cX5_value_met st l D ad cy σ13 19 _ g15) (zgV zw18_17 zw18_18 zw18_19 zw2_21 zw18_20) rfl ⟨rfl, rfl⟩ 1 hdX5_value ⟨Nat.le_of_ble_eq_true rfl, Nat.le_of_ble_eq_true rfl⟩ rfl rfl (wC_e7 ad cy σ13) rfl hl rfl (Nat.le_of_ble_eq_true rfl) dX11_run_40 ⟨Nat.zero_le _, Nat.zero_le _⟩ (fun H locs hI => ?_)
  refine lv_istore (lv' := [(6, .int v16), (0, .ref (ad 0)), (1, .int x1), (3, .long x3), (5, .int x5)]) hx hb dX11_run_43 hl (by decide) rfl (fun ls hl => ?_)
  refine lv_iload hx hb dX11_run_45 (lv_at hl 4 rfl) ?_
  refine lv_if_le (tgt := 65) hx hb dX11_run_47 (by decide) (fun q => ?_) (fun q => ?_)
  · replace hf := zif_t q hf
    exact bX11_run_65 hC hk15 hI (lv_sub hl [1, 2, 3, 4, 0] rfl) hf
  replace hf := zif_f q hf
  refine lv_aload_n hx hb dX11_run_50 rfl (lv_at hl 1 rfl) ?_
  refine z_get hC hI hinX11_run_X110 0 (wC_e0 ad cy σ15) rfl 9 (by decide) (List.mem_cons_of_mem _ zw3_6) rfl dX11_run_51 ?_
  refine lv_iload hx hb dX11_run_54 (lv_at hl 0 rfl) ?_
  obtain ⟨σ17, v18, g17, hf⟩ := zbi_use hf
  refine z_callVi (As := [.int v16]) (rest := []) hC hI (cX1_isStop_met st l D ad cy σ15 v16 _ g17) (zgV zw18_21 zw18_22 zw18_23 zw3_5 zw19_0) rfl ⟨rfl, rfl⟩ 1 hdX1_isStop ⟨Nat.le_of_ble_eq_true rfl, Nat.le_of_ble_eq_true rfl⟩ rfl rfl (wC_e9 ad cy σ15) rfl hl rfl (Nat.le_of_ble_eq_true rfl) dX11_run_56 ⟨Nat.zero_le _, Nat.zero_le _⟩ (fun H locs hI => ?_)
  refine lv_if_eq (tgt := 65) hx hb dX11_run_59 (by decide) (fun q => ?_) (fun q => ?_)
  · replace hf := zif_t q hf
    exact bX11_run_65 hC hk15 hI (lv_sub hl [1, 2, 3, 4, 0] rfl) hf
  replace hf := zif_f q hf
  refine lv_goto (tgt := 135) hx hb dX11_run_62 (by decide) ?_
  exact bX11_run_135 hC  hI (lv_sub hl [4] rfl) hf
theorem blX11_run_15 {st : Nat → Nat} {p : Program} {l : Launch} {e : Env} {s : State} {m : MethodId} {args : Array Value} {below : List Frame} {meth : Method} {c : Code} {D : va_G} {A : Nat → Prop} {ad : Nat → Nat} {cy : Nat → ClassId} (hC : zC p m c cX11_run 8 s args wzX11_run RX11 meth (some .int))  {res : zSt × Int32} : ∀ (n : Nat) (H : Heap) (locs : List Loc) (σ : zSt) (ls : Array Slot) (x1 : Int32) (x3 : Int64) (x5 : Int32), zI st D (tC cy) (wC ad cy σ) A s H locs → lv_has ls 8 [(0, .ref (ad 0)), (1, .int x1), (3, .long x3), (5, .int x5)] → fX11_run_15  n σ x1 x3 x5 = some res → W p l e rmX11_run s m args below meth c H locs 0 0 (zQi below args s D (tC cy) (wC ad cy) A res) (F0 m 15 ls []) := by
  intro n
  induction n with
  | zero => intro H locs σ ls x1 x3 x5 hI hl hf; cases hf
  | succ n ih => intro H locs σ ls x1 x3 x5 hI hl hf; exact bX11_run_15_body hC ih hI hl hf
set_option maxRecDepth 20000 in
set_option maxHeartbeats 4000000 in
theorem bX11_run {st : Nat → Nat} {p : Program} {l : Launch} {e : Env} {s : State} {m : MethodId} {args : Array Value} {below : List Frame} {meth : Method} {c : Code} {D : va_G} {A : Nat → Prop} {ad : Nat → Nat} {cy : Nat → ClassId} (hC : zC p m c cX11_run 8 s args wzX11_run RX11 meth (some .int))  {res : zSt × Int32} {H : Heap} {locs : List Loc} {σ : zSt} {ls : Array Slot} {x1 : Int32} {x2 : Int32} (hI : zI st D (tC cy) (wC ad cy σ) A s H locs) (hl : lv_has ls 8 [(0, .ref (ad 0)), (1, .int x1), (2, .int x2)]) (hf : fX11_run  σ x1 x2 = some res) : W p l e rmX11_run s m args below meth c H locs 0 0 (zQi below args s D (tC cy) (wC ad cy) A res) (F0 m 0 ls []) := by
  have hx := hC.1
  have hb := hC.2.1
  unfold fX11_run at hf
  refine lv_aload_n hx hb dX11_run_0 rfl (lv_at hl 0 rfl) ?_
  refine z_get hC hI hinX11_run_X110 0 (wC_e0 ad cy σ) rfl 8 (by decide) (List.mem_cons_of_mem _ zw3_2) rfl dX11_run_1 ?_
  refine lv_iconst (v := 2) hx hb dX11_run_4 (by decide) ?_
  obtain ⟨σ19, v20, g19, hf⟩ := zbl_use hf
  refine z_callVl (As := [.int 2]) (rest := []) hC hI (cX0_count_met st l D ad cy σ 2 _ g19) (zgV zw18_13 zw18_14 zw18_15 zw3_1 zw18_16) rfl ⟨rfl, rfl⟩ 1 hdX0_count ⟨Nat.le_of_ble_eq_true rfl, Nat.le_of_ble_eq_true rfl⟩ rfl rfl (wC_e8 ad cy σ) rfl hl rfl (Nat.le_of_ble_eq_true rfl) dX11_run_5 ⟨Nat.zero_le _, Nat.zero_le _⟩ (fun H locs hI => ?_)
  refine lv_iload_n hx hb dX11_run_8 rfl (lv_at hl 2 rfl) ?_
  refine lv_i2l (v := x2.toInt64) hx hb dX11_run_9 rfl ?_
  refine lv_ladd hx hb dX11_run_10 ?_
  refine lv_topl (fun v21 ev21 => ?_)
  replace hf := zbv_use ev21 hf
  refine lv_lstore_n (lv' := [(3, .long v21), (0, .ref (ad 0)), (1, .int x1), (2, .int x2)]) hx hb dX11_run_11 rfl hl (by decide) rfl (fun ls hl => ?_)
  refine lv_iconst (v := 0) hx hb dX11_run_12 (by decide) ?_
  refine lv_istore (lv' := [(5, .int 0), (3, .long v21), (0, .ref (ad 0)), (1, .int x1), (2, .int x2)]) hx hb dX11_run_13 hl (by decide) rfl (fun ls hl => ?_)
  exact blX11_run_15 hC  zfuel _ _ _ _ _ _ _ hI (lv_sub hl [2, 3, 1, 0] rfl) hf
set_option maxRecDepth 20000 in
theorem cX11_run_met (st : Nat → Nat) (l : Launch) (D : va_G) (ad : Nat → Nat) (cy : Nat → ClassId) (σ : zSt) (x1 : Int32) (x2 : Int32) (res : zSt × Int32) (hf : fX11_run σ x1 x2 = some res) (sz : Nat) : zMi st l yX11_run wzX11_run rmX11_run [.ref (ad 0), .int x1, .int x2] D (tC cy) (wC ad cy) sz σ res :=
  zMi.of (cc := cX11_run) (maxL := 8) (ret := (some .int)) (by decide) rfl (Nat.le_of_ble_eq_true rfl) (fun p e s m args below meth c hC A hI ls hl => bX11_run hC hI hl hf)
theorem hdX11_run : yX11_run.cls = RX11 ∧ yX11_run.cls ≠ "java/lang/invoke/MethodHandle" ∧ yX11_run.cls ≠ "java/lang/invoke/VarHandle" ∧ (parseMethodDescriptor yX11_run.desc).map (fun d => d.parameters.length) = some 2 := by decide +kernel
noncomputable def rmX11_reset : Room := { frames := 4, cells := 0, slots := 0, locals := 86 }
noncomputable def wzX11_reset : List Cond := .code yX11_reset cX11_reset 1 none :: wsL_law
noncomputable def fX11_reset  (σ : zSt)  : Option (zSt) :=
  zbu (fX11_clearAll σ ) (fun σ1 =>
  some σ1)
set_option maxRecDepth 20000 in
set_option maxHeartbeats 4000000 in
theorem bX11_reset {st : Nat → Nat} {p : Program} {l : Launch} {e : Env} {s : State} {m : MethodId} {args : Array Value} {below : List Frame} {meth : Method} {c : Code} {D : va_G} {A : Nat → Prop} {ad : Nat → Nat} {cy : Nat → ClassId} (hC : zC p m c cX11_reset 1 s args wzX11_reset RX11 meth none)  {res : zSt} {H : Heap} {locs : List Loc} {σ : zSt} {ls : Array Slot}  (hI : zI st D (tC cy) (wC ad cy σ) A s H locs) (hl : lv_has ls 1 [(0, .ref (ad 0))]) (hf : fX11_reset  σ  = some res) : W p l e rmX11_reset s m args below meth c H locs 0 0 (zQu below args s D (tC cy) (wC ad cy) A res) (F0 m 0 ls []) := by
  have hx := hC.1
  have hb := hC.2.1
  unfold fX11_reset at hf
  refine lv_aload_n hx hb dX11_reset_0 rfl (lv_at hl 0 rfl) ?_
  obtain ⟨σ1, g1, hf⟩ := zbu_use hf
  refine z_callVu (As := []) (rest := []) hC hI (cX11_clearAll_met st l D ad cy σ  _ g1) (zgV zw15_5 zw15_6 zw15_7 zw1_2 zw15_8) rfl ⟨rfl, rfl⟩ 0 hdX11_clearAll ⟨Nat.le_of_ble_eq_true rfl, Nat.le_of_ble_eq_true rfl⟩ rfl rfl (wC_e0 ad cy σ) rfl hl rfl (Nat.le_of_ble_eq_true rfl) dX11_reset_1 ⟨Nat.zero_le _, Nat.zero_le _⟩ (fun H locs hI => ?_)
  exact z_return hC hI hf dX11_reset_4
set_option maxRecDepth 20000 in
theorem cX11_reset_met (st : Nat → Nat) (l : Launch) (D : va_G) (ad : Nat → Nat) (cy : Nat → ClassId) (σ : zSt)  (res : zSt) (hf : fX11_reset σ  = some res) (sz : Nat) : zMu st l yX11_reset wzX11_reset rmX11_reset [.ref (ad 0)] D (tC cy) (wC ad cy) sz σ res :=
  zMu.of (cc := cX11_reset) (maxL := 1) (ret := none) (by decide) rfl (Nat.le_of_ble_eq_true rfl) (fun p e s m args below meth c hC A hI ls hl => bX11_reset hC hI hl hf)
theorem hdX11_reset : yX11_reset.cls = RX11 ∧ yX11_reset.cls ≠ "java/lang/invoke/MethodHandle" ∧ yX11_reset.cls ≠ "java/lang/invoke/VarHandle" ∧ (parseMethodDescriptor yX11_reset.desc).map (fun d => d.parameters.length) = some 0 := by decide +kernel
noncomputable def rmX11_pause : Room := { frames := 1, cells := 0, slots := 0, locals := 20 }
noncomputable def wzX11_pause : List Cond := .code yX11_pause cX11_pause 1 (some .boolean) :: wsL_law
theorem hinX11_pause_X110 : ∀ w ∈ wsX110, w ∈ wzX11_pause := fun w h => List.mem_cons_of_mem _ (inlX11 w h)
noncomputable def fX11_pause_26  (σ : zSt) (s0 : Int32) : Option (zSt × Int32) :=
  zck (zbo s0) (some (σ, s0))
noncomputable def fX11_pause_14  (σ : zSt)  : Option (zSt × Int32) :=
  if (zgi σ 0 0) = 0 then fX11_pause_26 σ 1 else
  fX11_pause_26 σ 0
noncomputable def fX11_pause  (σ : zSt)  : Option (zSt × Int32) :=
  if (zgi σ 0 0) = 0 then zbu (fX5_askForPause σ ) (fun σ1 =>
  fX11_pause_14 σ1) else
  fX11_pause_14 σ
set_option maxRecDepth 20000 in
set_option maxHeartbeats 4000000 in
theorem bX11_pause_26 {st : Nat → Nat} {p : Program} {l : Launch} {e : Env} {s : State} {m : MethodId} {args : Array Value} {below : List Frame} {meth : Method} {c : Code} {D : va_G} {A : Nat → Prop} {ad : Nat → Nat} {cy : Nat → ClassId} (hC : zC p m c cX11_pause 1 s args wzX11_pause RX11 meth (some .boolean))  {res : zSt × Int32} {H : Heap} {locs : List Loc} {σ : zSt} {ls : Array Slot} {s0 : Int32} (hI : zI st D (tC cy) (wC ad cy σ) A s H locs) (hl : lv_has ls 1 []) (hf : fX11_pause_26  σ s0 = some res) : W p l e rmX11_pause s m args below meth c H locs 0 0 (zQi below args s D (tC cy) (wC ad cy) A res) (F0 m 26 ls [.int s0]) := by
  have hx := hC.1
  have hb := hC.2.1
  unfold fX11_pause_26 at hf
  obtain ⟨q, hf⟩ := zck_use hf
  exact z_zreturn hC hI (zbo_n q) hf dX11_pause_26
set_option maxRecDepth 20000 in
set_option maxHeartbeats 4000000 in
theorem bX11_pause_14 {st : Nat → Nat} {p : Program} {l : Launch} {e : Env} {s : State} {m : MethodId} {args : Array Value} {below : List Frame} {meth : Method} {c : Code} {D : va_G} {A : Nat → Prop} {ad : Nat → Nat} {cy : Nat → ClassId} (hC : zC p m c cX11_pause 1 s args wzX11_pause RX11 meth (some .boolean))  {res : zSt × Int32} {H : Heap} {locs : List Loc} {σ : zSt} {ls : Array Slot}  (hI : zI st D (tC cy) (wC ad cy σ) A s H locs) (hl : lv_has ls 1 [(0, .ref (ad 0))]) (hf : fX11_pause_14  σ  = some res) : W p l e rmX11_pause s m args below meth c H locs 0 0 (zQi below args s D (tC cy) (wC ad cy) A res) (F0 m 14 ls []) := by
  have hx := hC.1
  have hb := hC.2.1
  unfold fX11_pause_14 at hf
  refine lv_aload_n hx hb dX11_pause_14 rfl (lv_at hl 0 rfl) ?_
  refine z_get hC hI hinX11_pause_X110 0 (wC_e0 ad cy σ) rfl 0 (by decide) (List.mem_cons_of_mem _ zw1_18) rfl dX11_pause_15 ?_
  refine lv_if_ne (tgt := 25) hx hb dX11_pause_18 (by decide) (fun q => ?_) (fun q => ?_)
  · replace hf := zif_f q hf
    refine lv_iconst (v := 0) hx hb dX11_pause_25 (by decide) ?_
    exact bX11_pause_26 hC  hI (lv_sub hl [] rfl) hf
  replace hf := zif_t q hf
  refine lv_iconst (v := 1) hx hb dX11_pause_21 (by decide) ?_
  refine lv_goto (tgt := 26) hx hb dX11_pause_22 (by decide) ?_
  exact bX11_pause_26 hC  hI (lv_sub hl [] rfl) hf
set_option maxRecDepth 20000 in
set_option maxHeartbeats 4000000 in
theorem bX11_pause {st : Nat → Nat} {p : Program} {l : Launch} {e : Env} {s : State} {m : MethodId} {args : Array Value} {below : List Frame} {meth : Method} {c : Code} {D : va_G} {A : Nat → Prop} {ad : Nat → Nat} {cy : Nat → ClassId} (hC : zC p m c cX11_pause 1 s args wzX11_pause RX11 meth (some .boolean))  {res : zSt × Int32} {H : Heap} {locs : List Loc} {σ : zSt} {ls : Array Slot}  (hI : zI st D (tC cy) (wC ad cy σ) A s H locs) (hl : lv_has ls 1 [(0, .ref (ad 0))]) (hf : fX11_pause  σ  = some res) : W p l e rmX11_pause s m args below meth c H locs 0 0 (zQi below args s D (tC cy) (wC ad cy) A res) (F0 m 0 ls []) := by
  have hx := hC.1
  have hb := hC.2.1
  unfold fX11_pause at hf
  refine lv_aload_n hx hb dX11_pause_0 rfl (lv_at hl 0 rfl) ?_
  refine z_get hC hI hinX11_pause_X110 0 (wC_e0 ad cy σ) rfl 0 (by decide) (List.mem_cons_of_mem _ zw1_18) rfl dX11_pause_1 ?_
  refine lv_if_ne (tgt := 14) hx hb dX11_pause_4 (by decide) (fun q => ?_) (fun q => ?_)
  · replace hf := zif_f q hf
    exact bX11_pause_14 hC  hI hl hf
  replace hf := zif_t q hf
  refine lv_aload_n hx hb dX11_pause_7 rfl (lv_at hl 0 rfl) ?_
  refine z_get hC hI hinX11_pause_X110 0 (wC_e0 ad cy σ) rfl 7 (by decide) (List.mem_cons_of_mem _ zw2_22) rfl dX11_pause_8 ?_
  obtain ⟨σ1, g1, hf⟩ := zbu_use hf
  refine z_callVu (As := []) (rest := []) hC hI (cX5_askForPause_met st l D ad cy σ  _ g1) (zgV zw66_19 zw66_20 zw66_21 zw2_21 zw66_22) rfl ⟨rfl, rfl⟩ 0 hdX5_askForPause ⟨Nat.le_of_ble_eq_true rfl, Nat.le_of_ble_eq_true rfl⟩ rfl rfl (wC_e7 ad cy σ) rfl hl rfl (Nat.le_of_ble_eq_true rfl) dX11_pause_11 ⟨Nat.zero_le _, Nat.zero_le _⟩ (fun H locs hI => ?_)
  exact bX11_pause_14 hC  hI hl hf
set_option maxRecDepth 20000 in
theorem cX11_pause_met (st : Nat → Nat) (l : Launch) (D : va_G) (ad : Nat → Nat) (cy : Nat → ClassId) (σ : zSt)  (res : zSt × Int32) (hf : fX11_pause σ  = some res) (sz : Nat) : zMi st l yX11_pause wzX11_pause rmX11_pause [.ref (ad 0)] D (tC cy) (wC ad cy) sz σ res :=
  zMi.of (cc := cX11_pause) (maxL := 1) (ret := (some .boolean)) (by decide) rfl (Nat.le_of_ble_eq_true rfl) (fun p e s m args below meth c hC A hI ls hl => bX11_pause hC hI hl hf)
theorem hdX11_pause : yX11_pause.cls = RX11 ∧ yX11_pause.cls ≠ "java/lang/invoke/MethodHandle" ∧ yX11_pause.cls ≠ "java/lang/invoke/VarHandle" ∧ (parseMethodDescriptor yX11_pause.desc).map (fun d => d.parameters.length) = some 0 := by decide +kernel
noncomputable def rmX11_start : Room := { frames := 1, cells := 0, slots := 0, locals := 21 }
noncomputable def wzX11_start : List Cond := .code yX11_start cX11_start 2 none :: wsL_law
theorem hinX11_start_X110 : ∀ w ∈ wsX110, w ∈ wzX11_start := fun w h => List.mem_cons_of_mem _ (inlX11 w h)
noncomputable def fX11_start  (σ : zSt) (x1 : Int32) : Option (zSt) :=
  zbu (fX4_holdStart σ x1) (fun σ1 =>
  some σ1)
set_option maxRecDepth 20000 in
set_option maxHeartbeats 4000000 in
theorem bX11_start {st : Nat → Nat} {p : Program} {l : Launch} {e : Env} {s : State} {m : MethodId} {args : Array Value} {below : List Frame} {meth : Method} {c : Code} {D : va_G} {A : Nat → Prop} {ad : Nat → Nat} {cy : Nat → ClassId} (hC : zC p m c cX11_start 2 s args wzX11_start RX11 meth none)  {res : zSt} {H : Heap} {locs : List Loc} {σ : zSt} {ls : Array Slot} {x1 : Int32} (hI : zI st D (tC cy) (wC ad cy σ) A s H locs) (hl : lv_has ls 2 [(0, .ref (ad 0)), (1, .int x1)]) (hf : fX11_start  σ x1 = some res) : W p l e rmX11_start s m args below meth c H locs 0 0 (zQu below args s D (tC cy) (wC ad cy) A res) (F0 m 0 ls []) := by
  have hx := hC.1
  have hb := hC.2.1
  unfold fX11_start at hf
  refine lv_aload_n hx hb dX11_start_0 rfl (lv_at hl 0 rfl) ?_
  refine z_get hC hI hinX11_start_X110 0 (wC_e0 ad cy σ) rfl 6 (by decide) (List.mem_cons_of_mem _ zw2_18) rfl dX11_start_1 ?_
  refine lv_iload_n hx hb dX11_start_4 rfl (lv_at hl 1 rfl) ?_
  obtain ⟨σ1, g1, hf⟩ := zbu_use hf
  refine z_callVu (As := [.int x1]) (rest := []) hC hI (cX4_holdStart_met st l D ad cy σ x1 _ g1) (zgV zw67_23 zw68_0 zw68_1 zw2_17 zw68_2) rfl ⟨rfl, rfl⟩ 1 hdX4_holdStart ⟨Nat.le_of_ble_eq_true rfl, Nat.le_of_ble_eq_true rfl⟩ rfl rfl (wC_e6 ad cy σ) rfl hl rfl (Nat.le_of_ble_eq_true rfl) dX11_start_5 ⟨Nat.zero_le _, Nat.zero_le _⟩ (fun H locs hI => ?_)
  exact z_return hC hI hf dX11_start_8
set_option maxRecDepth 20000 in
theorem cX11_start_met (st : Nat → Nat) (l : Launch) (D : va_G) (ad : Nat → Nat) (cy : Nat → ClassId) (σ : zSt) (x1 : Int32) (res : zSt) (hf : fX11_start σ x1 = some res) (sz : Nat) : zMu st l yX11_start wzX11_start rmX11_start [.ref (ad 0), .int x1] D (tC cy) (wC ad cy) sz σ res :=
  zMu.of (cc := cX11_start) (maxL := 2) (ret := none) (by decide) rfl (Nat.le_of_ble_eq_true rfl) (fun p e s m args below meth c hC A hI ls hl => bX11_start hC hI hl hf)
theorem hdX11_start : yX11_start.cls = RX11 ∧ yX11_start.cls ≠ "java/lang/invoke/MethodHandle" ∧ yX11_start.cls ≠ "java/lang/invoke/VarHandle" ∧ (parseMethodDescriptor yX11_start.desc).map (fun d => d.parameters.length) = some 1 := by decide +kernel
noncomputable def rmX11_tell : Room := { frames := 10, cells := 0, slots := 0, locals := 249 }
noncomputable def wzX11_tell : List Cond := .code yX11_tell cX11_tell 2 (some .int) :: wsL_law
theorem hinX11_tell_X110 : ∀ w ∈ wsX110, w ∈ wzX11_tell := fun w h => List.mem_cons_of_mem _ (inlX11 w h)
noncomputable def fX11_tell  (σ : zSt) (x1 : Int32) : Option (zSt × Int32) :=
  zbi (fX8_write σ x1) (fun σ1 v2 =>
  some (σ1, v2))
set_option maxRecDepth 20000 in
set_option maxHeartbeats 4000000 in
theorem bX11_tell {st : Nat → Nat} {p : Program} {l : Launch} {e : Env} {s : State} {m : MethodId} {args : Array Value} {below : List Frame} {meth : Method} {c : Code} {D : va_G} {A : Nat → Prop} {ad : Nat → Nat} {cy : Nat → ClassId} (hC : zC p m c cX11_tell 2 s args wzX11_tell RX11 meth (some .int))  {res : zSt × Int32} {H : Heap} {locs : List Loc} {σ : zSt} {ls : Array Slot} {x1 : Int32} (hI : zI st D (tC cy) (wC ad cy σ) A s H locs) (hl : lv_has ls 2 [(0, .ref (ad 0)), (1, .int x1)]) (hf : fX11_tell  σ x1 = some res) : W p l e rmX11_tell s m args below meth c H locs 0 0 (zQi below args s D (tC cy) (wC ad cy) A res) (F0 m 0 ls []) := by
  have hx := hC.1
  have hb := hC.2.1
  unfold fX11_tell at hf
  refine lv_aload_n hx hb dX11_tell_0 rfl (lv_at hl 0 rfl) ?_
  refine z_get hC hI hinX11_tell_X110 0 (wC_e0 ad cy σ) rfl 10 (by decide) (List.mem_cons_of_mem _ zw3_10) rfl dX11_tell_1 ?_
  refine lv_iload_n hx hb dX11_tell_4 rfl (lv_at hl 1 rfl) ?_
  obtain ⟨σ1, v2, g1, hf⟩ := zbi_use hf
  refine z_callVi (As := [.int x1]) (rest := []) hC hI (cX8_write_met st l D ad cy σ x1 _ g1) (zgV zw70_1 zw70_2 zw70_3 zw3_9 zw70_4) rfl ⟨rfl, rfl⟩ 1 hdX8_write ⟨Nat.le_of_ble_eq_true rfl, Nat.le_of_ble_eq_true rfl⟩ rfl rfl (wC_e10 ad cy σ) rfl hl rfl (Nat.le_of_ble_eq_true rfl) dX11_tell_5 ⟨Nat.zero_le _, Nat.zero_le _⟩ (fun H locs hI => ?_)
  exact z_ireturn hC hI hf dX11_tell_8
set_option maxRecDepth 20000 in
theorem cX11_tell_met (st : Nat → Nat) (l : Launch) (D : va_G) (ad : Nat → Nat) (cy : Nat → ClassId) (σ : zSt) (x1 : Int32) (res : zSt × Int32) (hf : fX11_tell σ x1 = some res) (sz : Nat) : zMi st l yX11_tell wzX11_tell rmX11_tell [.ref (ad 0), .int x1] D (tC cy) (wC ad cy) sz σ res :=
  zMi.of (cc := cX11_tell) (maxL := 2) (ret := (some .int)) (by decide) rfl (Nat.le_of_ble_eq_true rfl) (fun p e s m args below meth c hC A hI ls hl => bX11_tell hC hI hl hf)
theorem hdX11_tell : yX11_tell.cls = RX11 ∧ yX11_tell.cls ≠ "java/lang/invoke/MethodHandle" ∧ yX11_tell.cls ≠ "java/lang/invoke/VarHandle" ∧ (parseMethodDescriptor yX11_tell.desc).map (fun d => d.parameters.length) = some 1 := by decide +kernel
noncomputable def rmX11_save : Room := { frames := 3, cells := 0, slots := 0, locals := 104 }
noncomputable def wzX11_save : List Cond := .code yX11_save cX11_save 1 none :: wsL_law
theorem hinX11_save_X110 : ∀ w ∈ wsX110, w ∈ wzX11_save := fun w h => List.mem_cons_of_mem _ (inlX11 w h)
noncomputable def fX11_save  (σ : zSt)  : Option (zSt) :=
  zbu (fX2_keep σ ) (fun σ1 =>
  zbu (fX9_keep σ1 ) (fun σ2 =>
  zbu (fX3_keep σ2 ) (fun σ3 =>
  zbu (fX7_keep σ3 ) (fun σ4 =>
  zbu (fX10_keep σ4 ) (fun σ5 =>
  zbu (fX4_keep σ5 ) (fun σ6 =>
  zbu (fX5_keep σ6 ) (fun σ7 =>
  zbu (fX0_keep σ7 ) (fun σ8 =>
  zbu (fX1_keep σ8 ) (fun σ9 =>
  zck (zbo 1) (zbv (zsi σ9 0 11 1) (fun σ10 =>
  some σ10)))))))))))
set_option maxRecDepth 20000 in
set_option maxHeartbeats 4000000 in
theorem bX11_save {st : Nat → Nat} {p : Program} {l : Launch} {e : Env} {s : State} {m : MethodId} {args : Array Value} {below : List Frame} {meth : Method} {c : Code} {D : va_G} {A : Nat → Prop} {ad : Nat → Nat} {cy : Nat → ClassId} (hC : zC p m c cX11_save 1 s args wzX11_save RX11 meth none)  {res : zSt} {H : Heap} {locs : List Loc} {σ : zSt} {ls : Array Slot}  (hI : zI st D (tC cy) (wC ad cy σ) A s H locs) (hl : lv_has ls 1 [(0, .ref (ad 0))]) (hf : fX11_save  σ  = some res) : W p l e rmX11_save s m args below meth c H locs 0 0 (zQu below args s D (tC cy) (wC ad cy) A res) (F0 m 0 ls []) := by
  have hx := hC.1
  have hb := hC.2.1
  unfold fX11_save at hf
  refine lv_aload_n hx hb dX11_save_0 rfl (lv_at hl 0 rfl) ?_
  refine z_get hC hI hinX11_save_X110 0 (wC_e0 ad cy σ) rfl 1 (by decide) (List.mem_cons_of_mem _ zw1_22) rfl dX11_save_1 ?_
  obtain ⟨σ1, g1, hf⟩ := zbu_use hf
  refine z_callVu (As := []) (rest := []) hC hI (cX2_keep_met st l D ad cy σ  _ g1) (zgV zw80_1 zw80_2 zw80_3 zw1_21 zw80_4) rfl ⟨rfl, rfl⟩ 0 hdX2_keep ⟨Nat.le_of_ble_eq_true rfl, Nat.le_of_ble_eq_true rfl⟩ rfl rfl (wC_e1 ad cy σ) rfl hl rfl (Nat.le_of_ble_eq_true rfl) dX11_save_4 ⟨Nat.zero_le _, Nat.zero_le _⟩ (fun H locs hI => ?_)
  refine lv_aload_n hx hb dX11_save_7 rfl (lv_at hl 0 rfl) ?_
  refine z_get hC hI hinX11_save_X110 0 (wC_e0 ad cy σ1) rfl 2 (by decide) (List.mem_cons_of_mem _ zw2_2) rfl dX11_save_8 ?_
  obtain ⟨σ2, g2, hf⟩ := zbu_use hf
  refine z_callVu (As := []) (rest := []) hC hI (cX9_keep_met st l D ad cy σ1  _ g2) (zgV zw80_9 zw80_10 zw80_11 zw2_1 zw80_12) rfl ⟨rfl, rfl⟩ 0 hdX9_keep ⟨Nat.le_of_ble_eq_true rfl, Nat.le_of_ble_eq_true rfl⟩ rfl rfl (wC_e2 ad cy σ1) rfl hl rfl (Nat.le_of_ble_eq_true rfl) dX11_save_11 ⟨Nat.zero_le _, Nat.zero_le _⟩ (fun H locs hI => ?_)
  refine lv_aload_n hx hb dX11_save_14 rfl (lv_at hl 0 rfl) ?_
  refine z_get hC hI hinX11_save_X110 0 (wC_e0 ad cy σ2) rfl 3 (by decide) (List.mem_cons_of_mem _ zw2_6) rfl dX11_save_15 ?_
  obtain ⟨σ3, g3, hf⟩ := zbu_use hf
  refine z_callVu (As := []) (rest := []) hC hI (cX3_keep_met st l D ad cy σ2  _ g3) (zgV zw80_14 zw80_15 zw80_16 zw2_5 zw80_17) rfl ⟨rfl, rfl⟩ 0 hdX3_keep ⟨Nat.le_of_ble_eq_true rfl, Nat.le_of_ble_eq_true rfl⟩ rfl rfl (wC_e3 ad cy σ2) rfl hl rfl (Nat.le_of_ble_eq_true rfl) dX11_save_18 ⟨Nat.zero_le _, Nat.zero_le _⟩ (fun H locs hI => ?_)
  refine lv_aload_n hx hb dX11_save_21 rfl (lv_at hl 0 rfl) ?_
  refine z_get hC hI hinX11_save_X110 0 (wC_e0 ad cy σ3) rfl 4 (by decide) (List.mem_cons_of_mem _ zw2_10) rfl dX11_save_22 ?_
  obtain ⟨σ4, g4, hf⟩ := zbu_use hf
  refine z_callVu (As := []) (rest := []) hC hI (cX7_keep_met st l D ad cy σ3  _ g4) (zgV zw80_19 zw80_20 zw80_21 zw2_9 zw80_22) rfl ⟨rfl, rfl⟩ 0 hdX7_keep ⟨Nat.le_of_ble_eq_true rfl, Nat.le_of_ble_eq_true rfl⟩ rfl rfl (wC_e4 ad cy σ3) rfl hl rfl (Nat.le_of_ble_eq_true rfl) dX11_save_25 ⟨Nat.zero_le _, Nat.zero_le _⟩ (fun H locs hI => ?_)
  refine lv_aload_n hx hb dX11_save_28 rfl (lv_at hl 0 rfl) ?_
  refine z_get hC hI hinX11_save_X110 0 (wC_e0 ad cy σ4) rfl 5 (by decide) (List.mem_cons_of_mem _ zw2_14) rfl dX11_save_29 ?_
  obtain ⟨σ5, g5, hf⟩ := zbu_use hf
  refine z_callVu (As := []) (rest := []) hC hI (cX10_keep_met st l D ad cy σ4  _ g5) (zgV zw81_0 zw81_1 zw81_2 zw2_13 zw81_3) rfl ⟨rfl, rfl⟩ 0 hdX10_keep ⟨Nat.le_of_ble_eq_true rfl, Nat.le_of_ble_eq_true rfl⟩ rfl rfl (wC_e5 ad cy σ4) rfl hl rfl (Nat.le_of_ble_eq_true rfl) dX11_save_32 ⟨Nat.zero_le _, Nat.zero_le _⟩ (fun H locs hI => ?_)
  refine lv_aload_n hx hb dX11_save_35 rfl (lv_at hl 0 rfl) ?_
  refine z_get hC hI hinX11_save_X110 0 (wC_e0 ad cy σ5) rfl 6 (by decide) (List.mem_cons_of_mem _ zw2_18) rfl dX11_save_36 ?_
  obtain ⟨σ6, g6, hf⟩ := zbu_use hf
  refine z_callVu (As := []) (rest := []) hC hI (cX4_keep_met st l D ad cy σ5  _ g6) (zgV zw81_5 zw81_6 zw81_7 zw2_17 zw81_8) rfl ⟨rfl, rfl⟩ 0 hdX4_keep ⟨Nat.le_of_ble_eq_true rfl, Nat.le_of_ble_eq_true rfl⟩ rfl rfl (wC_e6 ad cy σ5) rfl hl rfl (Nat.le_of_ble_eq_true rfl) dX11_save_39 ⟨Nat.zero_le _, Nat.zero_le _⟩ (fun H locs hI => ?_)
  refine lv_aload_n hx hb dX11_save_42 rfl (lv_at hl 0 rfl) ?_
  refine z_get hC hI hinX11_save_X110 0 (wC_e0 ad cy σ6) rfl 7 (by decide) (List.mem_cons_of_mem _ zw2_22) rfl dX11_save_43 ?_
  obtain ⟨σ7, g7, hf⟩ := zbu_use hf
  refine z_callVu (As := []) (rest := []) hC hI (cX5_keep_met st l D ad cy σ6  _ g7) (zgV zw81_10 zw81_11 zw81_12 zw2_21 zw81_13) rfl ⟨rfl, rfl⟩ 0 hdX5_keep ⟨Nat.le_of_ble_eq_true rfl, Nat.le_of_ble_eq_true rfl⟩ rfl rfl (wC_e7 ad cy σ6) rfl hl rfl (Nat.le_of_ble_eq_true rfl) dX11_save_46 ⟨Nat.zero_le _, Nat.zero_le _⟩ (fun H locs hI => ?_)
  refine lv_aload_n hx hb dX11_save_49 rfl (lv_at hl 0 rfl) ?_
  refine z_get hC hI hinX11_save_X110 0 (wC_e0 ad cy σ7) rfl 8 (by decide) (List.mem_cons_of_mem _ zw3_2) rfl dX11_save_50 ?_
  obtain ⟨σ8, g8, hf⟩ := zbu_use hf
  refine z_callVu (As := []) (rest := []) hC hI (cX0_keep_met st l D ad cy σ7  _ g8) (zgV zw81_15 zw81_16 zw81_17 zw3_1 zw81_18) rfl ⟨rfl, rfl⟩ 0 hdX0_keep ⟨Nat.le_of_ble_eq_true rfl, Nat.le_of_ble_eq_true rfl⟩ rfl rfl (wC_e8 ad cy σ7) rfl hl rfl (Nat.le_of_ble_eq_true rfl) dX11_save_53 ⟨Nat.zero_le _, Nat.zero_le _⟩ (fun H locs hI => ?_)
  refine lv_aload_n hx hb dX11_save_56 rfl (lv_at hl 0 rfl) ?_
  refine z_get hC hI hinX11_save_X110 0 (wC_e0 ad cy σ8) rfl 9 (by decide) (List.mem_cons_of_mem _ zw3_6) rfl dX11_save_57 ?_
  obtain ⟨σ9, g9, hf⟩ := zbu_use hf
  refine z_callVu (As := []) (rest := []) hC hI (cX1_keep_met st l D ad cy σ8  _ g9) (zgV zw82_3 zw82_4 zw82_5 zw3_5 zw82_6) rfl ⟨rfl, rfl⟩ 0 hdX1_keep ⟨Nat.le_of_ble_eq_true rfl, Nat.le_of_ble_eq_true rfl⟩ rfl rfl (wC_e9 ad cy σ8) rfl hl rfl (Nat.le_of_ble_eq_true rfl) dX11_save_60 ⟨Nat.zero_le _, Nat.zero_le _⟩ (fun H locs hI => ?_)
  refine lv_aload_n hx hb dX11_save_63 rfl (lv_at hl 0 rfl) ?_
  refine lv_iconst (v := 1) hx hb dX11_save_64 (by decide) ?_
  obtain ⟨q, hf⟩ := zck_use hf
  obtain ⟨σ10, eσ10⟩ : ∃ z, z = zsi σ9 0 11 1 := ⟨_, rfl⟩
  replace hf := zbv_use eσ10 hf
  refine z_put hC hI hinX11_save_X110 tyX11_ok nmX11 0 (wC_e0 ad cy σ9) rfl 11 (by decide) (List.mem_cons_of_mem _ zw13_19) rfl (zbo_n q) (zbo_f q) (Nat.le_of_ble_eq_true rfl) ((wC_s0_11 ad cy σ9 1).trans (congrArg (wC ad cy) eσ10.symm)) dX11_save_65 (fun H locs hI => ?_)
  exact z_return hC hI hf dX11_save_68
set_option maxRecDepth 20000 in
theorem cX11_save_met (st : Nat → Nat) (l : Launch) (D : va_G) (ad : Nat → Nat) (cy : Nat → ClassId) (σ : zSt)  (res : zSt) (hf : fX11_save σ  = some res) (sz : Nat) : zMu st l yX11_save wzX11_save rmX11_save [.ref (ad 0)] D (tC cy) (wC ad cy) sz σ res :=
  zMu.of (cc := cX11_save) (maxL := 1) (ret := none) (by decide) rfl (Nat.le_of_ble_eq_true rfl) (fun p e s m args below meth c hC A hI ls hl => bX11_save hC hI hl hf)
theorem hdX11_save : yX11_save.cls = RX11 ∧ yX11_save.cls ≠ "java/lang/invoke/MethodHandle" ∧ yX11_save.cls ≠ "java/lang/invoke/VarHandle" ∧ (parseMethodDescriptor yX11_save.desc).map (fun d => d.parameters.length) = some 0 := by decide +kernel
noncomputable def rmX11_peek : Room := { frames := 2, cells := 0, slots := 0, locals := 47 }
noncomputable def wzX11_peek : List Cond := .code yX11_peek cX11_peek 2 (some .int) :: wsL_law
theorem hinX11_peek_X110 : ∀ w ∈ wsX110, w ∈ wzX11_peek := fun w h => List.mem_cons_of_mem _ (inlX11 w h)
noncomputable def fX11_peek  (σ : zSt) (x1 : Int32) : Option (zSt × Int32) :=
  zbi (fX2_read σ (x1 &&& 65535)) (fun σ1 v2 =>
  some (σ1, v2))
set_option maxRecDepth 20000 in
set_option maxHeartbeats 4000000 in
theorem bX11_peek {st : Nat → Nat} {p : Program} {l : Launch} {e : Env} {s : State} {m : MethodId} {args : Array Value} {below : List Frame} {meth : Method} {c : Code} {D : va_G} {A : Nat → Prop} {ad : Nat → Nat} {cy : Nat → ClassId} (hC : zC p m c cX11_peek 2 s args wzX11_peek RX11 meth (some .int))  {res : zSt × Int32} {H : Heap} {locs : List Loc} {σ : zSt} {ls : Array Slot} {x1 : Int32} (hI : zI st D (tC cy) (wC ad cy σ) A s H locs) (hl : lv_has ls 2 [(0, .ref (ad 0)), (1, .int x1)]) (hf : fX11_peek  σ x1 = some res) : W p l e rmX11_peek s m args below meth c H locs 0 0 (zQi below args s D (tC cy) (wC ad cy) A res) (F0 m 0 ls []) := by
  have hx := hC.1
  have hb := hC.2.1
  unfold fX11_peek at hf
  refine lv_aload_n hx hb dX11_peek_0 rfl (lv_at hl 0 rfl) ?_
  refine z_get hC hI hinX11_peek_X110 0 (wC_e0 ad cy σ) rfl 1 (by decide) (List.mem_cons_of_mem _ zw1_22) rfl dX11_peek_1 ?_
  refine lv_iload_n hx hb dX11_peek_4 rfl (lv_at hl 1 rfl) ?_
  refine lv_ldc (v := 65535) hx hb hC.2.2.2.1 (hC.2.2.2.2.1 _ (List.mem_cons_of_mem _ zw79_6)) dX11_peek_5 ?_
  refine lv_iand hx hb dX11_peek_7 ?_
  obtain ⟨σ1, v2, g1, hf⟩ := zbi_use hf
  refine z_callVi (As := [.int (x1 &&& 65535)]) (rest := []) hC hI (cX2_read_met st l D ad cy σ (x1 &&& 65535) _ g1) (zgV zw86_1 zw21_7 zw21_8 zw1_21 zw21_9) rfl ⟨rfl, rfl⟩ 1 hdX2_read ⟨Nat.le_of_ble_eq_true rfl, Nat.le_of_ble_eq_true rfl⟩ rfl rfl (wC_e1 ad cy σ) rfl hl rfl (Nat.le_of_ble_eq_true rfl) dX11_peek_8 ⟨Nat.zero_le _, Nat.zero_le _⟩ (fun H locs hI => ?_)
  exact z_ireturn hC hI hf dX11_peek_11
set_option maxRecDepth 20000 in
theorem cX11_peek_met (st : Nat → Nat) (l : Launch) (D : va_G) (ad : Nat → Nat) (cy : Nat → ClassId) (σ : zSt) (x1 : Int32) (res : zSt × Int32) (hf : fX11_peek σ x1 = some res) (sz : Nat) : zMi st l yX11_peek wzX11_peek rmX11_peek [.ref (ad 0), .int x1] D (tC cy) (wC ad cy) sz σ res :=
  zMi.of (cc := cX11_peek) (maxL := 2) (ret := (some .int)) (by decide) rfl (Nat.le_of_ble_eq_true rfl) (fun p e s m args below meth c hC A hI ls hl => bX11_peek hC hI hl hf)
theorem hdX11_peek : yX11_peek.cls = RX11 ∧ yX11_peek.cls ≠ "java/lang/invoke/MethodHandle" ∧ yX11_peek.cls ≠ "java/lang/invoke/VarHandle" ∧ (parseMethodDescriptor yX11_peek.desc).map (fun d => d.parameters.length) = some 1 := by decide +kernel
noncomputable def rmX11_poke : Room := { frames := 2, cells := 0, slots := 0, locals := 44 }
noncomputable def wzX11_poke : List Cond := .code yX11_poke cX11_poke 3 none :: wsL_law
theorem hinX11_poke_X110 : ∀ w ∈ wsX110, w ∈ wzX11_poke := fun w h => List.mem_cons_of_mem _ (inlX11 w h)
noncomputable def fX11_poke  (σ : zSt) (x1 : Int32) (x2 : Int32) : Option (zSt) :=
  zbu (fX2_write σ (x1 &&& 65535) (x2 &&& 255)) (fun σ1 =>
  some σ1)
set_option maxRecDepth 20000 in
set_option maxHeartbeats 4000000 in
theorem bX11_poke {st : Nat → Nat} {p : Program} {l : Launch} {e : Env} {s : State} {m : MethodId} {args : Array Value} {below : List Frame} {meth : Method} {c : Code} {D : va_G} {A : Nat → Prop} {ad : Nat → Nat} {cy : Nat → ClassId} (hC : zC p m c cX11_poke 3 s args wzX11_poke RX11 meth none)  {res : zSt} {H : Heap} {locs : List Loc} {σ : zSt} {ls : Array Slot} {x1 : Int32} {x2 : Int32} (hI : zI st D (tC cy) (wC ad cy σ) A s H locs) (hl : lv_has ls 3 [(0, .ref (ad 0)), (1, .int x1), (2, .int x2)]) (hf : fX11_poke  σ x1 x2 = some res) : W p l e rmX11_poke s m args below meth c H locs 0 0 (zQu below args s D (tC cy) (wC ad cy) A res) (F0 m 0 ls []) := by
  have hx := hC.1
  have hb := hC.2.1
  unfold fX11_poke at hf
  refine lv_aload_n hx hb dX11_poke_0 rfl (lv_at hl 0 rfl) ?_
  refine z_get hC hI hinX11_poke_X110 0 (wC_e0 ad cy σ) rfl 1 (by decide) (List.mem_cons_of_mem _ zw1_22) rfl dX11_poke_1 ?_
  refine lv_iload_n hx hb dX11_poke_4 rfl (lv_at hl 1 rfl) ?_
  refine lv_ldc (v := 65535) hx hb hC.2.2.2.1 (hC.2.2.2.2.1 _ (List.mem_cons_of_mem _ zw79_6)) dX11_poke_5 ?_
  refine lv_iand hx hb dX11_poke_7 ?_
  refine lv_iload_n hx hb dX11_poke_8 rfl (lv_at hl 2 rfl) ?_
  refine lv_sipush (v := 255) hx hb dX11_poke_9 (by decide) ?_
  refine lv_iand hx hb dX11_poke_12 ?_
  obtain ⟨σ1, g1, hf⟩ := zbu_use hf
  refine z_callVu (As := [.int (x1 &&& 65535), .int (x2 &&& 255)]) (rest := []) hC hI (cX2_write_met st l D ad cy σ (x1 &&& 65535) (x2 &&& 255) _ g1) (zgV zw86_10 zw20_8 zw20_9 zw1_21 zw20_10) rfl ⟨rfl, rfl⟩ 2 hdX2_write ⟨Nat.le_of_ble_eq_true rfl, Nat.le_of_ble_eq_true rfl⟩ rfl rfl (wC_e1 ad cy σ) rfl hl rfl (Nat.le_of_ble_eq_true rfl) dX11_poke_13 ⟨Nat.zero_le _, Nat.zero_le _⟩ (fun H locs hI => ?_)
  exact z_return hC hI hf dX11_poke_16
set_option maxRecDepth 20000 in
theorem cX11_poke_met (st : Nat → Nat) (l : Launch) (D : va_G) (ad : Nat → Nat) (cy : Nat → ClassId) (σ : zSt) (x1 : Int32) (x2 : Int32) (res : zSt) (hf : fX11_poke σ x1 x2 = some res) (sz : Nat) : zMu st l yX11_poke wzX11_poke rmX11_poke [.ref (ad 0), .int x1, .int x2] D (tC cy) (wC ad cy) sz σ res :=
  zMu.of (cc := cX11_poke) (maxL := 3) (ret := none) (by decide) rfl (Nat.le_of_ble_eq_true rfl) (fun p e s m args below meth c hC A hI ls hl => bX11_poke hC hI hl hf)
theorem hdX11_poke : yX11_poke.cls = RX11 ∧ yX11_poke.cls ≠ "java/lang/invoke/MethodHandle" ∧ yX11_poke.cls ≠ "java/lang/invoke/VarHandle" ∧ (parseMethodDescriptor yX11_poke.desc).map (fun d => d.parameters.length) = some 2 := by decide +kernel
noncomputable def rmX11_in : Room := { frames := 3, cells := 0, slots := 0, locals := 66 }
noncomputable def wzX11_in : List Cond := .code yX11_in cX11_in 2 (some .int) :: wsL_law
theorem hinX11_in_X110 : ∀ w ∈ wsX110, w ∈ wzX11_in := fun w h => List.mem_cons_of_mem _ (inlX11 w h)
noncomputable def fX11_in  (σ : zSt) (x1 : Int32) : Option (zSt × Int32) :=
  zbi (fX4_read σ (x1 &&& 255)) (fun σ1 v2 =>
  some (σ1, v2))
set_option maxRecDepth 20000 in
set_option maxHeartbeats 4000000 in
theorem bX11_in {st : Nat → Nat} {p : Program} {l : Launch} {e : Env} {s : State} {m : MethodId} {args : Array Value} {below : List Frame} {meth : Method} {c : Code} {D : va_G} {A : Nat → Prop} {ad : Nat → Nat} {cy : Nat → ClassId} (hC : zC p m c cX11_in 2 s args wzX11_in RX11 meth (some .int))  {res : zSt × Int32} {H : Heap} {locs : List Loc} {σ : zSt} {ls : Array Slot} {x1 : Int32} (hI : zI st D (tC cy) (wC ad cy σ) A s H locs) (hl : lv_has ls 2 [(0, .ref (ad 0)), (1, .int x1)]) (hf : fX11_in  σ x1 = some res) : W p l e rmX11_in s m args below meth c H locs 0 0 (zQi below args s D (tC cy) (wC ad cy) A res) (F0 m 0 ls []) := by
  have hx := hC.1
  have hb := hC.2.1
  unfold fX11_in at hf
  refine lv_aload_n hx hb dX11_in_0 rfl (lv_at hl 0 rfl) ?_
  refine z_get hC hI hinX11_in_X110 0 (wC_e0 ad cy σ) rfl 6 (by decide) (List.mem_cons_of_mem _ zw2_18) rfl dX11_in_1 ?_
  refine lv_iload_n hx hb dX11_in_4 rfl (lv_at hl 1 rfl) ?_
  refine lv_sipush (v := 255) hx hb dX11_in_5 (by decide) ?_
  refine lv_iand hx hb dX11_in_8 ?_
  obtain ⟨σ1, v2, g1, hf⟩ := zbi_use hf
  refine z_callVi (As := [.int (x1 &&& 255)]) (rest := []) hC hI (cX4_read_met st l D ad cy σ (x1 &&& 255) _ g1) (zgV zw86_19 zw25_5 zw25_6 zw2_17 zw25_7) rfl ⟨rfl, rfl⟩ 1 hdX4_read ⟨Nat.le_of_ble_eq_true rfl, Nat.le_of_ble_eq_true rfl⟩ rfl rfl (wC_e6 ad cy σ) rfl hl rfl (Nat.le_of_ble_eq_true rfl) dX11_in_9 ⟨Nat.zero_le _, Nat.zero_le _⟩ (fun H locs hI => ?_)
  exact z_ireturn hC hI hf dX11_in_12
set_option maxRecDepth 20000 in
theorem cX11_in_met (st : Nat → Nat) (l : Launch) (D : va_G) (ad : Nat → Nat) (cy : Nat → ClassId) (σ : zSt) (x1 : Int32) (res : zSt × Int32) (hf : fX11_in σ x1 = some res) (sz : Nat) : zMi st l yX11_in wzX11_in rmX11_in [.ref (ad 0), .int x1] D (tC cy) (wC ad cy) sz σ res :=
  zMi.of (cc := cX11_in) (maxL := 2) (ret := (some .int)) (by decide) rfl (Nat.le_of_ble_eq_true rfl) (fun p e s m args below meth c hC A hI ls hl => bX11_in hC hI hl hf)
theorem hdX11_in : yX11_in.cls = RX11 ∧ yX11_in.cls ≠ "java/lang/invoke/MethodHandle" ∧ yX11_in.cls ≠ "java/lang/invoke/VarHandle" ∧ (parseMethodDescriptor yX11_in.desc).map (fun d => d.parameters.length) = some 1 := by decide +kernel
noncomputable def rmX11_out : Room := { frames := 3, cells := 0, slots := 0, locals := 69 }
noncomputable def wzX11_out : List Cond := .code yX11_out cX11_out 3 none :: wsL_law
theorem hinX11_out_X110 : ∀ w ∈ wsX110, w ∈ wzX11_out := fun w h => List.mem_cons_of_mem _ (inlX11 w h)
noncomputable def fX11_out  (σ : zSt) (x1 : Int32) (x2 : Int32) : Option (zSt) :=
  zbu (fX4_write σ (x1 &&& 255) (x2 &&& 255)) (fun σ1 =>
  some σ1)
set_option maxRecDepth 20000 in
set_option maxHeartbeats 4000000 in
theorem bX11_out {st : Nat → Nat} {p : Program} {l : Launch} {e : Env} {s : State} {m : MethodId} {args : Array Value} {below : List Frame} {meth : Method} {c : Code} {D : va_G} {A : Nat → Prop} {ad : Nat → Nat} {cy : Nat → ClassId} (hC : zC p m c cX11_out 3 s args wzX11_out RX11 meth none)  {res : zSt} {H : Heap} {locs : List Loc} {σ : zSt} {ls : Array Slot} {x1 : Int32} {x2 : Int32} (hI : zI st D (tC cy) (wC ad cy σ) A s H locs) (hl : lv_has ls 3 [(0, .ref (ad 0)), (1, .int x1), (2, .int x2)]) (hf : fX11_out  σ x1 x2 = some res) : W p l e rmX11_out s m args below meth c H locs 0 0 (zQu below args s D (tC cy) (wC ad cy) A res) (F0 m 0 ls []) := by
  have hx := hC.1
  have hb := hC.2.1
  unfold fX11_out at hf
  refine lv_aload_n hx hb dX11_out_0 rfl (lv_at hl 0 rfl) ?_
  refine z_get hC hI hinX11_out_X110 0 (wC_e0 ad cy σ) rfl 6 (by decide) (List.mem_cons_of_mem _ zw2_18) rfl dX11_out_1 ?_
  refine lv_iload_n hx hb dX11_out_4 rfl (lv_at hl 1 rfl) ?_
  refine lv_sipush (v := 255) hx hb dX11_out_5 (by decide) ?_
  refine lv_iand hx hb dX11_out_8 ?_
  refine lv_iload_n hx hb dX11_out_9 rfl (lv_at hl 2 rfl) ?_
  refine lv_sipush (v := 255) hx hb dX11_out_10 (by decide) ?_
  refine lv_iand hx hb dX11_out_13 ?_
  obtain ⟨σ1, g1, hf⟩ := zbu_use hf
  refine z_callVu (As := [.int (x1 &&& 255), .int (x2 &&& 255)]) (rest := []) hC hI (cX4_write_met st l D ad cy σ (x1 &&& 255) (x2 &&& 255) _ g1) (zgV zw87_4 zw27_10 zw27_11 zw2_17 zw27_12) rfl ⟨rfl, rfl⟩ 2 hdX4_write ⟨Nat.le_of_ble_eq_true rfl, Nat.le_of_ble_eq_true rfl⟩ rfl rfl (wC_e6 ad cy σ) rfl hl rfl (Nat.le_of_ble_eq_true rfl) dX11_out_14 ⟨Nat.zero_le _, Nat.zero_le _⟩ (fun H locs hI => ?_)
  exact z_return hC hI hf dX11_out_17
set_option maxRecDepth 20000 in
theorem cX11_out_met (st : Nat → Nat) (l : Launch) (D : va_G) (ad : Nat → Nat) (cy : Nat → ClassId) (σ : zSt) (x1 : Int32) (x2 : Int32) (res : zSt) (hf : fX11_out σ x1 x2 = some res) (sz : Nat) : zMu st l yX11_out wzX11_out rmX11_out [.ref (ad 0), .int x1, .int x2] D (tC cy) (wC ad cy) sz σ res :=
  zMu.of (cc := cX11_out) (maxL := 3) (ret := none) (by decide) rfl (Nat.le_of_ble_eq_true rfl) (fun p e s m args below meth c hC A hI ls hl => bX11_out hC hI hl hf)
theorem hdX11_out : yX11_out.cls = RX11 ∧ yX11_out.cls ≠ "java/lang/invoke/MethodHandle" ∧ yX11_out.cls ≠ "java/lang/invoke/VarHandle" ∧ (parseMethodDescriptor yX11_out.desc).map (fun d => d.parameters.length) = some 2 := by decide +kernel
noncomputable def rmX11_wipe : Room := { frames := 2, cells := 0, slots := 0, locals := 43 }
noncomputable def wzX11_wipe : List Cond := .code yX11_wipe cX11_wipe 1 none :: wsL_law
theorem hinX11_wipe_X110 : ∀ w ∈ wsX110, w ∈ wzX11_wipe := fun w h => List.mem_cons_of_mem _ (inlX11 w h)
noncomputable def fX11_wipe  (σ : zSt)  : Option (zSt) :=
  zbu (fX2_clearBattery σ ) (fun σ1 =>
  some σ1)
set_option maxRecDepth 20000 in
set_option maxHeartbeats 4000000 in
theorem bX11_wipe {st : Nat → Nat} {p : Program} {l : Launch} {e : Env} {s : State} {m : MethodId} {args : Array Value} {below : List Frame} {meth : Method} {c : Code} {D : va_G} {A : Nat → Prop} {ad : Nat → Nat} {cy : Nat → ClassId} (hC : zC p m c cX11_wipe 1 s args wzX11_wipe RX11 meth none)  {res : zSt} {H : Heap} {locs : List Loc} {σ : zSt} {ls : Array Slot}  (hI : zI st D (tC cy) (wC ad cy σ) A s H locs) (hl : lv_has ls 1 [(0, .ref (ad 0))]) (hf : fX11_wipe  σ  = some res) : W p l e rmX11_wipe s m args below meth c H locs 0 0 (zQu below args s D (tC cy) (wC ad cy) A res) (F0 m 0 ls []) := by
  have hx := hC.1
  have hb := hC.2.1
  unfold fX11_wipe at hf
  refine lv_aload_n hx hb dX11_wipe_0 rfl (lv_at hl 0 rfl) ?_
  refine z_get hC hI hinX11_wipe_X110 0 (wC_e0 ad cy σ) rfl 1 (by decide) (List.mem_cons_of_mem _ zw1_22) rfl dX11_wipe_1 ?_
  obtain ⟨σ1, g1, hf⟩ := zbu_use hf
  refine z_callVu (As := []) (rest := []) hC hI (cX2_clearBattery_met st l D ad cy σ  _ g1) (zgV zw88_6 zw88_7 zw88_8 zw1_21 zw88_9) rfl ⟨rfl, rfl⟩ 0 hdX2_clearBattery ⟨Nat.le_of_ble_eq_true rfl, Nat.le_of_ble_eq_true rfl⟩ rfl rfl (wC_e1 ad cy σ) rfl hl rfl (Nat.le_of_ble_eq_true rfl) dX11_wipe_4 ⟨Nat.zero_le _, Nat.zero_le _⟩ (fun H locs hI => ?_)
  exact z_return hC hI hf dX11_wipe_7
set_option maxRecDepth 20000 in
theorem cX11_wipe_met (st : Nat → Nat) (l : Launch) (D : va_G) (ad : Nat → Nat) (cy : Nat → ClassId) (σ : zSt)  (res : zSt) (hf : fX11_wipe σ  = some res) (sz : Nat) : zMu st l yX11_wipe wzX11_wipe rmX11_wipe [.ref (ad 0)] D (tC cy) (wC ad cy) sz σ res :=
  zMu.of (cc := cX11_wipe) (maxL := 1) (ret := none) (by decide) rfl (Nat.le_of_ble_eq_true rfl) (fun p e s m args below meth c hC A hI ls hl => bX11_wipe hC hI hl hf)
theorem hdX11_wipe : yX11_wipe.cls = RX11 ∧ yX11_wipe.cls ≠ "java/lang/invoke/MethodHandle" ∧ yX11_wipe.cls ≠ "java/lang/invoke/VarHandle" ∧ (parseMethodDescriptor yX11_wipe.desc).map (fun d => d.parameters.length) = some 0 := by decide +kernel
noncomputable def rmX11_video : Room := { frames := 1, cells := 0, slots := 0, locals := 24 }
noncomputable def wzX11_video : List Cond := .code yX11_video cX11_video 2 (some .long) :: wsL_law
theorem hinX11_video_X110 : ∀ w ∈ wsX110, w ∈ wzX11_video := fun w h => List.mem_cons_of_mem _ (inlX11 w h)
noncomputable def fX11_video  (σ : zSt) (x1 : Int32) : Option (zSt × Int64) :=
  zbl (fX9_eightFrom σ x1) (fun σ1 v2 =>
  some (σ1, v2))
set_option maxRecDepth 20000 in
set_option maxHeartbeats 4000000 in
theorem bX11_video {st : Nat → Nat} {p : Program} {l : Launch} {e : Env} {s : State} {m : MethodId} {args : Array Value} {below : List Frame} {meth : Method} {c : Code} {D : va_G} {A : Nat → Prop} {ad : Nat → Nat} {cy : Nat → ClassId} (hC : zC p m c cX11_video 2 s args wzX11_video RX11 meth (some .long))  {res : zSt × Int64} {H : Heap} {locs : List Loc} {σ : zSt} {ls : Array Slot} {x1 : Int32} (hI : zI st D (tC cy) (wC ad cy σ) A s H locs) (hl : lv_has ls 2 [(0, .ref (ad 0)), (1, .int x1)]) (hf : fX11_video  σ x1 = some res) : W p l e rmX11_video s m args below meth c H locs 0 0 (zQl below args s D (tC cy) (wC ad cy) A res) (F0 m 0 ls []) := by
  have hx := hC.1
  have hb := hC.2.1
  unfold fX11_video at hf
  refine lv_aload_n hx hb dX11_video_0 rfl (lv_at hl 0 rfl) ?_
  refine z_get hC hI hinX11_video_X110 0 (wC_e0 ad cy σ) rfl 2 (by decide) (List.mem_cons_of_mem _ zw2_2) rfl dX11_video_1 ?_
  refine lv_iload_n hx hb dX11_video_4 rfl (lv_at hl 1 rfl) ?_
  obtain ⟨σ1, v2, g1, hf⟩ := zbl_use hf
  refine z_callVl (As := [.int x1]) (rest := []) hC hI (cX9_eightFrom_met st l D ad cy σ x1 _ g1) (zgV zw88_18 zw88_19 zw88_20 zw2_1 zw88_21) rfl ⟨rfl, rfl⟩ 1 hdX9_eightFrom ⟨Nat.le_of_ble_eq_true rfl, Nat.le_of_ble_eq_true rfl⟩ rfl rfl (wC_e2 ad cy σ) rfl hl rfl (Nat.le_of_ble_eq_true rfl) dX11_video_5 ⟨Nat.zero_le _, Nat.zero_le _⟩ (fun H locs hI => ?_)
  exact z_lreturn hC hI hf dX11_video_8
set_option maxRecDepth 20000 in
theorem cX11_video_met (st : Nat → Nat) (l : Launch) (D : va_G) (ad : Nat → Nat) (cy : Nat → ClassId) (σ : zSt) (x1 : Int32) (res : zSt × Int64) (hf : fX11_video σ x1 = some res) (sz : Nat) : zMl st l yX11_video wzX11_video rmX11_video [.ref (ad 0), .int x1] D (tC cy) (wC ad cy) sz σ res :=
  zMl.of (cc := cX11_video) (maxL := 2) (ret := (some .long)) (by decide) rfl (Nat.le_of_ble_eq_true rfl) (fun p e s m args below meth c hC A hI ls hl => bX11_video hC hI hl hf)
theorem hdX11_video : yX11_video.cls = RX11 ∧ yX11_video.cls ≠ "java/lang/invoke/MethodHandle" ∧ yX11_video.cls ≠ "java/lang/invoke/VarHandle" ∧ (parseMethodDescriptor yX11_video.desc).map (fun d => d.parameters.length) = some 1 := by decide +kernel
noncomputable def rmX11_trace : Room := { frames := 1, cells := 0, slots := 0, locals := 21 }
noncomputable def wzX11_trace : List Cond := .code yX11_trace cX11_trace 2 (some .int) :: wsL_law
theorem hinX11_trace_X110 : ∀ w ∈ wsX110, w ∈ wzX11_trace := fun w h => List.mem_cons_of_mem _ (inlX11 w h)
noncomputable def fX11_trace  (σ : zSt) (x1 : Int32) : Option (zSt × Int32) :=
  zbi (fX1_stepBack σ x1) (fun σ1 v2 =>
  some (σ1, v2))
set_option maxRecDepth 20000 in
set_option maxHeartbeats 4000000 in
theorem bX11_trace {st : Nat → Nat} {p : Program} {l : Launch} {e : Env} {s : State} {m : MethodId} {args : Array Value} {below : List Frame} {meth : Method} {c : Code} {D : va_G} {A : Nat → Prop} {ad : Nat → Nat} {cy : Nat → ClassId} (hC : zC p m c cX11_trace 2 s args wzX11_trace RX11 meth (some .int))  {res : zSt × Int32} {H : Heap} {locs : List Loc} {σ : zSt} {ls : Array Slot} {x1 : Int32} (hI : zI st D (tC cy) (wC ad cy σ) A s H locs) (hl : lv_has ls 2 [(0, .ref (ad 0)), (1, .int x1)]) (hf : fX11_trace  σ x1 = some res) : W p l e rmX11_trace s m args below meth c H locs 0 0 (zQi below args s D (tC cy) (wC ad cy) A res) (F0 m 0 ls []) := by
  have hx := hC.1
  have hb := hC.2.1
  unfold fX11_trace at hf
  refine lv_aload_n hx hb dX11_trace_0 rfl (lv_at hl 0 rfl) ?_
  refine z_get hC hI hinX11_trace_X110 0 (wC_e0 ad cy σ) rfl 9 (by decide) (List.mem_cons_of_mem _ zw3_6) rfl dX11_trace_1 ?_
  refine lv_iload_n hx hb dX11_trace_4 rfl (lv_at hl 1 rfl) ?_
  obtain ⟨σ1, v2, g1, hf⟩ := zbi_use hf
  refine z_callVi (As := [.int x1]) (rest := []) hC hI (cX1_stepBack_met st l D ad cy σ x1 _ g1) (zgV zw94_21 zw94_22 zw94_23 zw3_5 zw95_0) rfl ⟨rfl, rfl⟩ 1 hdX1_stepBack ⟨Nat.le_of_ble_eq_true rfl, Nat.le_of_ble_eq_true rfl⟩ rfl rfl (wC_e9 ad cy σ) rfl hl rfl (Nat.le_of_ble_eq_true rfl) dX11_trace_5 ⟨Nat.zero_le _, Nat.zero_le _⟩ (fun H locs hI => ?_)
  exact z_ireturn hC hI hf dX11_trace_8
set_option maxRecDepth 20000 in
theorem cX11_trace_met (st : Nat → Nat) (l : Launch) (D : va_G) (ad : Nat → Nat) (cy : Nat → ClassId) (σ : zSt) (x1 : Int32) (res : zSt × Int32) (hf : fX11_trace σ x1 = some res) (sz : Nat) : zMi st l yX11_trace wzX11_trace rmX11_trace [.ref (ad 0), .int x1] D (tC cy) (wC ad cy) sz σ res :=
  zMi.of (cc := cX11_trace) (maxL := 2) (ret := (some .int)) (by decide) rfl (Nat.le_of_ble_eq_true rfl) (fun p e s m args below meth c hC A hI ls hl => bX11_trace hC hI hl hf)
theorem hdX11_trace : yX11_trace.cls = RX11 ∧ yX11_trace.cls ≠ "java/lang/invoke/MethodHandle" ∧ yX11_trace.cls ≠ "java/lang/invoke/VarHandle" ∧ (parseMethodDescriptor yX11_trace.desc).map (fun d => d.parameters.length) = some 1 := by decide +kernel
noncomputable def rmX11_feed : Room := { frames := 6, cells := 1, slots := 6, locals := 100 }
noncomputable def wzX11_feed : List Cond := .code yX11_feed cX11_feed 11 (some .int) :: wsL_law
theorem hinX11_feed_X110 : ∀ w ∈ wsX110, w ∈ wzX11_feed := fun w h => List.mem_cons_of_mem _ (inlX11 w h)
theorem hinX11_feed_X20 : ∀ w ∈ wsX20, w ∈ wzX11_feed := fun w h => List.mem_cons_of_mem _ (inlX2 w h)
noncomputable def fX11_feed_11  (σ : zSt)  : Option (zRi) :=
  some (Sum.inr (σ, 1))
noncomputable def fX11_feed_79 (k48 : zSt → Int32 → Int64 → Int64 → Int64 → Int32 → Option (zRi)) (σ : zSt) (x1 : Int32) (x2 : Int64) (x4 : Int64) (x6 : Int64) (x8 : Int32) (s0 : Int64) : Option (zRi) :=
  zbu (fX2_addToTape σ (((zlushr s0 (8 * (x8 &&& 7))).toInt32) &&& 255)) (fun σ1 =>
  zbv (x8 + 1) (fun v2 =>
  k48 σ1 x1 x2 x4 x6 v2))
noncomputable def fX11_feed_48_body (k48 : zSt → Int32 → Int64 → Int64 → Int64 → Int32 → Option (zRi)) (σ : zSt) (x1 : Int32) (x2 : Int64) (x4 : Int64) (x6 : Int64) (x8 : Int32) : Option (zRi) :=
  if x1 ≤ x8 then some (Sum.inl (σ, zgi σ 1 2)) else
  if 8 ≤ x8 then if 16 ≤ x8 then fX11_feed_79 k48 σ x1 x2 x4 x6 x8 x6 else
  fX11_feed_79 k48 σ x1 x2 x4 x6 x8 x4 else
  fX11_feed_79 k48 σ x1 x2 x4 x6 x8 x2
noncomputable def fX11_feed_48  : Nat → zSt → Int32 → Int64 → Int64 → Int64 → Int32 → Option (zRi)
  | 0, _, _, _, _, _, _ => none
  | n + 1, σ, x1, x2, x4, x6, x8 => fX11_feed_48_body (fX11_feed_48  n) σ x1 x2 x4 x6 x8
noncomputable def fX11_feed  (σ : zSt) (x1 : Int32) (x2 : Int64) (x4 : Int64) (x6 : Int64) : Option (zRi) :=
  if x1 < 1 then fX11_feed_11 σ else
  if x1 ≤ 24 then if ((zgi σ 1 2) + x1) ≤ 262656 then fX11_feed_48 zfuel σ x1 x2 x4 x6 0 else
  some (Sum.inr (σ, 2)) else
  fX11_feed_11 σ
set_option maxRecDepth 20000 in
set_option maxHeartbeats 4000000 in
theorem bX11_feed_11 {st : Nat → Nat} {p : Program} {l : Launch} {e : Env} {s : State} {m : MethodId} {args : Array Value} {below : List Frame} {meth : Method} {c : Code} {D : va_G} {A : Nat → Prop} {ad : Nat → Nat} {cy : Nat → ClassId} (hC : zC p m c cX11_feed 11 s args wzX11_feed RX11 meth (some .int)) (hE : ∀ x ∈ c.exceptionTable.toList, False) (hst : l.stackTraces = false)  {res : zRi} {H : Heap} {locs : List Loc} {σ : zSt} {ls : Array Slot}  (hI : zI st D (tC cy) (wC ad cy σ) A s H locs) (hl : lv_has ls 11 []) (hf : fX11_feed_11  σ  = some res) : W p l e rmX11_feed s m args below meth c H locs 0 0 (zXQi below args s D (tC cy) (wC ad cy) A res) (F0 m 11 ls []) := by
  have hx := hC.1
  have hb := hC.2.1
  unfold fX11_feed_11 at hf
  exact z_throw hC hE hst hI hl 1 hf (by decide) (List.mem_cons_of_mem _ zw11_1) (List.mem_cons_of_mem _ zw11_2) 44 (by decide) rfl rfl (fun w h => List.mem_cons_of_mem _ (zx1 w h)) zXn1 zXg1 dX11_feed_11 dX11_feed_14 dX11_feed_15 dX11_feed_17 dX11_feed_20 (Nat.le_of_ble_eq_true rfl) (Nat.le_of_ble_eq_true rfl) (Nat.le_of_ble_eq_true rfl) (Nat.le_of_ble_eq_true rfl)
set_option maxRecDepth 20000 in
set_option maxHeartbeats 4000000 in
theorem bX11_feed_79 {st : Nat → Nat} {p : Program} {l : Launch} {e : Env} {s : State} {m : MethodId} {args : Array Value} {below : List Frame} {meth : Method} {c : Code} {D : va_G} {A : Nat → Prop} {ad : Nat → Nat} {cy : Nat → ClassId} (hC : zC p m c cX11_feed 11 s args wzX11_feed RX11 meth (some .int)) (hE : ∀ x ∈ c.exceptionTable.toList, False) (hst : l.stackTraces = false) {k48 : zSt → Int32 → Int64 → Int64 → Int64 → Int32 → Option (zRi)} {res : zRi} (hk48 : ∀ (H : Heap) (locs : List Loc) (σ : zSt) (ls : Array Slot) (x1 : Int32) (x2 : Int64) (x4 : Int64) (x6 : Int64) (x8 : Int32), zI st D (tC cy) (wC ad cy σ) A s H locs → lv_has ls 11 [(0, .ref (ad 0)), (1, .int x1), (2, .long x2), (4, .long x4), (6, .long x6), (8, .int x8)] → k48 σ x1 x2 x4 x6 x8 = some res → W p l e rmX11_feed s m args below meth c H locs 0 0 (zXQi below args s D (tC cy) (wC ad cy) A res) (F0 m 48 ls [])) {H : Heap} {locs : List Loc} {σ : zSt} {ls : Array Slot} {x1 : Int32} {x2 : Int64} {x4 : Int64} {x6 : Int64} {x8 : Int32} {s0 : Int64} (hI : zI st D (tC cy) (wC ad cy σ) A s H locs) (hl : lv_has ls 11 [(0, .ref (ad 0)), (1, .int x1), (2, .long x2), (4, .long x4), (6, .long x6), (8, .int x8)]) (hf : fX11_feed_79 k48 σ x1 x2 x4 x6 x8 s0 = some res) : W p l e rmX11_feed s m args below meth c H locs 0 0 (zXQi below args s D (tC cy) (wC ad cy) A res) (F0 m 79 ls [.long s0]) := by
  have hx := hC.1
  have hb := hC.2.1
  unfold fX11_feed_79 at hf
  refine lv_lstore (lv' := [(9, .long s0), (0, .ref (ad 0)), (1, .int x1), (2, .long x2), (4, .long x4), (6, .long x6), (8, .int x8)]) hx hb dX11_feed_79 hl (by decide) rfl (fun ls hl => ?_)
  refine lv_aload_n hx hb dX11_feed_81 rfl (lv_at hl 1 rfl) ?_
  refine z_get hC hI hinX11_feed_X110 0 (wC_e0 ad cy σ) rfl 1 (by decide) (List.mem_cons_of_mem _ zw1_22) rfl dX11_feed_82 ?_
  refine lv_lload hx hb dX11_feed_85 (lv_at hl 0 rfl) ?_
  refine lv_bipush (v := 8) hx hb dX11_feed_87 (by decide) ?_
  refine lv_iload hx hb dX11_feed_89 (lv_at hl 6 rfl) ?_
  refine lv_bipush (v := 7) hx hb dX11_feed_91 (by decide) ?_
  refine lv_iand hx hb dX11_feed_93 ?_
  refine lv_imul hx hb dX11_feed_94 ?_
  refine lv_lushr (v := zlushr s0 (8 * (x8 &&& 7))) hx hb dX11_feed_95 rfl ?_
  refine lv_l2i (v := (zlushr s0 (8 * (x8 &&& 7))).toInt32) hx hb dX11_feed_96 rfl ?_
  refine lv_sipush (v := 255) hx hb dX11_feed_97 (by decide) ?_
  refine lv_iand hx hb dX11_feed_100 ?_
  obtain ⟨σ1, g1, hf⟩ := zbu_use hf
  refine z_callVu (As := [.int (((zlushr s0 (8 * (x8 &&& 7))).toInt32) &&& 255)]) (rest := []) hC hI (cX2_addToTape_met st l D ad cy σ (((zlushr s0 (8 * (x8 &&& 7))).toInt32) &&& 255) _ g1) (zgV zw11_7 zw11_8 zw11_9 zw1_21 zw11_10) rfl ⟨rfl, rfl⟩ 1 hdX2_addToTape ⟨Nat.le_of_ble_eq_true rfl, Nat.le_of_ble_eq_true rfl⟩ rfl rfl (wC_e1 ad cy σ) rfl hl rfl (Nat.le_of_ble_eq_true rfl) dX11_feed_101 ⟨Nat.zero_le _, Nat.zero_le _⟩ (fun H locs hI => ?_)
  obtain ⟨v2, ev2⟩ : ∃ z : Int32, z = x8 + 1 := ⟨_, rfl⟩
  replace hf := zbv_use ev2 hf
  refine lv_iinc (v := v2) (lv' := [(8, .int v2), (9, .long s0), (0, .ref (ad 0)), (1, .int x1), (2, .long x2), (4, .long x4), (6, .long x6)]) hx hb dX11_feed_104 hl (k := 6) rfl (by rw [ev2]; rfl) (by decide) rfl (fun ls hl => ?_)
  refine lv_goto (tgt := 48) hx hb dX11_feed_107 (by decide) ?_
  exact hk48 _ _ _ _ _ _ _ _ _ hI (lv_sub hl [2, 3, 4, 5, 6, 0] rfl) hf
set_option maxRecDepth 20000 in
set_option maxHeartbeats 4000000 in
theorem bX11_feed_48_body {st : Nat → Nat} {p : Program} {l : Launch} {e : Env} {s : State} {m : MethodId} {args : Array Value} {below : List Frame} {meth : Method} {c : Code} {D : va_G} {A : Nat → Prop} {ad : Nat → Nat} {cy : Nat → ClassId} (hC : zC p m c cX11_feed 11 s args wzX11_feed RX11 meth (some .int)) (hE : ∀ x ∈ c.exceptionTable.toList, False) (hst : l.stackTraces = false) {k48 : zSt → Int32 → Int64 → Int64 → Int64 → Int32 → Option (zRi)} {res : zRi} (hk48 : ∀ (H : Heap) (locs : List Loc) (σ : zSt) (ls : Array Slot) (x1 : Int32) (x2 : Int64) (x4 : Int64) (x6 : Int64) (x8 : Int32), zI st D (tC cy) (wC ad cy σ) A s H locs → lv_has ls 11 [(0, .ref (ad 0)), (1, .int x1), (2, .long x2), (4, .long x4), (6, .long x6), (8, .int x8)] → k48 σ x1 x2 x4 x6 x8 = some res → W p l e rmX11_feed s m args below meth c H locs 0 0 (zXQi below args s D (tC cy) (wC ad cy) A res) (F0 m 48 ls [])) {H : Heap} {locs : List Loc} {σ : zSt} {ls : Array Slot} {x1 : Int32} {x2 : Int64} {x4 : Int64} {x6 : Int64} {x8 : Int32} (hI : zI st D (tC cy) (wC ad cy σ) A s H locs) (hl : lv_has ls 11 [(0, .ref (ad 0)), (1, .int x1), (2, .long x2), (4, .long x4), (6, .long x6), (8, .int x8)]) (hf : fX11_feed_48_body k48 σ x1 x2 x4 x6 x8 = some res) : W p l e rmX11_feed s m args below meth c H locs 0 0 (zXQi below args s D (tC cy) (wC ad cy) A res) (F0 m 48 ls []) := by
  have hx := hC.1
  have hb := hC.2.1
  unfold fX11_feed_48_body at hf
  refine lv_iload hx hb dX11_feed_48 (lv_at hl 5 rfl) ?_
  refine lv_iload_n hx hb dX11_feed_50 rfl (lv_at hl 1 rfl) ?_
  refine lv_icmp_ge (tgt := 110) hx hb dX11_feed_51 (by decide) (fun q => ?_) (fun q => ?_)
  · replace hf := zif_t q hf
    refine lv_aload_n hx hb dX11_feed_110 rfl (lv_at hl 0 rfl) ?_
    refine z_get hC hI hinX11_feed_X110 0 (wC_e0 ad cy σ) rfl 1 (by decide) (List.mem_cons_of_mem _ zw1_22) rfl dX11_feed_111 ?_
    refine z_get hC hI hinX11_feed_X20 1 (wC_e1 ad cy σ) rfl 2 (by decide) (List.mem_cons_of_mem _ zw11_5) rfl dX11_feed_114 ?_
    exact z_xireturn hC hI hf dX11_feed_117
  replace hf := zif_f q hf
  refine lv_iload hx hb dX11_feed_54 (lv_at hl 5 rfl) ?_
  refine lv_bipush (v := 8) hx hb dX11_feed_56 (by decide) ?_
  refine lv_icmp_ge (tgt := 65) hx hb dX11_feed_58 (by decide) (fun q => ?_) (fun q => ?_)
  · replace hf := zif_t q hf
    refine lv_iload hx hb dX11_feed_65 (lv_at hl 5 rfl) ?_
    refine lv_bipush (v := 16) hx hb dX11_feed_67 (by decide) ?_
    refine lv_icmp_ge (tgt := 77) hx hb dX11_feed_69 (by decide) (fun q => ?_) (fun q => ?_)
    · replace hf := zif_t q hf
      refine lv_lload hx hb dX11_feed_77 (lv_at hl 4 rfl) ?_
      exact bX11_feed_79 hC hE hst hk48 hI hl hf
    replace hf := zif_f q hf
    refine lv_lload hx hb dX11_feed_72 (lv_at hl 3 rfl) ?_
    refine lv_goto (tgt := 79) hx hb dX11_feed_74 (by decide) ?_
    exact bX11_feed_79 hC hE hst hk48 hI hl hf
  replace hf := zif_f q hf
  refine lv_lload_n hx hb dX11_feed_61 rfl (lv_at hl 2 rfl) ?_
  refine lv_goto (tgt := 79) hx hb dX11_feed_62 (by decide) ?_
  exact bX11_feed_79 hC hE hst hk48 hI hl hf
theorem blX11_feed_48 {st : Nat → Nat} {p : Program} {l : Launch} {e : Env} {s : State} {m : MethodId} {args : Array Value} {below : List Frame} {meth : Method} {c : Code} {D : va_G} {A : Nat → Prop} {ad : Nat → Nat} {cy : Nat → ClassId} (hC : zC p m c cX11_feed 11 s args wzX11_feed RX11 meth (some .int)) (hE : ∀ x ∈ c.exceptionTable.toList, False) (hst : l.stackTraces = false)  {res : zRi} : ∀ (n : Nat) (H : Heap) (locs : List Loc) (σ : zSt) (ls : Array Slot) (x1 : Int32) (x2 : Int64) (x4 : Int64) (x6 : Int64) (x8 : Int32), zI st D (tC cy) (wC ad cy σ) A s H locs → lv_has ls 11 [(0, .ref (ad 0)), (1, .int x1), (2, .long x2), (4, .long x4), (6, .long x6), (8, .int x8)] → fX11_feed_48  n σ x1 x2 x4 x6 x8 = some res → W p l e rmX11_feed s m args below meth c H locs 0 0 (zXQi below args s D (tC cy) (wC ad cy) A res) (F0 m 48 ls []) := by
  intro n
  induction n with
  | zero => intro H locs σ ls x1 x2 x4 x6 x8 hI hl hf; cases hf
  | succ n ih => intro H locs σ ls x1 x2 x4 x6 x8 hI hl hf; exact bX11_feed_48_body hC hE hst ih hI hl hf
set_option maxRecDepth 20000 in
set_option maxHeartbeats 4000000 in
theorem bX11_feed {st : Nat → Nat} {p : Program} {l : Launch} {e : Env} {s : State} {m : MethodId} {args : Array Value} {below : List Frame} {meth : Method} {c : Code} {D : va_G} {A : Nat → Prop} {ad : Nat → Nat} {cy : Nat → ClassId} (hC : zC p m c cX11_feed 11 s args wzX11_feed RX11 meth (some .int)) (hE : ∀ x ∈ c.exceptionTable.toList, False) (hst : l.stackTraces = false)  {res : zRi} {H : Heap} {locs : List Loc} {σ : zSt} {ls : Array Slot} {x1 : Int32} {x2 : Int64} {x4 : Int64} {x6 : Int64} (hI : zI st D (tC cy) (wC ad cy σ) A s H locs) (hl : lv_has ls 11 [(0, .ref (ad 0)), (1, .int x1), (2, .long x2), (4, .long x4), (6, .long x6)]) (hf : fX11_feed  σ x1 x2 x4 x6 = some res) : W p l e rmX11_feed s m args below meth c H locs 0 0 (zXQi below args s D (tC cy) (wC ad cy) A res) (F0 m 0 ls []) := by
  have hx := hC.1
  have hb := hC.2.1
  unfold fX11_feed at hf
  refine lv_iload_n hx hb dX11_feed_0 rfl (lv_at hl 1 rfl) ?_
  refine lv_iconst (v := 1) hx hb dX11_feed_1 (by decide) ?_
  refine lv_icmp_lt (tgt := 11) hx hb dX11_feed_2 (by decide) (fun q => ?_) (fun q => ?_)
  · replace hf := zif_t q hf
    exact bX11_feed_11 hC hE hst  hI (lv_sub hl [] rfl) hf
  replace hf := zif_f q hf
  refine lv_iload_n hx hb dX11_feed_5 rfl (lv_at hl 1 rfl) ?_
  refine lv_bipush (v := 24) hx hb dX11_feed_6 (by decide) ?_
  refine lv_icmp_le (tgt := 21) hx hb dX11_feed_8 (by decide) (fun q => ?_) (fun q => ?_)
  · replace hf := zif_t q hf
    refine lv_aload_n hx hb dX11_feed_21 rfl (lv_at hl 0 rfl) ?_
    refine z_get hC hI hinX11_feed_X110 0 (wC_e0 ad cy σ) rfl 1 (by decide) (List.mem_cons_of_mem _ zw1_22) rfl dX11_feed_22 ?_
    refine z_get hC hI hinX11_feed_X20 1 (wC_e1 ad cy σ) rfl 2 (by decide) (List.mem_cons_of_mem _ zw11_5) rfl dX11_feed_25 ?_
    refine lv_iload_n hx hb dX11_feed_28 rfl (lv_at hl 1 rfl) ?_
    refine lv_iadd hx hb dX11_feed_29 ?_
    refine lv_ldc (v := 262656) hx hb hC.2.2.2.1 (hC.2.2.2.2.1 _ (List.mem_cons_of_mem _ zw11_6)) dX11_feed_30 ?_
    refine lv_icmp_le (tgt := 45) hx hb dX11_feed_32 (by decide) (fun q => ?_) (fun q => ?_)
    · replace hf := zif_t q hf
      refine lv_iconst (v := 0) hx hb dX11_feed_45 (by decide) ?_
      refine lv_istore (lv' := [(8, .int 0), (0, .ref (ad 0)), (1, .int x1), (2, .long x2), (4, .long x4), (6, .long x6)]) hx hb dX11_feed_46 hl (by decide) rfl (fun ls hl => ?_)
      exact blX11_feed_48 hC hE hst  zfuel _ _ _ _ _ _ _ _ _ hI (lv_sub hl [1, 2, 3, 4, 5, 0] rfl) hf
    replace hf := zif_f q hf
    exact z_throw hC hE hst hI hl 2 hf (by decide) (List.mem_cons_of_mem _ zw11_3) (List.mem_cons_of_mem _ zw11_4) 45 (by decide) rfl rfl (fun w h => List.mem_cons_of_mem _ (zx2 w h)) zXn2 zXg2 dX11_feed_35 dX11_feed_38 dX11_feed_39 dX11_feed_41 dX11_feed_44 (Nat.le_of_ble_eq_true rfl) (Nat.le_of_ble_eq_true rfl) (Nat.le_of_ble_eq_true rfl) (Nat.le_of_ble_eq_true rfl)
  replace hf := zif_f q hf
  exact bX11_feed_11 hC hE hst  hI (lv_sub hl [] rfl) hf
set_option maxRecDepth 20000 in
theorem cX11_feed_met (st : Nat → Nat) (l : Launch) (hst : l.stackTraces = false) (D : va_G) (ad : Nat → Nat) (cy : Nat → ClassId) (σ : zSt) (x1 : Int32) (x2 : Int64) (x4 : Int64) (x6 : Int64) (res : zRi) (hf : fX11_feed σ x1 x2 x4 x6 = some res) (sz : Nat) : zXi st l yX11_feed wzX11_feed rmX11_feed [.ref (ad 0), .int x1, .long x2, .long x4, .long x6] D (tC cy) (wC ad cy) sz σ res :=
  zXi.of (cc := cX11_feed) (maxL := 11) (ret := (some .int)) (by decide) rfl (Nat.le_of_ble_eq_true rfl) (fun p e s m args below meth c hC hE A hI ls hl => bX11_feed hC hE hst hI hl hf)
theorem hdX11_feed : yX11_feed.cls = RX11 ∧ yX11_feed.cls ≠ "java/lang/invoke/MethodHandle" ∧ yX11_feed.cls ≠ "java/lang/invoke/VarHandle" ∧ (parseMethodDescriptor yX11_feed.desc).map (fun d => d.parameters.length) = some 4 := by decide +kernel
noncomputable def rmX11_grow : Room := { frames := 6, cells := 1, slots := 6, locals := 100 }
noncomputable def wzX11_grow : List Cond := .code yX11_grow cX11_grow 3 (some .int) :: wsL_law
theorem hinX11_grow_X110 : ∀ w ∈ wsX110, w ∈ wzX11_grow := fun w h => List.mem_cons_of_mem _ (inlX11 w h)
theorem hinX11_grow_X20 : ∀ w ∈ wsX20, w ∈ wzX11_grow := fun w h => List.mem_cons_of_mem _ (inlX2 w h)
noncomputable def fX11_grow_19  (σ : zSt)  : Option (zRi) :=
  some (Sum.inr (σ, 1))
noncomputable def fX11_grow  (σ : zSt) (x1 : Int32) : Option (zRi) :=
  zbv (zgi σ 1 2) (fun v1 =>
  if x1 < v1 then fX11_grow_19 σ else
  if x1 ≤ 262656 then if v1 = 0 then some (Sum.inr (σ, 2)) else
  zbu (fX2_repeatTape σ x1) (fun σ2 =>
  some (Sum.inl (σ2, v1))) else
  fX11_grow_19 σ)
set_option maxRecDepth 20000 in
set_option maxHeartbeats 4000000 in
theorem bX11_grow_19 {st : Nat → Nat} {p : Program} {l : Launch} {e : Env} {s : State} {m : MethodId} {args : Array Value} {below : List Frame} {meth : Method} {c : Code} {D : va_G} {A : Nat → Prop} {ad : Nat → Nat} {cy : Nat → ClassId} (hC : zC p m c cX11_grow 3 s args wzX11_grow RX11 meth (some .int)) (hE : ∀ x ∈ c.exceptionTable.toList, False) (hst : l.stackTraces = false)  {res : zRi} {H : Heap} {locs : List Loc} {σ : zSt} {ls : Array Slot}  (hI : zI st D (tC cy) (wC ad cy σ) A s H locs) (hl : lv_has ls 3 []) (hf : fX11_grow_19  σ  = some res) : W p l e rmX11_grow s m args below meth c H locs 0 0 (zXQi below args s D (tC cy) (wC ad cy) A res) (F0 m 19 ls []) := by
  have hx := hC.1
  have hb := hC.2.1
  unfold fX11_grow_19 at hf
  exact z_throw hC hE hst hI hl 1 hf (by decide) (List.mem_cons_of_mem _ zw11_1) (List.mem_cons_of_mem _ zw11_2) 46 (by decide) rfl rfl (fun w h => List.mem_cons_of_mem _ (zx1 w h)) zXn1 zXg1 dX11_grow_19 dX11_grow_22 dX11_grow_23 dX11_grow_25 dX11_grow_28 (Nat.le_of_ble_eq_true rfl) (Nat.le_of_ble_eq_true rfl) (Nat.le_of_ble_eq_true rfl) (Nat.le_of_ble_eq_true rfl)
set_option maxRecDepth 20000 in
set_option maxHeartbeats 4000000 in
theorem bX11_grow {st : Nat → Nat} {p : Program} {l : Launch} {e : Env} {s : State} {m : MethodId} {args : Array Value} {below : List Frame} {meth : Method} {c : Code} {D : va_G} {A : Nat → Prop} {ad : Nat → Nat} {cy : Nat → ClassId} (hC : zC p m c cX11_grow 3 s args wzX11_grow RX11 meth (some .int)) (hE : ∀ x ∈ c.exceptionTable.toList, False) (hst : l.stackTraces = false)  {res : zRi} {H : Heap} {locs : List Loc} {σ : zSt} {ls : Array Slot} {x1 : Int32} (hI : zI st D (tC cy) (wC ad cy σ) A s H locs) (hl : lv_has ls 3 [(0, .ref (ad 0)), (1, .int x1)]) (hf : fX11_grow  σ x1 = some res) : W p l e rmX11_grow s m args below meth c H locs 0 0 (zXQi below args s D (tC cy) (wC ad cy) A res) (F0 m 0 ls []) := by
  have hx := hC.1
  have hb := hC.2.1
  unfold fX11_grow at hf
  refine lv_aload_n hx hb dX11_grow_0 rfl (lv_at hl 0 rfl) ?_
  refine z_get hC hI hinX11_grow_X110 0 (wC_e0 ad cy σ) rfl 1 (by decide) (List.mem_cons_of_mem _ zw1_22) rfl dX11_grow_1 ?_
  refine z_get hC hI hinX11_grow_X20 1 (wC_e1 ad cy σ) rfl 2 (by decide) (List.mem_cons_of_mem _ zw11_5) rfl dX11_grow_4 ?_
  refine lv_topi (fun v1 ev1 => ?_)
  replace hf := zbv_use ev1 hf
  refine lv_istore_n (lv' := [(2, .int v1), (0, .ref (ad 0)), (1, .int x1)]) hx hb dX11_grow_7 rfl hl (by decide) rfl (fun ls hl => ?_)
  refine lv_iload_n hx hb dX11_grow_8 rfl (lv_at hl 2 rfl) ?_
  refine lv_iload_n hx hb dX11_grow_9 rfl (lv_at hl 0 rfl) ?_
  refine lv_icmp_lt (tgt := 19) hx hb dX11_grow_10 (by decide) (fun q => ?_) (fun q => ?_)
  · replace hf := zif_t q hf
    exact bX11_grow_19 hC hE hst  hI (lv_sub hl [] rfl) hf
  replace hf := zif_f q hf
  refine lv_iload_n hx hb dX11_grow_13 rfl (lv_at hl 2 rfl) ?_
  refine lv_ldc (v := 262656) hx hb hC.2.2.2.1 (hC.2.2.2.2.1 _ (List.mem_cons_of_mem _ zw11_6)) dX11_grow_14 ?_
  refine lv_icmp_le (tgt := 29) hx hb dX11_grow_16 (by decide) (fun q => ?_) (fun q => ?_)
  · replace hf := zif_t q hf
    refine lv_iload_n hx hb dX11_grow_29 rfl (lv_at hl 0 rfl) ?_
    refine lv_if_ne (tgt := 43) hx hb dX11_grow_30 (by decide) (fun q => ?_) (fun q => ?_)
    · replace hf := zif_f q hf
      refine lv_aload_n hx hb dX11_grow_43 rfl (lv_at hl 1 rfl) ?_
      refine z_get hC hI hinX11_grow_X110 0 (wC_e0 ad cy σ) rfl 1 (by decide) (List.mem_cons_of_mem _ zw1_22) rfl dX11_grow_44 ?_
      refine lv_iload_n hx hb dX11_grow_47 rfl (lv_at hl 2 rfl) ?_
      obtain ⟨σ2, g2, hf⟩ := zbu_use hf
      refine z_callVu (As := [.int x1]) (rest := []) hC hI (cX2_repeatTape_met st l D ad cy σ x1 _ g2) (zgV zw12_9 zw12_10 zw12_11 zw1_21 zw12_12) rfl ⟨rfl, rfl⟩ 1 hdX2_repeatTape ⟨Nat.le_of_ble_eq_true rfl, Nat.le_of_ble_eq_true rfl⟩ rfl rfl (wC_e1 ad cy σ) rfl hl rfl (Nat.le_of_ble_eq_true rfl) dX11_grow_48 ⟨Nat.zero_le _, Nat.zero_le _⟩ (fun H locs hI => ?_)
      refine lv_iload_n hx hb dX11_grow_51 rfl (lv_at hl 0 rfl) ?_
      exact z_xireturn hC hI hf dX11_grow_52
    replace hf := zif_t q hf
    exact z_throw hC hE hst hI hl 2 hf (by decide) (List.mem_cons_of_mem _ zw11_3) (List.mem_cons_of_mem _ zw11_4) 47 (by decide) rfl rfl (fun w h => List.mem_cons_of_mem _ (zx2 w h)) zXn2 zXg2 dX11_grow_33 dX11_grow_36 dX11_grow_37 dX11_grow_39 dX11_grow_42 (Nat.le_of_ble_eq_true rfl) (Nat.le_of_ble_eq_true rfl) (Nat.le_of_ble_eq_true rfl) (Nat.le_of_ble_eq_true rfl)
  replace hf := zif_f q hf
  exact bX11_grow_19 hC hE hst  hI (lv_sub hl [] rfl) hf
set_option maxRecDepth 20000 in
theorem cX11_grow_met (st : Nat → Nat) (l : Launch) (hst : l.stackTraces = false) (D : va_G) (ad : Nat → Nat) (cy : Nat → ClassId) (σ : zSt) (x1 : Int32) (res : zRi) (hf : fX11_grow σ x1 = some res) (sz : Nat) : zXi st l yX11_grow wzX11_grow rmX11_grow [.ref (ad 0), .int x1] D (tC cy) (wC ad cy) sz σ res :=
  zXi.of (cc := cX11_grow) (maxL := 3) (ret := (some .int)) (by decide) rfl (Nat.le_of_ble_eq_true rfl) (fun p e s m args below meth c hC hE A hI ls hl => bX11_grow hC hE hst hI hl hf)
theorem hdX11_grow : yX11_grow.cls = RX11 ∧ yX11_grow.cls ≠ "java/lang/invoke/MethodHandle" ∧ yX11_grow.cls ≠ "java/lang/invoke/VarHandle" ∧ (parseMethodDescriptor yX11_grow.desc).map (fun d => d.parameters.length) = some 1 := by decide +kernel
noncomputable def rmX11_patch : Room := { frames := 6, cells := 1, slots := 6, locals := 100 }
noncomputable def wzX11_patch : List Cond := .code yX11_patch cX11_patch 4 none :: wsL_law
theorem hinX11_patch_X110 : ∀ w ∈ wsX110, w ∈ wzX11_patch := fun w h => List.mem_cons_of_mem _ (inlX11 w h)
theorem hinX11_patch_X20 : ∀ w ∈ wsX20, w ∈ wzX11_patch := fun w h => List.mem_cons_of_mem _ (inlX2 w h)
noncomputable def fX11_patch_18  (σ : zSt)  : Option (zRu) :=
  some (Sum.inr (σ, 1))
noncomputable def fX11_patch  (σ : zSt) (x1 : Int32) (x2 : Int64) : Option (zRu) :=
  if x1 < 0 then fX11_patch_18 σ else
  if x1 ≤ ((zgi σ 1 2) - 8) then zbu (fX2_changeTape σ x1 x2) (fun σ1 =>
  some (Sum.inl σ1)) else
  fX11_patch_18 σ
set_option maxRecDepth 20000 in
set_option maxHeartbeats 4000000 in
theorem bX11_patch_18 {st : Nat → Nat} {p : Program} {l : Launch} {e : Env} {s : State} {m : MethodId} {args : Array Value} {below : List Frame} {meth : Method} {c : Code} {D : va_G} {A : Nat → Prop} {ad : Nat → Nat} {cy : Nat → ClassId} (hC : zC p m c cX11_patch 4 s args wzX11_patch RX11 meth none) (hE : ∀ x ∈ c.exceptionTable.toList, False) (hst : l.stackTraces = false)  {res : zRu} {H : Heap} {locs : List Loc} {σ : zSt} {ls : Array Slot}  (hI : zI st D (tC cy) (wC ad cy σ) A s H locs) (hl : lv_has ls 4 []) (hf : fX11_patch_18  σ  = some res) : W p l e rmX11_patch s m args below meth c H locs 0 0 (zXQu below args s D (tC cy) (wC ad cy) A res) (F0 m 18 ls []) := by
  have hx := hC.1
  have hb := hC.2.1
  unfold fX11_patch_18 at hf
  exact z_throw hC hE hst hI hl 1 hf (by decide) (List.mem_cons_of_mem _ zw11_1) (List.mem_cons_of_mem _ zw11_2) 48 (by decide) rfl rfl (fun w h => List.mem_cons_of_mem _ (zx1 w h)) zXn1 zXg1 dX11_patch_18 dX11_patch_21 dX11_patch_22 dX11_patch_24 dX11_patch_27 (Nat.le_of_ble_eq_true rfl) (Nat.le_of_ble_eq_true rfl) (Nat.le_of_ble_eq_true rfl) (Nat.le_of_ble_eq_true rfl)
set_option maxRecDepth 20000 in
set_option maxHeartbeats 4000000 in
theorem bX11_patch {st : Nat → Nat} {p : Program} {l : Launch} {e : Env} {s : State} {m : MethodId} {args : Array Value} {below : List Frame} {meth : Method} {c : Code} {D : va_G} {A : Nat → Prop} {ad : Nat → Nat} {cy : Nat → ClassId} (hC : zC p m c cX11_patch 4 s args wzX11_patch RX11 meth none) (hE : ∀ x ∈ c.exceptionTable.toList, False) (hst : l.stackTraces = false)  {res : zRu} {H : Heap} {locs : List Loc} {σ : zSt} {ls : Array Slot} {x1 : Int32} {x2 : Int64} (hI : zI st D (tC cy) (wC ad cy σ) A s H locs) (hl : lv_has ls 4 [(0, .ref (ad 0)), (1, .int x1), (2, .long x2)]) (hf : fX11_patch  σ x1 x2 = some res) : W p l e rmX11_patch s m args below meth c H locs 0 0 (zXQu below args s D (tC cy) (wC ad cy) A res) (F0 m 0 ls []) := by
  have hx := hC.1
  have hb := hC.2.1
  unfold fX11_patch at hf
  refine lv_iload_n hx hb dX11_patch_0 rfl (lv_at hl 1 rfl) ?_
  refine lv_if_lt (tgt := 18) hx hb dX11_patch_1 (by decide) (fun q => ?_) (fun q => ?_)
  · replace hf := zif_t q hf
    exact bX11_patch_18 hC hE hst  hI (lv_sub hl [] rfl) hf
  replace hf := zif_f q hf
  refine lv_iload_n hx hb dX11_patch_4 rfl (lv_at hl 1 rfl) ?_
  refine lv_aload_n hx hb dX11_patch_5 rfl (lv_at hl 0 rfl) ?_
  refine z_get hC hI hinX11_patch_X110 0 (wC_e0 ad cy σ) rfl 1 (by decide) (List.mem_cons_of_mem _ zw1_22) rfl dX11_patch_6 ?_
  refine z_get hC hI hinX11_patch_X20 1 (wC_e1 ad cy σ) rfl 2 (by decide) (List.mem_cons_of_mem _ zw11_5) rfl dX11_patch_9 ?_
  refine lv_bipush (v := 8) hx hb dX11_patch_12 (by decide) ?_
  refine lv_isub hx hb dX11_patch_14 ?_
  refine lv_icmp_le (tgt := 28) hx hb dX11_patch_15 (by decide) (fun q => ?_) (fun q => ?_)
  · replace hf := zif_t q hf
    refine lv_aload_n hx hb dX11_patch_28 rfl (lv_at hl 0 rfl) ?_
    refine z_get hC hI hinX11_patch_X110 0 (wC_e0 ad cy σ) rfl 1 (by decide) (List.mem_cons_of_mem _ zw1_22) rfl dX11_patch_29 ?_
    refine lv_iload_n hx hb dX11_patch_32 rfl (lv_at hl 1 rfl) ?_
    refine lv_lload_n hx hb dX11_patch_33 rfl (lv_at hl 2 rfl) ?_
    obtain ⟨σ1, g1, hf⟩ := zbu_use hf
    refine z_callVu (As := [.int x1, .long x2]) (rest := []) hC hI (cX2_changeTape_met st l D ad cy σ x1 x2 _ g1) (zgV zw13_7 zw13_8 zw13_9 zw1_21 zw13_10) rfl ⟨rfl, rfl⟩ 2 hdX2_changeTape ⟨Nat.le_of_ble_eq_true rfl, Nat.le_of_ble_eq_true rfl⟩ rfl rfl (wC_e1 ad cy σ) rfl hl rfl (Nat.le_of_ble_eq_true rfl) dX11_patch_34 ⟨Nat.zero_le _, Nat.zero_le _⟩ (fun H locs hI => ?_)
    exact z_xreturn hC hI hf dX11_patch_37
  replace hf := zif_f q hf
  exact bX11_patch_18 hC hE hst  hI (lv_sub hl [] rfl) hf
set_option maxRecDepth 20000 in
theorem cX11_patch_met (st : Nat → Nat) (l : Launch) (hst : l.stackTraces = false) (D : va_G) (ad : Nat → Nat) (cy : Nat → ClassId) (σ : zSt) (x1 : Int32) (x2 : Int64) (res : zRu) (hf : fX11_patch σ x1 x2 = some res) (sz : Nat) : zXu st l yX11_patch wzX11_patch rmX11_patch [.ref (ad 0), .int x1, .long x2] D (tC cy) (wC ad cy) sz σ res :=
  zXu.of (cc := cX11_patch) (maxL := 4) (ret := none) (by decide) rfl (Nat.le_of_ble_eq_true rfl) (fun p e s m args below meth c hC hE A hI ls hl => bX11_patch hC hE hst hI hl hf)
theorem hdX11_patch : yX11_patch.cls = RX11 ∧ yX11_patch.cls ≠ "java/lang/invoke/MethodHandle" ∧ yX11_patch.cls ≠ "java/lang/invoke/VarHandle" ∧ (parseMethodDescriptor yX11_patch.desc).map (fun d => d.parameters.length) = some 2 := by decide +kernel
noncomputable def rmX11_card : Room := { frames := 6, cells := 1, slots := 6, locals := 100 }
noncomputable def wzX11_card : List Cond := .code yX11_card cX11_card 2 (some .int) :: wsL_law
theorem hinX11_card_X110 : ∀ w ∈ wsX110, w ∈ wzX11_card := fun w h => List.mem_cons_of_mem _ (inlX11 w h)
noncomputable def fX11_card_10  (σ : zSt)  : Option (zRi) :=
  some (Sum.inr (σ, 1))
noncomputable def fX11_card  (σ : zSt) (x1 : Int32) : Option (zRi) :=
  if x1 < 0 then fX11_card_10 σ else
  if x1 ≤ 7 then zbi (fX2_aboutCard σ x1) (fun σ1 v2 =>
  some (Sum.inl (σ1, v2))) else
  fX11_card_10 σ
set_option maxRecDepth 20000 in
set_option maxHeartbeats 4000000 in
theorem bX11_card_10 {st : Nat → Nat} {p : Program} {l : Launch} {e : Env} {s : State} {m : MethodId} {args : Array Value} {below : List Frame} {meth : Method} {c : Code} {D : va_G} {A : Nat → Prop} {ad : Nat → Nat} {cy : Nat → ClassId} (hC : zC p m c cX11_card 2 s args wzX11_card RX11 meth (some .int)) (hE : ∀ x ∈ c.exceptionTable.toList, False) (hst : l.stackTraces = false)  {res : zRi} {H : Heap} {locs : List Loc} {σ : zSt} {ls : Array Slot}  (hI : zI st D (tC cy) (wC ad cy σ) A s H locs) (hl : lv_has ls 2 []) (hf : fX11_card_10  σ  = some res) : W p l e rmX11_card s m args below meth c H locs 0 0 (zXQi below args s D (tC cy) (wC ad cy) A res) (F0 m 10 ls []) := by
  have hx := hC.1
  have hb := hC.2.1
  unfold fX11_card_10 at hf
  exact z_throw hC hE hst hI hl 1 hf (by decide) (List.mem_cons_of_mem _ zw11_1) (List.mem_cons_of_mem _ zw11_2) 49 (by decide) rfl rfl (fun w h => List.mem_cons_of_mem _ (zx1 w h)) zXn1 zXg1 dX11_card_10 dX11_card_13 dX11_card_14 dX11_card_16 dX11_card_19 (Nat.le_of_ble_eq_true rfl) (Nat.le_of_ble_eq_true rfl) (Nat.le_of_ble_eq_true rfl) (Nat.le_of_ble_eq_true rfl)
set_option maxRecDepth 20000 in
set_option maxHeartbeats 4000000 in
theorem bX11_card {st : Nat → Nat} {p : Program} {l : Launch} {e : Env} {s : State} {m : MethodId} {args : Array Value} {below : List Frame} {meth : Method} {c : Code} {D : va_G} {A : Nat → Prop} {ad : Nat → Nat} {cy : Nat → ClassId} (hC : zC p m c cX11_card 2 s args wzX11_card RX11 meth (some .int)) (hE : ∀ x ∈ c.exceptionTable.toList, False) (hst : l.stackTraces = false)  {res : zRi} {H : Heap} {locs : List Loc} {σ : zSt} {ls : Array Slot} {x1 : Int32} (hI : zI st D (tC cy) (wC ad cy σ) A s H locs) (hl : lv_has ls 2 [(0, .ref (ad 0)), (1, .int x1)]) (hf : fX11_card  σ x1 = some res) : W p l e rmX11_card s m args below meth c H locs 0 0 (zXQi below args s D (tC cy) (wC ad cy) A res) (F0 m 0 ls []) := by
  have hx := hC.1
  have hb := hC.2.1
  unfold fX11_card at hf
  refine lv_iload_n hx hb dX11_card_0 rfl (lv_at hl 1 rfl) ?_
  refine lv_if_lt (tgt := 10) hx hb dX11_card_1 (by decide) (fun q => ?_) (fun q => ?_)
  · replace hf := zif_t q hf
    exact bX11_card_10 hC hE hst  hI (lv_sub hl [] rfl) hf
  replace hf := zif_f q hf
  refine lv_iload_n hx hb dX11_card_4 rfl (lv_at hl 1 rfl) ?_
  refine lv_bipush (v := 7) hx hb dX11_card_5 (by decide) ?_
  refine lv_icmp_le (tgt := 20) hx hb dX11_card_7 (by decide) (fun q => ?_) (fun q => ?_)
  · replace hf := zif_t q hf
    refine lv_aload_n hx hb dX11_card_20 rfl (lv_at hl 0 rfl) ?_
    refine z_get hC hI hinX11_card_X110 0 (wC_e0 ad cy σ) rfl 1 (by decide) (List.mem_cons_of_mem _ zw1_22) rfl dX11_card_21 ?_
    refine lv_iload_n hx hb dX11_card_24 rfl (lv_at hl 1 rfl) ?_
    obtain ⟨σ1, v2, g1, hf⟩ := zbi_use hf
    refine z_callVi (As := [.int x1]) (rest := []) hC hI (cX2_aboutCard_met st l D ad cy σ x1 _ g1) (zgV zw17_4 zw17_5 zw17_6 zw1_21 zw17_7) rfl ⟨rfl, rfl⟩ 1 hdX2_aboutCard ⟨Nat.le_of_ble_eq_true rfl, Nat.le_of_ble_eq_true rfl⟩ rfl rfl (wC_e1 ad cy σ) rfl hl rfl (Nat.le_of_ble_eq_true rfl) dX11_card_25 ⟨Nat.zero_le _, Nat.zero_le _⟩ (fun H locs hI => ?_)
    exact z_xireturn hC hI hf dX11_card_28
  replace hf := zif_f q hf
  exact bX11_card_10 hC hE hst  hI (lv_sub hl [] rfl) hf
set_option maxRecDepth 20000 in
theorem cX11_card_met (st : Nat → Nat) (l : Launch) (hst : l.stackTraces = false) (D : va_G) (ad : Nat → Nat) (cy : Nat → ClassId) (σ : zSt) (x1 : Int32) (res : zRi) (hf : fX11_card σ x1 = some res) (sz : Nat) : zXi st l yX11_card wzX11_card rmX11_card [.ref (ad 0), .int x1] D (tC cy) (wC ad cy) sz σ res :=
  zXi.of (cc := cX11_card) (maxL := 2) (ret := (some .int)) (by decide) rfl (Nat.le_of_ble_eq_true rfl) (fun p e s m args below meth c hC hE A hI ls hl => bX11_card hC hE hst hI hl hf)
theorem hdX11_card : yX11_card.cls = RX11 ∧ yX11_card.cls ≠ "java/lang/invoke/MethodHandle" ∧ yX11_card.cls ≠ "java/lang/invoke/VarHandle" ∧ (parseMethodDescriptor yX11_card.desc).map (fun d => d.parameters.length) = some 1 := by decide +kernel
noncomputable def rmX11_step : Room := { frames := 7, cells := 1, slots := 6, locals := 174 }
noncomputable def wzX11_step : List Cond := .code yX11_step cX11_step 2 (some .int) :: wsL_law
noncomputable def fX11_step_12  (σ : zSt)  : Option (zRi) :=
  some (Sum.inr (σ, 1))
noncomputable def fX11_step  (σ : zSt) (x1 : Int32) : Option (zRi) :=
  if x1 < 1 then fX11_step_12 σ else
  if x1 ≤ 20000 then zbi (fX11_run σ x1 (x1 + 1)) (fun σ1 v2 =>
  some (Sum.inl (σ1, v2))) else
  fX11_step_12 σ
set_option maxRecDepth 20000 in
set_option maxHeartbeats 4000000 in
theorem bX11_step_12 {st : Nat → Nat} {p : Program} {l : Launch} {e : Env} {s : State} {m : MethodId} {args : Array Value} {below : List Frame} {meth : Method} {c : Code} {D : va_G} {A : Nat → Prop} {ad : Nat → Nat} {cy : Nat → ClassId} (hC : zC p m c cX11_step 2 s args wzX11_step RX11 meth (some .int)) (hE : ∀ x ∈ c.exceptionTable.toList, False) (hst : l.stackTraces = false)  {res : zRi} {H : Heap} {locs : List Loc} {σ : zSt} {ls : Array Slot}  (hI : zI st D (tC cy) (wC ad cy σ) A s H locs) (hl : lv_has ls 2 []) (hf : fX11_step_12  σ  = some res) : W p l e rmX11_step s m args below meth c H locs 0 0 (zXQi below args s D (tC cy) (wC ad cy) A res) (F0 m 12 ls []) := by
  have hx := hC.1
  have hb := hC.2.1
  unfold fX11_step_12 at hf
  exact z_throw hC hE hst hI hl 1 hf (by decide) (List.mem_cons_of_mem _ zw11_1) (List.mem_cons_of_mem _ zw11_2) 50 (by decide) rfl rfl (fun w h => List.mem_cons_of_mem _ (zx1 w h)) zXn1 zXg1 dX11_step_12 dX11_step_15 dX11_step_16 dX11_step_18 dX11_step_21 (Nat.le_of_ble_eq_true rfl) (Nat.le_of_ble_eq_true rfl) (Nat.le_of_ble_eq_true rfl) (Nat.le_of_ble_eq_true rfl)
set_option maxRecDepth 20000 in
set_option maxHeartbeats 4000000 in
theorem bX11_step {st : Nat → Nat} {p : Program} {l : Launch} {e : Env} {s : State} {m : MethodId} {args : Array Value} {below : List Frame} {meth : Method} {c : Code} {D : va_G} {A : Nat → Prop} {ad : Nat → Nat} {cy : Nat → ClassId} (hC : zC p m c cX11_step 2 s args wzX11_step RX11 meth (some .int)) (hE : ∀ x ∈ c.exceptionTable.toList, False) (hst : l.stackTraces = false)  {res : zRi} {H : Heap} {locs : List Loc} {σ : zSt} {ls : Array Slot} {x1 : Int32} (hI : zI st D (tC cy) (wC ad cy σ) A s H locs) (hl : lv_has ls 2 [(0, .ref (ad 0)), (1, .int x1)]) (hf : fX11_step  σ x1 = some res) : W p l e rmX11_step s m args below meth c H locs 0 0 (zXQi below args s D (tC cy) (wC ad cy) A res) (F0 m 0 ls []) := by
  have hx := hC.1
  have hb := hC.2.1
  unfold fX11_step at hf
  refine lv_iload_n hx hb dX11_step_0 rfl (lv_at hl 1 rfl) ?_
  refine lv_iconst (v := 1) hx hb dX11_step_1 (by decide) ?_
  refine lv_icmp_lt (tgt := 12) hx hb dX11_step_2 (by decide) (fun q => ?_) (fun q => ?_)
  · replace hf := zif_t q hf
    exact bX11_step_12 hC hE hst  hI (lv_sub hl [] rfl) hf
  replace hf := zif_f q hf
  refine lv_iload_n hx hb dX11_step_5 rfl (lv_at hl 1 rfl) ?_
  refine lv_sipush (v := 20000) hx hb dX11_step_6 (by decide) ?_
  refine lv_icmp_le (tgt := 22) hx hb dX11_step_9 (by decide) (fun q => ?_) (fun q => ?_)
  · replace hf := zif_t q hf
    refine lv_aload_n hx hb dX11_step_22 rfl (lv_at hl 0 rfl) ?_
    refine lv_iload_n hx hb dX11_step_23 rfl (lv_at hl 1 rfl) ?_
    refine lv_iload_n hx hb dX11_step_24 rfl (lv_at hl 1 rfl) ?_
    refine lv_iconst (v := 1) hx hb dX11_step_25 (by decide) ?_
    refine lv_iadd hx hb dX11_step_26 ?_
    obtain ⟨σ1, v2, g1, hf⟩ := zbi_use hf
    refine z_callVi (As := [.int x1, .int (x1 + 1)]) (rest := []) hC hI (cX11_run_met st l D ad cy σ x1 (x1 + 1) _ g1) (zgV zw18_9 zw18_10 zw18_11 zw1_2 zw18_12) rfl ⟨rfl, rfl⟩ 2 hdX11_run ⟨Nat.le_of_ble_eq_true rfl, Nat.le_of_ble_eq_true rfl⟩ rfl rfl (wC_e0 ad cy σ) rfl hl rfl (Nat.le_of_ble_eq_true rfl) dX11_step_27 ⟨Nat.zero_le _, Nat.zero_le _⟩ (fun H locs hI => ?_)
    exact z_xireturn hC hI hf dX11_step_30
  replace hf := zif_f q hf
  exact bX11_step_12 hC hE hst  hI (lv_sub hl [] rfl) hf
set_option maxRecDepth 20000 in
theorem cX11_step_met (st : Nat → Nat) (l : Launch) (hst : l.stackTraces = false) (D : va_G) (ad : Nat → Nat) (cy : Nat → ClassId) (σ : zSt) (x1 : Int32) (res : zRi) (hf : fX11_step σ x1 = some res) (sz : Nat) : zXi st l yX11_step wzX11_step rmX11_step [.ref (ad 0), .int x1] D (tC cy) (wC ad cy) sz σ res :=
  zXi.of (cc := cX11_step) (maxL := 2) (ret := (some .int)) (by decide) rfl (Nat.le_of_ble_eq_true rfl) (fun p e s m args below meth c hC hE A hI ls hl => bX11_step hC hE hst hI hl hf)
theorem hdX11_step : yX11_step.cls = RX11 ∧ yX11_step.cls ≠ "java/lang/invoke/MethodHandle" ∧ yX11_step.cls ≠ "java/lang/invoke/VarHandle" ∧ (parseMethodDescriptor yX11_step.desc).map (fun d => d.parameters.length) = some 1 := by decide +kernel
noncomputable def rmX11_picture : Room := { frames := 7, cells := 1, slots := 6, locals := 174 }
noncomputable def wzX11_picture : List Cond := .code yX11_picture cX11_picture 2 (some .int) :: wsL_law
noncomputable def fX11_picture_10  (σ : zSt)  : Option (zRi) :=
  some (Sum.inr (σ, 1))
noncomputable def fX11_picture  (σ : zSt) (x1 : Int32) : Option (zRi) :=
  if x1 < 1 then fX11_picture_10 σ else
  if x1 ≤ 3 then zbi (fX11_run σ 1000000 x1) (fun σ1 v2 =>
  some (Sum.inl (σ1, v2))) else
  fX11_picture_10 σ
set_option maxRecDepth 20000 in
set_option maxHeartbeats 4000000 in
theorem bX11_picture_10 {st : Nat → Nat} {p : Program} {l : Launch} {e : Env} {s : State} {m : MethodId} {args : Array Value} {below : List Frame} {meth : Method} {c : Code} {D : va_G} {A : Nat → Prop} {ad : Nat → Nat} {cy : Nat → ClassId} (hC : zC p m c cX11_picture 2 s args wzX11_picture RX11 meth (some .int)) (hE : ∀ x ∈ c.exceptionTable.toList, False) (hst : l.stackTraces = false)  {res : zRi} {H : Heap} {locs : List Loc} {σ : zSt} {ls : Array Slot}  (hI : zI st D (tC cy) (wC ad cy σ) A s H locs) (hl : lv_has ls 2 []) (hf : fX11_picture_10  σ  = some res) : W p l e rmX11_picture s m args below meth c H locs 0 0 (zXQi below args s D (tC cy) (wC ad cy) A res) (F0 m 10 ls []) := by
  have hx := hC.1
  have hb := hC.2.1
  unfold fX11_picture_10 at hf
  exact z_throw hC hE hst hI hl 1 hf (by decide) (List.mem_cons_of_mem _ zw11_1) (List.mem_cons_of_mem _ zw11_2) 51 (by decide) rfl rfl (fun w h => List.mem_cons_of_mem _ (zx1 w h)) zXn1 zXg1 dX11_picture_10 dX11_picture_13 dX11_picture_14 dX11_picture_16 dX11_picture_19 (Nat.le_of_ble_eq_true rfl) (Nat.le_of_ble_eq_true rfl) (Nat.le_of_ble_eq_true rfl) (Nat.le_of_ble_eq_true rfl)
set_option maxRecDepth 20000 in
set_option maxHeartbeats 4000000 in
theorem bX11_picture {st : Nat → Nat} {p : Program} {l : Launch} {e : Env} {s : State} {m : MethodId} {args : Array Value} {below : List Frame} {meth : Method} {c : Code} {D : va_G} {A : Nat → Prop} {ad : Nat → Nat} {cy : Nat → ClassId} (hC : zC p m c cX11_picture 2 s args wzX11_picture RX11 meth (some .int)) (hE : ∀ x ∈ c.exceptionTable.toList, False) (hst : l.stackTraces = false)  {res : zRi} {H : Heap} {locs : List Loc} {σ : zSt} {ls : Array Slot} {x1 : Int32} (hI : zI st D (tC cy) (wC ad cy σ) A s H locs) (hl : lv_has ls 2 [(0, .ref (ad 0)), (1, .int x1)]) (hf : fX11_picture  σ x1 = some res) : W p l e rmX11_picture s m args below meth c H locs 0 0 (zXQi below args s D (tC cy) (wC ad cy) A res) (F0 m 0 ls []) := by
  have hx := hC.1
  have hb := hC.2.1
  unfold fX11_picture at hf
  refine lv_iload_n hx hb dX11_picture_0 rfl (lv_at hl 1 rfl) ?_
  refine lv_iconst (v := 1) hx hb dX11_picture_1 (by decide) ?_
  refine lv_icmp_lt (tgt := 10) hx hb dX11_picture_2 (by decide) (fun q => ?_) (fun q => ?_)
  · replace hf := zif_t q hf
    exact bX11_picture_10 hC hE hst  hI (lv_sub hl [] rfl) hf
  replace hf := zif_f q hf
  refine lv_iload_n hx hb dX11_picture_5 rfl (lv_at hl 1 rfl) ?_
  refine lv_iconst (v := 3) hx hb dX11_picture_6 (by decide) ?_
  refine lv_icmp_le (tgt := 20) hx hb dX11_picture_7 (by decide) (fun q => ?_) (fun q => ?_)
  · replace hf := zif_t q hf
    refine lv_aload_n hx hb dX11_picture_20 rfl (lv_at hl 0 rfl) ?_
    refine lv_ldc (v := 1000000) hx hb hC.2.2.2.1 (hC.2.2.2.2.1 _ (List.mem_cons_of_mem _ zw66_1)) dX11_picture_21 ?_
    refine lv_iload_n hx hb dX11_picture_23 rfl (lv_at hl 1 rfl) ?_
    obtain ⟨σ1, v2, g1, hf⟩ := zbi_use hf
    refine z_callVi (As := [.int 1000000, .int x1]) (rest := []) hC hI (cX11_run_met st l D ad cy σ 1000000 x1 _ g1) (zgV zw18_9 zw18_10 zw18_11 zw1_2 zw18_12) rfl ⟨rfl, rfl⟩ 2 hdX11_run ⟨Nat.le_of_ble_eq_true rfl, Nat.le_of_ble_eq_true rfl⟩ rfl rfl (wC_e0 ad cy σ) rfl hl rfl (Nat.le_of_ble_eq_true rfl) dX11_picture_24 ⟨Nat.zero_le _, Nat.zero_le _⟩ (fun H locs hI => ?_)
    exact z_xireturn hC hI hf dX11_picture_27
  replace hf := zif_f q hf
  exact bX11_picture_10 hC hE hst  hI (lv_sub hl [] rfl) hf
set_option maxRecDepth 20000 in
theorem cX11_picture_met (st : Nat → Nat) (l : Launch) (hst : l.stackTraces = false) (D : va_G) (ad : Nat → Nat) (cy : Nat → ClassId) (σ : zSt) (x1 : Int32) (res : zRi) (hf : fX11_picture σ x1 = some res) (sz : Nat) : zXi st l yX11_picture wzX11_picture rmX11_picture [.ref (ad 0), .int x1] D (tC cy) (wC ad cy) sz σ res :=
  zXi.of (cc := cX11_picture) (maxL := 2) (ret := (some .int)) (by decide) rfl (Nat.le_of_ble_eq_true rfl) (fun p e s m args below meth c hC hE A hI ls hl => bX11_picture hC hE hst hI hl hf)
theorem hdX11_picture : yX11_picture.cls = RX11 ∧ yX11_picture.cls ≠ "java/lang/invoke/MethodHandle" ∧ yX11_picture.cls ≠ "java/lang/invoke/VarHandle" ∧ (parseMethodDescriptor yX11_picture.desc).map (fun d => d.parameters.length) = some 1 := by decide +kernel
noncomputable def rmX11_press : Room := { frames := 6, cells := 1, slots := 6, locals := 100 }
noncomputable def wzX11_press : List Cond := .code yX11_press cX11_press 3 none :: wsL_law
theorem hinX11_press_X110 : ∀ w ∈ wsX110, w ∈ wzX11_press := fun w h => List.mem_cons_of_mem _ (inlX11 w h)
noncomputable def fX11_press  (σ : zSt) (x1 : Int32) (x2 : Int32) : Option (zRu) :=
  zbi (fX4_canPress σ x1 x2) (fun σ1 v2 =>
  if v2 = 0 then some (Sum.inr (σ1, 1)) else
  zbu (fX4_holdButtons σ1 x1 x2) (fun σ3 =>
  some (Sum.inl σ3)))
set_option maxRecDepth 20000 in
set_option maxHeartbeats 4000000 in
theorem bX11_press {st : Nat → Nat} {p : Program} {l : Launch} {e : Env} {s : State} {m : MethodId} {args : Array Value} {below : List Frame} {meth : Method} {c : Code} {D : va_G} {A : Nat → Prop} {ad : Nat → Nat} {cy : Nat → ClassId} (hC : zC p m c cX11_press 3 s args wzX11_press RX11 meth none) (hE : ∀ x ∈ c.exceptionTable.toList, False) (hst : l.stackTraces = false)  {res : zRu} {H : Heap} {locs : List Loc} {σ : zSt} {ls : Array Slot} {x1 : Int32} {x2 : Int32} (hI : zI st D (tC cy) (wC ad cy σ) A s H locs) (hl : lv_has ls 3 [(0, .ref (ad 0)), (1, .int x1), (2, .int x2)]) (hf : fX11_press  σ x1 x2 = some res) : W p l e rmX11_press s m args below meth c H locs 0 0 (zXQu below args s D (tC cy) (wC ad cy) A res) (F0 m 0 ls []) := by
  have hx := hC.1
  have hb := hC.2.1
  unfold fX11_press at hf
  refine lv_iload_n hx hb dX11_press_0 rfl (lv_at hl 1 rfl) ?_
  refine lv_iload_n hx hb dX11_press_1 rfl (lv_at hl 2 rfl) ?_
  obtain ⟨σ1, v2, g1, hf⟩ := zbi_use hf
  refine z_callSi (As := [.int x1, .int x2]) (rest := []) hC hI (cX4_canPress_met st l D ad cy σ x1 x2 _ g1) (zgS zw67_10 zw67_11 zw2_17 zw67_12) rfl ⟨rfl, rfl⟩ 2 hdX4_canPress ⟨Nat.le_of_ble_eq_true rfl, Nat.le_of_ble_eq_true rfl⟩ rfl hl rfl (Nat.le_of_ble_eq_true rfl) dX11_press_2 ⟨Nat.zero_le _, Nat.zero_le _⟩ (fun H locs hI => ?_)
  refine lv_if_ne (tgt := 18) hx hb dX11_press_5 (by decide) (fun q => ?_) (fun q => ?_)
  · replace hf := zif_f q hf
    refine lv_aload_n hx hb dX11_press_18 rfl (lv_at hl 0 rfl) ?_
    refine z_get hC hI hinX11_press_X110 0 (wC_e0 ad cy σ1) rfl 6 (by decide) (List.mem_cons_of_mem _ zw2_18) rfl dX11_press_19 ?_
    refine lv_iload_n hx hb dX11_press_22 rfl (lv_at hl 1 rfl) ?_
    refine lv_iload_n hx hb dX11_press_23 rfl (lv_at hl 2 rfl) ?_
    obtain ⟨σ3, g3, hf⟩ := zbu_use hf
    refine z_callVu (As := [.int x1, .int x2]) (rest := []) hC hI (cX4_holdButtons_met st l D ad cy σ1 x1 x2 _ g3) (zgV zw67_13 zw40_13 zw40_14 zw2_17 zw40_15) rfl ⟨rfl, rfl⟩ 2 hdX4_holdButtons ⟨Nat.le_of_ble_eq_true rfl, Nat.le_of_ble_eq_true rfl⟩ rfl rfl (wC_e6 ad cy σ1) rfl hl rfl (Nat.le_of_ble_eq_true rfl) dX11_press_24 ⟨Nat.zero_le _, Nat.zero_le _⟩ (fun H locs hI => ?_)
    exact z_xreturn hC hI hf dX11_press_27
  replace hf := zif_t q hf
  exact z_throw hC hE hst hI hl 1 hf (by decide) (List.mem_cons_of_mem _ zw11_1) (List.mem_cons_of_mem _ zw11_2) 52 (by decide) rfl rfl (fun w h => List.mem_cons_of_mem _ (zx1 w h)) zXn1 zXg1 dX11_press_8 dX11_press_11 dX11_press_12 dX11_press_14 dX11_press_17 (Nat.le_of_ble_eq_true rfl) (Nat.le_of_ble_eq_true rfl) (Nat.le_of_ble_eq_true rfl) (Nat.le_of_ble_eq_true rfl)
set_option maxRecDepth 20000 in
theorem cX11_press_met (st : Nat → Nat) (l : Launch) (hst : l.stackTraces = false) (D : va_G) (ad : Nat → Nat) (cy : Nat → ClassId) (σ : zSt) (x1 : Int32) (x2 : Int32) (res : zRu) (hf : fX11_press σ x1 x2 = some res) (sz : Nat) : zXu st l yX11_press wzX11_press rmX11_press [.ref (ad 0), .int x1, .int x2] D (tC cy) (wC ad cy) sz σ res :=
  zXu.of (cc := cX11_press) (maxL := 3) (ret := none) (by decide) rfl (Nat.le_of_ble_eq_true rfl) (fun p e s m args below meth c hC hE A hI ls hl => bX11_press hC hE hst hI hl hf)
theorem hdX11_press : yX11_press.cls = RX11 ∧ yX11_press.cls ≠ "java/lang/invoke/MethodHandle" ∧ yX11_press.cls ≠ "java/lang/invoke/VarHandle" ∧ (parseMethodDescriptor yX11_press.desc).map (fun d => d.parameters.length) = some 2 := by decide +kernel
noncomputable def rmX11_line : Room := { frames := 6, cells := 1, slots := 6, locals := 100 }
noncomputable def wzX11_line : List Cond := .code yX11_line cX11_line 3 none :: wsL_law
theorem hinX11_line_X110 : ∀ w ∈ wsX110, w ∈ wzX11_line := fun w h => List.mem_cons_of_mem _ (inlX11 w h)
noncomputable def fX11_line_9  (σ : zSt)  : Option (zRu) :=
  some (Sum.inr (σ, 1))
noncomputable def fX11_line  (σ : zSt) (x1 : Int32) (x2 : Int32) : Option (zRu) :=
  if x1 < 0 then fX11_line_9 σ else
  if x1 ≤ 1 then zbu (fX4_moveLine σ x1 x2) (fun σ1 =>
  some (Sum.inl σ1)) else
  fX11_line_9 σ
set_option maxRecDepth 20000 in
set_option maxHeartbeats 4000000 in
theorem bX11_line_9 {st : Nat → Nat} {p : Program} {l : Launch} {e : Env} {s : State} {m : MethodId} {args : Array Value} {below : List Frame} {meth : Method} {c : Code} {D : va_G} {A : Nat → Prop} {ad : Nat → Nat} {cy : Nat → ClassId} (hC : zC p m c cX11_line 3 s args wzX11_line RX11 meth none) (hE : ∀ x ∈ c.exceptionTable.toList, False) (hst : l.stackTraces = false)  {res : zRu} {H : Heap} {locs : List Loc} {σ : zSt} {ls : Array Slot}  (hI : zI st D (tC cy) (wC ad cy σ) A s H locs) (hl : lv_has ls 3 []) (hf : fX11_line_9  σ  = some res) : W p l e rmX11_line s m args below meth c H locs 0 0 (zXQu below args s D (tC cy) (wC ad cy) A res) (F0 m 9 ls []) := by
  have hx := hC.1
  have hb := hC.2.1
  unfold fX11_line_9 at hf
  exact z_throw hC hE hst hI hl 1 hf (by decide) (List.mem_cons_of_mem _ zw11_1) (List.mem_cons_of_mem _ zw11_2) 53 (by decide) rfl rfl (fun w h => List.mem_cons_of_mem _ (zx1 w h)) zXn1 zXg1 dX11_line_9 dX11_line_12 dX11_line_13 dX11_line_15 dX11_line_18 (Nat.le_of_ble_eq_true rfl) (Nat.le_of_ble_eq_true rfl) (Nat.le_of_ble_eq_true rfl) (Nat.le_of_ble_eq_true rfl)
set_option maxRecDepth 20000 in
set_option maxHeartbeats 4000000 in
theorem bX11_line {st : Nat → Nat} {p : Program} {l : Launch} {e : Env} {s : State} {m : MethodId} {args : Array Value} {below : List Frame} {meth : Method} {c : Code} {D : va_G} {A : Nat → Prop} {ad : Nat → Nat} {cy : Nat → ClassId} (hC : zC p m c cX11_line 3 s args wzX11_line RX11 meth none) (hE : ∀ x ∈ c.exceptionTable.toList, False) (hst : l.stackTraces = false)  {res : zRu} {H : Heap} {locs : List Loc} {σ : zSt} {ls : Array Slot} {x1 : Int32} {x2 : Int32} (hI : zI st D (tC cy) (wC ad cy σ) A s H locs) (hl : lv_has ls 3 [(0, .ref (ad 0)), (1, .int x1), (2, .int x2)]) (hf : fX11_line  σ x1 x2 = some res) : W p l e rmX11_line s m args below meth c H locs 0 0 (zXQu below args s D (tC cy) (wC ad cy) A res) (F0 m 0 ls []) := by
  have hx := hC.1
  have hb := hC.2.1
  unfold fX11_line at hf
  refine lv_iload_n hx hb dX11_line_0 rfl (lv_at hl 1 rfl) ?_
  refine lv_if_lt (tgt := 9) hx hb dX11_line_1 (by decide) (fun q => ?_) (fun q => ?_)
  · replace hf := zif_t q hf
    exact bX11_line_9 hC hE hst  hI (lv_sub hl [] rfl) hf
  replace hf := zif_f q hf
  refine lv_iload_n hx hb dX11_line_4 rfl (lv_at hl 1 rfl) ?_
  refine lv_iconst (v := 1) hx hb dX11_line_5 (by decide) ?_
  refine lv_icmp_le (tgt := 19) hx hb dX11_line_6 (by decide) (fun q => ?_) (fun q => ?_)
  · replace hf := zif_t q hf
    refine lv_aload_n hx hb dX11_line_19 rfl (lv_at hl 0 rfl) ?_
    refine z_get hC hI hinX11_line_X110 0 (wC_e0 ad cy σ) rfl 6 (by decide) (List.mem_cons_of_mem _ zw2_18) rfl dX11_line_20 ?_
    refine lv_iload_n hx hb dX11_line_23 rfl (lv_at hl 1 rfl) ?_
    refine lv_iload_n hx hb dX11_line_24 rfl (lv_at hl 2 rfl) ?_
    obtain ⟨σ1, g1, hf⟩ := zbu_use hf
    refine z_callVu (As := [.int x1, .int x2]) (rest := []) hC hI (cX4_moveLine_met st l D ad cy σ x1 x2 _ g1) (zgV zw68_14 zw68_15 zw68_16 zw2_17 zw68_17) rfl ⟨rfl, rfl⟩ 2 hdX4_moveLine ⟨Nat.le_of_ble_eq_true rfl, Nat.le_of_ble_eq_true rfl⟩ rfl rfl (wC_e6 ad cy σ) rfl hl rfl (Nat.le_of_ble_eq_true rfl) dX11_line_25 ⟨Nat.zero_le _, Nat.zero_le _⟩ (fun H locs hI => ?_)
    exact z_xreturn hC hI hf dX11_line_28
  replace hf := zif_f q hf
  exact bX11_line_9 hC hE hst  hI (lv_sub hl [] rfl) hf
set_option maxRecDepth 20000 in
theorem cX11_line_met (st : Nat → Nat) (l : Launch) (hst : l.stackTraces = false) (D : va_G) (ad : Nat → Nat) (cy : Nat → ClassId) (σ : zSt) (x1 : Int32) (x2 : Int32) (res : zRu) (hf : fX11_line σ x1 x2 = some res) (sz : Nat) : zXu st l yX11_line wzX11_line rmX11_line [.ref (ad 0), .int x1, .int x2] D (tC cy) (wC ad cy) sz σ res :=
  zXu.of (cc := cX11_line) (maxL := 3) (ret := none) (by decide) rfl (Nat.le_of_ble_eq_true rfl) (fun p e s m args below meth c hC hE A hI ls hl => bX11_line hC hE hst hI hl hf)
theorem hdX11_line : yX11_line.cls = RX11 ∧ yX11_line.cls ≠ "java/lang/invoke/MethodHandle" ∧ yX11_line.cls ≠ "java/lang/invoke/VarHandle" ∧ (parseMethodDescriptor yX11_line.desc).map (fun d => d.parameters.length) = some 2 := by decide +kernel
noncomputable def rmX11_plan : Room := { frames := 6, cells := 1, slots := 6, locals := 100 }
noncomputable def wzX11_plan : List Cond := .code yX11_plan cX11_plan 4 (some .int) :: wsL_law
theorem hinX11_plan_X110 : ∀ w ∈ wsX110, w ∈ wzX11_plan := fun w h => List.mem_cons_of_mem _ (inlX11 w h)
noncomputable def fX11_plan_19  (σ : zSt)  : Option (zRi) :=
  some (Sum.inr (σ, 1))
noncomputable def fX11_plan  (σ : zSt) (x1 : Int32) (x2 : Int32) (x3 : Int32) : Option (zRi) :=
  zbi (fX1_leastPlan σ ) (fun σ1 v2 =>
  if x1 < v2 then fX11_plan_19 σ1 else
  zbi (fX4_canPress σ1 x2 x3) (fun σ3 v4 =>
  if v4 = 0 then fX11_plan_19 σ3 else
  zbi (fX1_plansWaiting σ3 ) (fun σ5 v6 =>
  if v6 < 256 then zbi (fX1_addPlan σ5 x1 x2 x3) (fun σ7 v8 =>
  some (Sum.inl (σ7, v8))) else
  some (Sum.inr (σ5, 2)))))
set_option maxRecDepth 20000 in
set_option maxHeartbeats 4000000 in
theorem bX11_plan_19 {st : Nat → Nat} {p : Program} {l : Launch} {e : Env} {s : State} {m : MethodId} {args : Array Value} {below : List Frame} {meth : Method} {c : Code} {D : va_G} {A : Nat → Prop} {ad : Nat → Nat} {cy : Nat → ClassId} (hC : zC p m c cX11_plan 4 s args wzX11_plan RX11 meth (some .int)) (hE : ∀ x ∈ c.exceptionTable.toList, False) (hst : l.stackTraces = false)  {res : zRi} {H : Heap} {locs : List Loc} {σ : zSt} {ls : Array Slot}  (hI : zI st D (tC cy) (wC ad cy σ) A s H locs) (hl : lv_has ls 4 []) (hf : fX11_plan_19  σ  = some res) : W p l e rmX11_plan s m args below meth c H locs 0 0 (zXQi below args s D (tC cy) (wC ad cy) A res) (F0 m 19 ls []) := by
  have hx := hC.1
  have hb := hC.2.1
  unfold fX11_plan_19 at hf
  exact z_throw hC hE hst hI hl 1 hf (by decide) (List.mem_cons_of_mem _ zw11_1) (List.mem_cons_of_mem _ zw11_2) 54 (by decide) rfl rfl (fun w h => List.mem_cons_of_mem _ (zx1 w h)) zXn1 zXg1 dX11_plan_19 dX11_plan_22 dX11_plan_23 dX11_plan_25 dX11_plan_28 (Nat.le_of_ble_eq_true rfl) (Nat.le_of_ble_eq_true rfl) (Nat.le_of_ble_eq_true rfl) (Nat.le_of_ble_eq_true rfl)
set_option maxRecDepth 20000 in
set_option maxHeartbeats 4000000 in
theorem bX11_plan {st : Nat → Nat} {p : Program} {l : Launch} {e : Env} {s : State} {m : MethodId} {args : Array Value} {below : List Frame} {meth : Method} {c : Code} {D : va_G} {A : Nat → Prop} {ad : Nat → Nat} {cy : Nat → ClassId} (hC : zC p m c cX11_plan 4 s args wzX11_plan RX11 meth (some .int)) (hE : ∀ x ∈ c.exceptionTable.toList, False) (hst : l.stackTraces = false)  {res : zRi} {H : Heap} {locs : List Loc} {σ : zSt} {ls : Array Slot} {x1 : Int32} {x2 : Int32} {x3 : Int32} (hI : zI st D (tC cy) (wC ad cy σ) A s H locs) (hl : lv_has ls 4 [(0, .ref (ad 0)), (1, .int x1), (2, .int x2), (3, .int x3)]) (hf : fX11_plan  σ x1 x2 x3 = some res) : W p l e rmX11_plan s m args below meth c H locs 0 0 (zXQi below args s D (tC cy) (wC ad cy) A res) (F0 m 0 ls []) := by
  have hx := hC.1
  have hb := hC.2.1
  unfold fX11_plan at hf
  refine lv_iload_n hx hb dX11_plan_0 rfl (lv_at hl 1 rfl) ?_
  refine lv_aload_n hx hb dX11_plan_1 rfl (lv_at hl 0 rfl) ?_
  refine z_get hC hI hinX11_plan_X110 0 (wC_e0 ad cy σ) rfl 9 (by decide) (List.mem_cons_of_mem _ zw3_6) rfl dX11_plan_2 ?_
  obtain ⟨σ1, v2, g1, hf⟩ := zbi_use hf
  refine z_callVi (As := []) (rest := [.int x1]) hC hI (cX1_leastPlan_met st l D ad cy σ  _ g1) (zgV zw69_5 zw69_6 zw69_7 zw3_5 zw69_8) rfl ⟨rfl, rfl⟩ 0 hdX1_leastPlan ⟨Nat.le_of_ble_eq_true rfl, Nat.le_of_ble_eq_true rfl⟩ rfl rfl (wC_e9 ad cy σ) rfl hl rfl (Nat.le_of_ble_eq_true rfl) dX11_plan_5 ⟨Nat.zero_le _, Nat.zero_le _⟩ (fun H locs hI => ?_)
  refine lv_icmp_lt (tgt := 19) hx hb dX11_plan_8 (by decide) (fun q => ?_) (fun q => ?_)
  · replace hf := zif_t q hf
    exact bX11_plan_19 hC hE hst  hI (lv_sub hl [] rfl) hf
  replace hf := zif_f q hf
  refine lv_iload_n hx hb dX11_plan_11 rfl (lv_at hl 2 rfl) ?_
  refine lv_iload_n hx hb dX11_plan_12 rfl (lv_at hl 3 rfl) ?_
  obtain ⟨σ3, v4, g3, hf⟩ := zbi_use hf
  refine z_callSi (As := [.int x2, .int x3]) (rest := []) hC hI (cX4_canPress_met st l D ad cy σ1 x2 x3 _ g3) (zgS zw67_10 zw67_11 zw2_17 zw67_12) rfl ⟨rfl, rfl⟩ 2 hdX4_canPress ⟨Nat.le_of_ble_eq_true rfl, Nat.le_of_ble_eq_true rfl⟩ rfl hl rfl (Nat.le_of_ble_eq_true rfl) dX11_plan_13 ⟨Nat.zero_le _, Nat.zero_le _⟩ (fun H locs hI => ?_)
  refine lv_if_ne (tgt := 29) hx hb dX11_plan_16 (by decide) (fun q => ?_) (fun q => ?_)
  · replace hf := zif_f q hf
    refine lv_aload_n hx hb dX11_plan_29 rfl (lv_at hl 0 rfl) ?_
    refine z_get hC hI hinX11_plan_X110 0 (wC_e0 ad cy σ3) rfl 9 (by decide) (List.mem_cons_of_mem _ zw3_6) rfl dX11_plan_30 ?_
    obtain ⟨σ5, v6, g5, hf⟩ := zbi_use hf
    refine z_callVi (As := []) (rest := []) hC hI (cX1_plansWaiting_met st l D ad cy σ3  _ g5) (zgV zw69_9 zw69_10 zw69_11 zw3_5 zw69_12) rfl ⟨rfl, rfl⟩ 0 hdX1_plansWaiting ⟨Nat.le_of_ble_eq_true rfl, Nat.le_of_ble_eq_true rfl⟩ rfl rfl (wC_e9 ad cy σ3) rfl hl rfl (Nat.le_of_ble_eq_true rfl) dX11_plan_33 ⟨Nat.zero_le _, Nat.zero_le _⟩ (fun H locs hI => ?_)
    refine lv_sipush (v := 256) hx hb dX11_plan_36 (by decide) ?_
    refine lv_icmp_lt (tgt := 52) hx hb dX11_plan_39 (by decide) (fun q => ?_) (fun q => ?_)
    · replace hf := zif_t q hf
      refine lv_aload_n hx hb dX11_plan_52 rfl (lv_at hl 0 rfl) ?_
      refine z_get hC hI hinX11_plan_X110 0 (wC_e0 ad cy σ5) rfl 9 (by decide) (List.mem_cons_of_mem _ zw3_6) rfl dX11_plan_53 ?_
      refine lv_iload_n hx hb dX11_plan_56 rfl (lv_at hl 1 rfl) ?_
      refine lv_iload_n hx hb dX11_plan_57 rfl (lv_at hl 2 rfl) ?_
      refine lv_iload_n hx hb dX11_plan_58 rfl (lv_at hl 3 rfl) ?_
      obtain ⟨σ7, v8, g7, hf⟩ := zbi_use hf
      refine z_callVi (As := [.int x1, .int x2, .int x3]) (rest := []) hC hI (cX1_addPlan_met st l D ad cy σ5 x1 x2 x3 _ g7) (zgV zw69_13 zw69_14 zw69_15 zw3_5 zw69_16) rfl ⟨rfl, rfl⟩ 3 hdX1_addPlan ⟨Nat.le_of_ble_eq_true rfl, Nat.le_of_ble_eq_true rfl⟩ rfl rfl (wC_e9 ad cy σ5) rfl hl rfl (Nat.le_of_ble_eq_true rfl) dX11_plan_59 ⟨Nat.zero_le _, Nat.zero_le _⟩ (fun H locs hI => ?_)
      exact z_xireturn hC hI hf dX11_plan_62
    replace hf := zif_f q hf
    exact z_throw hC hE hst hI hl 2 hf (by decide) (List.mem_cons_of_mem _ zw11_3) (List.mem_cons_of_mem _ zw11_4) 55 (by decide) rfl rfl (fun w h => List.mem_cons_of_mem _ (zx2 w h)) zXn2 zXg2 dX11_plan_42 dX11_plan_45 dX11_plan_46 dX11_plan_48 dX11_plan_51 (Nat.le_of_ble_eq_true rfl) (Nat.le_of_ble_eq_true rfl) (Nat.le_of_ble_eq_true rfl) (Nat.le_of_ble_eq_true rfl)
  replace hf := zif_t q hf
  exact bX11_plan_19 hC hE hst  hI (lv_sub hl [] rfl) hf
set_option maxRecDepth 20000 in
theorem cX11_plan_met (st : Nat → Nat) (l : Launch) (hst : l.stackTraces = false) (D : va_G) (ad : Nat → Nat) (cy : Nat → ClassId) (σ : zSt) (x1 : Int32) (x2 : Int32) (x3 : Int32) (res : zRi) (hf : fX11_plan σ x1 x2 x3 = some res) (sz : Nat) : zXi st l yX11_plan wzX11_plan rmX11_plan [.ref (ad 0), .int x1, .int x2, .int x3] D (tC cy) (wC ad cy) sz σ res :=
  zXi.of (cc := cX11_plan) (maxL := 4) (ret := (some .int)) (by decide) rfl (Nat.le_of_ble_eq_true rfl) (fun p e s m args below meth c hC hE A hI ls hl => bX11_plan hC hE hst hI hl hf)
theorem hdX11_plan : yX11_plan.cls = RX11 ∧ yX11_plan.cls ≠ "java/lang/invoke/MethodHandle" ∧ yX11_plan.cls ≠ "java/lang/invoke/VarHandle" ∧ (parseMethodDescriptor yX11_plan.desc).map (fun d => d.parameters.length) = some 3 := by decide +kernel
noncomputable def rmX11_text : Room := { frames := 6, cells := 1, slots := 6, locals := 100 }
noncomputable def wzX11_text : List Cond := .code yX11_text cX11_text 2 (some .long) :: wsL_law
theorem hinX11_text_X110 : ∀ w ∈ wsX110, w ∈ wzX11_text := fun w h => List.mem_cons_of_mem _ (inlX11 w h)
theorem hinX11_text_X80 : ∀ w ∈ wsX80, w ∈ wzX11_text := fun w h => List.mem_cons_of_mem _ (inlX8 w h)
noncomputable def fX11_text_15  (σ : zSt)  : Option (zRl) :=
  some (Sum.inr (σ, 3))
noncomputable def fX11_text  (σ : zSt) (x1 : Int32) : Option (zRl) :=
  if x1 < 0 then fX11_text_15 σ else
  if x1 < (zgi σ 10 2) then zbl (fX8_eightFrom σ x1) (fun σ1 v2 =>
  some (Sum.inl (σ1, v2))) else
  fX11_text_15 σ
set_option maxRecDepth 20000 in
set_option maxHeartbeats 4000000 in
theorem bX11_text_15 {st : Nat → Nat} {p : Program} {l : Launch} {e : Env} {s : State} {m : MethodId} {args : Array Value} {below : List Frame} {meth : Method} {c : Code} {D : va_G} {A : Nat → Prop} {ad : Nat → Nat} {cy : Nat → ClassId} (hC : zC p m c cX11_text 2 s args wzX11_text RX11 meth (some .long)) (hE : ∀ x ∈ c.exceptionTable.toList, False) (hst : l.stackTraces = false)  {res : zRl} {H : Heap} {locs : List Loc} {σ : zSt} {ls : Array Slot}  (hI : zI st D (tC cy) (wC ad cy σ) A s H locs) (hl : lv_has ls 2 []) (hf : fX11_text_15  σ  = some res) : W p l e rmX11_text s m args below meth c H locs 0 0 (zXQl below args s D (tC cy) (wC ad cy) A res) (F0 m 15 ls []) := by
  have hx := hC.1
  have hb := hC.2.1
  unfold fX11_text_15 at hf
  exact z_throw3 hC hE hst hI hl 3 hf (by decide) (List.mem_cons_of_mem _ zw78_12) (List.mem_cons_of_mem _ zw78_13) 56 (by decide) rfl rfl (fun w h => List.mem_cons_of_mem _ (zx3 w h)) zXn3 zXg3 dX11_text_15 dX11_text_18 dX11_text_19 dX11_text_21 dX11_text_24 (Nat.le_of_ble_eq_true rfl) (Nat.le_of_ble_eq_true rfl) (Nat.le_of_ble_eq_true rfl) (Nat.le_of_ble_eq_true rfl)
set_option maxRecDepth 20000 in
set_option maxHeartbeats 4000000 in
theorem bX11_text {st : Nat → Nat} {p : Program} {l : Launch} {e : Env} {s : State} {m : MethodId} {args : Array Value} {below : List Frame} {meth : Method} {c : Code} {D : va_G} {A : Nat → Prop} {ad : Nat → Nat} {cy : Nat → ClassId} (hC : zC p m c cX11_text 2 s args wzX11_text RX11 meth (some .long)) (hE : ∀ x ∈ c.exceptionTable.toList, False) (hst : l.stackTraces = false)  {res : zRl} {H : Heap} {locs : List Loc} {σ : zSt} {ls : Array Slot} {x1 : Int32} (hI : zI st D (tC cy) (wC ad cy σ) A s H locs) (hl : lv_has ls 2 [(0, .ref (ad 0)), (1, .int x1)]) (hf : fX11_text  σ x1 = some res) : W p l e rmX11_text s m args below meth c H locs 0 0 (zXQl below args s D (tC cy) (wC ad cy) A res) (F0 m 0 ls []) := by
  have hx := hC.1
  have hb := hC.2.1
  unfold fX11_text at hf
  refine lv_iload_n hx hb dX11_text_0 rfl (lv_at hl 1 rfl) ?_
  refine lv_if_lt (tgt := 15) hx hb dX11_text_1 (by decide) (fun q => ?_) (fun q => ?_)
  · replace hf := zif_t q hf
    exact bX11_text_15 hC hE hst  hI (lv_sub hl [] rfl) hf
  replace hf := zif_f q hf
  refine lv_iload_n hx hb dX11_text_4 rfl (lv_at hl 1 rfl) ?_
  refine lv_aload_n hx hb dX11_text_5 rfl (lv_at hl 0 rfl) ?_
  refine z_get hC hI hinX11_text_X110 0 (wC_e0 ad cy σ) rfl 10 (by decide) (List.mem_cons_of_mem _ zw3_10) rfl dX11_text_6 ?_
  refine z_get hC hI hinX11_text_X80 10 (wC_e10 ad cy σ) rfl 2 (by decide) (List.mem_cons_of_mem _ zw78_14) rfl dX11_text_9 ?_
  refine lv_icmp_lt (tgt := 25) hx hb dX11_text_12 (by decide) (fun q => ?_) (fun q => ?_)
  · replace hf := zif_t q hf
    refine lv_aload_n hx hb dX11_text_25 rfl (lv_at hl 0 rfl) ?_
    refine z_get hC hI hinX11_text_X110 0 (wC_e0 ad cy σ) rfl 10 (by decide) (List.mem_cons_of_mem _ zw3_10) rfl dX11_text_26 ?_
    refine lv_iload_n hx hb dX11_text_29 rfl (lv_at hl 1 rfl) ?_
    obtain ⟨σ1, v2, g1, hf⟩ := zbl_use hf
    refine z_callVl (As := [.int x1]) (rest := []) hC hI (cX8_eightFrom_met st l D ad cy σ x1 _ g1) (zgV zw78_15 zw78_16 zw78_17 zw3_9 zw78_18) rfl ⟨rfl, rfl⟩ 1 hdX8_eightFrom ⟨Nat.le_of_ble_eq_true rfl, Nat.le_of_ble_eq_true rfl⟩ rfl rfl (wC_e10 ad cy σ) rfl hl rfl (Nat.le_of_ble_eq_true rfl) dX11_text_30 ⟨Nat.zero_le _, Nat.zero_le _⟩ (fun H locs hI => ?_)
    exact z_xlreturn hC hI hf dX11_text_33
  replace hf := zif_f q hf
  exact bX11_text_15 hC hE hst  hI (lv_sub hl [] rfl) hf
set_option maxRecDepth 20000 in
theorem cX11_text_met (st : Nat → Nat) (l : Launch) (hst : l.stackTraces = false) (D : va_G) (ad : Nat → Nat) (cy : Nat → ClassId) (σ : zSt) (x1 : Int32) (res : zRl) (hf : fX11_text σ x1 = some res) (sz : Nat) : zXl st l yX11_text wzX11_text rmX11_text [.ref (ad 0), .int x1] D (tC cy) (wC ad cy) sz σ res :=
  zXl.of (cc := cX11_text) (maxL := 2) (ret := (some .long)) (by decide) rfl (Nat.le_of_ble_eq_true rfl) (fun p e s m args below meth c hC hE A hI ls hl => bX11_text hC hE hst hI hl hf)
theorem hdX11_text : yX11_text.cls = RX11 ∧ yX11_text.cls ≠ "java/lang/invoke/MethodHandle" ∧ yX11_text.cls ≠ "java/lang/invoke/VarHandle" ∧ (parseMethodDescriptor yX11_text.desc).map (fun d => d.parameters.length) = some 1 := by decide +kernel
noncomputable def rmX11_stop : Room := { frames := 6, cells := 1, slots := 6, locals := 100 }
noncomputable def wzX11_stop : List Cond := .code yX11_stop cX11_stop 3 (some .int) :: wsL_law
theorem hinX11_stop_X110 : ∀ w ∈ wsX110, w ∈ wzX11_stop := fun w h => List.mem_cons_of_mem _ (inlX11 w h)
noncomputable def fX11_stop_10  (σ : zSt)  : Option (zRi) :=
  some (Sum.inr (σ, 1))
noncomputable def fX11_stop  (σ : zSt) (x1 : Int32) (x2 : Int32) : Option (zRi) :=
  if x1 < 0 then fX11_stop_10 σ else
  if x1 ≤ 65535 then zbi (fX1_stopsBeside σ x1) (fun σ1 v2 =>
  if v2 < 8 then zbi (fX1_changeStop σ1 x1 x2) (fun σ3 v4 =>
  some (Sum.inl (σ3, v4))) else
  some (Sum.inr (σ1, 2))) else
  fX11_stop_10 σ
set_option maxRecDepth 20000 in
set_option maxHeartbeats 4000000 in
theorem bX11_stop_10 {st : Nat → Nat} {p : Program} {l : Launch} {e : Env} {s : State} {m : MethodId} {args : Array Value} {below : List Frame} {meth : Method} {c : Code} {D : va_G} {A : Nat → Prop} {ad : Nat → Nat} {cy : Nat → ClassId} (hC : zC p m c cX11_stop 3 s args wzX11_stop RX11 meth (some .int)) (hE : ∀ x ∈ c.exceptionTable.toList, False) (hst : l.stackTraces = false)  {res : zRi} {H : Heap} {locs : List Loc} {σ : zSt} {ls : Array Slot}  (hI : zI st D (tC cy) (wC ad cy σ) A s H locs) (hl : lv_has ls 3 []) (hf : fX11_stop_10  σ  = some res) : W p l e rmX11_stop s m args below meth c H locs 0 0 (zXQi below args s D (tC cy) (wC ad cy) A res) (F0 m 10 ls []) := by
  have hx := hC.1
  have hb := hC.2.1
  unfold fX11_stop_10 at hf
  exact z_throw hC hE hst hI hl 1 hf (by decide) (List.mem_cons_of_mem _ zw11_1) (List.mem_cons_of_mem _ zw11_2) 57 (by decide) rfl rfl (fun w h => List.mem_cons_of_mem _ (zx1 w h)) zXn1 zXg1 dX11_stop_10 dX11_stop_13 dX11_stop_14 dX11_stop_16 dX11_stop_19 (Nat.le_of_ble_eq_true rfl) (Nat.le_of_ble_eq_true rfl) (Nat.le_of_ble_eq_true rfl) (Nat.le_of_ble_eq_true rfl)
set_option maxRecDepth 20000 in
set_option maxHeartbeats 4000000 in
theorem bX11_stop {st : Nat → Nat} {p : Program} {l : Launch} {e : Env} {s : State} {m : MethodId} {args : Array Value} {below : List Frame} {meth : Method} {c : Code} {D : va_G} {A : Nat → Prop} {ad : Nat → Nat} {cy : Nat → ClassId} (hC : zC p m c cX11_stop 3 s args wzX11_stop RX11 meth (some .int)) (hE : ∀ x ∈ c.exceptionTable.toList, False) (hst : l.stackTraces = false)  {res : zRi} {H : Heap} {locs : List Loc} {σ : zSt} {ls : Array Slot} {x1 : Int32} {x2 : Int32} (hI : zI st D (tC cy) (wC ad cy σ) A s H locs) (hl : lv_has ls 3 [(0, .ref (ad 0)), (1, .int x1), (2, .int x2)]) (hf : fX11_stop  σ x1 x2 = some res) : W p l e rmX11_stop s m args below meth c H locs 0 0 (zXQi below args s D (tC cy) (wC ad cy) A res) (F0 m 0 ls []) := by
  have hx := hC.1
  have hb := hC.2.1
  unfold fX11_stop at hf
  refine lv_iload_n hx hb dX11_stop_0 rfl (lv_at hl 1 rfl) ?_
  refine lv_if_lt (tgt := 10) hx hb dX11_stop_1 (by decide) (fun q => ?_) (fun q => ?_)
  · replace hf := zif_t q hf
    exact bX11_stop_10 hC hE hst  hI (lv_sub hl [] rfl) hf
  replace hf := zif_f q hf
  refine lv_iload_n hx hb dX11_stop_4 rfl (lv_at hl 1 rfl) ?_
  refine lv_ldc (v := 65535) hx hb hC.2.2.2.1 (hC.2.2.2.2.1 _ (List.mem_cons_of_mem _ zw79_6)) dX11_stop_5 ?_
  refine lv_icmp_le (tgt := 20) hx hb dX11_stop_7 (by decide) (fun q => ?_) (fun q => ?_)
  · replace hf := zif_t q hf
    refine lv_aload_n hx hb dX11_stop_20 rfl (lv_at hl 0 rfl) ?_
    refine z_get hC hI hinX11_stop_X110 0 (wC_e0 ad cy σ) rfl 9 (by decide) (List.mem_cons_of_mem _ zw3_6) rfl dX11_stop_21 ?_
    refine lv_iload_n hx hb dX11_stop_24 rfl (lv_at hl 1 rfl) ?_
    obtain ⟨σ1, v2, g1, hf⟩ := zbi_use hf
    refine z_callVi (As := [.int x1]) (rest := []) hC hI (cX1_stopsBeside_met st l D ad cy σ x1 _ g1) (zgV zw79_7 zw79_8 zw79_9 zw3_5 zw79_10) rfl ⟨rfl, rfl⟩ 1 hdX1_stopsBeside ⟨Nat.le_of_ble_eq_true rfl, Nat.le_of_ble_eq_true rfl⟩ rfl rfl (wC_e9 ad cy σ) rfl hl rfl (Nat.le_of_ble_eq_true rfl) dX11_stop_25 ⟨Nat.zero_le _, Nat.zero_le _⟩ (fun H locs hI => ?_)
    refine lv_bipush (v := 8) hx hb dX11_stop_28 (by decide) ?_
    refine lv_icmp_lt (tgt := 43) hx hb dX11_stop_30 (by decide) (fun q => ?_) (fun q => ?_)
    · replace hf := zif_t q hf
      refine lv_aload_n hx hb dX11_stop_43 rfl (lv_at hl 0 rfl) ?_
      refine z_get hC hI hinX11_stop_X110 0 (wC_e0 ad cy σ1) rfl 9 (by decide) (List.mem_cons_of_mem _ zw3_6) rfl dX11_stop_44 ?_
      refine lv_iload_n hx hb dX11_stop_47 rfl (lv_at hl 1 rfl) ?_
      refine lv_iload_n hx hb dX11_stop_48 rfl (lv_at hl 2 rfl) ?_
      obtain ⟨σ3, v4, g3, hf⟩ := zbi_use hf
      refine z_callVi (As := [.int x1, .int x2]) (rest := []) hC hI (cX1_changeStop_met st l D ad cy σ1 x1 x2 _ g3) (zgV zw79_12 zw79_13 zw79_14 zw3_5 zw79_15) rfl ⟨rfl, rfl⟩ 2 hdX1_changeStop ⟨Nat.le_of_ble_eq_true rfl, Nat.le_of_ble_eq_true rfl⟩ rfl rfl (wC_e9 ad cy σ1) rfl hl rfl (Nat.le_of_ble_eq_true rfl) dX11_stop_49 ⟨Nat.zero_le _, Nat.zero_le _⟩ (fun H locs hI => ?_)
      exact z_xireturn hC hI hf dX11_stop_52
    replace hf := zif_f q hf
    exact z_throw hC hE hst hI hl 2 hf (by decide) (List.mem_cons_of_mem _ zw11_3) (List.mem_cons_of_mem _ zw11_4) 58 (by decide) rfl rfl (fun w h => List.mem_cons_of_mem _ (zx2 w h)) zXn2 zXg2 dX11_stop_33 dX11_stop_36 dX11_stop_37 dX11_stop_39 dX11_stop_42 (Nat.le_of_ble_eq_true rfl) (Nat.le_of_ble_eq_true rfl) (Nat.le_of_ble_eq_true rfl) (Nat.le_of_ble_eq_true rfl)
  replace hf := zif_f q hf
  exact bX11_stop_10 hC hE hst  hI (lv_sub hl [] rfl) hf
set_option maxRecDepth 20000 in
theorem cX11_stop_met (st : Nat → Nat) (l : Launch) (hst : l.stackTraces = false) (D : va_G) (ad : Nat → Nat) (cy : Nat → ClassId) (σ : zSt) (x1 : Int32) (x2 : Int32) (res : zRi) (hf : fX11_stop σ x1 x2 = some res) (sz : Nat) : zXi st l yX11_stop wzX11_stop rmX11_stop [.ref (ad 0), .int x1, .int x2] D (tC cy) (wC ad cy) sz σ res :=
  zXi.of (cc := cX11_stop) (maxL := 3) (ret := (some .int)) (by decide) rfl (Nat.le_of_ble_eq_true rfl) (fun p e s m args below meth c hC hE A hI ls hl => bX11_stop hC hE hst hI hl hf)
theorem hdX11_stop : yX11_stop.cls = RX11 ∧ yX11_stop.cls ≠ "java/lang/invoke/MethodHandle" ∧ yX11_stop.cls ≠ "java/lang/invoke/VarHandle" ∧ (parseMethodDescriptor yX11_stop.desc).map (fun d => d.parameters.length) = some 2 := by decide +kernel
noncomputable def rmX11_restore : Room := { frames := 6, cells := 1, slots := 6, locals := 104 }
noncomputable def wzX11_restore : List Cond := .code yX11_restore cX11_restore 1 none :: wsL_law
theorem hinX11_restore_X110 : ∀ w ∈ wsX110, w ∈ wzX11_restore := fun w h => List.mem_cons_of_mem _ (inlX11 w h)
noncomputable def fX11_restore  (σ : zSt)  : Option (zRu) :=
  if (zgi σ 0 11) = 0 then some (Sum.inr (σ, 2)) else
  zbu (fX2_bringBack σ ) (fun σ1 =>
  zbu (fX9_bringBack σ1 ) (fun σ2 =>
  zbu (fX3_bringBack σ2 ) (fun σ3 =>
  zbu (fX7_bringBack σ3 ) (fun σ4 =>
  zbu (fX10_bringBack σ4 ) (fun σ5 =>
  zbu (fX4_bringBack σ5 ) (fun σ6 =>
  zbu (fX5_bringBack σ6 ) (fun σ7 =>
  zbu (fX0_bringBack σ7 ) (fun σ8 =>
  zbu (fX1_bringBack σ8 ) (fun σ9 =>
  some (Sum.inl σ9))))))))))
set_option maxRecDepth 20000 in
set_option maxHeartbeats 4000000 in
theorem bX11_restore {st : Nat → Nat} {p : Program} {l : Launch} {e : Env} {s : State} {m : MethodId} {args : Array Value} {below : List Frame} {meth : Method} {c : Code} {D : va_G} {A : Nat → Prop} {ad : Nat → Nat} {cy : Nat → ClassId} (hC : zC p m c cX11_restore 1 s args wzX11_restore RX11 meth none) (hE : ∀ x ∈ c.exceptionTable.toList, False) (hst : l.stackTraces = false)  {res : zRu} {H : Heap} {locs : List Loc} {σ : zSt} {ls : Array Slot}  (hI : zI st D (tC cy) (wC ad cy σ) A s H locs) (hl : lv_has ls 1 [(0, .ref (ad 0))]) (hf : fX11_restore  σ  = some res) : W p l e rmX11_restore s m args below meth c H locs 0 0 (zXQu below args s D (tC cy) (wC ad cy) A res) (F0 m 0 ls []) := by
  have hx := hC.1
  have hb := hC.2.1
  unfold fX11_restore at hf
  refine lv_aload_n hx hb dX11_restore_0 rfl (lv_at hl 0 rfl) ?_
  refine z_get hC hI hinX11_restore_X110 0 (wC_e0 ad cy σ) rfl 11 (by decide) (List.mem_cons_of_mem _ zw13_19) rfl dX11_restore_1 ?_
  refine lv_if_ne (tgt := 17) hx hb dX11_restore_4 (by decide) (fun q => ?_) (fun q => ?_)
  · replace hf := zif_f q hf
    refine lv_aload_n hx hb dX11_restore_17 rfl (lv_at hl 0 rfl) ?_
    refine z_get hC hI hinX11_restore_X110 0 (wC_e0 ad cy σ) rfl 1 (by decide) (List.mem_cons_of_mem _ zw1_22) rfl dX11_restore_18 ?_
    obtain ⟨σ1, g1, hf⟩ := zbu_use hf
    refine z_callVu (As := []) (rest := []) hC hI (cX2_bringBack_met st l D ad cy σ  _ g1) (zgV zw82_20 zw82_21 zw82_22 zw1_21 zw82_23) rfl ⟨rfl, rfl⟩ 0 hdX2_bringBack ⟨Nat.le_of_ble_eq_true rfl, Nat.le_of_ble_eq_true rfl⟩ rfl rfl (wC_e1 ad cy σ) rfl hl rfl (Nat.le_of_ble_eq_true rfl) dX11_restore_21 ⟨Nat.zero_le _, Nat.zero_le _⟩ (fun H locs hI => ?_)
    refine lv_aload_n hx hb dX11_restore_24 rfl (lv_at hl 0 rfl) ?_
    refine z_get hC hI hinX11_restore_X110 0 (wC_e0 ad cy σ1) rfl 2 (by decide) (List.mem_cons_of_mem _ zw2_2) rfl dX11_restore_25 ?_
    obtain ⟨σ2, g2, hf⟩ := zbu_use hf
    refine z_callVu (As := []) (rest := []) hC hI (cX9_bringBack_met st l D ad cy σ1  _ g2) (zgV zw83_0 zw83_1 zw83_2 zw2_1 zw83_3) rfl ⟨rfl, rfl⟩ 0 hdX9_bringBack ⟨Nat.le_of_ble_eq_true rfl, Nat.le_of_ble_eq_true rfl⟩ rfl rfl (wC_e2 ad cy σ1) rfl hl rfl (Nat.le_of_ble_eq_true rfl) dX11_restore_28 ⟨Nat.zero_le _, Nat.zero_le _⟩ (fun H locs hI => ?_)
    refine lv_aload_n hx hb dX11_restore_31 rfl (lv_at hl 0 rfl) ?_
    refine z_get hC hI hinX11_restore_X110 0 (wC_e0 ad cy σ2) rfl 3 (by decide) (List.mem_cons_of_mem _ zw2_6) rfl dX11_restore_32 ?_
    obtain ⟨σ3, g3, hf⟩ := zbu_use hf
    refine z_callVu (As := []) (rest := []) hC hI (cX3_bringBack_met st l D ad cy σ2  _ g3) (zgV zw83_4 zw83_5 zw83_6 zw2_5 zw83_7) rfl ⟨rfl, rfl⟩ 0 hdX3_bringBack ⟨Nat.le_of_ble_eq_true rfl, Nat.le_of_ble_eq_true rfl⟩ rfl rfl (wC_e3 ad cy σ2) rfl hl rfl (Nat.le_of_ble_eq_true rfl) dX11_restore_35 ⟨Nat.zero_le _, Nat.zero_le _⟩ (fun H locs hI => ?_)
    refine lv_aload_n hx hb dX11_restore_38 rfl (lv_at hl 0 rfl) ?_
    refine z_get hC hI hinX11_restore_X110 0 (wC_e0 ad cy σ3) rfl 4 (by decide) (List.mem_cons_of_mem _ zw2_10) rfl dX11_restore_39 ?_
    obtain ⟨σ4, g4, hf⟩ := zbu_use hf
    refine z_callVu (As := []) (rest := []) hC hI (cX7_bringBack_met st l D ad cy σ3  _ g4) (zgV zw83_8 zw83_9 zw83_10 zw2_9 zw83_11) rfl ⟨rfl, rfl⟩ 0 hdX7_bringBack ⟨Nat.le_of_ble_eq_true rfl, Nat.le_of_ble_eq_true rfl⟩ rfl rfl (wC_e4 ad cy σ3) rfl hl rfl (Nat.le_of_ble_eq_true rfl) dX11_restore_42 ⟨Nat.zero_le _, Nat.zero_le _⟩ (fun H locs hI => ?_)
    refine lv_aload_n hx hb dX11_restore_45 rfl (lv_at hl 0 rfl) ?_
    refine z_get hC hI hinX11_restore_X110 0 (wC_e0 ad cy σ4) rfl 5 (by decide) (List.mem_cons_of_mem _ zw2_14) rfl dX11_restore_46 ?_
    obtain ⟨σ5, g5, hf⟩ := zbu_use hf
    refine z_callVu (As := []) (rest := []) hC hI (cX10_bringBack_met st l D ad cy σ4  _ g5) (zgV zw83_12 zw83_13 zw83_14 zw2_13 zw83_15) rfl ⟨rfl, rfl⟩ 0 hdX10_bringBack ⟨Nat.le_of_ble_eq_true rfl, Nat.le_of_ble_eq_true rfl⟩ rfl rfl (wC_e5 ad cy σ4) rfl hl rfl (Nat.le_of_ble_eq_true rfl) dX11_restore_49 ⟨Nat.zero_le _, Nat.zero_le _⟩ (fun H locs hI => ?_)
    refine lv_aload_n hx hb dX11_restore_52 rfl (lv_at hl 0 rfl) ?_
    refine z_get hC hI hinX11_restore_X110 0 (wC_e0 ad cy σ5) rfl 6 (by decide) (List.mem_cons_of_mem _ zw2_18) rfl dX11_restore_53 ?_
    obtain ⟨σ6, g6, hf⟩ := zbu_use hf
    refine z_callVu (As := []) (rest := []) hC hI (cX4_bringBack_met st l D ad cy σ5  _ g6) (zgV zw83_16 zw83_17 zw83_18 zw2_17 zw83_19) rfl ⟨rfl, rfl⟩ 0 hdX4_bringBack ⟨Nat.le_of_ble_eq_true rfl, Nat.le_of_ble_eq_true rfl⟩ rfl rfl (wC_e6 ad cy σ5) rfl hl rfl (Nat.le_of_ble_eq_true rfl) dX11_restore_56 ⟨Nat.zero_le _, Nat.zero_le _⟩ (fun H locs hI => ?_)
    refine lv_aload_n hx hb dX11_restore_59 rfl (lv_at hl 0 rfl) ?_
    refine z_get hC hI hinX11_restore_X110 0 (wC_e0 ad cy σ6) rfl 7 (by decide) (List.mem_cons_of_mem _ zw2_22) rfl dX11_restore_60 ?_
    obtain ⟨σ7, g7, hf⟩ := zbu_use hf
    refine z_callVu (As := []) (rest := []) hC hI (cX5_bringBack_met st l D ad cy σ6  _ g7) (zgV zw83_20 zw83_21 zw83_22 zw2_21 zw83_23) rfl ⟨rfl, rfl⟩ 0 hdX5_bringBack ⟨Nat.le_of_ble_eq_true rfl, Nat.le_of_ble_eq_true rfl⟩ rfl rfl (wC_e7 ad cy σ6) rfl hl rfl (Nat.le_of_ble_eq_true rfl) dX11_restore_63 ⟨Nat.zero_le _, Nat.zero_le _⟩ (fun H locs hI => ?_)
    refine lv_aload_n hx hb dX11_restore_66 rfl (lv_at hl 0 rfl) ?_
    refine z_get hC hI hinX11_restore_X110 0 (wC_e0 ad cy σ7) rfl 8 (by decide) (List.mem_cons_of_mem _ zw3_2) rfl dX11_restore_67 ?_
    obtain ⟨σ8, g8, hf⟩ := zbu_use hf
    refine z_callVu (As := []) (rest := []) hC hI (cX0_bringBack_met st l D ad cy σ7  _ g8) (zgV zw84_0 zw84_1 zw84_2 zw3_1 zw84_3) rfl ⟨rfl, rfl⟩ 0 hdX0_bringBack ⟨Nat.le_of_ble_eq_true rfl, Nat.le_of_ble_eq_true rfl⟩ rfl rfl (wC_e8 ad cy σ7) rfl hl rfl (Nat.le_of_ble_eq_true rfl) dX11_restore_70 ⟨Nat.zero_le _, Nat.zero_le _⟩ (fun H locs hI => ?_)
    refine lv_aload_n hx hb dX11_restore_73 rfl (lv_at hl 0 rfl) ?_
    refine z_get hC hI hinX11_restore_X110 0 (wC_e0 ad cy σ8) rfl 9 (by decide) (List.mem_cons_of_mem _ zw3_6) rfl dX11_restore_74 ?_
    obtain ⟨σ9, g9, hf⟩ := zbu_use hf
    refine z_callVu (As := []) (rest := []) hC hI (cX1_bringBack_met st l D ad cy σ8  _ g9) (zgV zw84_8 zw84_9 zw84_10 zw3_5 zw84_11) rfl ⟨rfl, rfl⟩ 0 hdX1_bringBack ⟨Nat.le_of_ble_eq_true rfl, Nat.le_of_ble_eq_true rfl⟩ rfl rfl (wC_e9 ad cy σ8) rfl hl rfl (Nat.le_of_ble_eq_true rfl) dX11_restore_77 ⟨Nat.zero_le _, Nat.zero_le _⟩ (fun H locs hI => ?_)
    exact z_xreturn hC hI hf dX11_restore_80
  replace hf := zif_t q hf
  exact z_throw hC hE hst hI hl 2 hf (by decide) (List.mem_cons_of_mem _ zw11_3) (List.mem_cons_of_mem _ zw11_4) 59 (by decide) rfl rfl (fun w h => List.mem_cons_of_mem _ (zx2 w h)) zXn2 zXg2 dX11_restore_7 dX11_restore_10 dX11_restore_11 dX11_restore_13 dX11_restore_16 (Nat.le_of_ble_eq_true rfl) (Nat.le_of_ble_eq_true rfl) (Nat.le_of_ble_eq_true rfl) (Nat.le_of_ble_eq_true rfl)
set_option maxRecDepth 20000 in
theorem cX11_restore_met (st : Nat → Nat) (l : Launch) (hst : l.stackTraces = false) (D : va_G) (ad : Nat → Nat) (cy : Nat → ClassId) (σ : zSt)  (res : zRu) (hf : fX11_restore σ  = some res) (sz : Nat) : zXu st l yX11_restore wzX11_restore rmX11_restore [.ref (ad 0)] D (tC cy) (wC ad cy) sz σ res :=
  zXu.of (cc := cX11_restore) (maxL := 1) (ret := none) (by decide) rfl (Nat.le_of_ble_eq_true rfl) (fun p e s m args below meth c hC hE A hI ls hl => bX11_restore hC hE hst hI hl hf)
theorem hdX11_restore : yX11_restore.cls = RX11 ∧ yX11_restore.cls ≠ "java/lang/invoke/MethodHandle" ∧ yX11_restore.cls ≠ "java/lang/invoke/VarHandle" ∧ (parseMethodDescriptor yX11_restore.desc).map (fun d => d.parameters.length) = some 0 := by decide +kernel
noncomputable def rmX11_register : Room := { frames := 6, cells := 1, slots := 6, locals := 100 }
noncomputable def wzX11_register : List Cond := .code yX11_register cX11_register 2 (some .int) :: wsL_law
theorem hinX11_register_X110 : ∀ w ∈ wsX110, w ∈ wzX11_register := fun w h => List.mem_cons_of_mem _ (inlX11 w h)
noncomputable def fX11_register_10  (σ : zSt)  : Option (zRi) :=
  some (Sum.inr (σ, 1))
noncomputable def fX11_register  (σ : zSt) (x1 : Int32) : Option (zRi) :=
  if x1 < 0 then fX11_register_10 σ else
  if x1 ≤ 26 then zbi (fX5_value σ x1) (fun σ1 v2 =>
  some (Sum.inl (σ1, v2))) else
  fX11_register_10 σ
set_option maxRecDepth 20000 in
set_option maxHeartbeats 4000000 in
theorem bX11_register_10 {st : Nat → Nat} {p : Program} {l : Launch} {e : Env} {s : State} {m : MethodId} {args : Array Value} {below : List Frame} {meth : Method} {c : Code} {D : va_G} {A : Nat → Prop} {ad : Nat → Nat} {cy : Nat → ClassId} (hC : zC p m c cX11_register 2 s args wzX11_register RX11 meth (some .int)) (hE : ∀ x ∈ c.exceptionTable.toList, False) (hst : l.stackTraces = false)  {res : zRi} {H : Heap} {locs : List Loc} {σ : zSt} {ls : Array Slot}  (hI : zI st D (tC cy) (wC ad cy σ) A s H locs) (hl : lv_has ls 2 []) (hf : fX11_register_10  σ  = some res) : W p l e rmX11_register s m args below meth c H locs 0 0 (zXQi below args s D (tC cy) (wC ad cy) A res) (F0 m 10 ls []) := by
  have hx := hC.1
  have hb := hC.2.1
  unfold fX11_register_10 at hf
  exact z_throw hC hE hst hI hl 1 hf (by decide) (List.mem_cons_of_mem _ zw11_1) (List.mem_cons_of_mem _ zw11_2) 60 (by decide) rfl rfl (fun w h => List.mem_cons_of_mem _ (zx1 w h)) zXn1 zXg1 dX11_register_10 dX11_register_13 dX11_register_14 dX11_register_16 dX11_register_19 (Nat.le_of_ble_eq_true rfl) (Nat.le_of_ble_eq_true rfl) (Nat.le_of_ble_eq_true rfl) (Nat.le_of_ble_eq_true rfl)
set_option maxRecDepth 20000 in
set_option maxHeartbeats 4000000 in
theorem bX11_register {st : Nat → Nat} {p : Program} {l : Launch} {e : Env} {s : State} {m : MethodId} {args : Array Value} {below : List Frame} {meth : Method} {c : Code} {D : va_G} {A : Nat → Prop} {ad : Nat → Nat} {cy : Nat → ClassId} (hC : zC p m c cX11_register 2 s args wzX11_register RX11 meth (some .int)) (hE : ∀ x ∈ c.exceptionTable.toList, False) (hst : l.stackTraces = false)  {res : zRi} {H : Heap} {locs : List Loc} {σ : zSt} {ls : Array Slot} {x1 : Int32} (hI : zI st D (tC cy) (wC ad cy σ) A s H locs) (hl : lv_has ls 2 [(0, .ref (ad 0)), (1, .int x1)]) (hf : fX11_register  σ x1 = some res) : W p l e rmX11_register s m args below meth c H locs 0 0 (zXQi below args s D (tC cy) (wC ad cy) A res) (F0 m 0 ls []) := by
  have hx := hC.1
  have hb := hC.2.1
  unfold fX11_register at hf
  refine lv_iload_n hx hb dX11_register_0 rfl (lv_at hl 1 rfl) ?_
  refine lv_if_lt (tgt := 10) hx hb dX11_register_1 (by decide) (fun q => ?_) (fun q => ?_)
  · replace hf := zif_t q hf
    exact bX11_register_10 hC hE hst  hI (lv_sub hl [] rfl) hf
  replace hf := zif_f q hf
  refine lv_iload_n hx hb dX11_register_4 rfl (lv_at hl 1 rfl) ?_
  refine lv_bipush (v := 26) hx hb dX11_register_5 (by decide) ?_
  refine lv_icmp_le (tgt := 20) hx hb dX11_register_7 (by decide) (fun q => ?_) (fun q => ?_)
  · replace hf := zif_t q hf
    refine lv_aload_n hx hb dX11_register_20 rfl (lv_at hl 0 rfl) ?_
    refine z_get hC hI hinX11_register_X110 0 (wC_e0 ad cy σ) rfl 7 (by decide) (List.mem_cons_of_mem _ zw2_22) rfl dX11_register_21 ?_
    refine lv_iload_n hx hb dX11_register_24 rfl (lv_at hl 1 rfl) ?_
    obtain ⟨σ1, v2, g1, hf⟩ := zbi_use hf
    refine z_callVi (As := [.int x1]) (rest := []) hC hI (cX5_value_met st l D ad cy σ x1 _ g1) (zgV zw18_17 zw18_18 zw18_19 zw2_21 zw18_20) rfl ⟨rfl, rfl⟩ 1 hdX5_value ⟨Nat.le_of_ble_eq_true rfl, Nat.le_of_ble_eq_true rfl⟩ rfl rfl (wC_e7 ad cy σ) rfl hl rfl (Nat.le_of_ble_eq_true rfl) dX11_register_25 ⟨Nat.zero_le _, Nat.zero_le _⟩ (fun H locs hI => ?_)
    exact z_xireturn hC hI hf dX11_register_28
  replace hf := zif_f q hf
  exact bX11_register_10 hC hE hst  hI (lv_sub hl [] rfl) hf
set_option maxRecDepth 20000 in
theorem cX11_register_met (st : Nat → Nat) (l : Launch) (hst : l.stackTraces = false) (D : va_G) (ad : Nat → Nat) (cy : Nat → ClassId) (σ : zSt) (x1 : Int32) (res : zRi) (hf : fX11_register σ x1 = some res) (sz : Nat) : zXi st l yX11_register wzX11_register rmX11_register [.ref (ad 0), .int x1] D (tC cy) (wC ad cy) sz σ res :=
  zXi.of (cc := cX11_register) (maxL := 2) (ret := (some .int)) (by decide) rfl (Nat.le_of_ble_eq_true rfl) (fun p e s m args below meth c hC hE A hI ls hl => bX11_register hC hE hst hI hl hf)
theorem hdX11_register : yX11_register.cls = RX11 ∧ yX11_register.cls ≠ "java/lang/invoke/MethodHandle" ∧ yX11_register.cls ≠ "java/lang/invoke/VarHandle" ∧ (parseMethodDescriptor yX11_register.desc).map (fun d => d.parameters.length) = some 1 := by decide +kernel
end ZJN0
section ZJN1
noncomputable def kn_cX11_set : Nat := 0xb1fa00b61c1b4200b42abf6300b7f512595f00bb0d00a419101b09009b1b
theorem zk_cX11_set : zkd cX11_set.data.toList kn_cX11_set = true := by decide +kernel
theorem zn_cX11_set : cX11_set.data.toList.length = 30 := by decide +kernel
theorem dX11_set_0 : decode cX11_set 0 = .ok (.iload_n 1, 1) := zo_27 (zkb zk_cX11_set zn_cX11_set rfl)
theorem dX11_set_1 : decode cX11_set 1 = .ok (.ifCond .lt 9, 3) := zo_155 (b1 := 0) (b2 := 9) (zkb3 zk_cX11_set zn_cX11_set rfl) rfl
theorem dX11_set_4 : decode cX11_set 4 = .ok (.iload_n 1, 1) := zo_27 (zkb zk_cX11_set zn_cX11_set rfl)
theorem dX11_set_5 : decode cX11_set 5 = .ok (.bipush 25, 2) := zo_16 (b1 := 25) (zkb2 zk_cX11_set zn_cX11_set rfl) rfl
theorem dX11_set_7 : decode cX11_set 7 = .ok (.if_icmp .le 13, 3) := zo_164 (b1 := 0) (b2 := 13) (zkb3 zk_cX11_set zn_cX11_set rfl) rfl
theorem dX11_set_10 : decode cX11_set 10 = .ok (.new 95, 3) := zo_187 (b1 := 0) (b2 := 95) (zkb3 zk_cX11_set zn_cX11_set rfl) rfl
theorem dX11_set_13 : decode cX11_set 13 = .ok (.dup, 1) := zo_89 (zkb zk_cX11_set zn_cX11_set rfl)
theorem dX11_set_14 : decode cX11_set 14 = .ok (.ldc 245, 2) := zo_18 (b1 := 245) (zkb2 zk_cX11_set zn_cX11_set rfl)
theorem dX11_set_16 : decode cX11_set 16 = .ok (.invokespecial 99, 3) := zo_183 (b1 := 0) (b2 := 99) (zkb3 zk_cX11_set zn_cX11_set rfl) rfl
theorem dX11_set_19 : decode cX11_set 19 = .ok (.athrow, 1) := zo_191 (zkb zk_cX11_set zn_cX11_set rfl)
theorem dX11_set_20 : decode cX11_set 20 = .ok (.aload_n 0, 1) := zo_42 (zkb zk_cX11_set zn_cX11_set rfl)
theorem dX11_set_21 : decode cX11_set 21 = .ok (.getfield 66, 3) := zo_180 (b1 := 0) (b2 := 66) (zkb3 zk_cX11_set zn_cX11_set rfl) rfl
theorem dX11_set_24 : decode cX11_set 24 = .ok (.iload_n 1, 1) := zo_27 (zkb zk_cX11_set zn_cX11_set rfl)
theorem dX11_set_25 : decode cX11_set 25 = .ok (.iload_n 2, 1) := zo_28 (zkb zk_cX11_set zn_cX11_set rfl)
theorem dX11_set_26 : decode cX11_set 26 = .ok (.invokevirtual 250, 3) := zo_182 (b1 := 0) (b2 := 250) (zkb3 zk_cX11_set zn_cX11_set rfl) rfl
theorem dX11_set_29 : decode cX11_set 29 = .ok (.return_, 1) := zo_177 (zkb zk_cX11_set zn_cX11_set rfl)
noncomputable def kn_cX11_battery : Nat := 0xac0701b61b1000b42abfcc00b705011359c800bb0e00a10401131b0a009b1b
theorem zk_cX11_battery : zkd cX11_battery.data.toList kn_cX11_battery = true := by decide +kernel
theorem zn_cX11_battery : cX11_battery.data.toList.length = 31 := by decide +kernel
theorem dX11_battery_0 : decode cX11_battery 0 = .ok (.iload_n 1, 1) := zo_27 (zkb zk_cX11_battery zn_cX11_battery rfl)
theorem dX11_battery_1 : decode cX11_battery 1 = .ok (.ifCond .lt 10, 3) := zo_155 (b1 := 0) (b2 := 10) (zkb3 zk_cX11_battery zn_cX11_battery rfl) rfl
theorem dX11_battery_4 : decode cX11_battery 4 = .ok (.iload_n 1, 1) := zo_27 (zkb zk_cX11_battery zn_cX11_battery rfl)
theorem dX11_battery_5 : decode cX11_battery 5 = .ok (.ldc_w 260, 3) := zo_19 (b1 := 1) (b2 := 4) (zkb3 zk_cX11_battery zn_cX11_battery rfl) rfl
theorem dX11_battery_8 : decode cX11_battery 8 = .ok (.if_icmp .lt 14, 3) := zo_161 (b1 := 0) (b2 := 14) (zkb3 zk_cX11_battery zn_cX11_battery rfl) rfl
theorem dX11_battery_11 : decode cX11_battery 11 = .ok (.new 200, 3) := zo_187 (b1 := 0) (b2 := 200) (zkb3 zk_cX11_battery zn_cX11_battery rfl) rfl
theorem dX11_battery_14 : decode cX11_battery 14 = .ok (.dup, 1) := zo_89 (zkb zk_cX11_battery zn_cX11_battery rfl)
theorem dX11_battery_15 : decode cX11_battery 15 = .ok (.ldc_w 261, 3) := zo_19 (b1 := 1) (b2 := 5) (zkb3 zk_cX11_battery zn_cX11_battery rfl) rfl
theorem dX11_battery_18 : decode cX11_battery 18 = .ok (.invokespecial 204, 3) := zo_183 (b1 := 0) (b2 := 204) (zkb3 zk_cX11_battery zn_cX11_battery rfl) rfl
theorem dX11_battery_21 : decode cX11_battery 21 = .ok (.athrow, 1) := zo_191 (zkb zk_cX11_battery zn_cX11_battery rfl)
theorem dX11_battery_22 : decode cX11_battery 22 = .ok (.aload_n 0, 1) := zo_42 (zkb zk_cX11_battery zn_cX11_battery rfl)
theorem dX11_battery_23 : decode cX11_battery 23 = .ok (.getfield 16, 3) := zo_180 (b1 := 0) (b2 := 16) (zkb3 zk_cX11_battery zn_cX11_battery rfl) rfl
theorem dX11_battery_26 : decode cX11_battery 26 = .ok (.iload_n 1, 1) := zo_27 (zkb zk_cX11_battery zn_cX11_battery rfl)
theorem dX11_battery_27 : decode cX11_battery 27 = .ok (.invokevirtual 263, 3) := zo_182 (b1 := 1) (b2 := 7) (zkb3 zk_cX11_battery zn_cX11_battery rfl) rfl
theorem dX11_battery_30 : decode cX11_battery 30 = .ok (.ireturn, 1) := zo_172 (zkb zk_cX11_battery zn_cX11_battery rfl)
noncomputable def kn_cX11_chip : Nat := 0xac1401b61b1900b42abf6300b7120113595f00bb0e009a0e01b81b
theorem zk_cX11_chip : zkd cX11_chip.data.toList kn_cX11_chip = true := by decide +kernel
theorem zn_cX11_chip : cX11_chip.data.toList.length = 27 := by decide +kernel
theorem dX11_chip_0 : decode cX11_chip 0 = .ok (.iload_n 1, 1) := zo_27 (zkb zk_cX11_chip zn_cX11_chip rfl)
theorem dX11_chip_1 : decode cX11_chip 1 = .ok (.invokestatic 270, 3) := zo_184 (b1 := 1) (b2 := 14) (zkb3 zk_cX11_chip zn_cX11_chip rfl) rfl
theorem dX11_chip_4 : decode cX11_chip 4 = .ok (.ifCond .ne 14, 3) := zo_154 (b1 := 0) (b2 := 14) (zkb3 zk_cX11_chip zn_cX11_chip rfl) rfl
theorem dX11_chip_7 : decode cX11_chip 7 = .ok (.new 95, 3) := zo_187 (b1 := 0) (b2 := 95) (zkb3 zk_cX11_chip zn_cX11_chip rfl) rfl
theorem dX11_chip_10 : decode cX11_chip 10 = .ok (.dup, 1) := zo_89 (zkb zk_cX11_chip zn_cX11_chip rfl)
theorem dX11_chip_11 : decode cX11_chip 11 = .ok (.ldc_w 274, 3) := zo_19 (b1 := 1) (b2 := 18) (zkb3 zk_cX11_chip zn_cX11_chip rfl) rfl
theorem dX11_chip_14 : decode cX11_chip 14 = .ok (.invokespecial 99, 3) := zo_183 (b1 := 0) (b2 := 99) (zkb3 zk_cX11_chip zn_cX11_chip rfl) rfl
theorem dX11_chip_17 : decode cX11_chip 17 = .ok (.athrow, 1) := zo_191 (zkb zk_cX11_chip zn_cX11_chip rfl)
theorem dX11_chip_18 : decode cX11_chip 18 = .ok (.aload_n 0, 1) := zo_42 (zkb zk_cX11_chip zn_cX11_chip rfl)
theorem dX11_chip_19 : decode cX11_chip 19 = .ok (.getfield 25, 3) := zo_180 (b1 := 0) (b2 := 25) (zkb3 zk_cX11_chip zn_cX11_chip rfl) rfl
theorem dX11_chip_22 : decode cX11_chip 22 = .ok (.iload_n 1, 1) := zo_27 (zkb zk_cX11_chip zn_cX11_chip rfl)
theorem dX11_chip_23 : decode cX11_chip 23 = .ok (.invokevirtual 276, 3) := zo_182 (b1 := 1) (b2 := 20) (zkb3 zk_cX11_chip zn_cX11_chip rfl) rfl
theorem dX11_chip_26 : decode cX11_chip 26 = .ok (.ireturn, 1) := zo_172 (zkb zk_cX11_chip zn_cX11_chip rfl)
noncomputable def kn_cX11_dot : Nat := 0xac1d01b61c1b2200b42abfcc00b71b011359c800bb0e00a11801b62200b42a1c0e009b1c1200a21501b62200b42a1b1d009b1b
theorem zk_cX11_dot : zkd cX11_dot.data.toList kn_cX11_dot = true := by decide +kernel
theorem zn_cX11_dot : cX11_dot.data.toList.length = 51 := by decide +kernel
theorem dX11_dot_0 : decode cX11_dot 0 = .ok (.iload_n 1, 1) := zo_27 (zkb zk_cX11_dot zn_cX11_dot rfl)
theorem dX11_dot_1 : decode cX11_dot 1 = .ok (.ifCond .lt 29, 3) := zo_155 (b1 := 0) (b2 := 29) (zkb3 zk_cX11_dot zn_cX11_dot rfl) rfl
theorem dX11_dot_4 : decode cX11_dot 4 = .ok (.iload_n 1, 1) := zo_27 (zkb zk_cX11_dot zn_cX11_dot rfl)
theorem dX11_dot_5 : decode cX11_dot 5 = .ok (.aload_n 0, 1) := zo_42 (zkb zk_cX11_dot zn_cX11_dot rfl)
theorem dX11_dot_6 : decode cX11_dot 6 = .ok (.getfield 34, 3) := zo_180 (b1 := 0) (b2 := 34) (zkb3 zk_cX11_dot zn_cX11_dot rfl) rfl
theorem dX11_dot_9 : decode cX11_dot 9 = .ok (.invokevirtual 277, 3) := zo_182 (b1 := 1) (b2 := 21) (zkb3 zk_cX11_dot zn_cX11_dot rfl) rfl
theorem dX11_dot_12 : decode cX11_dot 12 = .ok (.if_icmp .ge 18, 3) := zo_162 (b1 := 0) (b2 := 18) (zkb3 zk_cX11_dot zn_cX11_dot rfl) rfl
theorem dX11_dot_15 : decode cX11_dot 15 = .ok (.iload_n 2, 1) := zo_28 (zkb zk_cX11_dot zn_cX11_dot rfl)
theorem dX11_dot_16 : decode cX11_dot 16 = .ok (.ifCond .lt 14, 3) := zo_155 (b1 := 0) (b2 := 14) (zkb3 zk_cX11_dot zn_cX11_dot rfl) rfl
theorem dX11_dot_19 : decode cX11_dot 19 = .ok (.iload_n 2, 1) := zo_28 (zkb zk_cX11_dot zn_cX11_dot rfl)
theorem dX11_dot_20 : decode cX11_dot 20 = .ok (.aload_n 0, 1) := zo_42 (zkb zk_cX11_dot zn_cX11_dot rfl)
theorem dX11_dot_21 : decode cX11_dot 21 = .ok (.getfield 34, 3) := zo_180 (b1 := 0) (b2 := 34) (zkb3 zk_cX11_dot zn_cX11_dot rfl) rfl
theorem dX11_dot_24 : decode cX11_dot 24 = .ok (.invokevirtual 280, 3) := zo_182 (b1 := 1) (b2 := 24) (zkb3 zk_cX11_dot zn_cX11_dot rfl) rfl
theorem dX11_dot_27 : decode cX11_dot 27 = .ok (.if_icmp .lt 14, 3) := zo_161 (b1 := 0) (b2 := 14) (zkb3 zk_cX11_dot zn_cX11_dot rfl) rfl
theorem dX11_dot_30 : decode cX11_dot 30 = .ok (.new 200, 3) := zo_187 (b1 := 0) (b2 := 200) (zkb3 zk_cX11_dot zn_cX11_dot rfl) rfl
theorem dX11_dot_33 : decode cX11_dot 33 = .ok (.dup, 1) := zo_89 (zkb zk_cX11_dot zn_cX11_dot rfl)
theorem dX11_dot_34 : decode cX11_dot 34 = .ok (.ldc_w 283, 3) := zo_19 (b1 := 1) (b2 := 27) (zkb3 zk_cX11_dot zn_cX11_dot rfl) rfl
theorem dX11_dot_37 : decode cX11_dot 37 = .ok (.invokespecial 204, 3) := zo_183 (b1 := 0) (b2 := 204) (zkb3 zk_cX11_dot zn_cX11_dot rfl) rfl
theorem dX11_dot_40 : decode cX11_dot 40 = .ok (.athrow, 1) := zo_191 (zkb zk_cX11_dot zn_cX11_dot rfl)
theorem dX11_dot_41 : decode cX11_dot 41 = .ok (.aload_n 0, 1) := zo_42 (zkb zk_cX11_dot zn_cX11_dot rfl)
theorem dX11_dot_42 : decode cX11_dot 42 = .ok (.getfield 34, 3) := zo_180 (b1 := 0) (b2 := 34) (zkb3 zk_cX11_dot zn_cX11_dot rfl) rfl
theorem dX11_dot_45 : decode cX11_dot 45 = .ok (.iload_n 1, 1) := zo_27 (zkb zk_cX11_dot zn_cX11_dot rfl)
theorem dX11_dot_46 : decode cX11_dot 46 = .ok (.iload_n 2, 1) := zo_28 (zkb zk_cX11_dot zn_cX11_dot rfl)
theorem dX11_dot_47 : decode cX11_dot 47 = .ok (.invokevirtual 285, 3) := zo_182 (b1 := 1) (b2 := 29) (zkb3 zk_cX11_dot zn_cX11_dot rfl) rfl
theorem dX11_dot_50 : decode cX11_dot 50 = .ok (.ireturn, 1) := zo_172 (zkb zk_cX11_dot zn_cX11_dot rfl)
noncomputable def kn_cX11_row : Nat := 0xac2201b61b2200b42abfcc00b720011359c800bb0e00a11801b62200b42a1b0e009b1b
theorem zk_cX11_row : zkd cX11_row.data.toList kn_cX11_row = true := by decide +kernel
theorem zn_cX11_row : cX11_row.data.toList.length = 35 := by decide +kernel
theorem dX11_row_0 : decode cX11_row 0 = .ok (.iload_n 1, 1) := zo_27 (zkb zk_cX11_row zn_cX11_row rfl)
theorem dX11_row_1 : decode cX11_row 1 = .ok (.ifCond .lt 14, 3) := zo_155 (b1 := 0) (b2 := 14) (zkb3 zk_cX11_row zn_cX11_row rfl) rfl
theorem dX11_row_4 : decode cX11_row 4 = .ok (.iload_n 1, 1) := zo_27 (zkb zk_cX11_row zn_cX11_row rfl)
theorem dX11_row_5 : decode cX11_row 5 = .ok (.aload_n 0, 1) := zo_42 (zkb zk_cX11_row zn_cX11_row rfl)
theorem dX11_row_6 : decode cX11_row 6 = .ok (.getfield 34, 3) := zo_180 (b1 := 0) (b2 := 34) (zkb3 zk_cX11_row zn_cX11_row rfl) rfl
theorem dX11_row_9 : decode cX11_row 9 = .ok (.invokevirtual 280, 3) := zo_182 (b1 := 1) (b2 := 24) (zkb3 zk_cX11_row zn_cX11_row rfl) rfl
theorem dX11_row_12 : decode cX11_row 12 = .ok (.if_icmp .lt 14, 3) := zo_161 (b1 := 0) (b2 := 14) (zkb3 zk_cX11_row zn_cX11_row rfl) rfl
theorem dX11_row_15 : decode cX11_row 15 = .ok (.new 200, 3) := zo_187 (b1 := 0) (b2 := 200) (zkb3 zk_cX11_row zn_cX11_row rfl) rfl
theorem dX11_row_18 : decode cX11_row 18 = .ok (.dup, 1) := zo_89 (zkb zk_cX11_row zn_cX11_row rfl)
theorem dX11_row_19 : decode cX11_row 19 = .ok (.ldc_w 288, 3) := zo_19 (b1 := 1) (b2 := 32) (zkb3 zk_cX11_row zn_cX11_row rfl) rfl
theorem dX11_row_22 : decode cX11_row 22 = .ok (.invokespecial 204, 3) := zo_183 (b1 := 0) (b2 := 204) (zkb3 zk_cX11_row zn_cX11_row rfl) rfl
theorem dX11_row_25 : decode cX11_row 25 = .ok (.athrow, 1) := zo_191 (zkb zk_cX11_row zn_cX11_row rfl)
theorem dX11_row_26 : decode cX11_row 26 = .ok (.aload_n 0, 1) := zo_42 (zkb zk_cX11_row zn_cX11_row rfl)
theorem dX11_row_27 : decode cX11_row 27 = .ok (.getfield 34, 3) := zo_180 (b1 := 0) (b2 := 34) (zkb3 zk_cX11_row zn_cX11_row rfl) rfl
theorem dX11_row_30 : decode cX11_row 30 = .ok (.iload_n 1, 1) := zo_27 (zkb zk_cX11_row zn_cX11_row rfl)
theorem dX11_row_31 : decode cX11_row 31 = .ok (.invokevirtual 290, 3) := zo_182 (b1 := 1) (b2 := 34) (zkb3 zk_cX11_row zn_cX11_row rfl) rfl
theorem dX11_row_34 : decode cX11_row 34 = .ok (.ireturn, 1) := zo_172 (zkb zk_cX11_row zn_cX11_row rfl)
noncomputable def kn_cX11_hear : Nat := 0xad3001b62501b44b00b42abfcc00b72e011359c800bb0e009a2901b62501b44b00b42a
theorem zk_cX11_hear : zkd cX11_hear.data.toList kn_cX11_hear = true := by decide +kernel
theorem zn_cX11_hear : cX11_hear.data.toList.length = 35 := by decide +kernel
theorem dX11_hear_0 : decode cX11_hear 0 = .ok (.aload_n 0, 1) := zo_42 (zkb zk_cX11_hear zn_cX11_hear rfl)
theorem dX11_hear_1 : decode cX11_hear 1 = .ok (.getfield 75, 3) := zo_180 (b1 := 0) (b2 := 75) (zkb3 zk_cX11_hear zn_cX11_hear rfl) rfl
theorem dX11_hear_4 : decode cX11_hear 4 = .ok (.getfield 293, 3) := zo_180 (b1 := 1) (b2 := 37) (zkb3 zk_cX11_hear zn_cX11_hear rfl) rfl
theorem dX11_hear_7 : decode cX11_hear 7 = .ok (.invokevirtual 297, 3) := zo_182 (b1 := 1) (b2 := 41) (zkb3 zk_cX11_hear zn_cX11_hear rfl) rfl
theorem dX11_hear_10 : decode cX11_hear 10 = .ok (.ifCond .ne 14, 3) := zo_154 (b1 := 0) (b2 := 14) (zkb3 zk_cX11_hear zn_cX11_hear rfl) rfl
theorem dX11_hear_13 : decode cX11_hear 13 = .ok (.new 200, 3) := zo_187 (b1 := 0) (b2 := 200) (zkb3 zk_cX11_hear zn_cX11_hear rfl) rfl
theorem dX11_hear_16 : decode cX11_hear 16 = .ok (.dup, 1) := zo_89 (zkb zk_cX11_hear zn_cX11_hear rfl)
theorem dX11_hear_17 : decode cX11_hear 17 = .ok (.ldc_w 302, 3) := zo_19 (b1 := 1) (b2 := 46) (zkb3 zk_cX11_hear zn_cX11_hear rfl) rfl
theorem dX11_hear_20 : decode cX11_hear 20 = .ok (.invokespecial 204, 3) := zo_183 (b1 := 0) (b2 := 204) (zkb3 zk_cX11_hear zn_cX11_hear rfl) rfl
theorem dX11_hear_23 : decode cX11_hear 23 = .ok (.athrow, 1) := zo_191 (zkb zk_cX11_hear zn_cX11_hear rfl)
theorem dX11_hear_24 : decode cX11_hear 24 = .ok (.aload_n 0, 1) := zo_42 (zkb zk_cX11_hear zn_cX11_hear rfl)
theorem dX11_hear_25 : decode cX11_hear 25 = .ok (.getfield 75, 3) := zo_180 (b1 := 0) (b2 := 75) (zkb3 zk_cX11_hear zn_cX11_hear rfl) rfl
theorem dX11_hear_28 : decode cX11_hear 28 = .ok (.getfield 293, 3) := zo_180 (b1 := 1) (b2 := 37) (zkb3 zk_cX11_hear zn_cX11_hear rfl) rfl
theorem dX11_hear_31 : decode cX11_hear 31 = .ok (.invokevirtual 304, 3) := zo_182 (b1 := 1) (b2 := 48) (zkb3 zk_cX11_hear zn_cX11_hear rfl) rfl
theorem dX11_hear_34 : decode cX11_hear 34 = .ok (.lreturn, 1) := zo_173 (zkb zk_cX11_hear zn_cX11_hear rfl)
noncomputable def kn_cX11_mix : Nat := 0xad3001b63401b44b00b42abfcc00b737011359c800bb0e009a2901b63401b44b00b42a
theorem zk_cX11_mix : zkd cX11_mix.data.toList kn_cX11_mix = true := by decide +kernel
theorem zn_cX11_mix : cX11_mix.data.toList.length = 35 := by decide +kernel
theorem dX11_mix_0 : decode cX11_mix 0 = .ok (.aload_n 0, 1) := zo_42 (zkb zk_cX11_mix zn_cX11_mix rfl)
theorem dX11_mix_1 : decode cX11_mix 1 = .ok (.getfield 75, 3) := zo_180 (b1 := 0) (b2 := 75) (zkb3 zk_cX11_mix zn_cX11_mix rfl) rfl
theorem dX11_mix_4 : decode cX11_mix 4 = .ok (.getfield 308, 3) := zo_180 (b1 := 1) (b2 := 52) (zkb3 zk_cX11_mix zn_cX11_mix rfl) rfl
theorem dX11_mix_7 : decode cX11_mix 7 = .ok (.invokevirtual 297, 3) := zo_182 (b1 := 1) (b2 := 41) (zkb3 zk_cX11_mix zn_cX11_mix rfl) rfl
theorem dX11_mix_10 : decode cX11_mix 10 = .ok (.ifCond .ne 14, 3) := zo_154 (b1 := 0) (b2 := 14) (zkb3 zk_cX11_mix zn_cX11_mix rfl) rfl
theorem dX11_mix_13 : decode cX11_mix 13 = .ok (.new 200, 3) := zo_187 (b1 := 0) (b2 := 200) (zkb3 zk_cX11_mix zn_cX11_mix rfl) rfl
theorem dX11_mix_16 : decode cX11_mix 16 = .ok (.dup, 1) := zo_89 (zkb zk_cX11_mix zn_cX11_mix rfl)
theorem dX11_mix_17 : decode cX11_mix 17 = .ok (.ldc_w 311, 3) := zo_19 (b1 := 1) (b2 := 55) (zkb3 zk_cX11_mix zn_cX11_mix rfl) rfl
theorem dX11_mix_20 : decode cX11_mix 20 = .ok (.invokespecial 204, 3) := zo_183 (b1 := 0) (b2 := 204) (zkb3 zk_cX11_mix zn_cX11_mix rfl) rfl
theorem dX11_mix_23 : decode cX11_mix 23 = .ok (.athrow, 1) := zo_191 (zkb zk_cX11_mix zn_cX11_mix rfl)
theorem dX11_mix_24 : decode cX11_mix 24 = .ok (.aload_n 0, 1) := zo_42 (zkb zk_cX11_mix zn_cX11_mix rfl)
theorem dX11_mix_25 : decode cX11_mix 25 = .ok (.getfield 75, 3) := zo_180 (b1 := 0) (b2 := 75) (zkb3 zk_cX11_mix zn_cX11_mix rfl) rfl
theorem dX11_mix_28 : decode cX11_mix 28 = .ok (.getfield 308, 3) := zo_180 (b1 := 1) (b2 := 52) (zkb3 zk_cX11_mix zn_cX11_mix rfl) rfl
theorem dX11_mix_31 : decode cX11_mix 31 = .ok (.invokevirtual 304, 3) := zo_182 (b1 := 1) (b2 := 48) (zkb3 zk_cX11_mix zn_cX11_mix rfl) rfl
theorem dX11_mix_34 : decode cX11_mix 34 = .ok (.lreturn, 1) := zo_173 (zkb zk_cX11_mix zn_cX11_mix rfl)
noncomputable def kn_cX11_wave : Nat := 0xac3c01b61b3000b42abf6300b73a0113595f00bb0e009a3901b81b
theorem zk_cX11_wave : zkd cX11_wave.data.toList kn_cX11_wave = true := by decide +kernel
theorem zn_cX11_wave : cX11_wave.data.toList.length = 27 := by decide +kernel
theorem dX11_wave_0 : decode cX11_wave 0 = .ok (.iload_n 1, 1) := zo_27 (zkb zk_cX11_wave zn_cX11_wave rfl)
theorem dX11_wave_1 : decode cX11_wave 1 = .ok (.invokestatic 313, 3) := zo_184 (b1 := 1) (b2 := 57) (zkb3 zk_cX11_wave zn_cX11_wave rfl) rfl
theorem dX11_wave_4 : decode cX11_wave 4 = .ok (.ifCond .ne 14, 3) := zo_154 (b1 := 0) (b2 := 14) (zkb3 zk_cX11_wave zn_cX11_wave rfl) rfl
theorem dX11_wave_7 : decode cX11_wave 7 = .ok (.new 95, 3) := zo_187 (b1 := 0) (b2 := 95) (zkb3 zk_cX11_wave zn_cX11_wave rfl) rfl
theorem dX11_wave_10 : decode cX11_wave 10 = .ok (.dup, 1) := zo_89 (zkb zk_cX11_wave zn_cX11_wave rfl)
theorem dX11_wave_11 : decode cX11_wave 11 = .ok (.ldc_w 314, 3) := zo_19 (b1 := 1) (b2 := 58) (zkb3 zk_cX11_wave zn_cX11_wave rfl) rfl
theorem dX11_wave_14 : decode cX11_wave 14 = .ok (.invokespecial 99, 3) := zo_183 (b1 := 0) (b2 := 99) (zkb3 zk_cX11_wave zn_cX11_wave rfl) rfl
theorem dX11_wave_17 : decode cX11_wave 17 = .ok (.athrow, 1) := zo_191 (zkb zk_cX11_wave zn_cX11_wave rfl)
theorem dX11_wave_18 : decode cX11_wave 18 = .ok (.aload_n 0, 1) := zo_42 (zkb zk_cX11_wave zn_cX11_wave rfl)
theorem dX11_wave_19 : decode cX11_wave 19 = .ok (.getfield 48, 3) := zo_180 (b1 := 0) (b2 := 48) (zkb3 zk_cX11_wave zn_cX11_wave rfl) rfl
theorem dX11_wave_22 : decode cX11_wave 22 = .ok (.iload_n 1, 1) := zo_27 (zkb zk_cX11_wave zn_cX11_wave rfl)
theorem dX11_wave_23 : decode cX11_wave 23 = .ok (.invokevirtual 316, 3) := zo_182 (b1 := 1) (b2 := 60) (zkb3 zk_cX11_wave zn_cX11_wave rfl) rfl
theorem dX11_wave_26 : decode cX11_wave 26 = .ok (.ireturn, 1) := zo_172 (zkb zk_cX11_wave zn_cX11_wave rfl)
noncomputable def kn_cX11_sound : Nat := 0xac3f01b61b2900b42abf6300b73d0113595f00bb0e00a412101b09009b1b
theorem zk_cX11_sound : zkd cX11_sound.data.toList kn_cX11_sound = true := by decide +kernel
theorem zn_cX11_sound : cX11_sound.data.toList.length = 30 := by decide +kernel
theorem dX11_sound_0 : decode cX11_sound 0 = .ok (.iload_n 1, 1) := zo_27 (zkb zk_cX11_sound zn_cX11_sound rfl)
theorem dX11_sound_1 : decode cX11_sound 1 = .ok (.ifCond .lt 9, 3) := zo_155 (b1 := 0) (b2 := 9) (zkb3 zk_cX11_sound zn_cX11_sound rfl) rfl
theorem dX11_sound_4 : decode cX11_sound 4 = .ok (.iload_n 1, 1) := zo_27 (zkb zk_cX11_sound zn_cX11_sound rfl)
theorem dX11_sound_5 : decode cX11_sound 5 = .ok (.bipush 18, 2) := zo_16 (b1 := 18) (zkb2 zk_cX11_sound zn_cX11_sound rfl) rfl
theorem dX11_sound_7 : decode cX11_sound 7 = .ok (.if_icmp .le 14, 3) := zo_164 (b1 := 0) (b2 := 14) (zkb3 zk_cX11_sound zn_cX11_sound rfl) rfl
theorem dX11_sound_10 : decode cX11_sound 10 = .ok (.new 95, 3) := zo_187 (b1 := 0) (b2 := 95) (zkb3 zk_cX11_sound zn_cX11_sound rfl) rfl
theorem dX11_sound_13 : decode cX11_sound 13 = .ok (.dup, 1) := zo_89 (zkb zk_cX11_sound zn_cX11_sound rfl)
theorem dX11_sound_14 : decode cX11_sound 14 = .ok (.ldc_w 317, 3) := zo_19 (b1 := 1) (b2 := 61) (zkb3 zk_cX11_sound zn_cX11_sound rfl) rfl
theorem dX11_sound_17 : decode cX11_sound 17 = .ok (.invokespecial 99, 3) := zo_183 (b1 := 0) (b2 := 99) (zkb3 zk_cX11_sound zn_cX11_sound rfl) rfl
theorem dX11_sound_20 : decode cX11_sound 20 = .ok (.athrow, 1) := zo_191 (zkb zk_cX11_sound zn_cX11_sound rfl)
theorem dX11_sound_21 : decode cX11_sound 21 = .ok (.aload_n 0, 1) := zo_42 (zkb zk_cX11_sound zn_cX11_sound rfl)
theorem dX11_sound_22 : decode cX11_sound 22 = .ok (.getfield 41, 3) := zo_180 (b1 := 0) (b2 := 41) (zkb3 zk_cX11_sound zn_cX11_sound rfl) rfl
theorem dX11_sound_25 : decode cX11_sound 25 = .ok (.iload_n 1, 1) := zo_27 (zkb zk_cX11_sound zn_cX11_sound rfl)
theorem dX11_sound_26 : decode cX11_sound 26 = .ok (.invokevirtual 319, 3) := zo_182 (b1 := 1) (b2 := 63) (zkb3 zk_cX11_sound zn_cX11_sound rfl) rfl
theorem dX11_sound_29 : decode cX11_sound 29 = .ok (.ireturn, 1) := zo_172 (zkb zk_cX11_sound zn_cX11_sound rfl)
noncomputable def kn_cX11_look : Nat := 0xad85c500b45b00b42aad852901b63401b44b00b42aad85b900b65200b42aad090400a70a0700998b00b42aad855101b6033900b42aad855101b606103900b42aad85f700b61b104200b42aad854e01b66409101b1000b42aad854e01b6061000b42aad854b01b61000b42aad854801b65200b42aad856600b41000b42aad4501b6064b00b42aad852901b62501b44b00b42aad4501b6054b00b42aad4501b6044b00b42aad4501b6034b00b42aee000000e5000000d8000000ce000000c3000000b8000000ab000000ab000000ab000000a1000000980000008f000000860000007d00000071000000680000005f000000560000001100000000000000fa00000000aa1bbf6300b7430113595f00bb0e00a412101b09009b1b
theorem zk_cX11_look : zkd cX11_look.data.toList kn_cX11_look = true := by decide +kernel
theorem zn_cX11_look : cX11_look.data.toList.length = 281 := by decide +kernel
theorem dX11_look_0 : decode cX11_look 0 = .ok (.iload_n 1, 1) := zo_27 (zkb zk_cX11_look zn_cX11_look rfl)
theorem dX11_look_1 : decode cX11_look 1 = .ok (.ifCond .lt 9, 3) := zo_155 (b1 := 0) (b2 := 9) (zkb3 zk_cX11_look zn_cX11_look rfl) rfl
theorem dX11_look_4 : decode cX11_look 4 = .ok (.iload_n 1, 1) := zo_27 (zkb zk_cX11_look zn_cX11_look rfl)
theorem dX11_look_5 : decode cX11_look 5 = .ok (.bipush 18, 2) := zo_16 (b1 := 18) (zkb2 zk_cX11_look zn_cX11_look rfl) rfl
theorem dX11_look_7 : decode cX11_look 7 = .ok (.if_icmp .le 14, 3) := zo_164 (b1 := 0) (b2 := 14) (zkb3 zk_cX11_look zn_cX11_look rfl) rfl
theorem dX11_look_10 : decode cX11_look 10 = .ok (.new 95, 3) := zo_187 (b1 := 0) (b2 := 95) (zkb3 zk_cX11_look zn_cX11_look rfl) rfl
theorem dX11_look_13 : decode cX11_look 13 = .ok (.dup, 1) := zo_89 (zkb zk_cX11_look zn_cX11_look rfl)
theorem dX11_look_14 : decode cX11_look 14 = .ok (.ldc_w 323, 3) := zo_19 (b1 := 1) (b2 := 67) (zkb3 zk_cX11_look zn_cX11_look rfl) rfl
theorem dX11_look_17 : decode cX11_look 17 = .ok (.invokespecial 99, 3) := zo_183 (b1 := 0) (b2 := 99) (zkb3 zk_cX11_look zn_cX11_look rfl) rfl
theorem dX11_look_20 : decode cX11_look 20 = .ok (.athrow, 1) := zo_191 (zkb zk_cX11_look zn_cX11_look rfl)
theorem dX11_look_21 : decode cX11_look 21 = .ok (.iload_n 1, 1) := zo_27 (zkb zk_cX11_look zn_cX11_look rfl)
theorem dX11_look_22 : decode cX11_look 22 = .ok (.tableswitch 250 0 17 #[86, 95, 104, 113, 125, 134, 143, 152, 161, 171, 171, 171, 184, 195, 206, 216, 229, 238], 86) := by decide +kernel
theorem dX11_look_108 : decode cX11_look 108 = .ok (.aload_n 0, 1) := zo_42 (zkb zk_cX11_look zn_cX11_look rfl)
theorem dX11_look_109 : decode cX11_look 109 = .ok (.getfield 75, 3) := zo_180 (b1 := 0) (b2 := 75) (zkb3 zk_cX11_look zn_cX11_look rfl) rfl
theorem dX11_look_112 : decode cX11_look 112 = .ok (.iconst 0, 1) := zo_3 (zkb zk_cX11_look zn_cX11_look rfl)
theorem dX11_look_113 : decode cX11_look 113 = .ok (.invokevirtual 325, 3) := zo_182 (b1 := 1) (b2 := 69) (zkb3 zk_cX11_look zn_cX11_look rfl) rfl
theorem dX11_look_116 : decode cX11_look 116 = .ok (.lreturn, 1) := zo_173 (zkb zk_cX11_look zn_cX11_look rfl)
theorem dX11_look_117 : decode cX11_look 117 = .ok (.aload_n 0, 1) := zo_42 (zkb zk_cX11_look zn_cX11_look rfl)
theorem dX11_look_118 : decode cX11_look 118 = .ok (.getfield 75, 3) := zo_180 (b1 := 0) (b2 := 75) (zkb3 zk_cX11_look zn_cX11_look rfl) rfl
theorem dX11_look_121 : decode cX11_look 121 = .ok (.iconst 1, 1) := zo_4 (zkb zk_cX11_look zn_cX11_look rfl)
theorem dX11_look_122 : decode cX11_look 122 = .ok (.invokevirtual 325, 3) := zo_182 (b1 := 1) (b2 := 69) (zkb3 zk_cX11_look zn_cX11_look rfl) rfl
theorem dX11_look_125 : decode cX11_look 125 = .ok (.lreturn, 1) := zo_173 (zkb zk_cX11_look zn_cX11_look rfl)
theorem dX11_look_126 : decode cX11_look 126 = .ok (.aload_n 0, 1) := zo_42 (zkb zk_cX11_look zn_cX11_look rfl)
theorem dX11_look_127 : decode cX11_look 127 = .ok (.getfield 75, 3) := zo_180 (b1 := 0) (b2 := 75) (zkb3 zk_cX11_look zn_cX11_look rfl) rfl
theorem dX11_look_130 : decode cX11_look 130 = .ok (.iconst 2, 1) := zo_5 (zkb zk_cX11_look zn_cX11_look rfl)
theorem dX11_look_131 : decode cX11_look 131 = .ok (.invokevirtual 325, 3) := zo_182 (b1 := 1) (b2 := 69) (zkb3 zk_cX11_look zn_cX11_look rfl) rfl
theorem dX11_look_134 : decode cX11_look 134 = .ok (.lreturn, 1) := zo_173 (zkb zk_cX11_look zn_cX11_look rfl)
theorem dX11_look_135 : decode cX11_look 135 = .ok (.aload_n 0, 1) := zo_42 (zkb zk_cX11_look zn_cX11_look rfl)
theorem dX11_look_136 : decode cX11_look 136 = .ok (.getfield 75, 3) := zo_180 (b1 := 0) (b2 := 75) (zkb3 zk_cX11_look zn_cX11_look rfl) rfl
theorem dX11_look_139 : decode cX11_look 139 = .ok (.getfield 293, 3) := zo_180 (b1 := 1) (b2 := 37) (zkb3 zk_cX11_look zn_cX11_look rfl) rfl
theorem dX11_look_142 : decode cX11_look 142 = .ok (.invokevirtual 297, 3) := zo_182 (b1 := 1) (b2 := 41) (zkb3 zk_cX11_look zn_cX11_look rfl) rfl
theorem dX11_look_145 : decode cX11_look 145 = .ok (.i2l, 1) := zo_133 (zkb zk_cX11_look zn_cX11_look rfl)
theorem dX11_look_146 : decode cX11_look 146 = .ok (.lreturn, 1) := zo_173 (zkb zk_cX11_look zn_cX11_look rfl)
theorem dX11_look_147 : decode cX11_look 147 = .ok (.aload_n 0, 1) := zo_42 (zkb zk_cX11_look zn_cX11_look rfl)
theorem dX11_look_148 : decode cX11_look 148 = .ok (.getfield 75, 3) := zo_180 (b1 := 0) (b2 := 75) (zkb3 zk_cX11_look zn_cX11_look rfl) rfl
theorem dX11_look_151 : decode cX11_look 151 = .ok (.iconst 3, 1) := zo_6 (zkb zk_cX11_look zn_cX11_look rfl)
theorem dX11_look_152 : decode cX11_look 152 = .ok (.invokevirtual 325, 3) := zo_182 (b1 := 1) (b2 := 69) (zkb3 zk_cX11_look zn_cX11_look rfl) rfl
theorem dX11_look_155 : decode cX11_look 155 = .ok (.lreturn, 1) := zo_173 (zkb zk_cX11_look zn_cX11_look rfl)
theorem dX11_look_156 : decode cX11_look 156 = .ok (.aload_n 0, 1) := zo_42 (zkb zk_cX11_look zn_cX11_look rfl)
theorem dX11_look_157 : decode cX11_look 157 = .ok (.getfield 16, 3) := zo_180 (b1 := 0) (b2 := 16) (zkb3 zk_cX11_look zn_cX11_look rfl) rfl
theorem dX11_look_160 : decode cX11_look 160 = .ok (.getfield 102, 3) := zo_180 (b1 := 0) (b2 := 102) (zkb3 zk_cX11_look zn_cX11_look rfl) rfl
theorem dX11_look_163 : decode cX11_look 163 = .ok (.i2l, 1) := zo_133 (zkb zk_cX11_look zn_cX11_look rfl)
theorem dX11_look_164 : decode cX11_look 164 = .ok (.lreturn, 1) := zo_173 (zkb zk_cX11_look zn_cX11_look rfl)
theorem dX11_look_165 : decode cX11_look 165 = .ok (.aload_n 0, 1) := zo_42 (zkb zk_cX11_look zn_cX11_look rfl)
theorem dX11_look_166 : decode cX11_look 166 = .ok (.getfield 82, 3) := zo_180 (b1 := 0) (b2 := 82) (zkb3 zk_cX11_look zn_cX11_look rfl) rfl
theorem dX11_look_169 : decode cX11_look 169 = .ok (.invokevirtual 328, 3) := zo_182 (b1 := 1) (b2 := 72) (zkb3 zk_cX11_look zn_cX11_look rfl) rfl
theorem dX11_look_172 : decode cX11_look 172 = .ok (.i2l, 1) := zo_133 (zkb zk_cX11_look zn_cX11_look rfl)
theorem dX11_look_173 : decode cX11_look 173 = .ok (.lreturn, 1) := zo_173 (zkb zk_cX11_look zn_cX11_look rfl)
theorem dX11_look_174 : decode cX11_look 174 = .ok (.aload_n 0, 1) := zo_42 (zkb zk_cX11_look zn_cX11_look rfl)
theorem dX11_look_175 : decode cX11_look 175 = .ok (.getfield 16, 3) := zo_180 (b1 := 0) (b2 := 16) (zkb3 zk_cX11_look zn_cX11_look rfl) rfl
theorem dX11_look_178 : decode cX11_look 178 = .ok (.invokevirtual 331, 3) := zo_182 (b1 := 1) (b2 := 75) (zkb3 zk_cX11_look zn_cX11_look rfl) rfl
theorem dX11_look_181 : decode cX11_look 181 = .ok (.i2l, 1) := zo_133 (zkb zk_cX11_look zn_cX11_look rfl)
theorem dX11_look_182 : decode cX11_look 182 = .ok (.lreturn, 1) := zo_173 (zkb zk_cX11_look zn_cX11_look rfl)
theorem dX11_look_183 : decode cX11_look 183 = .ok (.aload_n 0, 1) := zo_42 (zkb zk_cX11_look zn_cX11_look rfl)
theorem dX11_look_184 : decode cX11_look 184 = .ok (.getfield 16, 3) := zo_180 (b1 := 0) (b2 := 16) (zkb3 zk_cX11_look zn_cX11_look rfl) rfl
theorem dX11_look_187 : decode cX11_look 187 = .ok (.iconst 3, 1) := zo_6 (zkb zk_cX11_look zn_cX11_look rfl)
theorem dX11_look_188 : decode cX11_look 188 = .ok (.invokevirtual 334, 3) := zo_182 (b1 := 1) (b2 := 78) (zkb3 zk_cX11_look zn_cX11_look rfl) rfl
theorem dX11_look_191 : decode cX11_look 191 = .ok (.i2l, 1) := zo_133 (zkb zk_cX11_look zn_cX11_look rfl)
theorem dX11_look_192 : decode cX11_look 192 = .ok (.lreturn, 1) := zo_173 (zkb zk_cX11_look zn_cX11_look rfl)
theorem dX11_look_193 : decode cX11_look 193 = .ok (.aload_n 0, 1) := zo_42 (zkb zk_cX11_look zn_cX11_look rfl)
theorem dX11_look_194 : decode cX11_look 194 = .ok (.getfield 16, 3) := zo_180 (b1 := 0) (b2 := 16) (zkb3 zk_cX11_look zn_cX11_look rfl) rfl
theorem dX11_look_197 : decode cX11_look 197 = .ok (.iload_n 1, 1) := zo_27 (zkb zk_cX11_look zn_cX11_look rfl)
theorem dX11_look_198 : decode cX11_look 198 = .ok (.bipush 9, 2) := zo_16 (b1 := 9) (zkb2 zk_cX11_look zn_cX11_look rfl) rfl
theorem dX11_look_200 : decode cX11_look 200 = .ok (.isub, 1) := zo_100 (zkb zk_cX11_look zn_cX11_look rfl)
theorem dX11_look_201 : decode cX11_look 201 = .ok (.invokevirtual 334, 3) := zo_182 (b1 := 1) (b2 := 78) (zkb3 zk_cX11_look zn_cX11_look rfl) rfl
theorem dX11_look_204 : decode cX11_look 204 = .ok (.i2l, 1) := zo_133 (zkb zk_cX11_look zn_cX11_look rfl)
theorem dX11_look_205 : decode cX11_look 205 = .ok (.lreturn, 1) := zo_173 (zkb zk_cX11_look zn_cX11_look rfl)
theorem dX11_look_206 : decode cX11_look 206 = .ok (.aload_n 0, 1) := zo_42 (zkb zk_cX11_look zn_cX11_look rfl)
theorem dX11_look_207 : decode cX11_look 207 = .ok (.getfield 66, 3) := zo_180 (b1 := 0) (b2 := 66) (zkb3 zk_cX11_look zn_cX11_look rfl) rfl
theorem dX11_look_210 : decode cX11_look 210 = .ok (.bipush 27, 2) := zo_16 (b1 := 27) (zkb2 zk_cX11_look zn_cX11_look rfl) rfl
theorem dX11_look_212 : decode cX11_look 212 = .ok (.invokevirtual 247, 3) := zo_182 (b1 := 0) (b2 := 247) (zkb3 zk_cX11_look zn_cX11_look rfl) rfl
theorem dX11_look_215 : decode cX11_look 215 = .ok (.i2l, 1) := zo_133 (zkb zk_cX11_look zn_cX11_look rfl)
theorem dX11_look_216 : decode cX11_look 216 = .ok (.lreturn, 1) := zo_173 (zkb zk_cX11_look zn_cX11_look rfl)
theorem dX11_look_217 : decode cX11_look 217 = .ok (.aload_n 0, 1) := zo_42 (zkb zk_cX11_look zn_cX11_look rfl)
theorem dX11_look_218 : decode cX11_look 218 = .ok (.getfield 57, 3) := zo_180 (b1 := 0) (b2 := 57) (zkb3 zk_cX11_look zn_cX11_look rfl) rfl
theorem dX11_look_221 : decode cX11_look 221 = .ok (.bipush 6, 2) := zo_16 (b1 := 6) (zkb2 zk_cX11_look zn_cX11_look rfl) rfl
theorem dX11_look_223 : decode cX11_look 223 = .ok (.invokevirtual 337, 3) := zo_182 (b1 := 1) (b2 := 81) (zkb3 zk_cX11_look zn_cX11_look rfl) rfl
theorem dX11_look_226 : decode cX11_look 226 = .ok (.i2l, 1) := zo_133 (zkb zk_cX11_look zn_cX11_look rfl)
theorem dX11_look_227 : decode cX11_look 227 = .ok (.lreturn, 1) := zo_173 (zkb zk_cX11_look zn_cX11_look rfl)
theorem dX11_look_228 : decode cX11_look 228 = .ok (.aload_n 0, 1) := zo_42 (zkb zk_cX11_look zn_cX11_look rfl)
theorem dX11_look_229 : decode cX11_look 229 = .ok (.getfield 57, 3) := zo_180 (b1 := 0) (b2 := 57) (zkb3 zk_cX11_look zn_cX11_look rfl) rfl
theorem dX11_look_232 : decode cX11_look 232 = .ok (.iconst 0, 1) := zo_3 (zkb zk_cX11_look zn_cX11_look rfl)
theorem dX11_look_233 : decode cX11_look 233 = .ok (.invokevirtual 337, 3) := zo_182 (b1 := 1) (b2 := 81) (zkb3 zk_cX11_look zn_cX11_look rfl) rfl
theorem dX11_look_236 : decode cX11_look 236 = .ok (.i2l, 1) := zo_133 (zkb zk_cX11_look zn_cX11_look rfl)
theorem dX11_look_237 : decode cX11_look 237 = .ok (.lreturn, 1) := zo_173 (zkb zk_cX11_look zn_cX11_look rfl)
theorem dX11_look_238 : decode cX11_look 238 = .ok (.aload_n 0, 1) := zo_42 (zkb zk_cX11_look zn_cX11_look rfl)
theorem dX11_look_239 : decode cX11_look 239 = .ok (.getfield 139, 3) := zo_180 (b1 := 0) (b2 := 139) (zkb3 zk_cX11_look zn_cX11_look rfl) rfl
theorem dX11_look_242 : decode cX11_look 242 = .ok (.ifCond .eq 7, 3) := zo_153 (b1 := 0) (b2 := 7) (zkb3 zk_cX11_look zn_cX11_look rfl) rfl
theorem dX11_look_245 : decode cX11_look 245 = .ok (.lconst 1, 1) := zo_10 (zkb zk_cX11_look zn_cX11_look rfl)
theorem dX11_look_246 : decode cX11_look 246 = .ok (.goto 4, 3) := zo_167 (b1 := 0) (b2 := 4) (zkb3 zk_cX11_look zn_cX11_look rfl) rfl
theorem dX11_look_249 : decode cX11_look 249 = .ok (.lconst 0, 1) := zo_9 (zkb zk_cX11_look zn_cX11_look rfl)
theorem dX11_look_250 : decode cX11_look 250 = .ok (.lreturn, 1) := zo_173 (zkb zk_cX11_look zn_cX11_look rfl)
theorem dX11_look_251 : decode cX11_look 251 = .ok (.aload_n 0, 1) := zo_42 (zkb zk_cX11_look zn_cX11_look rfl)
theorem dX11_look_252 : decode cX11_look 252 = .ok (.getfield 82, 3) := zo_180 (b1 := 0) (b2 := 82) (zkb3 zk_cX11_look zn_cX11_look rfl) rfl
theorem dX11_look_255 : decode cX11_look 255 = .ok (.invokevirtual 185, 3) := zo_182 (b1 := 0) (b2 := 185) (zkb3 zk_cX11_look zn_cX11_look rfl) rfl
theorem dX11_look_258 : decode cX11_look 258 = .ok (.i2l, 1) := zo_133 (zkb zk_cX11_look zn_cX11_look rfl)
theorem dX11_look_259 : decode cX11_look 259 = .ok (.lreturn, 1) := zo_173 (zkb zk_cX11_look zn_cX11_look rfl)
theorem dX11_look_260 : decode cX11_look 260 = .ok (.aload_n 0, 1) := zo_42 (zkb zk_cX11_look zn_cX11_look rfl)
theorem dX11_look_261 : decode cX11_look 261 = .ok (.getfield 75, 3) := zo_180 (b1 := 0) (b2 := 75) (zkb3 zk_cX11_look zn_cX11_look rfl) rfl
theorem dX11_look_264 : decode cX11_look 264 = .ok (.getfield 308, 3) := zo_180 (b1 := 1) (b2 := 52) (zkb3 zk_cX11_look zn_cX11_look rfl) rfl
theorem dX11_look_267 : decode cX11_look 267 = .ok (.invokevirtual 297, 3) := zo_182 (b1 := 1) (b2 := 41) (zkb3 zk_cX11_look zn_cX11_look rfl) rfl
theorem dX11_look_270 : decode cX11_look 270 = .ok (.i2l, 1) := zo_133 (zkb zk_cX11_look zn_cX11_look rfl)
theorem dX11_look_271 : decode cX11_look 271 = .ok (.lreturn, 1) := zo_173 (zkb zk_cX11_look zn_cX11_look rfl)
theorem dX11_look_272 : decode cX11_look 272 = .ok (.aload_n 0, 1) := zo_42 (zkb zk_cX11_look zn_cX11_look rfl)
theorem dX11_look_273 : decode cX11_look 273 = .ok (.getfield 91, 3) := zo_180 (b1 := 0) (b2 := 91) (zkb3 zk_cX11_look zn_cX11_look rfl) rfl
theorem dX11_look_276 : decode cX11_look 276 = .ok (.getfield 197, 3) := zo_180 (b1 := 0) (b2 := 197) (zkb3 zk_cX11_look zn_cX11_look rfl) rfl
theorem dX11_look_279 : decode cX11_look 279 = .ok (.i2l, 1) := zo_133 (zkb zk_cX11_look zn_cX11_look rfl)
theorem dX11_look_280 : decode cX11_look 280 = .ok (.lreturn, 1) := zo_173 (zkb zk_cX11_look zn_cX11_look rfl)
noncomputable def rmX11_set : Room := { frames := 6, cells := 1, slots := 6, locals := 100 }
noncomputable def wzX11_set : List Cond := .code yX11_set cX11_set 3 none :: wsL_law
theorem hinX11_set_X110 : ∀ w ∈ wsX110, w ∈ wzX11_set := fun w h => List.mem_cons_of_mem _ (inlX11 w h)
noncomputable def fX11_set_10  (σ : zSt)  : Option (zRu) :=
  some (Sum.inr (σ, 1))
noncomputable def fX11_set  (σ : zSt) (x1 : Int32) (x2 : Int32) : Option (zRu) :=
  if x1 < 0 then fX11_set_10 σ else
  if x1 ≤ 25 then zbu (fX5_change σ x1 x2) (fun σ1 =>
  some (Sum.inl σ1)) else
  fX11_set_10 σ
set_option maxRecDepth 20000 in
set_option maxHeartbeats 4000000 in
theorem bX11_set_10 {st : Nat → Nat} {p : Program} {l : Launch} {e : Env} {s : State} {m : MethodId} {args : Array Value} {below : List Frame} {meth : Method} {c : Code} {D : va_G} {A : Nat → Prop} {ad : Nat → Nat} {cy : Nat → ClassId} (hC : zC p m c cX11_set 3 s args wzX11_set RX11 meth none) (hE : ∀ x ∈ c.exceptionTable.toList, False) (hst : l.stackTraces = false)  {res : zRu} {H : Heap} {locs : List Loc} {σ : zSt} {ls : Array Slot}  (hI : zI st D (tC cy) (wC ad cy σ) A s H locs) (hl : lv_has ls 3 []) (hf : fX11_set_10  σ  = some res) : W p l e rmX11_set s m args below meth c H locs 0 0 (zXQu below args s D (tC cy) (wC ad cy) A res) (F0 m 10 ls []) := by
  have hx := hC.1
  have hb := hC.2.1
  unfold fX11_set_10 at hf
  exact z_throw hC hE hst hI hl 1 hf (by decide) (List.mem_cons_of_mem _ zw11_1) (List.mem_cons_of_mem _ zw11_2) 60 (by decide) rfl rfl (fun w h => List.mem_cons_of_mem _ (zx1 w h)) zXn1 zXg1 dX11_set_10 dX11_set_13 dX11_set_14 dX11_set_16 dX11_set_19 (Nat.le_of_ble_eq_true rfl) (Nat.le_of_ble_eq_true rfl) (Nat.le_of_ble_eq_true rfl) (Nat.le_of_ble_eq_true rfl)
set_option maxRecDepth 20000 in
set_option maxHeartbeats 4000000 in
theorem bX11_set {st : Nat → Nat} {p : Program} {l : Launch} {e : Env} {s : State} {m : MethodId} {args : Array Value} {below : List Frame} {meth : Method} {c : Code} {D : va_G} {A : Nat → Prop} {ad : Nat → Nat} {cy : Nat → ClassId} (hC : zC p m c cX11_set 3 s args wzX11_set RX11 meth none) (hE : ∀ x ∈ c.exceptionTable.toList, False) (hst : l.stackTraces = false)  {res : zRu} {H : Heap} {locs : List Loc} {σ : zSt} {ls : Array Slot} {x1 : Int32} {x2 : Int32} (hI : zI st D (tC cy) (wC ad cy σ) A s H locs) (hl : lv_has ls 3 [(0, .ref (ad 0)), (1, .int x1), (2, .int x2)]) (hf : fX11_set  σ x1 x2 = some res) : W p l e rmX11_set s m args below meth c H locs 0 0 (zXQu below args s D (tC cy) (wC ad cy) A res) (F0 m 0 ls []) := by
  have hx := hC.1
  have hb := hC.2.1
  unfold fX11_set at hf
  refine lv_iload_n hx hb dX11_set_0 rfl (lv_at hl 1 rfl) ?_
  refine lv_if_lt (tgt := 10) hx hb dX11_set_1 (by decide) (fun q => ?_) (fun q => ?_)
  · replace hf := zif_t q hf
    exact bX11_set_10 hC hE hst  hI (lv_sub hl [] rfl) hf
  replace hf := zif_f q hf
  refine lv_iload_n hx hb dX11_set_4 rfl (lv_at hl 1 rfl) ?_
  refine lv_bipush (v := 25) hx hb dX11_set_5 (by decide) ?_
  refine lv_icmp_le (tgt := 20) hx hb dX11_set_7 (by decide) (fun q => ?_) (fun q => ?_)
  · replace hf := zif_t q hf
    refine lv_aload_n hx hb dX11_set_20 rfl (lv_at hl 0 rfl) ?_
    refine z_get hC hI hinX11_set_X110 0 (wC_e0 ad cy σ) rfl 7 (by decide) (List.mem_cons_of_mem _ zw2_22) rfl dX11_set_21 ?_
    refine lv_iload_n hx hb dX11_set_24 rfl (lv_at hl 1 rfl) ?_
    refine lv_iload_n hx hb dX11_set_25 rfl (lv_at hl 2 rfl) ?_
    obtain ⟨σ1, g1, hf⟩ := zbu_use hf
    refine z_callVu (As := [.int x1, .int x2]) (rest := []) hC hI (cX5_change_met st l D ad cy σ x1 x2 _ g1) (zgV zw85_11 zw85_12 zw85_13 zw2_21 zw85_14) rfl ⟨rfl, rfl⟩ 2 hdX5_change ⟨Nat.le_of_ble_eq_true rfl, Nat.le_of_ble_eq_true rfl⟩ rfl rfl (wC_e7 ad cy σ) rfl hl rfl (Nat.le_of_ble_eq_true rfl) dX11_set_26 ⟨Nat.zero_le _, Nat.zero_le _⟩ (fun H locs hI => ?_)
    exact z_xreturn hC hI hf dX11_set_29
  replace hf := zif_f q hf
  exact bX11_set_10 hC hE hst  hI (lv_sub hl [] rfl) hf
set_option maxRecDepth 20000 in
theorem cX11_set_met (st : Nat → Nat) (l : Launch) (hst : l.stackTraces = false) (D : va_G) (ad : Nat → Nat) (cy : Nat → ClassId) (σ : zSt) (x1 : Int32) (x2 : Int32) (res : zRu) (hf : fX11_set σ x1 x2 = some res) (sz : Nat) : zXu st l yX11_set wzX11_set rmX11_set [.ref (ad 0), .int x1, .int x2] D (tC cy) (wC ad cy) sz σ res :=
  zXu.of (cc := cX11_set) (maxL := 3) (ret := none) (by decide) rfl (Nat.le_of_ble_eq_true rfl) (fun p e s m args below meth c hC hE A hI ls hl => bX11_set hC hE hst hI hl hf)
theorem hdX11_set : yX11_set.cls = RX11 ∧ yX11_set.cls ≠ "java/lang/invoke/MethodHandle" ∧ yX11_set.cls ≠ "java/lang/invoke/VarHandle" ∧ (parseMethodDescriptor yX11_set.desc).map (fun d => d.parameters.length) = some 2 := by decide +kernel
noncomputable def rmX11_battery : Room := { frames := 6, cells := 1, slots := 6, locals := 100 }
noncomputable def wzX11_battery : List Cond := .code yX11_battery cX11_battery 2 (some .int) :: wsL_law
theorem hinX11_battery_X110 : ∀ w ∈ wsX110, w ∈ wzX11_battery := fun w h => List.mem_cons_of_mem _ (inlX11 w h)
noncomputable def fX11_battery_11  (σ : zSt)  : Option (zRi) :=
  some (Sum.inr (σ, 3))
noncomputable def fX11_battery  (σ : zSt) (x1 : Int32) : Option (zRi) :=
  if x1 < 0 then fX11_battery_11 σ else
  if x1 < 32768 then zbi (fX2_batteryByte σ x1) (fun σ1 v2 =>
  some (Sum.inl (σ1, v2))) else
  fX11_battery_11 σ
set_option maxRecDepth 20000 in
set_option maxHeartbeats 4000000 in
theorem bX11_battery_11 {st : Nat → Nat} {p : Program} {l : Launch} {e : Env} {s : State} {m : MethodId} {args : Array Value} {below : List Frame} {meth : Method} {c : Code} {D : va_G} {A : Nat → Prop} {ad : Nat → Nat} {cy : Nat → ClassId} (hC : zC p m c cX11_battery 2 s args wzX11_battery RX11 meth (some .int)) (hE : ∀ x ∈ c.exceptionTable.toList, False) (hst : l.stackTraces = false)  {res : zRi} {H : Heap} {locs : List Loc} {σ : zSt} {ls : Array Slot}  (hI : zI st D (tC cy) (wC ad cy σ) A s H locs) (hl : lv_has ls 2 []) (hf : fX11_battery_11  σ  = some res) : W p l e rmX11_battery s m args below meth c H locs 0 0 (zXQi below args s D (tC cy) (wC ad cy) A res) (F0 m 11 ls []) := by
  have hx := hC.1
  have hb := hC.2.1
  unfold fX11_battery_11 at hf
  exact z_throw3W hC hE hst hI hl 3 hf (by decide) (List.mem_cons_of_mem _ zw78_12) (List.mem_cons_of_mem _ zw78_13) 61 (by decide) rfl rfl (fun w h => List.mem_cons_of_mem _ (zx3 w h)) zXn3 zXg3 dX11_battery_11 dX11_battery_14 dX11_battery_15 dX11_battery_18 dX11_battery_21 (Nat.le_of_ble_eq_true rfl) (Nat.le_of_ble_eq_true rfl) (Nat.le_of_ble_eq_true rfl) (Nat.le_of_ble_eq_true rfl)
set_option maxRecDepth 20000 in
set_option maxHeartbeats 4000000 in
theorem bX11_battery {st : Nat → Nat} {p : Program} {l : Launch} {e : Env} {s : State} {m : MethodId} {args : Array Value} {below : List Frame} {meth : Method} {c : Code} {D : va_G} {A : Nat → Prop} {ad : Nat → Nat} {cy : Nat → ClassId} (hC : zC p m c cX11_battery 2 s args wzX11_battery RX11 meth (some .int)) (hE : ∀ x ∈ c.exceptionTable.toList, False) (hst : l.stackTraces = false)  {res : zRi} {H : Heap} {locs : List Loc} {σ : zSt} {ls : Array Slot} {x1 : Int32} (hI : zI st D (tC cy) (wC ad cy σ) A s H locs) (hl : lv_has ls 2 [(0, .ref (ad 0)), (1, .int x1)]) (hf : fX11_battery  σ x1 = some res) : W p l e rmX11_battery s m args below meth c H locs 0 0 (zXQi below args s D (tC cy) (wC ad cy) A res) (F0 m 0 ls []) := by
  have hx := hC.1
  have hb := hC.2.1
  unfold fX11_battery at hf
  refine lv_iload_n hx hb dX11_battery_0 rfl (lv_at hl 1 rfl) ?_
  refine lv_if_lt (tgt := 11) hx hb dX11_battery_1 (by decide) (fun q => ?_) (fun q => ?_)
  · replace hf := zif_t q hf
    exact bX11_battery_11 hC hE hst  hI (lv_sub hl [] rfl) hf
  replace hf := zif_f q hf
  refine lv_iload_n hx hb dX11_battery_4 rfl (lv_at hl 1 rfl) ?_
  refine lv_ldcw (v := 32768) hx hb hC.2.2.2.1 (hC.2.2.2.2.1 _ (List.mem_cons_of_mem _ zw87_16)) dX11_battery_5 ?_
  refine lv_icmp_lt (tgt := 22) hx hb dX11_battery_8 (by decide) (fun q => ?_) (fun q => ?_)
  · replace hf := zif_t q hf
    refine lv_aload_n hx hb dX11_battery_22 rfl (lv_at hl 0 rfl) ?_
    refine z_get hC hI hinX11_battery_X110 0 (wC_e0 ad cy σ) rfl 1 (by decide) (List.mem_cons_of_mem _ zw1_22) rfl dX11_battery_23 ?_
    refine lv_iload_n hx hb dX11_battery_26 rfl (lv_at hl 1 rfl) ?_
    obtain ⟨σ1, v2, g1, hf⟩ := zbi_use hf
    refine z_callVi (As := [.int x1]) (rest := []) hC hI (cX2_batteryByte_met st l D ad cy σ x1 _ g1) (zgV zw87_17 zw87_18 zw87_19 zw1_21 zw87_20) rfl ⟨rfl, rfl⟩ 1 hdX2_batteryByte ⟨Nat.le_of_ble_eq_true rfl, Nat.le_of_ble_eq_true rfl⟩ rfl rfl (wC_e1 ad cy σ) rfl hl rfl (Nat.le_of_ble_eq_true rfl) dX11_battery_27 ⟨Nat.zero_le _, Nat.zero_le _⟩ (fun H locs hI => ?_)
    exact z_xireturn hC hI hf dX11_battery_30
  replace hf := zif_f q hf
  exact bX11_battery_11 hC hE hst  hI (lv_sub hl [] rfl) hf
set_option maxRecDepth 20000 in
theorem cX11_battery_met (st : Nat → Nat) (l : Launch) (hst : l.stackTraces = false) (D : va_G) (ad : Nat → Nat) (cy : Nat → ClassId) (σ : zSt) (x1 : Int32) (res : zRi) (hf : fX11_battery σ x1 = some res) (sz : Nat) : zXi st l yX11_battery wzX11_battery rmX11_battery [.ref (ad 0), .int x1] D (tC cy) (wC ad cy) sz σ res :=
  zXi.of (cc := cX11_battery) (maxL := 2) (ret := (some .int)) (by decide) rfl (Nat.le_of_ble_eq_true rfl) (fun p e s m args below meth c hC hE A hI ls hl => bX11_battery hC hE hst hI hl hf)
theorem hdX11_battery : yX11_battery.cls = RX11 ∧ yX11_battery.cls ≠ "java/lang/invoke/MethodHandle" ∧ yX11_battery.cls ≠ "java/lang/invoke/VarHandle" ∧ (parseMethodDescriptor yX11_battery.desc).map (fun d => d.parameters.length) = some 1 := by decide +kernel
noncomputable def rmX11_chip : Room := { frames := 6, cells := 1, slots := 6, locals := 100 }
noncomputable def wzX11_chip : List Cond := .code yX11_chip cX11_chip 2 (some .int) :: wsL_law
theorem hinX11_chip_X110 : ∀ w ∈ wsX110, w ∈ wzX11_chip := fun w h => List.mem_cons_of_mem _ (inlX11 w h)
noncomputable def fX11_chip  (σ : zSt) (x1 : Int32) : Option (zRi) :=
  zbi (fX9_has σ x1) (fun σ1 v2 =>
  if v2 = 0 then some (Sum.inr (σ1, 1)) else
  zbi (fX9_value σ1 x1) (fun σ3 v4 =>
  some (Sum.inl (σ3, v4))))
set_option maxRecDepth 20000 in
set_option maxHeartbeats 4000000 in
theorem bX11_chip {st : Nat → Nat} {p : Program} {l : Launch} {e : Env} {s : State} {m : MethodId} {args : Array Value} {below : List Frame} {meth : Method} {c : Code} {D : va_G} {A : Nat → Prop} {ad : Nat → Nat} {cy : Nat → ClassId} (hC : zC p m c cX11_chip 2 s args wzX11_chip RX11 meth (some .int)) (hE : ∀ x ∈ c.exceptionTable.toList, False) (hst : l.stackTraces = false)  {res : zRi} {H : Heap} {locs : List Loc} {σ : zSt} {ls : Array Slot} {x1 : Int32} (hI : zI st D (tC cy) (wC ad cy σ) A s H locs) (hl : lv_has ls 2 [(0, .ref (ad 0)), (1, .int x1)]) (hf : fX11_chip  σ x1 = some res) : W p l e rmX11_chip s m args below meth c H locs 0 0 (zXQi below args s D (tC cy) (wC ad cy) A res) (F0 m 0 ls []) := by
  have hx := hC.1
  have hb := hC.2.1
  unfold fX11_chip at hf
  refine lv_iload_n hx hb dX11_chip_0 rfl (lv_at hl 1 rfl) ?_
  obtain ⟨σ1, v2, g1, hf⟩ := zbi_use hf
  refine z_callSi (As := [.int x1]) (rest := []) hC hI (cX9_has_met st l D ad cy σ x1 _ g1) (zgS zw89_9 zw89_10 zw2_1 zw89_11) rfl ⟨rfl, rfl⟩ 1 hdX9_has ⟨Nat.le_of_ble_eq_true rfl, Nat.le_of_ble_eq_true rfl⟩ rfl hl rfl (Nat.le_of_ble_eq_true rfl) dX11_chip_1 ⟨Nat.zero_le _, Nat.zero_le _⟩ (fun H locs hI => ?_)
  refine lv_if_ne (tgt := 18) hx hb dX11_chip_4 (by decide) (fun q => ?_) (fun q => ?_)
  · replace hf := zif_f q hf
    refine lv_aload_n hx hb dX11_chip_18 rfl (lv_at hl 0 rfl) ?_
    refine z_get hC hI hinX11_chip_X110 0 (wC_e0 ad cy σ1) rfl 2 (by decide) (List.mem_cons_of_mem _ zw2_2) rfl dX11_chip_19 ?_
    refine lv_iload_n hx hb dX11_chip_22 rfl (lv_at hl 1 rfl) ?_
    obtain ⟨σ3, v4, g3, hf⟩ := zbi_use hf
    refine z_callVi (As := [.int x1]) (rest := []) hC hI (cX9_value_met st l D ad cy σ1 x1 _ g3) (zgV zw89_12 zw89_13 zw89_14 zw2_1 zw89_15) rfl ⟨rfl, rfl⟩ 1 hdX9_value ⟨Nat.le_of_ble_eq_true rfl, Nat.le_of_ble_eq_true rfl⟩ rfl rfl (wC_e2 ad cy σ1) rfl hl rfl (Nat.le_of_ble_eq_true rfl) dX11_chip_23 ⟨Nat.zero_le _, Nat.zero_le _⟩ (fun H locs hI => ?_)
    exact z_xireturn hC hI hf dX11_chip_26
  replace hf := zif_t q hf
  exact z_throwW hC hE hst hI hl 1 hf (by decide) (List.mem_cons_of_mem _ zw11_1) (List.mem_cons_of_mem _ zw11_2) 62 (by decide) rfl rfl (fun w h => List.mem_cons_of_mem _ (zx1 w h)) zXn1 zXg1 dX11_chip_7 dX11_chip_10 dX11_chip_11 dX11_chip_14 dX11_chip_17 (Nat.le_of_ble_eq_true rfl) (Nat.le_of_ble_eq_true rfl) (Nat.le_of_ble_eq_true rfl) (Nat.le_of_ble_eq_true rfl)
set_option maxRecDepth 20000 in
theorem cX11_chip_met (st : Nat → Nat) (l : Launch) (hst : l.stackTraces = false) (D : va_G) (ad : Nat → Nat) (cy : Nat → ClassId) (σ : zSt) (x1 : Int32) (res : zRi) (hf : fX11_chip σ x1 = some res) (sz : Nat) : zXi st l yX11_chip wzX11_chip rmX11_chip [.ref (ad 0), .int x1] D (tC cy) (wC ad cy) sz σ res :=
  zXi.of (cc := cX11_chip) (maxL := 2) (ret := (some .int)) (by decide) rfl (Nat.le_of_ble_eq_true rfl) (fun p e s m args below meth c hC hE A hI ls hl => bX11_chip hC hE hst hI hl hf)
theorem hdX11_chip : yX11_chip.cls = RX11 ∧ yX11_chip.cls ≠ "java/lang/invoke/MethodHandle" ∧ yX11_chip.cls ≠ "java/lang/invoke/VarHandle" ∧ (parseMethodDescriptor yX11_chip.desc).map (fun d => d.parameters.length) = some 1 := by decide +kernel
noncomputable def rmX11_dot : Room := { frames := 6, cells := 1, slots := 6, locals := 100 }
noncomputable def wzX11_dot : List Cond := .code yX11_dot cX11_dot 3 (some .int) :: wsL_law
theorem hinX11_dot_X110 : ∀ w ∈ wsX110, w ∈ wzX11_dot := fun w h => List.mem_cons_of_mem _ (inlX11 w h)
noncomputable def fX11_dot_30  (σ : zSt)  : Option (zRi) :=
  some (Sum.inr (σ, 3))
noncomputable def fX11_dot  (σ : zSt) (x1 : Int32) (x2 : Int32) : Option (zRi) :=
  if x1 < 0 then fX11_dot_30 σ else
  zbi (fX3_width σ ) (fun σ1 v2 =>
  if v2 ≤ x1 then fX11_dot_30 σ1 else
  if x2 < 0 then fX11_dot_30 σ1 else
  zbi (fX3_height σ1 ) (fun σ3 v4 =>
  if x2 < v4 then zbi (fX3_dotAt σ3 x1 x2) (fun σ5 v6 =>
  some (Sum.inl (σ5, v6))) else
  fX11_dot_30 σ3))
set_option maxRecDepth 20000 in
set_option maxHeartbeats 4000000 in
theorem bX11_dot_30 {st : Nat → Nat} {p : Program} {l : Launch} {e : Env} {s : State} {m : MethodId} {args : Array Value} {below : List Frame} {meth : Method} {c : Code} {D : va_G} {A : Nat → Prop} {ad : Nat → Nat} {cy : Nat → ClassId} (hC : zC p m c cX11_dot 3 s args wzX11_dot RX11 meth (some .int)) (hE : ∀ x ∈ c.exceptionTable.toList, False) (hst : l.stackTraces = false)  {res : zRi} {H : Heap} {locs : List Loc} {σ : zSt} {ls : Array Slot}  (hI : zI st D (tC cy) (wC ad cy σ) A s H locs) (hl : lv_has ls 3 []) (hf : fX11_dot_30  σ  = some res) : W p l e rmX11_dot s m args below meth c H locs 0 0 (zXQi below args s D (tC cy) (wC ad cy) A res) (F0 m 30 ls []) := by
  have hx := hC.1
  have hb := hC.2.1
  unfold fX11_dot_30 at hf
  exact z_throw3W hC hE hst hI hl 3 hf (by decide) (List.mem_cons_of_mem _ zw78_12) (List.mem_cons_of_mem _ zw78_13) 63 (by decide) rfl rfl (fun w h => List.mem_cons_of_mem _ (zx3 w h)) zXn3 zXg3 dX11_dot_30 dX11_dot_33 dX11_dot_34 dX11_dot_37 dX11_dot_40 (Nat.le_of_ble_eq_true rfl) (Nat.le_of_ble_eq_true rfl) (Nat.le_of_ble_eq_true rfl) (Nat.le_of_ble_eq_true rfl)
set_option maxRecDepth 20000 in
set_option maxHeartbeats 4000000 in
theorem bX11_dot {st : Nat → Nat} {p : Program} {l : Launch} {e : Env} {s : State} {m : MethodId} {args : Array Value} {below : List Frame} {meth : Method} {c : Code} {D : va_G} {A : Nat → Prop} {ad : Nat → Nat} {cy : Nat → ClassId} (hC : zC p m c cX11_dot 3 s args wzX11_dot RX11 meth (some .int)) (hE : ∀ x ∈ c.exceptionTable.toList, False) (hst : l.stackTraces = false)  {res : zRi} {H : Heap} {locs : List Loc} {σ : zSt} {ls : Array Slot} {x1 : Int32} {x2 : Int32} (hI : zI st D (tC cy) (wC ad cy σ) A s H locs) (hl : lv_has ls 3 [(0, .ref (ad 0)), (1, .int x1), (2, .int x2)]) (hf : fX11_dot  σ x1 x2 = some res) : W p l e rmX11_dot s m args below meth c H locs 0 0 (zXQi below args s D (tC cy) (wC ad cy) A res) (F0 m 0 ls []) := by
  have hx := hC.1
  have hb := hC.2.1
  unfold fX11_dot at hf
  refine lv_iload_n hx hb dX11_dot_0 rfl (lv_at hl 1 rfl) ?_
  refine lv_if_lt (tgt := 30) hx hb dX11_dot_1 (by decide) (fun q => ?_) (fun q => ?_)
  · replace hf := zif_t q hf
    exact bX11_dot_30 hC hE hst  hI (lv_sub hl [] rfl) hf
  replace hf := zif_f q hf
  refine lv_iload_n hx hb dX11_dot_4 rfl (lv_at hl 1 rfl) ?_
  refine lv_aload_n hx hb dX11_dot_5 rfl (lv_at hl 0 rfl) ?_
  refine z_get hC hI hinX11_dot_X110 0 (wC_e0 ad cy σ) rfl 3 (by decide) (List.mem_cons_of_mem _ zw2_6) rfl dX11_dot_6 ?_
  obtain ⟨σ1, v2, g1, hf⟩ := zbi_use hf
  refine z_callVi (As := []) (rest := [.int x1]) hC hI (cX3_width_met st l D ad cy σ  _ g1) (zgV zw90_9 zw90_10 zw90_11 zw2_5 zw90_12) rfl ⟨rfl, rfl⟩ 0 hdX3_width ⟨Nat.le_of_ble_eq_true rfl, Nat.le_of_ble_eq_true rfl⟩ rfl rfl (wC_e3 ad cy σ) rfl hl rfl (Nat.le_of_ble_eq_true rfl) dX11_dot_9 ⟨Nat.zero_le _, Nat.zero_le _⟩ (fun H locs hI => ?_)
  refine lv_icmp_ge (tgt := 30) hx hb dX11_dot_12 (by decide) (fun q => ?_) (fun q => ?_)
  · replace hf := zif_t q hf
    exact bX11_dot_30 hC hE hst  hI (lv_sub hl [] rfl) hf
  replace hf := zif_f q hf
  refine lv_iload_n hx hb dX11_dot_15 rfl (lv_at hl 2 rfl) ?_
  refine lv_if_lt (tgt := 30) hx hb dX11_dot_16 (by decide) (fun q => ?_) (fun q => ?_)
  · replace hf := zif_t q hf
    exact bX11_dot_30 hC hE hst  hI (lv_sub hl [] rfl) hf
  replace hf := zif_f q hf
  refine lv_iload_n hx hb dX11_dot_19 rfl (lv_at hl 2 rfl) ?_
  refine lv_aload_n hx hb dX11_dot_20 rfl (lv_at hl 0 rfl) ?_
  refine z_get hC hI hinX11_dot_X110 0 (wC_e0 ad cy σ1) rfl 3 (by decide) (List.mem_cons_of_mem _ zw2_6) rfl dX11_dot_21 ?_
  obtain ⟨σ3, v4, g3, hf⟩ := zbi_use hf
  refine z_callVi (As := []) (rest := [.int x2]) hC hI (cX3_height_met st l D ad cy σ1  _ g3) (zgV zw90_13 zw90_14 zw90_15 zw2_5 zw90_16) rfl ⟨rfl, rfl⟩ 0 hdX3_height ⟨Nat.le_of_ble_eq_true rfl, Nat.le_of_ble_eq_true rfl⟩ rfl rfl (wC_e3 ad cy σ1) rfl hl rfl (Nat.le_of_ble_eq_true rfl) dX11_dot_24 ⟨Nat.zero_le _, Nat.zero_le _⟩ (fun H locs hI => ?_)
  refine lv_icmp_lt (tgt := 41) hx hb dX11_dot_27 (by decide) (fun q => ?_) (fun q => ?_)
  · replace hf := zif_t q hf
    refine lv_aload_n hx hb dX11_dot_41 rfl (lv_at hl 0 rfl) ?_
    refine z_get hC hI hinX11_dot_X110 0 (wC_e0 ad cy σ3) rfl 3 (by decide) (List.mem_cons_of_mem _ zw2_6) rfl dX11_dot_42 ?_
    refine lv_iload_n hx hb dX11_dot_45 rfl (lv_at hl 1 rfl) ?_
    refine lv_iload_n hx hb dX11_dot_46 rfl (lv_at hl 2 rfl) ?_
    obtain ⟨σ5, v6, g5, hf⟩ := zbi_use hf
    refine z_callVi (As := [.int x1, .int x2]) (rest := []) hC hI (cX3_dotAt_met st l D ad cy σ3 x1 x2 _ g5) (zgV zw90_17 zw90_18 zw90_19 zw2_5 zw90_20) rfl ⟨rfl, rfl⟩ 2 hdX3_dotAt ⟨Nat.le_of_ble_eq_true rfl, Nat.le_of_ble_eq_true rfl⟩ rfl rfl (wC_e3 ad cy σ3) rfl hl rfl (Nat.le_of_ble_eq_true rfl) dX11_dot_47 ⟨Nat.zero_le _, Nat.zero_le _⟩ (fun H locs hI => ?_)
    exact z_xireturn hC hI hf dX11_dot_50
  replace hf := zif_f q hf
  exact bX11_dot_30 hC hE hst  hI (lv_sub hl [] rfl) hf
set_option maxRecDepth 20000 in
theorem cX11_dot_met (st : Nat → Nat) (l : Launch) (hst : l.stackTraces = false) (D : va_G) (ad : Nat → Nat) (cy : Nat → ClassId) (σ : zSt) (x1 : Int32) (x2 : Int32) (res : zRi) (hf : fX11_dot σ x1 x2 = some res) (sz : Nat) : zXi st l yX11_dot wzX11_dot rmX11_dot [.ref (ad 0), .int x1, .int x2] D (tC cy) (wC ad cy) sz σ res :=
  zXi.of (cc := cX11_dot) (maxL := 3) (ret := (some .int)) (by decide) rfl (Nat.le_of_ble_eq_true rfl) (fun p e s m args below meth c hC hE A hI ls hl => bX11_dot hC hE hst hI hl hf)
theorem hdX11_dot : yX11_dot.cls = RX11 ∧ yX11_dot.cls ≠ "java/lang/invoke/MethodHandle" ∧ yX11_dot.cls ≠ "java/lang/invoke/VarHandle" ∧ (parseMethodDescriptor yX11_dot.desc).map (fun d => d.parameters.length) = some 2 := by decide +kernel
noncomputable def rmX11_row : Room := { frames := 6, cells := 1, slots := 6, locals := 100 }
noncomputable def wzX11_row : List Cond := .code yX11_row cX11_row 2 (some .int) :: wsL_law
theorem hinX11_row_X110 : ∀ w ∈ wsX110, w ∈ wzX11_row := fun w h => List.mem_cons_of_mem _ (inlX11 w h)
noncomputable def fX11_row_15  (σ : zSt)  : Option (zRi) :=
  some (Sum.inr (σ, 3))
noncomputable def fX11_row  (σ : zSt) (x1 : Int32) : Option (zRi) :=
  if x1 < 0 then fX11_row_15 σ else
  zbi (fX3_height σ ) (fun σ1 v2 =>
  if x1 < v2 then zbi (fX3_sumOfLine σ1 x1) (fun σ3 v4 =>
  some (Sum.inl (σ3, v4))) else
  fX11_row_15 σ1)
set_option maxRecDepth 20000 in
set_option maxHeartbeats 4000000 in
theorem bX11_row_15 {st : Nat → Nat} {p : Program} {l : Launch} {e : Env} {s : State} {m : MethodId} {args : Array Value} {below : List Frame} {meth : Method} {c : Code} {D : va_G} {A : Nat → Prop} {ad : Nat → Nat} {cy : Nat → ClassId} (hC : zC p m c cX11_row 2 s args wzX11_row RX11 meth (some .int)) (hE : ∀ x ∈ c.exceptionTable.toList, False) (hst : l.stackTraces = false)  {res : zRi} {H : Heap} {locs : List Loc} {σ : zSt} {ls : Array Slot}  (hI : zI st D (tC cy) (wC ad cy σ) A s H locs) (hl : lv_has ls 2 []) (hf : fX11_row_15  σ  = some res) : W p l e rmX11_row s m args below meth c H locs 0 0 (zXQi below args s D (tC cy) (wC ad cy) A res) (F0 m 15 ls []) := by
  have hx := hC.1
  have hb := hC.2.1
  unfold fX11_row_15 at hf
  exact z_throw3W hC hE hst hI hl 3 hf (by decide) (List.mem_cons_of_mem _ zw78_12) (List.mem_cons_of_mem _ zw78_13) 64 (by decide) rfl rfl (fun w h => List.mem_cons_of_mem _ (zx3 w h)) zXn3 zXg3 dX11_row_15 dX11_row_18 dX11_row_19 dX11_row_22 dX11_row_25 (Nat.le_of_ble_eq_true rfl) (Nat.le_of_ble_eq_true rfl) (Nat.le_of_ble_eq_true rfl) (Nat.le_of_ble_eq_true rfl)
set_option maxRecDepth 20000 in
set_option maxHeartbeats 4000000 in
theorem bX11_row {st : Nat → Nat} {p : Program} {l : Launch} {e : Env} {s : State} {m : MethodId} {args : Array Value} {below : List Frame} {meth : Method} {c : Code} {D : va_G} {A : Nat → Prop} {ad : Nat → Nat} {cy : Nat → ClassId} (hC : zC p m c cX11_row 2 s args wzX11_row RX11 meth (some .int)) (hE : ∀ x ∈ c.exceptionTable.toList, False) (hst : l.stackTraces = false)  {res : zRi} {H : Heap} {locs : List Loc} {σ : zSt} {ls : Array Slot} {x1 : Int32} (hI : zI st D (tC cy) (wC ad cy σ) A s H locs) (hl : lv_has ls 2 [(0, .ref (ad 0)), (1, .int x1)]) (hf : fX11_row  σ x1 = some res) : W p l e rmX11_row s m args below meth c H locs 0 0 (zXQi below args s D (tC cy) (wC ad cy) A res) (F0 m 0 ls []) := by
  have hx := hC.1
  have hb := hC.2.1
  unfold fX11_row at hf
  refine lv_iload_n hx hb dX11_row_0 rfl (lv_at hl 1 rfl) ?_
  refine lv_if_lt (tgt := 15) hx hb dX11_row_1 (by decide) (fun q => ?_) (fun q => ?_)
  · replace hf := zif_t q hf
    exact bX11_row_15 hC hE hst  hI (lv_sub hl [] rfl) hf
  replace hf := zif_f q hf
  refine lv_iload_n hx hb dX11_row_4 rfl (lv_at hl 1 rfl) ?_
  refine lv_aload_n hx hb dX11_row_5 rfl (lv_at hl 0 rfl) ?_
  refine z_get hC hI hinX11_row_X110 0 (wC_e0 ad cy σ) rfl 3 (by decide) (List.mem_cons_of_mem _ zw2_6) rfl dX11_row_6 ?_
  obtain ⟨σ1, v2, g1, hf⟩ := zbi_use hf
  refine z_callVi (As := []) (rest := [.int x1]) hC hI (cX3_height_met st l D ad cy σ  _ g1) (zgV zw90_13 zw90_14 zw90_15 zw2_5 zw90_16) rfl ⟨rfl, rfl⟩ 0 hdX3_height ⟨Nat.le_of_ble_eq_true rfl, Nat.le_of_ble_eq_true rfl⟩ rfl rfl (wC_e3 ad cy σ) rfl hl rfl (Nat.le_of_ble_eq_true rfl) dX11_row_9 ⟨Nat.zero_le _, Nat.zero_le _⟩ (fun H locs hI => ?_)
  refine lv_icmp_lt (tgt := 26) hx hb dX11_row_12 (by decide) (fun q => ?_) (fun q => ?_)
  · replace hf := zif_t q hf
    refine lv_aload_n hx hb dX11_row_26 rfl (lv_at hl 0 rfl) ?_
    refine z_get hC hI hinX11_row_X110 0 (wC_e0 ad cy σ1) rfl 3 (by decide) (List.mem_cons_of_mem _ zw2_6) rfl dX11_row_27 ?_
    refine lv_iload_n hx hb dX11_row_30 rfl (lv_at hl 1 rfl) ?_
    obtain ⟨σ3, v4, g3, hf⟩ := zbi_use hf
    refine z_callVi (As := [.int x1]) (rest := []) hC hI (cX3_sumOfLine_met st l D ad cy σ1 x1 _ g3) (zgV zw91_12 zw91_13 zw91_14 zw2_5 zw91_15) rfl ⟨rfl, rfl⟩ 1 hdX3_sumOfLine ⟨Nat.le_of_ble_eq_true rfl, Nat.le_of_ble_eq_true rfl⟩ rfl rfl (wC_e3 ad cy σ1) rfl hl rfl (Nat.le_of_ble_eq_true rfl) dX11_row_31 ⟨Nat.zero_le _, Nat.zero_le _⟩ (fun H locs hI => ?_)
    exact z_xireturn hC hI hf dX11_row_34
  replace hf := zif_f q hf
  exact bX11_row_15 hC hE hst  hI (lv_sub hl [] rfl) hf
set_option maxRecDepth 20000 in
theorem cX11_row_met (st : Nat → Nat) (l : Launch) (hst : l.stackTraces = false) (D : va_G) (ad : Nat → Nat) (cy : Nat → ClassId) (σ : zSt) (x1 : Int32) (res : zRi) (hf : fX11_row σ x1 = some res) (sz : Nat) : zXi st l yX11_row wzX11_row rmX11_row [.ref (ad 0), .int x1] D (tC cy) (wC ad cy) sz σ res :=
  zXi.of (cc := cX11_row) (maxL := 2) (ret := (some .int)) (by decide) rfl (Nat.le_of_ble_eq_true rfl) (fun p e s m args below meth c hC hE A hI ls hl => bX11_row hC hE hst hI hl hf)
theorem hdX11_row : yX11_row.cls = RX11 ∧ yX11_row.cls ≠ "java/lang/invoke/MethodHandle" ∧ yX11_row.cls ≠ "java/lang/invoke/VarHandle" ∧ (parseMethodDescriptor yX11_row.desc).map (fun d => d.parameters.length) = some 1 := by decide +kernel
noncomputable def rmX11_hear : Room := { frames := 6, cells := 1, slots := 6, locals := 100 }
noncomputable def wzX11_hear : List Cond := .code yX11_hear cX11_hear 1 (some .long) :: wsL_law
theorem hinX11_hear_X00 : ∀ w ∈ wsX00, w ∈ wzX11_hear := fun w h => List.mem_cons_of_mem _ (inlX0 w h)
theorem hinX11_hear_X110 : ∀ w ∈ wsX110, w ∈ wzX11_hear := fun w h => List.mem_cons_of_mem _ (inlX11 w h)
noncomputable def fX11_hear  (σ : zSt)  : Option (zRl) :=
  zbi (fX6_size_k11 σ ) (fun σ1 v2 =>
  if v2 = 0 then some (Sum.inr (σ1, 3)) else
  zbl (fX6_takeFirst_k11 σ1 ) (fun σ3 v4 =>
  some (Sum.inl (σ3, v4))))
set_option maxRecDepth 20000 in
set_option maxHeartbeats 4000000 in
theorem bX11_hear {st : Nat → Nat} {p : Program} {l : Launch} {e : Env} {s : State} {m : MethodId} {args : Array Value} {below : List Frame} {meth : Method} {c : Code} {D : va_G} {A : Nat → Prop} {ad : Nat → Nat} {cy : Nat → ClassId} (hC : zC p m c cX11_hear 1 s args wzX11_hear RX11 meth (some .long)) (hE : ∀ x ∈ c.exceptionTable.toList, False) (hst : l.stackTraces = false)  {res : zRl} {H : Heap} {locs : List Loc} {σ : zSt} {ls : Array Slot}  (hI : zI st D (tC cy) (wC ad cy σ) A s H locs) (hl : lv_has ls 1 [(0, .ref (ad 0))]) (hf : fX11_hear  σ  = some res) : W p l e rmX11_hear s m args below meth c H locs 0 0 (zXQl below args s D (tC cy) (wC ad cy) A res) (F0 m 0 ls []) := by
  have hx := hC.1
  have hb := hC.2.1
  unfold fX11_hear at hf
  refine lv_aload_n hx hb dX11_hear_0 rfl (lv_at hl 0 rfl) ?_
  refine z_get hC hI hinX11_hear_X110 0 (wC_e0 ad cy σ) rfl 8 (by decide) (List.mem_cons_of_mem _ zw3_2) rfl dX11_hear_1 ?_
  refine z_get hC hI hinX11_hear_X00 8 (wC_e8 ad cy σ) rfl 2 (by decide) (List.mem_cons_of_mem _ zw92_6) rfl dX11_hear_4 ?_
  obtain ⟨σ1, v2, g1, hf⟩ := zbi_use hf
  refine z_callVi (As := []) (rest := []) hC hI (cX6_size_k11_met st l D ad cy σ  _ g1) (zgV zw92_7 zw92_8 zw92_9 zw7_17 zw92_10) rfl ⟨rfl, rfl⟩ 0 hdX6_size_k11 ⟨Nat.le_of_ble_eq_true rfl, Nat.le_of_ble_eq_true rfl⟩ rfl rfl (wC_e11 ad cy σ) rfl hl rfl (Nat.le_of_ble_eq_true rfl) dX11_hear_7 ⟨Nat.zero_le _, Nat.zero_le _⟩ (fun H locs hI => ?_)
  refine lv_if_ne (tgt := 24) hx hb dX11_hear_10 (by decide) (fun q => ?_) (fun q => ?_)
  · replace hf := zif_f q hf
    refine lv_aload_n hx hb dX11_hear_24 rfl (lv_at hl 0 rfl) ?_
    refine z_get hC hI hinX11_hear_X110 0 (wC_e0 ad cy σ1) rfl 8 (by decide) (List.mem_cons_of_mem _ zw3_2) rfl dX11_hear_25 ?_
    refine z_get hC hI hinX11_hear_X00 8 (wC_e8 ad cy σ1) rfl 2 (by decide) (List.mem_cons_of_mem _ zw92_6) rfl dX11_hear_28 ?_
    obtain ⟨σ3, v4, g3, hf⟩ := zbl_use hf
    refine z_callVl (As := []) (rest := []) hC hI (cX6_takeFirst_k11_met st l D ad cy σ1  _ g3) (zgV zw92_11 zw92_12 zw92_13 zw7_17 zw92_14) rfl ⟨rfl, rfl⟩ 0 hdX6_takeFirst_k11 ⟨Nat.le_of_ble_eq_true rfl, Nat.le_of_ble_eq_true rfl⟩ rfl rfl (wC_e11 ad cy σ1) rfl hl rfl (Nat.le_of_ble_eq_true rfl) dX11_hear_31 ⟨Nat.zero_le _, Nat.zero_le _⟩ (fun H locs hI => ?_)
    exact z_xlreturn hC hI hf dX11_hear_34
  replace hf := zif_t q hf
  exact z_throw3W hC hE hst hI hl 3 hf (by decide) (List.mem_cons_of_mem _ zw78_12) (List.mem_cons_of_mem _ zw78_13) 65 (by decide) rfl rfl (fun w h => List.mem_cons_of_mem _ (zx3 w h)) zXn3 zXg3 dX11_hear_13 dX11_hear_16 dX11_hear_17 dX11_hear_20 dX11_hear_23 (Nat.le_of_ble_eq_true rfl) (Nat.le_of_ble_eq_true rfl) (Nat.le_of_ble_eq_true rfl) (Nat.le_of_ble_eq_true rfl)
set_option maxRecDepth 20000 in
theorem cX11_hear_met (st : Nat → Nat) (l : Launch) (hst : l.stackTraces = false) (D : va_G) (ad : Nat → Nat) (cy : Nat → ClassId) (σ : zSt)  (res : zRl) (hf : fX11_hear σ  = some res) (sz : Nat) : zXl st l yX11_hear wzX11_hear rmX11_hear [.ref (ad 0)] D (tC cy) (wC ad cy) sz σ res :=
  zXl.of (cc := cX11_hear) (maxL := 1) (ret := (some .long)) (by decide) rfl (Nat.le_of_ble_eq_true rfl) (fun p e s m args below meth c hC hE A hI ls hl => bX11_hear hC hE hst hI hl hf)
theorem hdX11_hear : yX11_hear.cls = RX11 ∧ yX11_hear.cls ≠ "java/lang/invoke/MethodHandle" ∧ yX11_hear.cls ≠ "java/lang/invoke/VarHandle" ∧ (parseMethodDescriptor yX11_hear.desc).map (fun d => d.parameters.length) = some 0 := by decide +kernel
noncomputable def rmX11_mix : Room := { frames := 6, cells := 1, slots := 6, locals := 100 }
noncomputable def wzX11_mix : List Cond := .code yX11_mix cX11_mix 1 (some .long) :: wsL_law
theorem hinX11_mix_X00 : ∀ w ∈ wsX00, w ∈ wzX11_mix := fun w h => List.mem_cons_of_mem _ (inlX0 w h)
theorem hinX11_mix_X110 : ∀ w ∈ wsX110, w ∈ wzX11_mix := fun w h => List.mem_cons_of_mem _ (inlX11 w h)
noncomputable def fX11_mix  (σ : zSt)  : Option (zRl) :=
  zbi (fX6_size_k12 σ ) (fun σ1 v2 =>
  if v2 = 0 then some (Sum.inr (σ1, 3)) else
  zbl (fX6_takeFirst_k12 σ1 ) (fun σ3 v4 =>
  some (Sum.inl (σ3, v4))))
set_option maxRecDepth 20000 in
set_option maxHeartbeats 4000000 in
theorem bX11_mix {st : Nat → Nat} {p : Program} {l : Launch} {e : Env} {s : State} {m : MethodId} {args : Array Value} {below : List Frame} {meth : Method} {c : Code} {D : va_G} {A : Nat → Prop} {ad : Nat → Nat} {cy : Nat → ClassId} (hC : zC p m c cX11_mix 1 s args wzX11_mix RX11 meth (some .long)) (hE : ∀ x ∈ c.exceptionTable.toList, False) (hst : l.stackTraces = false)  {res : zRl} {H : Heap} {locs : List Loc} {σ : zSt} {ls : Array Slot}  (hI : zI st D (tC cy) (wC ad cy σ) A s H locs) (hl : lv_has ls 1 [(0, .ref (ad 0))]) (hf : fX11_mix  σ  = some res) : W p l e rmX11_mix s m args below meth c H locs 0 0 (zXQl below args s D (tC cy) (wC ad cy) A res) (F0 m 0 ls []) := by
  have hx := hC.1
  have hb := hC.2.1
  unfold fX11_mix at hf
  refine lv_aload_n hx hb dX11_mix_0 rfl (lv_at hl 0 rfl) ?_
  refine z_get hC hI hinX11_mix_X110 0 (wC_e0 ad cy σ) rfl 8 (by decide) (List.mem_cons_of_mem _ zw3_2) rfl dX11_mix_1 ?_
  refine z_get hC hI hinX11_mix_X00 8 (wC_e8 ad cy σ) rfl 3 (by decide) (List.mem_cons_of_mem _ zw93_2) rfl dX11_mix_4 ?_
  obtain ⟨σ1, v2, g1, hf⟩ := zbi_use hf
  refine z_callVi (As := []) (rest := []) hC hI (cX6_size_k12_met st l D ad cy σ  _ g1) (zgV zw92_7 zw92_8 zw92_9 zw7_17 zw92_10) rfl ⟨rfl, rfl⟩ 0 hdX6_size_k12 ⟨Nat.le_of_ble_eq_true rfl, Nat.le_of_ble_eq_true rfl⟩ rfl rfl (wC_e12 ad cy σ) rfl hl rfl (Nat.le_of_ble_eq_true rfl) dX11_mix_7 ⟨Nat.zero_le _, Nat.zero_le _⟩ (fun H locs hI => ?_)
  refine lv_if_ne (tgt := 24) hx hb dX11_mix_10 (by decide) (fun q => ?_) (fun q => ?_)
  · replace hf := zif_f q hf
    refine lv_aload_n hx hb dX11_mix_24 rfl (lv_at hl 0 rfl) ?_
    refine z_get hC hI hinX11_mix_X110 0 (wC_e0 ad cy σ1) rfl 8 (by decide) (List.mem_cons_of_mem _ zw3_2) rfl dX11_mix_25 ?_
    refine z_get hC hI hinX11_mix_X00 8 (wC_e8 ad cy σ1) rfl 3 (by decide) (List.mem_cons_of_mem _ zw93_2) rfl dX11_mix_28 ?_
    obtain ⟨σ3, v4, g3, hf⟩ := zbl_use hf
    refine z_callVl (As := []) (rest := []) hC hI (cX6_takeFirst_k12_met st l D ad cy σ1  _ g3) (zgV zw92_11 zw92_12 zw92_13 zw7_17 zw92_14) rfl ⟨rfl, rfl⟩ 0 hdX6_takeFirst_k12 ⟨Nat.le_of_ble_eq_true rfl, Nat.le_of_ble_eq_true rfl⟩ rfl rfl (wC_e12 ad cy σ1) rfl hl rfl (Nat.le_of_ble_eq_true rfl) dX11_mix_31 ⟨Nat.zero_le _, Nat.zero_le _⟩ (fun H locs hI => ?_)
    exact z_xlreturn hC hI hf dX11_mix_34
  replace hf := zif_t q hf
  exact z_throw3W hC hE hst hI hl 3 hf (by decide) (List.mem_cons_of_mem _ zw78_12) (List.mem_cons_of_mem _ zw78_13) 66 (by decide) rfl rfl (fun w h => List.mem_cons_of_mem _ (zx3 w h)) zXn3 zXg3 dX11_mix_13 dX11_mix_16 dX11_mix_17 dX11_mix_20 dX11_mix_23 (Nat.le_of_ble_eq_true rfl) (Nat.le_of_ble_eq_true rfl) (Nat.le_of_ble_eq_true rfl) (Nat.le_of_ble_eq_true rfl)
set_option maxRecDepth 20000 in
theorem cX11_mix_met (st : Nat → Nat) (l : Launch) (hst : l.stackTraces = false) (D : va_G) (ad : Nat → Nat) (cy : Nat → ClassId) (σ : zSt)  (res : zRl) (hf : fX11_mix σ  = some res) (sz : Nat) : zXl st l yX11_mix wzX11_mix rmX11_mix [.ref (ad 0)] D (tC cy) (wC ad cy) sz σ res :=
  zXl.of (cc := cX11_mix) (maxL := 1) (ret := (some .long)) (by decide) rfl (Nat.le_of_ble_eq_true rfl) (fun p e s m args below meth c hC hE A hI ls hl => bX11_mix hC hE hst hI hl hf)
theorem hdX11_mix : yX11_mix.cls = RX11 ∧ yX11_mix.cls ≠ "java/lang/invoke/MethodHandle" ∧ yX11_mix.cls ≠ "java/lang/invoke/VarHandle" ∧ (parseMethodDescriptor yX11_mix.desc).map (fun d => d.parameters.length) = some 0 := by decide +kernel
noncomputable def rmX11_wave : Room := { frames := 6, cells := 1, slots := 6, locals := 100 }
noncomputable def wzX11_wave : List Cond := .code yX11_wave cX11_wave 2 (some .int) :: wsL_law
theorem hinX11_wave_X110 : ∀ w ∈ wsX110, w ∈ wzX11_wave := fun w h => List.mem_cons_of_mem _ (inlX11 w h)
noncomputable def fX11_wave  (σ : zSt) (x1 : Int32) : Option (zRi) :=
  zbi (fX10_has σ x1) (fun σ1 v2 =>
  if v2 = 0 then some (Sum.inr (σ1, 1)) else
  zbi (fX10_value σ1 x1) (fun σ3 v4 =>
  some (Sum.inl (σ3, v4))))
set_option maxRecDepth 20000 in
set_option maxHeartbeats 4000000 in
theorem bX11_wave {st : Nat → Nat} {p : Program} {l : Launch} {e : Env} {s : State} {m : MethodId} {args : Array Value} {below : List Frame} {meth : Method} {c : Code} {D : va_G} {A : Nat → Prop} {ad : Nat → Nat} {cy : Nat → ClassId} (hC : zC p m c cX11_wave 2 s args wzX11_wave RX11 meth (some .int)) (hE : ∀ x ∈ c.exceptionTable.toList, False) (hst : l.stackTraces = false)  {res : zRi} {H : Heap} {locs : List Loc} {σ : zSt} {ls : Array Slot} {x1 : Int32} (hI : zI st D (tC cy) (wC ad cy σ) A s H locs) (hl : lv_has ls 2 [(0, .ref (ad 0)), (1, .int x1)]) (hf : fX11_wave  σ x1 = some res) : W p l e rmX11_wave s m args below meth c H locs 0 0 (zXQi below args s D (tC cy) (wC ad cy) A res) (F0 m 0 ls []) := by
  have hx := hC.1
  have hb := hC.2.1
  unfold fX11_wave at hf
  refine lv_iload_n hx hb dX11_wave_0 rfl (lv_at hl 1 rfl) ?_
  obtain ⟨σ1, v2, g1, hf⟩ := zbi_use hf
  refine z_callSi (As := [.int x1]) (rest := []) hC hI (cX10_has_met st l D ad cy σ x1 _ g1) (zgS zw93_14 zw93_15 zw2_13 zw93_16) rfl ⟨rfl, rfl⟩ 1 hdX10_has ⟨Nat.le_of_ble_eq_true rfl, Nat.le_of_ble_eq_true rfl⟩ rfl hl rfl (Nat.le_of_ble_eq_true rfl) dX11_wave_1 ⟨Nat.zero_le _, Nat.zero_le _⟩ (fun H locs hI => ?_)
  refine lv_if_ne (tgt := 18) hx hb dX11_wave_4 (by decide) (fun q => ?_) (fun q => ?_)
  · replace hf := zif_f q hf
    refine lv_aload_n hx hb dX11_wave_18 rfl (lv_at hl 0 rfl) ?_
    refine z_get hC hI hinX11_wave_X110 0 (wC_e0 ad cy σ1) rfl 5 (by decide) (List.mem_cons_of_mem _ zw2_14) rfl dX11_wave_19 ?_
    refine lv_iload_n hx hb dX11_wave_22 rfl (lv_at hl 1 rfl) ?_
    obtain ⟨σ3, v4, g3, hf⟩ := zbi_use hf
    refine z_callVi (As := [.int x1]) (rest := []) hC hI (cX10_value_met st l D ad cy σ1 x1 _ g3) (zgV zw93_17 zw26_9 zw26_10 zw2_13 zw26_11) rfl ⟨rfl, rfl⟩ 1 hdX10_value ⟨Nat.le_of_ble_eq_true rfl, Nat.le_of_ble_eq_true rfl⟩ rfl rfl (wC_e5 ad cy σ1) rfl hl rfl (Nat.le_of_ble_eq_true rfl) dX11_wave_23 ⟨Nat.zero_le _, Nat.zero_le _⟩ (fun H locs hI => ?_)
    exact z_xireturn hC hI hf dX11_wave_26
  replace hf := zif_t q hf
  exact z_throwW hC hE hst hI hl 1 hf (by decide) (List.mem_cons_of_mem _ zw11_1) (List.mem_cons_of_mem _ zw11_2) 67 (by decide) rfl rfl (fun w h => List.mem_cons_of_mem _ (zx1 w h)) zXn1 zXg1 dX11_wave_7 dX11_wave_10 dX11_wave_11 dX11_wave_14 dX11_wave_17 (Nat.le_of_ble_eq_true rfl) (Nat.le_of_ble_eq_true rfl) (Nat.le_of_ble_eq_true rfl) (Nat.le_of_ble_eq_true rfl)
set_option maxRecDepth 20000 in
theorem cX11_wave_met (st : Nat → Nat) (l : Launch) (hst : l.stackTraces = false) (D : va_G) (ad : Nat → Nat) (cy : Nat → ClassId) (σ : zSt) (x1 : Int32) (res : zRi) (hf : fX11_wave σ x1 = some res) (sz : Nat) : zXi st l yX11_wave wzX11_wave rmX11_wave [.ref (ad 0), .int x1] D (tC cy) (wC ad cy) sz σ res :=
  zXi.of (cc := cX11_wave) (maxL := 2) (ret := (some .int)) (by decide) rfl (Nat.le_of_ble_eq_true rfl) (fun p e s m args below meth c hC hE A hI ls hl => bX11_wave hC hE hst hI hl hf)
theorem hdX11_wave : yX11_wave.cls = RX11 ∧ yX11_wave.cls ≠ "java/lang/invoke/MethodHandle" ∧ yX11_wave.cls ≠ "java/lang/invoke/VarHandle" ∧ (parseMethodDescriptor yX11_wave.desc).map (fun d => d.parameters.length) = some 1 := by decide +kernel
noncomputable def rmX11_sound : Room := { frames := 6, cells := 1, slots := 6, locals := 100 }
noncomputable def wzX11_sound : List Cond := .code yX11_sound cX11_sound 2 (some .int) :: wsL_law
theorem hinX11_sound_X110 : ∀ w ∈ wsX110, w ∈ wzX11_sound := fun w h => List.mem_cons_of_mem _ (inlX11 w h)
noncomputable def fX11_sound_10  (σ : zSt)  : Option (zRi) :=
  some (Sum.inr (σ, 1))
noncomputable def fX11_sound  (σ : zSt) (x1 : Int32) : Option (zRi) :=
  if x1 < 0 then fX11_sound_10 σ else
  if x1 ≤ 18 then zbi (fX7_value σ x1) (fun σ1 v2 =>
  some (Sum.inl (σ1, v2))) else
  fX11_sound_10 σ
set_option maxRecDepth 20000 in
set_option maxHeartbeats 4000000 in
theorem bX11_sound_10 {st : Nat → Nat} {p : Program} {l : Launch} {e : Env} {s : State} {m : MethodId} {args : Array Value} {below : List Frame} {meth : Method} {c : Code} {D : va_G} {A : Nat → Prop} {ad : Nat → Nat} {cy : Nat → ClassId} (hC : zC p m c cX11_sound 2 s args wzX11_sound RX11 meth (some .int)) (hE : ∀ x ∈ c.exceptionTable.toList, False) (hst : l.stackTraces = false)  {res : zRi} {H : Heap} {locs : List Loc} {σ : zSt} {ls : Array Slot}  (hI : zI st D (tC cy) (wC ad cy σ) A s H locs) (hl : lv_has ls 2 []) (hf : fX11_sound_10  σ  = some res) : W p l e rmX11_sound s m args below meth c H locs 0 0 (zXQi below args s D (tC cy) (wC ad cy) A res) (F0 m 10 ls []) := by
  have hx := hC.1
  have hb := hC.2.1
  unfold fX11_sound_10 at hf
  exact z_throwW hC hE hst hI hl 1 hf (by decide) (List.mem_cons_of_mem _ zw11_1) (List.mem_cons_of_mem _ zw11_2) 68 (by decide) rfl rfl (fun w h => List.mem_cons_of_mem _ (zx1 w h)) zXn1 zXg1 dX11_sound_10 dX11_sound_13 dX11_sound_14 dX11_sound_17 dX11_sound_20 (Nat.le_of_ble_eq_true rfl) (Nat.le_of_ble_eq_true rfl) (Nat.le_of_ble_eq_true rfl) (Nat.le_of_ble_eq_true rfl)
set_option maxRecDepth 20000 in
set_option maxHeartbeats 4000000 in
theorem bX11_sound {st : Nat → Nat} {p : Program} {l : Launch} {e : Env} {s : State} {m : MethodId} {args : Array Value} {below : List Frame} {meth : Method} {c : Code} {D : va_G} {A : Nat → Prop} {ad : Nat → Nat} {cy : Nat → ClassId} (hC : zC p m c cX11_sound 2 s args wzX11_sound RX11 meth (some .int)) (hE : ∀ x ∈ c.exceptionTable.toList, False) (hst : l.stackTraces = false)  {res : zRi} {H : Heap} {locs : List Loc} {σ : zSt} {ls : Array Slot} {x1 : Int32} (hI : zI st D (tC cy) (wC ad cy σ) A s H locs) (hl : lv_has ls 2 [(0, .ref (ad 0)), (1, .int x1)]) (hf : fX11_sound  σ x1 = some res) : W p l e rmX11_sound s m args below meth c H locs 0 0 (zXQi below args s D (tC cy) (wC ad cy) A res) (F0 m 0 ls []) := by
  have hx := hC.1
  have hb := hC.2.1
  unfold fX11_sound at hf
  refine lv_iload_n hx hb dX11_sound_0 rfl (lv_at hl 1 rfl) ?_
  refine lv_if_lt (tgt := 10) hx hb dX11_sound_1 (by decide) (fun q => ?_) (fun q => ?_)
  · replace hf := zif_t q hf
    exact bX11_sound_10 hC hE hst  hI (lv_sub hl [] rfl) hf
  replace hf := zif_f q hf
  refine lv_iload_n hx hb dX11_sound_4 rfl (lv_at hl 1 rfl) ?_
  refine lv_bipush (v := 18) hx hb dX11_sound_5 (by decide) ?_
  refine lv_icmp_le (tgt := 21) hx hb dX11_sound_7 (by decide) (fun q => ?_) (fun q => ?_)
  · replace hf := zif_t q hf
    refine lv_aload_n hx hb dX11_sound_21 rfl (lv_at hl 0 rfl) ?_
    refine z_get hC hI hinX11_sound_X110 0 (wC_e0 ad cy σ) rfl 4 (by decide) (List.mem_cons_of_mem _ zw2_10) rfl dX11_sound_22 ?_
    refine lv_iload_n hx hb dX11_sound_25 rfl (lv_at hl 1 rfl) ?_
    obtain ⟨σ1, v2, g1, hf⟩ := zbi_use hf
    refine z_callVi (As := [.int x1]) (rest := []) hC hI (cX7_value_met st l D ad cy σ x1 _ g1) (zgV zw94_8 zw94_9 zw94_10 zw2_9 zw94_11) rfl ⟨rfl, rfl⟩ 1 hdX7_value ⟨Nat.le_of_ble_eq_true rfl, Nat.le_of_ble_eq_true rfl⟩ rfl rfl (wC_e4 ad cy σ) rfl hl rfl (Nat.le_of_ble_eq_true rfl) dX11_sound_26 ⟨Nat.zero_le _, Nat.zero_le _⟩ (fun H locs hI => ?_)
    exact z_xireturn hC hI hf dX11_sound_29
  replace hf := zif_f q hf
  exact bX11_sound_10 hC hE hst  hI (lv_sub hl [] rfl) hf
set_option maxRecDepth 20000 in
theorem cX11_sound_met (st : Nat → Nat) (l : Launch) (hst : l.stackTraces = false) (D : va_G) (ad : Nat → Nat) (cy : Nat → ClassId) (σ : zSt) (x1 : Int32) (res : zRi) (hf : fX11_sound σ x1 = some res) (sz : Nat) : zXi st l yX11_sound wzX11_sound rmX11_sound [.ref (ad 0), .int x1] D (tC cy) (wC ad cy) sz σ res :=
  zXi.of (cc := cX11_sound) (maxL := 2) (ret := (some .int)) (by decide) rfl (Nat.le_of_ble_eq_true rfl) (fun p e s m args below meth c hC hE A hI ls hl => bX11_sound hC hE hst hI hl hf)
theorem hdX11_sound : yX11_sound.cls = RX11 ∧ yX11_sound.cls ≠ "java/lang/invoke/MethodHandle" ∧ yX11_sound.cls ≠ "java/lang/invoke/VarHandle" ∧ (parseMethodDescriptor yX11_sound.desc).map (fun d => d.parameters.length) = some 1 := by decide +kernel
noncomputable def rmX11_look : Room := { frames := 6, cells := 1, slots := 6, locals := 100 }
noncomputable def wzX11_look : List Cond := .code yX11_look cX11_look 2 (some .long) :: wsL_law
theorem hinX11_look_X00 : ∀ w ∈ wsX00, w ∈ wzX11_look := fun w h => List.mem_cons_of_mem _ (inlX0 w h)
theorem hinX11_look_X110 : ∀ w ∈ wsX110, w ∈ wzX11_look := fun w h => List.mem_cons_of_mem _ (inlX11 w h)
theorem hinX11_look_X20 : ∀ w ∈ wsX20, w ∈ wzX11_look := fun w h => List.mem_cons_of_mem _ (inlX2 w h)
theorem hinX11_look_X80 : ∀ w ∈ wsX80, w ∈ wzX11_look := fun w h => List.mem_cons_of_mem _ (inlX8 w h)
noncomputable def fX11_look_10  (σ : zSt)  : Option (zRl) :=
  some (Sum.inr (σ, 1))
noncomputable def fX11_look_193  (σ : zSt) (x1 : Int32) : Option (zRl) :=
  zbi (fX2_page σ (x1 - 9)) (fun σ1 v2 =>
  some (Sum.inl (σ1, v2.toInt64)))
noncomputable def fX11_look_250  (σ : zSt) (s0 : Int64) : Option (zRl) :=
  some (Sum.inl (σ, s0))
noncomputable def fX11_look  (σ : zSt) (x1 : Int32) : Option (zRl) :=
  if x1 < 0 then fX11_look_10 σ else
  if x1 ≤ 18 then if x1 = 0 then zbl (fX0_count σ 0) (fun σ3 v4 =>
  some (Sum.inl (σ3, v4))) else
  if x1 = 1 then zbl (fX0_count σ 1) (fun σ5 v6 =>
  some (Sum.inl (σ5, v6))) else
  if x1 = 2 then zbl (fX0_count σ 2) (fun σ7 v8 =>
  some (Sum.inl (σ7, v8))) else
  if x1 = 3 then zbi (fX6_size_k11 σ ) (fun σ9 v10 =>
  some (Sum.inl (σ9, v10.toInt64))) else
  if x1 = 4 then zbl (fX0_count σ 3) (fun σ11 v12 =>
  some (Sum.inl (σ11, v12))) else
  if x1 = 5 then some (Sum.inl (σ, (zgi σ 1 2).toInt64)) else
  if x1 = 6 then zbi (fX1_stopCount σ ) (fun σ13 v14 =>
  some (Sum.inl (σ13, v14.toInt64))) else
  if x1 = 7 then zbi (fX2_cardSize σ ) (fun σ15 v16 =>
  some (Sum.inl (σ15, v16.toInt64))) else
  if x1 = 8 then zbi (fX2_page σ 3) (fun σ17 v18 =>
  some (Sum.inl (σ17, v18.toInt64))) else
  if x1 = 9 then fX11_look_193 σ x1 else
  if x1 = 10 then fX11_look_193 σ x1 else
  if x1 = 11 then fX11_look_193 σ x1 else
  if x1 = 12 then zbi (fX5_value σ 27) (fun σ19 v20 =>
  some (Sum.inl (σ19, v20.toInt64))) else
  if x1 = 13 then zbi (fX4_value σ 6) (fun σ21 v22 =>
  some (Sum.inl (σ21, v22.toInt64))) else
  if x1 = 14 then zbi (fX4_value σ 0) (fun σ23 v24 =>
  some (Sum.inl (σ23, v24.toInt64))) else
  if x1 = 15 then if (zgi σ 0 11) = 0 then fX11_look_250 σ 0 else
  fX11_look_250 σ 1 else
  if x1 = 16 then zbi (fX1_plansWaiting σ ) (fun σ25 v26 =>
  some (Sum.inl (σ25, v26.toInt64))) else
  if x1 = 17 then zbi (fX6_size_k12 σ ) (fun σ27 v28 =>
  some (Sum.inl (σ27, v28.toInt64))) else
  some (Sum.inl (σ, (zgi σ 10 2).toInt64)) else
  fX11_look_10 σ
set_option maxRecDepth 20000 in
set_option maxHeartbeats 4000000 in
theorem bX11_look_10 {st : Nat → Nat} {p : Program} {l : Launch} {e : Env} {s : State} {m : MethodId} {args : Array Value} {below : List Frame} {meth : Method} {c : Code} {D : va_G} {A : Nat → Prop} {ad : Nat → Nat} {cy : Nat → ClassId} (hC : zC p m c cX11_look 2 s args wzX11_look RX11 meth (some .long)) (hE : ∀ x ∈ c.exceptionTable.toList, False) (hst : l.stackTraces = false)  {res : zRl} {H : Heap} {locs : List Loc} {σ : zSt} {ls : Array Slot}  (hI : zI st D (tC cy) (wC ad cy σ) A s H locs) (hl : lv_has ls 2 []) (hf : fX11_look_10  σ  = some res) : W p l e rmX11_look s m args below meth c H locs 0 0 (zXQl below args s D (tC cy) (wC ad cy) A res) (F0 m 10 ls []) := by
  have hx := hC.1
  have hb := hC.2.1
  unfold fX11_look_10 at hf
  exact z_throwW hC hE hst hI hl 1 hf (by decide) (List.mem_cons_of_mem _ zw11_1) (List.mem_cons_of_mem _ zw11_2) 69 (by decide) rfl rfl (fun w h => List.mem_cons_of_mem _ (zx1 w h)) zXn1 zXg1 dX11_look_10 dX11_look_13 dX11_look_14 dX11_look_17 dX11_look_20 (Nat.le_of_ble_eq_true rfl) (Nat.le_of_ble_eq_true rfl) (Nat.le_of_ble_eq_true rfl) (Nat.le_of_ble_eq_true rfl)
set_option maxRecDepth 20000 in
set_option maxHeartbeats 4000000 in
theorem bX11_look_193 {st : Nat → Nat} {p : Program} {l : Launch} {e : Env} {s : State} {m : MethodId} {args : Array Value} {below : List Frame} {meth : Method} {c : Code} {D : va_G} {A : Nat → Prop} {ad : Nat → Nat} {cy : Nat → ClassId} (hC : zC p m c cX11_look 2 s args wzX11_look RX11 meth (some .long)) (hE : ∀ x ∈ c.exceptionTable.toList, False) (hst : l.stackTraces = false)  {res : zRl} {H : Heap} {locs : List Loc} {σ : zSt} {ls : Array Slot} {x1 : Int32} (hI : zI st D (tC cy) (wC ad cy σ) A s H locs) (hl : lv_has ls 2 [(0, .ref (ad 0)), (1, .int x1)]) (hf : fX11_look_193  σ x1 = some res) : W p l e rmX11_look s m args below meth c H locs 0 0 (zXQl below args s D (tC cy) (wC ad cy) A res) (F0 m 193 ls []) := by
  have hx := hC.1
  have hb := hC.2.1
  unfold fX11_look_193 at hf
  refine lv_aload_n hx hb dX11_look_193 rfl (lv_at hl 0 rfl) ?_
  refine z_get hC hI hinX11_look_X110 0 (wC_e0 ad cy σ) rfl 1 (by decide) (List.mem_cons_of_mem _ zw1_22) rfl dX11_look_194 ?_
  refine lv_iload_n hx hb dX11_look_197 rfl (lv_at hl 1 rfl) ?_
  refine lv_bipush (v := 9) hx hb dX11_look_198 (by decide) ?_
  refine lv_isub hx hb dX11_look_200 ?_
  obtain ⟨σ1, v2, g1, hf⟩ := zbi_use hf
  refine z_callVi (As := [.int (x1 - 9)]) (rest := []) hC hI (cX2_page_met st l D ad cy σ (x1 - 9) _ g1) (zgV zw95_21 zw95_22 zw95_23 zw1_21 zw96_0) rfl ⟨rfl, rfl⟩ 1 hdX2_page ⟨Nat.le_of_ble_eq_true rfl, Nat.le_of_ble_eq_true rfl⟩ rfl rfl (wC_e1 ad cy σ) rfl hl rfl (Nat.le_of_ble_eq_true rfl) dX11_look_201 ⟨Nat.zero_le _, Nat.zero_le _⟩ (fun H locs hI => ?_)
  refine lv_i2l (v := v2.toInt64) hx hb dX11_look_204 rfl ?_
  exact z_xlreturn hC hI hf dX11_look_205
set_option maxRecDepth 20000 in
set_option maxHeartbeats 4000000 in
theorem bX11_look_250 {st : Nat → Nat} {p : Program} {l : Launch} {e : Env} {s : State} {m : MethodId} {args : Array Value} {below : List Frame} {meth : Method} {c : Code} {D : va_G} {A : Nat → Prop} {ad : Nat → Nat} {cy : Nat → ClassId} (hC : zC p m c cX11_look 2 s args wzX11_look RX11 meth (some .long)) (hE : ∀ x ∈ c.exceptionTable.toList, False) (hst : l.stackTraces = false)  {res : zRl} {H : Heap} {locs : List Loc} {σ : zSt} {ls : Array Slot} {s0 : Int64} (hI : zI st D (tC cy) (wC ad cy σ) A s H locs) (hl : lv_has ls 2 []) (hf : fX11_look_250  σ s0 = some res) : W p l e rmX11_look s m args below meth c H locs 0 0 (zXQl below args s D (tC cy) (wC ad cy) A res) (F0 m 250 ls [.long s0]) := by
  have hx := hC.1
  have hb := hC.2.1
  unfold fX11_look_250 at hf
  exact z_xlreturn hC hI hf dX11_look_250
set_option maxRecDepth 20000 in
set_option maxHeartbeats 4000000 in
theorem bX11_look {st : Nat → Nat} {p : Program} {l : Launch} {e : Env} {s : State} {m : MethodId} {args : Array Value} {below : List Frame} {meth : Method} {c : Code} {D : va_G} {A : Nat → Prop} {ad : Nat → Nat} {cy : Nat → ClassId} (hC : zC p m c cX11_look 2 s args wzX11_look RX11 meth (some .long)) (hE : ∀ x ∈ c.exceptionTable.toList, False) (hst : l.stackTraces = false)  {res : zRl} {H : Heap} {locs : List Loc} {σ : zSt} {ls : Array Slot} {x1 : Int32} (hI : zI st D (tC cy) (wC ad cy σ) A s H locs) (hl : lv_has ls 2 [(0, .ref (ad 0)), (1, .int x1)]) (hf : fX11_look  σ x1 = some res) : W p l e rmX11_look s m args below meth c H locs 0 0 (zXQl below args s D (tC cy) (wC ad cy) A res) (F0 m 0 ls []) := by
  have hx := hC.1
  have hb := hC.2.1
  unfold fX11_look at hf
  refine lv_iload_n hx hb dX11_look_0 rfl (lv_at hl 1 rfl) ?_
  refine lv_if_lt (tgt := 10) hx hb dX11_look_1 (by decide) (fun q => ?_) (fun q => ?_)
  · replace hf := zif_t q hf
    exact bX11_look_10 hC hE hst  hI (lv_sub hl [] rfl) hf
  replace hf := zif_f q hf
  refine lv_iload_n hx hb dX11_look_4 rfl (lv_at hl 1 rfl) ?_
  refine lv_bipush (v := 18) hx hb dX11_look_5 (by decide) ?_
  refine lv_icmp_le (tgt := 21) hx hb dX11_look_7 (by decide) (fun q => ?_) (fun q => ?_)
  · replace hf := zif_t q hf
    refine lv_iload_n hx hb dX11_look_21 rfl (lv_at hl 1 rfl) ?_
    by_cases q0 : x1 = 0
    · replace hf := zif_t q0 hf
      refine lv_tableIn (tgt := 108) hx hb dX11_look_22 (by rw [q0]; decide) (by rw [q0]; decide) (by rw [q0]; rfl) (by decide) ?_
      refine lv_aload_n hx hb dX11_look_108 rfl (lv_at hl 0 rfl) ?_
      refine z_get hC hI hinX11_look_X110 0 (wC_e0 ad cy σ) rfl 8 (by decide) (List.mem_cons_of_mem _ zw3_2) rfl dX11_look_109 ?_
      refine lv_iconst (v := 0) hx hb dX11_look_112 (by decide) ?_
      obtain ⟨σ3, v4, g3, hf⟩ := zbl_use hf
      refine z_callVl (As := [.int 0]) (rest := []) hC hI (cX0_count_met st l D ad cy σ 0 _ g3) (zgV zw18_13 zw18_14 zw18_15 zw3_1 zw18_16) rfl ⟨rfl, rfl⟩ 1 hdX0_count ⟨Nat.le_of_ble_eq_true rfl, Nat.le_of_ble_eq_true rfl⟩ rfl rfl (wC_e8 ad cy σ) rfl hl rfl (Nat.le_of_ble_eq_true rfl) dX11_look_113 ⟨Nat.zero_le _, Nat.zero_le _⟩ (fun H locs hI => ?_)
      exact z_xlreturn hC hI hf dX11_look_116
    replace hf := zif_f q0 hf
    by_cases q1 : x1 = 1
    · replace hf := zif_t q1 hf
      refine lv_tableIn (tgt := 117) hx hb dX11_look_22 (by rw [q1]; decide) (by rw [q1]; decide) (by rw [q1]; rfl) (by decide) ?_
      refine lv_aload_n hx hb dX11_look_117 rfl (lv_at hl 0 rfl) ?_
      refine z_get hC hI hinX11_look_X110 0 (wC_e0 ad cy σ) rfl 8 (by decide) (List.mem_cons_of_mem _ zw3_2) rfl dX11_look_118 ?_
      refine lv_iconst (v := 1) hx hb dX11_look_121 (by decide) ?_
      obtain ⟨σ5, v6, g5, hf⟩ := zbl_use hf
      refine z_callVl (As := [.int 1]) (rest := []) hC hI (cX0_count_met st l D ad cy σ 1 _ g5) (zgV zw18_13 zw18_14 zw18_15 zw3_1 zw18_16) rfl ⟨rfl, rfl⟩ 1 hdX0_count ⟨Nat.le_of_ble_eq_true rfl, Nat.le_of_ble_eq_true rfl⟩ rfl rfl (wC_e8 ad cy σ) rfl hl rfl (Nat.le_of_ble_eq_true rfl) dX11_look_122 ⟨Nat.zero_le _, Nat.zero_le _⟩ (fun H locs hI => ?_)
      exact z_xlreturn hC hI hf dX11_look_125
    replace hf := zif_f q1 hf
    by_cases q2 : x1 = 2
    · replace hf := zif_t q2 hf
      refine lv_tableIn (tgt := 126) hx hb dX11_look_22 (by rw [q2]; decide) (by rw [q2]; decide) (by rw [q2]; rfl) (by decide) ?_
      refine lv_aload_n hx hb dX11_look_126 rfl (lv_at hl 0 rfl) ?_
      refine z_get hC hI hinX11_look_X110 0 (wC_e0 ad cy σ) rfl 8 (by decide) (List.mem_cons_of_mem _ zw3_2) rfl dX11_look_127 ?_
      refine lv_iconst (v := 2) hx hb dX11_look_130 (by decide) ?_
      obtain ⟨σ7, v8, g7, hf⟩ := zbl_use hf
      refine z_callVl (As := [.int 2]) (rest := []) hC hI (cX0_count_met st l D ad cy σ 2 _ g7) (zgV zw18_13 zw18_14 zw18_15 zw3_1 zw18_16) rfl ⟨rfl, rfl⟩ 1 hdX0_count ⟨Nat.le_of_ble_eq_true rfl, Nat.le_of_ble_eq_true rfl⟩ rfl rfl (wC_e8 ad cy σ) rfl hl rfl (Nat.le_of_ble_eq_true rfl) dX11_look_131 ⟨Nat.zero_le _, Nat.zero_le _⟩ (fun H locs hI => ?_)
      exact z_xlreturn hC hI hf dX11_look_134
    replace hf := zif_f q2 hf
    by_cases q3 : x1 = 3
    · replace hf := zif_t q3 hf
      refine lv_tableIn (tgt := 135) hx hb dX11_look_22 (by rw [q3]; decide) (by rw [q3]; decide) (by rw [q3]; rfl) (by decide) ?_
      refine lv_aload_n hx hb dX11_look_135 rfl (lv_at hl 0 rfl) ?_
      refine z_get hC hI hinX11_look_X110 0 (wC_e0 ad cy σ) rfl 8 (by decide) (List.mem_cons_of_mem _ zw3_2) rfl dX11_look_136 ?_
      refine z_get hC hI hinX11_look_X00 8 (wC_e8 ad cy σ) rfl 2 (by decide) (List.mem_cons_of_mem _ zw92_6) rfl dX11_look_139 ?_
      obtain ⟨σ9, v10, g9, hf⟩ := zbi_use hf
      refine z_callVi (As := []) (rest := []) hC hI (cX6_size_k11_met st l D ad cy σ  _ g9) (zgV zw92_7 zw92_8 zw92_9 zw7_17 zw92_10) rfl ⟨rfl, rfl⟩ 0 hdX6_size_k11 ⟨Nat.le_of_ble_eq_true rfl, Nat.le_of_ble_eq_true rfl⟩ rfl rfl (wC_e11 ad cy σ) rfl hl rfl (Nat.le_of_ble_eq_true rfl) dX11_look_142 ⟨Nat.zero_le _, Nat.zero_le _⟩ (fun H locs hI => ?_)
      refine lv_i2l (v := v10.toInt64) hx hb dX11_look_145 rfl ?_
      exact z_xlreturn hC hI hf dX11_look_146
    replace hf := zif_f q3 hf
    by_cases q4 : x1 = 4
    · replace hf := zif_t q4 hf
      refine lv_tableIn (tgt := 147) hx hb dX11_look_22 (by rw [q4]; decide) (by rw [q4]; decide) (by rw [q4]; rfl) (by decide) ?_
      refine lv_aload_n hx hb dX11_look_147 rfl (lv_at hl 0 rfl) ?_
      refine z_get hC hI hinX11_look_X110 0 (wC_e0 ad cy σ) rfl 8 (by decide) (List.mem_cons_of_mem _ zw3_2) rfl dX11_look_148 ?_
      refine lv_iconst (v := 3) hx hb dX11_look_151 (by decide) ?_
      obtain ⟨σ11, v12, g11, hf⟩ := zbl_use hf
      refine z_callVl (As := [.int 3]) (rest := []) hC hI (cX0_count_met st l D ad cy σ 3 _ g11) (zgV zw18_13 zw18_14 zw18_15 zw3_1 zw18_16) rfl ⟨rfl, rfl⟩ 1 hdX0_count ⟨Nat.le_of_ble_eq_true rfl, Nat.le_of_ble_eq_true rfl⟩ rfl rfl (wC_e8 ad cy σ) rfl hl rfl (Nat.le_of_ble_eq_true rfl) dX11_look_152 ⟨Nat.zero_le _, Nat.zero_le _⟩ (fun H locs hI => ?_)
      exact z_xlreturn hC hI hf dX11_look_155
    replace hf := zif_f q4 hf
    by_cases q5 : x1 = 5
    · replace hf := zif_t q5 hf
      refine lv_tableIn (tgt := 156) hx hb dX11_look_22 (by rw [q5]; decide) (by rw [q5]; decide) (by rw [q5]; rfl) (by decide) ?_
      refine lv_aload_n hx hb dX11_look_156 rfl (lv_at hl 0 rfl) ?_
      refine z_get hC hI hinX11_look_X110 0 (wC_e0 ad cy σ) rfl 1 (by decide) (List.mem_cons_of_mem _ zw1_22) rfl dX11_look_157 ?_
      refine z_get hC hI hinX11_look_X20 1 (wC_e1 ad cy σ) rfl 2 (by decide) (List.mem_cons_of_mem _ zw11_5) rfl dX11_look_160 ?_
      refine lv_i2l (v := (zgi σ 1 2).toInt64) hx hb dX11_look_163 rfl ?_
      exact z_xlreturn hC hI hf dX11_look_164
    replace hf := zif_f q5 hf
    by_cases q6 : x1 = 6
    · replace hf := zif_t q6 hf
      refine lv_tableIn (tgt := 165) hx hb dX11_look_22 (by rw [q6]; decide) (by rw [q6]; decide) (by rw [q6]; rfl) (by decide) ?_
      refine lv_aload_n hx hb dX11_look_165 rfl (lv_at hl 0 rfl) ?_
      refine z_get hC hI hinX11_look_X110 0 (wC_e0 ad cy σ) rfl 9 (by decide) (List.mem_cons_of_mem _ zw3_6) rfl dX11_look_166 ?_
      obtain ⟨σ13, v14, g13, hf⟩ := zbi_use hf
      refine z_callVi (As := []) (rest := []) hC hI (cX1_stopCount_met st l D ad cy σ  _ g13) (zgV zw95_13 zw95_14 zw95_15 zw3_5 zw95_16) rfl ⟨rfl, rfl⟩ 0 hdX1_stopCount ⟨Nat.le_of_ble_eq_true rfl, Nat.le_of_ble_eq_true rfl⟩ rfl rfl (wC_e9 ad cy σ) rfl hl rfl (Nat.le_of_ble_eq_true rfl) dX11_look_169 ⟨Nat.zero_le _, Nat.zero_le _⟩ (fun H locs hI => ?_)
      refine lv_i2l (v := v14.toInt64) hx hb dX11_look_172 rfl ?_
      exact z_xlreturn hC hI hf dX11_look_173
    replace hf := zif_f q6 hf
    by_cases q7 : x1 = 7
    · replace hf := zif_t q7 hf
      refine lv_tableIn (tgt := 174) hx hb dX11_look_22 (by rw [q7]; decide) (by rw [q7]; decide) (by rw [q7]; rfl) (by decide) ?_
      refine lv_aload_n hx hb dX11_look_174 rfl (lv_at hl 0 rfl) ?_
      refine z_get hC hI hinX11_look_X110 0 (wC_e0 ad cy σ) rfl 1 (by decide) (List.mem_cons_of_mem _ zw1_22) rfl dX11_look_175 ?_
      obtain ⟨σ15, v16, g15, hf⟩ := zbi_use hf
      refine z_callVi (As := []) (rest := []) hC hI (cX2_cardSize_met st l D ad cy σ  _ g15) (zgV zw95_17 zw95_18 zw95_19 zw1_21 zw95_20) rfl ⟨rfl, rfl⟩ 0 hdX2_cardSize ⟨Nat.le_of_ble_eq_true rfl, Nat.le_of_ble_eq_true rfl⟩ rfl rfl (wC_e1 ad cy σ) rfl hl rfl (Nat.le_of_ble_eq_true rfl) dX11_look_178 ⟨Nat.zero_le _, Nat.zero_le _⟩ (fun H locs hI => ?_)
      refine lv_i2l (v := v16.toInt64) hx hb dX11_look_181 rfl ?_
      exact z_xlreturn hC hI hf dX11_look_182
    replace hf := zif_f q7 hf
    by_cases q8 : x1 = 8
    · replace hf := zif_t q8 hf
      refine lv_tableIn (tgt := 183) hx hb dX11_look_22 (by rw [q8]; decide) (by rw [q8]; decide) (by rw [q8]; rfl) (by decide) ?_
      refine lv_aload_n hx hb dX11_look_183 rfl (lv_at hl 0 rfl) ?_
      refine z_get hC hI hinX11_look_X110 0 (wC_e0 ad cy σ) rfl 1 (by decide) (List.mem_cons_of_mem _ zw1_22) rfl dX11_look_184 ?_
      refine lv_iconst (v := 3) hx hb dX11_look_187 (by decide) ?_
      obtain ⟨σ17, v18, g17, hf⟩ := zbi_use hf
      refine z_callVi (As := [.int 3]) (rest := []) hC hI (cX2_page_met st l D ad cy σ 3 _ g17) (zgV zw95_21 zw95_22 zw95_23 zw1_21 zw96_0) rfl ⟨rfl, rfl⟩ 1 hdX2_page ⟨Nat.le_of_ble_eq_true rfl, Nat.le_of_ble_eq_true rfl⟩ rfl rfl (wC_e1 ad cy σ) rfl hl rfl (Nat.le_of_ble_eq_true rfl) dX11_look_188 ⟨Nat.zero_le _, Nat.zero_le _⟩ (fun H locs hI => ?_)
      refine lv_i2l (v := v18.toInt64) hx hb dX11_look_191 rfl ?_
      exact z_xlreturn hC hI hf dX11_look_192
    replace hf := zif_f q8 hf
    by_cases q9 : x1 = 9
    · replace hf := zif_t q9 hf
      refine lv_tableIn (tgt := 193) hx hb dX11_look_22 (by rw [q9]; decide) (by rw [q9]; decide) (by rw [q9]; rfl) (by decide) ?_
      exact bX11_look_193 hC hE hst  hI hl hf
    replace hf := zif_f q9 hf
    by_cases q10 : x1 = 10
    · replace hf := zif_t q10 hf
      refine lv_tableIn (tgt := 193) hx hb dX11_look_22 (by rw [q10]; decide) (by rw [q10]; decide) (by rw [q10]; rfl) (by decide) ?_
      exact bX11_look_193 hC hE hst  hI hl hf
    replace hf := zif_f q10 hf
    by_cases q11 : x1 = 11
    · replace hf := zif_t q11 hf
      refine lv_tableIn (tgt := 193) hx hb dX11_look_22 (by rw [q11]; decide) (by rw [q11]; decide) (by rw [q11]; rfl) (by decide) ?_
      exact bX11_look_193 hC hE hst  hI hl hf
    replace hf := zif_f q11 hf
    by_cases q12 : x1 = 12
    · replace hf := zif_t q12 hf
      refine lv_tableIn (tgt := 206) hx hb dX11_look_22 (by rw [q12]; decide) (by rw [q12]; decide) (by rw [q12]; rfl) (by decide) ?_
      refine lv_aload_n hx hb dX11_look_206 rfl (lv_at hl 0 rfl) ?_
      refine z_get hC hI hinX11_look_X110 0 (wC_e0 ad cy σ) rfl 7 (by decide) (List.mem_cons_of_mem _ zw2_22) rfl dX11_look_207 ?_
      refine lv_bipush (v := 27) hx hb dX11_look_210 (by decide) ?_
      obtain ⟨σ19, v20, g19, hf⟩ := zbi_use hf
      refine z_callVi (As := [.int 27]) (rest := []) hC hI (cX5_value_met st l D ad cy σ 27 _ g19) (zgV zw18_17 zw18_18 zw18_19 zw2_21 zw18_20) rfl ⟨rfl, rfl⟩ 1 hdX5_value ⟨Nat.le_of_ble_eq_true rfl, Nat.le_of_ble_eq_true rfl⟩ rfl rfl (wC_e7 ad cy σ) rfl hl rfl (Nat.le_of_ble_eq_true rfl) dX11_look_212 ⟨Nat.zero_le _, Nat.zero_le _⟩ (fun H locs hI => ?_)
      refine lv_i2l (v := v20.toInt64) hx hb dX11_look_215 rfl ?_
      exact z_xlreturn hC hI hf dX11_look_216
    replace hf := zif_f q12 hf
    by_cases q13 : x1 = 13
    · replace hf := zif_t q13 hf
      refine lv_tableIn (tgt := 217) hx hb dX11_look_22 (by rw [q13]; decide) (by rw [q13]; decide) (by rw [q13]; rfl) (by decide) ?_
      refine lv_aload_n hx hb dX11_look_217 rfl (lv_at hl 0 rfl) ?_
      refine z_get hC hI hinX11_look_X110 0 (wC_e0 ad cy σ) rfl 6 (by decide) (List.mem_cons_of_mem _ zw2_18) rfl dX11_look_218 ?_
      refine lv_bipush (v := 6) hx hb dX11_look_221 (by decide) ?_
      obtain ⟨σ21, v22, g21, hf⟩ := zbi_use hf
      refine z_callVi (As := [.int 6]) (rest := []) hC hI (cX4_value_met st l D ad cy σ 6 _ g21) (zgV zw96_1 zw96_2 zw96_3 zw2_17 zw96_4) rfl ⟨rfl, rfl⟩ 1 hdX4_value ⟨Nat.le_of_ble_eq_true rfl, Nat.le_of_ble_eq_true rfl⟩ rfl rfl (wC_e6 ad cy σ) rfl hl rfl (Nat.le_of_ble_eq_true rfl) dX11_look_223 ⟨Nat.zero_le _, Nat.zero_le _⟩ (fun H locs hI => ?_)
      refine lv_i2l (v := v22.toInt64) hx hb dX11_look_226 rfl ?_
      exact z_xlreturn hC hI hf dX11_look_227
    replace hf := zif_f q13 hf
    by_cases q14 : x1 = 14
    · replace hf := zif_t q14 hf
      refine lv_tableIn (tgt := 228) hx hb dX11_look_22 (by rw [q14]; decide) (by rw [q14]; decide) (by rw [q14]; rfl) (by decide) ?_
      refine lv_aload_n hx hb dX11_look_228 rfl (lv_at hl 0 rfl) ?_
      refine z_get hC hI hinX11_look_X110 0 (wC_e0 ad cy σ) rfl 6 (by decide) (List.mem_cons_of_mem _ zw2_18) rfl dX11_look_229 ?_
      refine lv_iconst (v := 0) hx hb dX11_look_232 (by decide) ?_
      obtain ⟨σ23, v24, g23, hf⟩ := zbi_use hf
      refine z_callVi (As := [.int 0]) (rest := []) hC hI (cX4_value_met st l D ad cy σ 0 _ g23) (zgV zw96_1 zw96_2 zw96_3 zw2_17 zw96_4) rfl ⟨rfl, rfl⟩ 1 hdX4_value ⟨Nat.le_of_ble_eq_true rfl, Nat.le_of_ble_eq_true rfl⟩ rfl rfl (wC_e6 ad cy σ) rfl hl rfl (Nat.le_of_ble_eq_true rfl) dX11_look_233 ⟨Nat.zero_le _, Nat.zero_le _⟩ (fun H locs hI => ?_)
      refine lv_i2l (v := v24.toInt64) hx hb dX11_look_236 rfl ?_
      exact z_xlreturn hC hI hf dX11_look_237
    replace hf := zif_f q14 hf
    by_cases q15 : x1 = 15
    · replace hf := zif_t q15 hf
      refine lv_tableIn (tgt := 238) hx hb dX11_look_22 (by rw [q15]; decide) (by rw [q15]; decide) (by rw [q15]; rfl) (by decide) ?_
      refine lv_aload_n hx hb dX11_look_238 rfl (lv_at hl 0 rfl) ?_
      refine z_get hC hI hinX11_look_X110 0 (wC_e0 ad cy σ) rfl 11 (by decide) (List.mem_cons_of_mem _ zw13_19) rfl dX11_look_239 ?_
      refine lv_if_eq (tgt := 249) hx hb dX11_look_242 (by decide) (fun q => ?_) (fun q => ?_)
      · replace hf := zif_t q hf
        refine lv_lconst (v := 0) hx hb dX11_look_249 (by decide) ?_
        exact bX11_look_250 hC hE hst  hI (lv_sub hl [] rfl) hf
      replace hf := zif_f q hf
      refine lv_lconst (v := 1) hx hb dX11_look_245 (by decide) ?_
      refine lv_goto (tgt := 250) hx hb dX11_look_246 (by decide) ?_
      exact bX11_look_250 hC hE hst  hI (lv_sub hl [] rfl) hf
    replace hf := zif_f q15 hf
    by_cases q16 : x1 = 16
    · replace hf := zif_t q16 hf
      refine lv_tableIn (tgt := 251) hx hb dX11_look_22 (by rw [q16]; decide) (by rw [q16]; decide) (by rw [q16]; rfl) (by decide) ?_
      refine lv_aload_n hx hb dX11_look_251 rfl (lv_at hl 0 rfl) ?_
      refine z_get hC hI hinX11_look_X110 0 (wC_e0 ad cy σ) rfl 9 (by decide) (List.mem_cons_of_mem _ zw3_6) rfl dX11_look_252 ?_
      obtain ⟨σ25, v26, g25, hf⟩ := zbi_use hf
      refine z_callVi (As := []) (rest := []) hC hI (cX1_plansWaiting_met st l D ad cy σ  _ g25) (zgV zw69_9 zw69_10 zw69_11 zw3_5 zw69_12) rfl ⟨rfl, rfl⟩ 0 hdX1_plansWaiting ⟨Nat.le_of_ble_eq_true rfl, Nat.le_of_ble_eq_true rfl⟩ rfl rfl (wC_e9 ad cy σ) rfl hl rfl (Nat.le_of_ble_eq_true rfl) dX11_look_255 ⟨Nat.zero_le _, Nat.zero_le _⟩ (fun H locs hI => ?_)
      refine lv_i2l (v := v26.toInt64) hx hb dX11_look_258 rfl ?_
      exact z_xlreturn hC hI hf dX11_look_259
    replace hf := zif_f q16 hf
    by_cases q17 : x1 = 17
    · replace hf := zif_t q17 hf
      refine lv_tableIn (tgt := 260) hx hb dX11_look_22 (by rw [q17]; decide) (by rw [q17]; decide) (by rw [q17]; rfl) (by decide) ?_
      refine lv_aload_n hx hb dX11_look_260 rfl (lv_at hl 0 rfl) ?_
      refine z_get hC hI hinX11_look_X110 0 (wC_e0 ad cy σ) rfl 8 (by decide) (List.mem_cons_of_mem _ zw3_2) rfl dX11_look_261 ?_
      refine z_get hC hI hinX11_look_X00 8 (wC_e8 ad cy σ) rfl 3 (by decide) (List.mem_cons_of_mem _ zw93_2) rfl dX11_look_264 ?_
      obtain ⟨σ27, v28, g27, hf⟩ := zbi_use hf
      refine z_callVi (As := []) (rest := []) hC hI (cX6_size_k12_met st l D ad cy σ  _ g27) (zgV zw92_7 zw92_8 zw92_9 zw7_17 zw92_10) rfl ⟨rfl, rfl⟩ 0 hdX6_size_k12 ⟨Nat.le_of_ble_eq_true rfl, Nat.le_of_ble_eq_true rfl⟩ rfl rfl (wC_e12 ad cy σ) rfl hl rfl (Nat.le_of_ble_eq_true rfl) dX11_look_267 ⟨Nat.zero_le _, Nat.zero_le _⟩ (fun H locs hI => ?_)
      refine lv_i2l (v := v28.toInt64) hx hb dX11_look_270 rfl ?_
      exact z_xlreturn hC hI hf dX11_look_271
    replace hf := zif_f q17 hf
    refine lv_tableOut (tgt := 272) hx hb dX11_look_22 (zsw (fun k h1 h2 => by rcases (show k = 0 ∨ k = 1 ∨ k = 2 ∨ k = 3 ∨ k = 4 ∨ k = 5 ∨ k = 6 ∨ k = 7 ∨ k = 8 ∨ k = 9 ∨ k = 10 ∨ k = 11 ∨ k = 12 ∨ k = 13 ∨ k = 14 ∨ k = 15 ∨ k = 16 ∨ k = 17 by omega) with rfl | rfl | rfl | rfl | rfl | rfl | rfl | rfl | rfl | rfl | rfl | rfl | rfl | rfl | rfl | rfl | rfl | rfl <;> assumption)) (by decide) ?_
    refine lv_aload_n hx hb dX11_look_272 rfl (lv_at hl 0 rfl) ?_
    refine z_get hC hI hinX11_look_X110 0 (wC_e0 ad cy σ) rfl 10 (by decide) (List.mem_cons_of_mem _ zw3_10) rfl dX11_look_273 ?_
    refine z_get hC hI hinX11_look_X80 10 (wC_e10 ad cy σ) rfl 2 (by decide) (List.mem_cons_of_mem _ zw78_14) rfl dX11_look_276 ?_
    refine lv_i2l (v := (zgi σ 10 2).toInt64) hx hb dX11_look_279 rfl ?_
    exact z_xlreturn hC hI hf dX11_look_280
  replace hf := zif_f q hf
  exact bX11_look_10 hC hE hst  hI (lv_sub hl [] rfl) hf
set_option maxRecDepth 20000 in
theorem cX11_look_met (st : Nat → Nat) (l : Launch) (hst : l.stackTraces = false) (D : va_G) (ad : Nat → Nat) (cy : Nat → ClassId) (σ : zSt) (x1 : Int32) (res : zRl) (hf : fX11_look σ x1 = some res) (sz : Nat) : zXl st l yX11_look wzX11_look rmX11_look [.ref (ad 0), .int x1] D (tC cy) (wC ad cy) sz σ res :=
  zXl.of (cc := cX11_look) (maxL := 2) (ret := (some .long)) (by decide) rfl (Nat.le_of_ble_eq_true rfl) (fun p e s m args below meth c hC hE A hI ls hl => bX11_look hC hE hst hI hl hf)
theorem hdX11_look : yX11_look.cls = RX11 ∧ yX11_look.cls ≠ "java/lang/invoke/MethodHandle" ∧ yX11_look.cls ≠ "java/lang/invoke/VarHandle" ∧ (parseMethodDescriptor yX11_look.desc).map (fun d => d.parameters.length) = some 1 := by decide +kernel
end ZJN1
