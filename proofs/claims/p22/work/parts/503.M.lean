def kn_cX12_jump : Nat := 0xb14f2e13101600b42a14101600b42a4f7e8f12601b2e13101600b42a13101600b42a
theorem zk_cX12_jump : zkd cX12_jump.data.toList kn_cX12_jump = true := by decide +kernel
theorem zn_cX12_jump : cX12_jump.data.toList.length = 34 := by decide +kernel
theorem dX12_jump_0 : decode cX12_jump 0 = .ok (.aload_n 0, 1) := zo_42 (zkb zk_cX12_jump zn_cX12_jump (by decide +kernel))
theorem dX12_jump_1 : decode cX12_jump 1 = .ok (.getfield 22, 3) := zo_180 (b1 := 0) (b2 := 22) (zkb3 zk_cX12_jump zn_cX12_jump (by decide +kernel)) rfl
theorem dX12_jump_4 : decode cX12_jump 4 = .ok (.bipush 19, 2) := zo_16 (b1 := 19) (zkb2 zk_cX12_jump zn_cX12_jump (by decide +kernel)) rfl
theorem dX12_jump_6 : decode cX12_jump 6 = .ok (.aload_n 0, 1) := zo_42 (zkb zk_cX12_jump zn_cX12_jump (by decide +kernel))
theorem dX12_jump_7 : decode cX12_jump 7 = .ok (.getfield 22, 3) := zo_180 (b1 := 0) (b2 := 22) (zkb3 zk_cX12_jump zn_cX12_jump (by decide +kernel)) rfl
theorem dX12_jump_10 : decode cX12_jump 10 = .ok (.bipush 19, 2) := zo_16 (b1 := 19) (zkb2 zk_cX12_jump zn_cX12_jump (by decide +kernel)) rfl
theorem dX12_jump_12 : decode cX12_jump 12 = .ok (.iaload, 1) := zo_46 (zkb zk_cX12_jump zn_cX12_jump (by decide +kernel))
theorem dX12_jump_13 : decode cX12_jump 13 = .ok (.iload_n 1, 1) := zo_27 (zkb zk_cX12_jump zn_cX12_jump (by decide +kernel))
theorem dX12_jump_14 : decode cX12_jump 14 = .ok (.iadd, 1) := zo_96 (zkb zk_cX12_jump zn_cX12_jump (by decide +kernel))
theorem dX12_jump_15 : decode cX12_jump 15 = .ok (.ldc 143, 2) := zo_18 (b1 := 143) (zkb2 zk_cX12_jump zn_cX12_jump (by decide +kernel))
theorem dX12_jump_17 : decode cX12_jump 17 = .ok (.iand, 1) := zo_126 (zkb zk_cX12_jump zn_cX12_jump (by decide +kernel))
theorem dX12_jump_18 : decode cX12_jump 18 = .ok (.iastore, 1) := zo_79 (zkb zk_cX12_jump zn_cX12_jump (by decide +kernel))
theorem dX12_jump_19 : decode cX12_jump 19 = .ok (.aload_n 0, 1) := zo_42 (zkb zk_cX12_jump zn_cX12_jump (by decide +kernel))
theorem dX12_jump_20 : decode cX12_jump 20 = .ok (.getfield 22, 3) := zo_180 (b1 := 0) (b2 := 22) (zkb3 zk_cX12_jump zn_cX12_jump (by decide +kernel)) rfl
theorem dX12_jump_23 : decode cX12_jump 23 = .ok (.bipush 20, 2) := zo_16 (b1 := 20) (zkb2 zk_cX12_jump zn_cX12_jump (by decide +kernel)) rfl
theorem dX12_jump_25 : decode cX12_jump 25 = .ok (.aload_n 0, 1) := zo_42 (zkb zk_cX12_jump zn_cX12_jump (by decide +kernel))
theorem dX12_jump_26 : decode cX12_jump 26 = .ok (.getfield 22, 3) := zo_180 (b1 := 0) (b2 := 22) (zkb3 zk_cX12_jump zn_cX12_jump (by decide +kernel)) rfl
theorem dX12_jump_29 : decode cX12_jump 29 = .ok (.bipush 19, 2) := zo_16 (b1 := 19) (zkb2 zk_cX12_jump zn_cX12_jump (by decide +kernel)) rfl
theorem dX12_jump_31 : decode cX12_jump 31 = .ok (.iaload, 1) := zo_46 (zkb zk_cX12_jump zn_cX12_jump (by decide +kernel))
theorem dX12_jump_32 : decode cX12_jump 32 = .ok (.iastore, 1) := zo_79 (zkb zk_cX12_jump zn_cX12_jump (by decide +kernel))
theorem dX12_jump_33 : decode cX12_jump 33 = .ok (.return_, 1) := zo_177 (zkb zk_cX12_jump zn_cX12_jump (by decide +kernel))
def kn_cX12_zero : Nat := 0xac06100301b660020400a70407009a70051b0601b61d2a1d2aac0901b6030400a7040700a00470051b1d2a1500a0051cac0b10ca00b67a081006152ac600b603042ac600b6030400a7040700a48f120615032ac600b6030400a7040700a4ff0f11607eff0f1105157eff0f110415072abb00b606152a063660051504154f7e8f126004041514101600b42a05360601b61d2a0436b700b62a6b00a0041cac0a100301b60001b62a1d2a0f009a70051b1500a0041cac07100500a70c1008009905150f00a708101400a70d1008009905151200a0051bfd00b604152a09009905150536030400a704070099fa00b664071b2a0d009f061b1700a7031b00a7040700992e051600b42a1400a0051b4f7eff001164042e051600b42a051600b42a1500a0051b0436f700b8d000b62aac07f400b60910042af400b60810032a1300a0041bac0705009a1b96009a1c3e7a041b
theorem zk_cX12_zero : zkd cX12_zero.data.toList kn_cX12_zero = true := by decide +kernel
theorem zn_cX12_zero : cX12_zero.data.toList.length = 335 := by decide +kernel
theorem dX12_zero_0 : decode cX12_zero 0 = .ok (.iload_n 1, 1) := zo_27 (zkb zk_cX12_zero zn_cX12_zero (by decide +kernel))
theorem dX12_zero_1 : decode cX12_zero 1 = .ok (.iconst 1, 1) := zo_4 (zkb zk_cX12_zero zn_cX12_zero (by decide +kernel))
theorem dX12_zero_2 : decode cX12_zero 2 = .ok (.ishr, 1) := zo_122 (zkb zk_cX12_zero zn_cX12_zero (by decide +kernel))
theorem dX12_zero_3 : decode cX12_zero 3 = .ok (.istore_n 3, 1) := zo_62 (zkb zk_cX12_zero zn_cX12_zero (by decide +kernel))
theorem dX12_zero_4 : decode cX12_zero 4 = .ok (.iload_n 2, 1) := zo_28 (zkb zk_cX12_zero zn_cX12_zero (by decide +kernel))
theorem dX12_zero_5 : decode cX12_zero 5 = .ok (.ifCond .ne 150, 3) := zo_154 (b1 := 0) (b2 := 150) (zkb3 zk_cX12_zero zn_cX12_zero (by decide +kernel)) rfl
theorem dX12_zero_8 : decode cX12_zero 8 = .ok (.iload_n 1, 1) := zo_27 (zkb zk_cX12_zero zn_cX12_zero (by decide +kernel))
theorem dX12_zero_9 : decode cX12_zero 9 = .ok (.ifCond .ne 5, 3) := zo_154 (b1 := 0) (b2 := 5) (zkb3 zk_cX12_zero zn_cX12_zero (by decide +kernel)) rfl
theorem dX12_zero_12 : decode cX12_zero 12 = .ok (.iconst 4, 1) := zo_7 (zkb zk_cX12_zero zn_cX12_zero (by decide +kernel))
theorem dX12_zero_13 : decode cX12_zero 13 = .ok (.ireturn, 1) := zo_172 (zkb zk_cX12_zero zn_cX12_zero (by decide +kernel))
theorem dX12_zero_14 : decode cX12_zero 14 = .ok (.iload_n 1, 1) := zo_27 (zkb zk_cX12_zero zn_cX12_zero (by decide +kernel))
theorem dX12_zero_15 : decode cX12_zero 15 = .ok (.iconst 1, 1) := zo_4 (zkb zk_cX12_zero zn_cX12_zero (by decide +kernel))
theorem dX12_zero_16 : decode cX12_zero 16 = .ok (.if_icmp .ne 19, 3) := zo_160 (b1 := 0) (b2 := 19) (zkb3 zk_cX12_zero zn_cX12_zero (by decide +kernel)) rfl
theorem dX12_zero_19 : decode cX12_zero 19 = .ok (.aload_n 0, 1) := zo_42 (zkb zk_cX12_zero zn_cX12_zero (by decide +kernel))
theorem dX12_zero_20 : decode cX12_zero 20 = .ok (.iconst 0, 1) := zo_3 (zkb zk_cX12_zero zn_cX12_zero (by decide +kernel))
theorem dX12_zero_21 : decode cX12_zero 21 = .ok (.bipush 8, 2) := zo_16 (b1 := 8) (zkb2 zk_cX12_zero zn_cX12_zero (by decide +kernel)) rfl
theorem dX12_zero_23 : decode cX12_zero 23 = .ok (.invokevirtual 244, 3) := zo_182 (b1 := 0) (b2 := 244) (zkb3 zk_cX12_zero zn_cX12_zero (by decide +kernel)) rfl
theorem dX12_zero_26 : decode cX12_zero 26 = .ok (.aload_n 0, 1) := zo_42 (zkb zk_cX12_zero zn_cX12_zero (by decide +kernel))
theorem dX12_zero_27 : decode cX12_zero 27 = .ok (.iconst 1, 1) := zo_4 (zkb zk_cX12_zero zn_cX12_zero (by decide +kernel))
theorem dX12_zero_28 : decode cX12_zero 28 = .ok (.bipush 9, 2) := zo_16 (b1 := 9) (zkb2 zk_cX12_zero zn_cX12_zero (by decide +kernel)) rfl
theorem dX12_zero_30 : decode cX12_zero 30 = .ok (.invokevirtual 244, 3) := zo_182 (b1 := 0) (b2 := 244) (zkb3 zk_cX12_zero zn_cX12_zero (by decide +kernel)) rfl
theorem dX12_zero_33 : decode cX12_zero 33 = .ok (.iconst 4, 1) := zo_7 (zkb zk_cX12_zero zn_cX12_zero (by decide +kernel))
theorem dX12_zero_34 : decode cX12_zero 34 = .ok (.ireturn, 1) := zo_172 (zkb zk_cX12_zero zn_cX12_zero (by decide +kernel))
theorem dX12_zero_35 : decode cX12_zero 35 = .ok (.aload_n 0, 1) := zo_42 (zkb zk_cX12_zero zn_cX12_zero (by decide +kernel))
theorem dX12_zero_36 : decode cX12_zero 36 = .ok (.invokevirtual 208, 3) := zo_182 (b1 := 0) (b2 := 208) (zkb3 zk_cX12_zero zn_cX12_zero (by decide +kernel)) rfl
theorem dX12_zero_39 : decode cX12_zero 39 = .ok (.invokestatic 247, 3) := zo_184 (b1 := 0) (b2 := 247) (zkb3 zk_cX12_zero zn_cX12_zero (by decide +kernel)) rfl
theorem dX12_zero_42 : decode cX12_zero 42 = .ok (.istore 4, 2) := zo_54 (b1 := 4) (zkb2 zk_cX12_zero zn_cX12_zero (by decide +kernel))
theorem dX12_zero_44 : decode cX12_zero 44 = .ok (.iload_n 1, 1) := zo_27 (zkb zk_cX12_zero zn_cX12_zero (by decide +kernel))
theorem dX12_zero_45 : decode cX12_zero 45 = .ok (.iconst 2, 1) := zo_5 (zkb zk_cX12_zero zn_cX12_zero (by decide +kernel))
theorem dX12_zero_46 : decode cX12_zero 46 = .ok (.if_icmp .ne 21, 3) := zo_160 (b1 := 0) (b2 := 21) (zkb3 zk_cX12_zero zn_cX12_zero (by decide +kernel)) rfl
theorem dX12_zero_49 : decode cX12_zero 49 = .ok (.aload_n 0, 1) := zo_42 (zkb zk_cX12_zero zn_cX12_zero (by decide +kernel))
theorem dX12_zero_50 : decode cX12_zero 50 = .ok (.getfield 22, 3) := zo_180 (b1 := 0) (b2 := 22) (zkb3 zk_cX12_zero zn_cX12_zero (by decide +kernel)) rfl
theorem dX12_zero_53 : decode cX12_zero 53 = .ok (.iconst 2, 1) := zo_5 (zkb zk_cX12_zero zn_cX12_zero (by decide +kernel))
theorem dX12_zero_54 : decode cX12_zero 54 = .ok (.aload_n 0, 1) := zo_42 (zkb zk_cX12_zero zn_cX12_zero (by decide +kernel))
theorem dX12_zero_55 : decode cX12_zero 55 = .ok (.getfield 22, 3) := zo_180 (b1 := 0) (b2 := 22) (zkb3 zk_cX12_zero zn_cX12_zero (by decide +kernel)) rfl
theorem dX12_zero_58 : decode cX12_zero 58 = .ok (.iconst 2, 1) := zo_5 (zkb zk_cX12_zero zn_cX12_zero (by decide +kernel))
theorem dX12_zero_59 : decode cX12_zero 59 = .ok (.iaload, 1) := zo_46 (zkb zk_cX12_zero zn_cX12_zero (by decide +kernel))
theorem dX12_zero_60 : decode cX12_zero 60 = .ok (.iconst 1, 1) := zo_4 (zkb zk_cX12_zero zn_cX12_zero (by decide +kernel))
theorem dX12_zero_61 : decode cX12_zero 61 = .ok (.isub, 1) := zo_100 (zkb zk_cX12_zero zn_cX12_zero (by decide +kernel))
theorem dX12_zero_62 : decode cX12_zero 62 = .ok (.sipush 255, 3) := zo_17 (b1 := 0) (b2 := 255) (zkb3 zk_cX12_zero zn_cX12_zero (by decide +kernel)) rfl
theorem dX12_zero_65 : decode cX12_zero 65 = .ok (.iand, 1) := zo_126 (zkb zk_cX12_zero zn_cX12_zero (by decide +kernel))
theorem dX12_zero_66 : decode cX12_zero 66 = .ok (.iastore, 1) := zo_79 (zkb zk_cX12_zero zn_cX12_zero (by decide +kernel))
theorem dX12_zero_67 : decode cX12_zero 67 = .ok (.iload_n 1, 1) := zo_27 (zkb zk_cX12_zero zn_cX12_zero (by decide +kernel))
theorem dX12_zero_68 : decode cX12_zero 68 = .ok (.iconst 2, 1) := zo_5 (zkb zk_cX12_zero zn_cX12_zero (by decide +kernel))
theorem dX12_zero_69 : decode cX12_zero 69 = .ok (.if_icmp .ne 20, 3) := zo_160 (b1 := 0) (b2 := 20) (zkb3 zk_cX12_zero zn_cX12_zero (by decide +kernel)) rfl
theorem dX12_zero_72 : decode cX12_zero 72 = .ok (.aload_n 0, 1) := zo_42 (zkb zk_cX12_zero zn_cX12_zero (by decide +kernel))
theorem dX12_zero_73 : decode cX12_zero 73 = .ok (.getfield 22, 3) := zo_180 (b1 := 0) (b2 := 22) (zkb3 zk_cX12_zero zn_cX12_zero (by decide +kernel)) rfl
theorem dX12_zero_76 : decode cX12_zero 76 = .ok (.iconst 2, 1) := zo_5 (zkb zk_cX12_zero zn_cX12_zero (by decide +kernel))
theorem dX12_zero_77 : decode cX12_zero 77 = .ok (.iaload, 1) := zo_46 (zkb zk_cX12_zero zn_cX12_zero (by decide +kernel))
theorem dX12_zero_78 : decode cX12_zero 78 = .ok (.ifCond .eq 7, 3) := zo_153 (b1 := 0) (b2 := 7) (zkb3 zk_cX12_zero zn_cX12_zero (by decide +kernel)) rfl
theorem dX12_zero_81 : decode cX12_zero 81 = .ok (.iconst 1, 1) := zo_4 (zkb zk_cX12_zero zn_cX12_zero (by decide +kernel))
theorem dX12_zero_82 : decode cX12_zero 82 = .ok (.goto 27, 3) := zo_167 (b1 := 0) (b2 := 27) (zkb3 zk_cX12_zero zn_cX12_zero (by decide +kernel)) rfl
theorem dX12_zero_85 : decode cX12_zero 85 = .ok (.iconst 0, 1) := zo_3 (zkb zk_cX12_zero zn_cX12_zero (by decide +kernel))
theorem dX12_zero_86 : decode cX12_zero 86 = .ok (.goto 23, 3) := zo_167 (b1 := 0) (b2 := 23) (zkb3 zk_cX12_zero zn_cX12_zero (by decide +kernel)) rfl
theorem dX12_zero_89 : decode cX12_zero 89 = .ok (.iload_n 1, 1) := zo_27 (zkb zk_cX12_zero zn_cX12_zero (by decide +kernel))
theorem dX12_zero_90 : decode cX12_zero 90 = .ok (.iconst 3, 1) := zo_6 (zkb zk_cX12_zero zn_cX12_zero (by decide +kernel))
theorem dX12_zero_91 : decode cX12_zero 91 = .ok (.if_icmp .eq 13, 3) := zo_159 (b1 := 0) (b2 := 13) (zkb3 zk_cX12_zero zn_cX12_zero (by decide +kernel)) rfl
theorem dX12_zero_94 : decode cX12_zero 94 = .ok (.aload_n 0, 1) := zo_42 (zkb zk_cX12_zero zn_cX12_zero (by decide +kernel))
theorem dX12_zero_95 : decode cX12_zero 95 = .ok (.iload_n 1, 1) := zo_27 (zkb zk_cX12_zero zn_cX12_zero (by decide +kernel))
theorem dX12_zero_96 : decode cX12_zero 96 = .ok (.iconst 4, 1) := zo_7 (zkb zk_cX12_zero zn_cX12_zero (by decide +kernel))
theorem dX12_zero_97 : decode cX12_zero 97 = .ok (.isub, 1) := zo_100 (zkb zk_cX12_zero zn_cX12_zero (by decide +kernel))
theorem dX12_zero_98 : decode cX12_zero 98 = .ok (.invokevirtual 250, 3) := zo_182 (b1 := 0) (b2 := 250) (zkb3 zk_cX12_zero zn_cX12_zero (by decide +kernel)) rfl
theorem dX12_zero_101 : decode cX12_zero 101 = .ok (.ifCond .eq 7, 3) := zo_153 (b1 := 0) (b2 := 7) (zkb3 zk_cX12_zero zn_cX12_zero (by decide +kernel)) rfl
theorem dX12_zero_104 : decode cX12_zero 104 = .ok (.iconst 1, 1) := zo_4 (zkb zk_cX12_zero zn_cX12_zero (by decide +kernel))
theorem dX12_zero_105 : decode cX12_zero 105 = .ok (.goto 4, 3) := zo_167 (b1 := 0) (b2 := 4) (zkb3 zk_cX12_zero zn_cX12_zero (by decide +kernel)) rfl
theorem dX12_zero_108 : decode cX12_zero 108 = .ok (.iconst 0, 1) := zo_3 (zkb zk_cX12_zero zn_cX12_zero (by decide +kernel))
theorem dX12_zero_109 : decode cX12_zero 109 = .ok (.istore 5, 2) := zo_54 (b1 := 5) (zkb2 zk_cX12_zero zn_cX12_zero (by decide +kernel))
theorem dX12_zero_111 : decode cX12_zero 111 = .ok (.iload 5, 2) := zo_21 (b1 := 5) (zkb2 zk_cX12_zero zn_cX12_zero (by decide +kernel))
theorem dX12_zero_113 : decode cX12_zero 113 = .ok (.ifCond .eq 9, 3) := zo_153 (b1 := 0) (b2 := 9) (zkb3 zk_cX12_zero zn_cX12_zero (by decide +kernel)) rfl
theorem dX12_zero_116 : decode cX12_zero 116 = .ok (.aload_n 0, 1) := zo_42 (zkb zk_cX12_zero zn_cX12_zero (by decide +kernel))
theorem dX12_zero_117 : decode cX12_zero 117 = .ok (.iload 4, 2) := zo_21 (b1 := 4) (zkb2 zk_cX12_zero zn_cX12_zero (by decide +kernel))
theorem dX12_zero_119 : decode cX12_zero 119 = .ok (.invokevirtual 253, 3) := zo_182 (b1 := 0) (b2 := 253) (zkb3 zk_cX12_zero zn_cX12_zero (by decide +kernel)) rfl
theorem dX12_zero_122 : decode cX12_zero 122 = .ok (.iload_n 1, 1) := zo_27 (zkb zk_cX12_zero zn_cX12_zero (by decide +kernel))
theorem dX12_zero_123 : decode cX12_zero 123 = .ok (.iconst 2, 1) := zo_5 (zkb zk_cX12_zero zn_cX12_zero (by decide +kernel))
theorem dX12_zero_124 : decode cX12_zero 124 = .ok (.if_icmp .ne 18, 3) := zo_160 (b1 := 0) (b2 := 18) (zkb3 zk_cX12_zero zn_cX12_zero (by decide +kernel)) rfl
theorem dX12_zero_127 : decode cX12_zero 127 = .ok (.iload 5, 2) := zo_21 (b1 := 5) (zkb2 zk_cX12_zero zn_cX12_zero (by decide +kernel))
theorem dX12_zero_129 : decode cX12_zero 129 = .ok (.ifCond .eq 8, 3) := zo_153 (b1 := 0) (b2 := 8) (zkb3 zk_cX12_zero zn_cX12_zero (by decide +kernel)) rfl
theorem dX12_zero_132 : decode cX12_zero 132 = .ok (.bipush 13, 2) := zo_16 (b1 := 13) (zkb2 zk_cX12_zero zn_cX12_zero (by decide +kernel)) rfl
theorem dX12_zero_134 : decode cX12_zero 134 = .ok (.goto 20, 3) := zo_167 (b1 := 0) (b2 := 20) (zkb3 zk_cX12_zero zn_cX12_zero (by decide +kernel)) rfl
theorem dX12_zero_137 : decode cX12_zero 137 = .ok (.bipush 8, 2) := zo_16 (b1 := 8) (zkb2 zk_cX12_zero zn_cX12_zero (by decide +kernel)) rfl
theorem dX12_zero_139 : decode cX12_zero 139 = .ok (.goto 15, 3) := zo_167 (b1 := 0) (b2 := 15) (zkb3 zk_cX12_zero zn_cX12_zero (by decide +kernel)) rfl
theorem dX12_zero_142 : decode cX12_zero 142 = .ok (.iload 5, 2) := zo_21 (b1 := 5) (zkb2 zk_cX12_zero zn_cX12_zero (by decide +kernel))
theorem dX12_zero_144 : decode cX12_zero 144 = .ok (.ifCond .eq 8, 3) := zo_153 (b1 := 0) (b2 := 8) (zkb3 zk_cX12_zero zn_cX12_zero (by decide +kernel)) rfl
theorem dX12_zero_147 : decode cX12_zero 147 = .ok (.bipush 12, 2) := zo_16 (b1 := 12) (zkb2 zk_cX12_zero zn_cX12_zero (by decide +kernel)) rfl
theorem dX12_zero_149 : decode cX12_zero 149 = .ok (.goto 5, 3) := zo_167 (b1 := 0) (b2 := 5) (zkb3 zk_cX12_zero zn_cX12_zero (by decide +kernel)) rfl
theorem dX12_zero_152 : decode cX12_zero 152 = .ok (.bipush 7, 2) := zo_16 (b1 := 7) (zkb2 zk_cX12_zero zn_cX12_zero (by decide +kernel)) rfl
theorem dX12_zero_154 : decode cX12_zero 154 = .ok (.ireturn, 1) := zo_172 (zkb zk_cX12_zero zn_cX12_zero (by decide +kernel))
theorem dX12_zero_155 : decode cX12_zero 155 = .ok (.iload_n 2, 1) := zo_28 (zkb zk_cX12_zero zn_cX12_zero (by decide +kernel))
theorem dX12_zero_156 : decode cX12_zero 156 = .ok (.iconst 1, 1) := zo_4 (zkb zk_cX12_zero zn_cX12_zero (by decide +kernel))
theorem dX12_zero_157 : decode cX12_zero 157 = .ok (.if_icmp .ne 21, 3) := zo_160 (b1 := 0) (b2 := 21) (zkb3 zk_cX12_zero zn_cX12_zero (by decide +kernel)) rfl
theorem dX12_zero_160 : decode cX12_zero 160 = .ok (.iload_n 1, 1) := zo_27 (zkb zk_cX12_zero zn_cX12_zero (by decide +kernel))
theorem dX12_zero_161 : decode cX12_zero 161 = .ok (.iconst 2, 1) := zo_5 (zkb zk_cX12_zero zn_cX12_zero (by decide +kernel))
theorem dX12_zero_162 : decode cX12_zero 162 = .ok (.irem, 1) := zo_112 (zkb zk_cX12_zero zn_cX12_zero (by decide +kernel))
theorem dX12_zero_163 : decode cX12_zero 163 = .ok (.ifCond .ne 15, 3) := zo_154 (b1 := 0) (b2 := 15) (zkb3 zk_cX12_zero zn_cX12_zero (by decide +kernel)) rfl
theorem dX12_zero_166 : decode cX12_zero 166 = .ok (.aload_n 0, 1) := zo_42 (zkb zk_cX12_zero zn_cX12_zero (by decide +kernel))
theorem dX12_zero_167 : decode cX12_zero 167 = .ok (.iload_n 3, 1) := zo_29 (zkb zk_cX12_zero zn_cX12_zero (by decide +kernel))
theorem dX12_zero_168 : decode cX12_zero 168 = .ok (.aload_n 0, 1) := zo_42 (zkb zk_cX12_zero zn_cX12_zero (by decide +kernel))
theorem dX12_zero_169 : decode cX12_zero 169 = .ok (.invokevirtual 256, 3) := zo_182 (b1 := 1) (b2 := 0) (zkb3 zk_cX12_zero zn_cX12_zero (by decide +kernel)) rfl
theorem dX12_zero_172 : decode cX12_zero 172 = .ok (.invokevirtual 259, 3) := zo_182 (b1 := 1) (b2 := 3) (zkb3 zk_cX12_zero zn_cX12_zero (by decide +kernel)) rfl
theorem dX12_zero_175 : decode cX12_zero 175 = .ok (.bipush 10, 2) := zo_16 (b1 := 10) (zkb2 zk_cX12_zero zn_cX12_zero (by decide +kernel)) rfl
theorem dX12_zero_177 : decode cX12_zero 177 = .ok (.ireturn, 1) := zo_172 (zkb zk_cX12_zero zn_cX12_zero (by decide +kernel))
theorem dX12_zero_178 : decode cX12_zero 178 = .ok (.iload_n 2, 1) := zo_28 (zkb zk_cX12_zero zn_cX12_zero (by decide +kernel))
theorem dX12_zero_179 : decode cX12_zero 179 = .ok (.iconst 1, 1) := zo_4 (zkb zk_cX12_zero zn_cX12_zero (by decide +kernel))
theorem dX12_zero_180 : decode cX12_zero 180 = .ok (.if_icmp .ne 107, 3) := zo_160 (b1 := 0) (b2 := 107) (zkb3 zk_cX12_zero zn_cX12_zero (by decide +kernel)) rfl
theorem dX12_zero_183 : decode cX12_zero 183 = .ok (.aload_n 0, 1) := zo_42 (zkb zk_cX12_zero zn_cX12_zero (by decide +kernel))
theorem dX12_zero_184 : decode cX12_zero 184 = .ok (.invokevirtual 183, 3) := zo_182 (b1 := 0) (b2 := 183) (zkb3 zk_cX12_zero zn_cX12_zero (by decide +kernel)) rfl
theorem dX12_zero_187 : decode cX12_zero 187 = .ok (.istore 4, 2) := zo_54 (b1 := 4) (zkb2 zk_cX12_zero zn_cX12_zero (by decide +kernel))
theorem dX12_zero_189 : decode cX12_zero 189 = .ok (.aload_n 0, 1) := zo_42 (zkb zk_cX12_zero zn_cX12_zero (by decide +kernel))
theorem dX12_zero_190 : decode cX12_zero 190 = .ok (.iload_n 3, 1) := zo_29 (zkb zk_cX12_zero zn_cX12_zero (by decide +kernel))
theorem dX12_zero_191 : decode cX12_zero 191 = .ok (.invokevirtual 262, 3) := zo_182 (b1 := 1) (b2 := 6) (zkb3 zk_cX12_zero zn_cX12_zero (by decide +kernel)) rfl
theorem dX12_zero_194 : decode cX12_zero 194 = .ok (.istore 5, 2) := zo_54 (b1 := 5) (zkb2 zk_cX12_zero zn_cX12_zero (by decide +kernel))
theorem dX12_zero_196 : decode cX12_zero 196 = .ok (.aload_n 0, 1) := zo_42 (zkb zk_cX12_zero zn_cX12_zero (by decide +kernel))
theorem dX12_zero_197 : decode cX12_zero 197 = .ok (.getfield 22, 3) := zo_180 (b1 := 0) (b2 := 22) (zkb3 zk_cX12_zero zn_cX12_zero (by decide +kernel)) rfl
theorem dX12_zero_200 : decode cX12_zero 200 = .ok (.bipush 20, 2) := zo_16 (b1 := 20) (zkb2 zk_cX12_zero zn_cX12_zero (by decide +kernel)) rfl
theorem dX12_zero_202 : decode cX12_zero 202 = .ok (.iload 4, 2) := zo_21 (b1 := 4) (zkb2 zk_cX12_zero zn_cX12_zero (by decide +kernel))
theorem dX12_zero_204 : decode cX12_zero 204 = .ok (.iconst 1, 1) := zo_4 (zkb zk_cX12_zero zn_cX12_zero (by decide +kernel))
theorem dX12_zero_205 : decode cX12_zero 205 = .ok (.iadd, 1) := zo_96 (zkb zk_cX12_zero zn_cX12_zero (by decide +kernel))
theorem dX12_zero_206 : decode cX12_zero 206 = .ok (.ldc 143, 2) := zo_18 (b1 := 143) (zkb2 zk_cX12_zero zn_cX12_zero (by decide +kernel))
theorem dX12_zero_208 : decode cX12_zero 208 = .ok (.iand, 1) := zo_126 (zkb zk_cX12_zero zn_cX12_zero (by decide +kernel))
theorem dX12_zero_209 : decode cX12_zero 209 = .ok (.iastore, 1) := zo_79 (zkb zk_cX12_zero zn_cX12_zero (by decide +kernel))
theorem dX12_zero_210 : decode cX12_zero 210 = .ok (.iload 4, 2) := zo_21 (b1 := 4) (zkb2 zk_cX12_zero zn_cX12_zero (by decide +kernel))
theorem dX12_zero_212 : decode cX12_zero 212 = .ok (.iload 5, 2) := zo_21 (b1 := 5) (zkb2 zk_cX12_zero zn_cX12_zero (by decide +kernel))
theorem dX12_zero_214 : decode cX12_zero 214 = .ok (.iadd, 1) := zo_96 (zkb zk_cX12_zero zn_cX12_zero (by decide +kernel))
theorem dX12_zero_215 : decode cX12_zero 215 = .ok (.istore 6, 2) := zo_54 (b1 := 6) (zkb2 zk_cX12_zero zn_cX12_zero (by decide +kernel))
theorem dX12_zero_217 : decode cX12_zero 217 = .ok (.aload_n 0, 1) := zo_42 (zkb zk_cX12_zero zn_cX12_zero (by decide +kernel))
theorem dX12_zero_218 : decode cX12_zero 218 = .ok (.iload 6, 2) := zo_21 (b1 := 6) (zkb2 zk_cX12_zero zn_cX12_zero (by decide +kernel))
theorem dX12_zero_220 : decode cX12_zero 220 = .ok (.invokevirtual 187, 3) := zo_182 (b1 := 0) (b2 := 187) (zkb3 zk_cX12_zero zn_cX12_zero (by decide +kernel)) rfl
theorem dX12_zero_223 : decode cX12_zero 223 = .ok (.aload_n 0, 1) := zo_42 (zkb zk_cX12_zero zn_cX12_zero (by decide +kernel))
theorem dX12_zero_224 : decode cX12_zero 224 = .ok (.iconst 4, 1) := zo_7 (zkb zk_cX12_zero zn_cX12_zero (by decide +kernel))
theorem dX12_zero_225 : decode cX12_zero 225 = .ok (.iload 4, 2) := zo_21 (b1 := 4) (zkb2 zk_cX12_zero zn_cX12_zero (by decide +kernel))
theorem dX12_zero_227 : decode cX12_zero 227 = .ok (.sipush 4095, 3) := zo_17 (b1 := 15) (b2 := 255) (zkb3 zk_cX12_zero zn_cX12_zero (by decide +kernel)) rfl
theorem dX12_zero_230 : decode cX12_zero 230 = .ok (.iand, 1) := zo_126 (zkb zk_cX12_zero zn_cX12_zero (by decide +kernel))
theorem dX12_zero_231 : decode cX12_zero 231 = .ok (.iload 5, 2) := zo_21 (b1 := 5) (zkb2 zk_cX12_zero zn_cX12_zero (by decide +kernel))
theorem dX12_zero_233 : decode cX12_zero 233 = .ok (.sipush 4095, 3) := zo_17 (b1 := 15) (b2 := 255) (zkb3 zk_cX12_zero zn_cX12_zero (by decide +kernel)) rfl
theorem dX12_zero_236 : decode cX12_zero 236 = .ok (.iand, 1) := zo_126 (zkb zk_cX12_zero zn_cX12_zero (by decide +kernel))
theorem dX12_zero_237 : decode cX12_zero 237 = .ok (.iadd, 1) := zo_96 (zkb zk_cX12_zero zn_cX12_zero (by decide +kernel))
theorem dX12_zero_238 : decode cX12_zero 238 = .ok (.sipush 4095, 3) := zo_17 (b1 := 15) (b2 := 255) (zkb3 zk_cX12_zero zn_cX12_zero (by decide +kernel)) rfl
theorem dX12_zero_241 : decode cX12_zero 241 = .ok (.if_icmp .le 7, 3) := zo_164 (b1 := 0) (b2 := 7) (zkb3 zk_cX12_zero zn_cX12_zero (by decide +kernel)) rfl
theorem dX12_zero_244 : decode cX12_zero 244 = .ok (.iconst 1, 1) := zo_4 (zkb zk_cX12_zero zn_cX12_zero (by decide +kernel))
theorem dX12_zero_245 : decode cX12_zero 245 = .ok (.goto 4, 3) := zo_167 (b1 := 0) (b2 := 4) (zkb3 zk_cX12_zero zn_cX12_zero (by decide +kernel)) rfl
theorem dX12_zero_248 : decode cX12_zero 248 = .ok (.iconst 0, 1) := zo_3 (zkb zk_cX12_zero zn_cX12_zero (by decide +kernel))
theorem dX12_zero_249 : decode cX12_zero 249 = .ok (.invokevirtual 198, 3) := zo_182 (b1 := 0) (b2 := 198) (zkb3 zk_cX12_zero zn_cX12_zero (by decide +kernel)) rfl
theorem dX12_zero_252 : decode cX12_zero 252 = .ok (.aload_n 0, 1) := zo_42 (zkb zk_cX12_zero zn_cX12_zero (by decide +kernel))
theorem dX12_zero_253 : decode cX12_zero 253 = .ok (.iconst 0, 1) := zo_3 (zkb zk_cX12_zero zn_cX12_zero (by decide +kernel))
theorem dX12_zero_254 : decode cX12_zero 254 = .ok (.iload 6, 2) := zo_21 (b1 := 6) (zkb2 zk_cX12_zero zn_cX12_zero (by decide +kernel))
theorem dX12_zero_256 : decode cX12_zero 256 = .ok (.ldc 143, 2) := zo_18 (b1 := 143) (zkb2 zk_cX12_zero zn_cX12_zero (by decide +kernel))
theorem dX12_zero_258 : decode cX12_zero 258 = .ok (.if_icmp .le 7, 3) := zo_164 (b1 := 0) (b2 := 7) (zkb3 zk_cX12_zero zn_cX12_zero (by decide +kernel)) rfl
theorem dX12_zero_261 : decode cX12_zero 261 = .ok (.iconst 1, 1) := zo_4 (zkb zk_cX12_zero zn_cX12_zero (by decide +kernel))
theorem dX12_zero_262 : decode cX12_zero 262 = .ok (.goto 4, 3) := zo_167 (b1 := 0) (b2 := 4) (zkb3 zk_cX12_zero zn_cX12_zero (by decide +kernel)) rfl
theorem dX12_zero_265 : decode cX12_zero 265 = .ok (.iconst 0, 1) := zo_3 (zkb zk_cX12_zero zn_cX12_zero (by decide +kernel))
theorem dX12_zero_266 : decode cX12_zero 266 = .ok (.invokevirtual 198, 3) := zo_182 (b1 := 0) (b2 := 198) (zkb3 zk_cX12_zero zn_cX12_zero (by decide +kernel)) rfl
theorem dX12_zero_269 : decode cX12_zero 269 = .ok (.aload_n 0, 1) := zo_42 (zkb zk_cX12_zero zn_cX12_zero (by decide +kernel))
theorem dX12_zero_270 : decode cX12_zero 270 = .ok (.iconst 1, 1) := zo_4 (zkb zk_cX12_zero zn_cX12_zero (by decide +kernel))
theorem dX12_zero_271 : decode cX12_zero 271 = .ok (.iconst 0, 1) := zo_3 (zkb zk_cX12_zero zn_cX12_zero (by decide +kernel))
theorem dX12_zero_272 : decode cX12_zero 272 = .ok (.invokevirtual 198, 3) := zo_182 (b1 := 0) (b2 := 198) (zkb3 zk_cX12_zero zn_cX12_zero (by decide +kernel)) rfl
theorem dX12_zero_275 : decode cX12_zero 275 = .ok (.aload_n 0, 1) := zo_42 (zkb zk_cX12_zero zn_cX12_zero (by decide +kernel))
theorem dX12_zero_276 : decode cX12_zero 276 = .ok (.iload 6, 2) := zo_21 (b1 := 6) (zkb2 zk_cX12_zero zn_cX12_zero (by decide +kernel))
theorem dX12_zero_278 : decode cX12_zero 278 = .ok (.bipush 8, 2) := zo_16 (b1 := 8) (zkb2 zk_cX12_zero zn_cX12_zero (by decide +kernel)) rfl
theorem dX12_zero_280 : decode cX12_zero 280 = .ok (.ishr, 1) := zo_122 (zkb zk_cX12_zero zn_cX12_zero (by decide +kernel))
theorem dX12_zero_281 : decode cX12_zero 281 = .ok (.invokevirtual 202, 3) := zo_182 (b1 := 0) (b2 := 202) (zkb3 zk_cX12_zero zn_cX12_zero (by decide +kernel)) rfl
theorem dX12_zero_284 : decode cX12_zero 284 = .ok (.bipush 11, 2) := zo_16 (b1 := 11) (zkb2 zk_cX12_zero zn_cX12_zero (by decide +kernel)) rfl
theorem dX12_zero_286 : decode cX12_zero 286 = .ok (.ireturn, 1) := zo_172 (zkb zk_cX12_zero zn_cX12_zero (by decide +kernel))
theorem dX12_zero_287 : decode cX12_zero 287 = .ok (.iload_n 2, 1) := zo_28 (zkb zk_cX12_zero zn_cX12_zero (by decide +kernel))
theorem dX12_zero_288 : decode cX12_zero 288 = .ok (.iconst 2, 1) := zo_5 (zkb zk_cX12_zero zn_cX12_zero (by decide +kernel))
theorem dX12_zero_289 : decode cX12_zero 289 = .ok (.if_icmp .ne 21, 3) := zo_160 (b1 := 0) (b2 := 21) (zkb3 zk_cX12_zero zn_cX12_zero (by decide +kernel)) rfl
theorem dX12_zero_292 : decode cX12_zero 292 = .ok (.aload_n 0, 1) := zo_42 (zkb zk_cX12_zero zn_cX12_zero (by decide +kernel))
theorem dX12_zero_293 : decode cX12_zero 293 = .ok (.iload_n 3, 1) := zo_29 (zkb zk_cX12_zero zn_cX12_zero (by decide +kernel))
theorem dX12_zero_294 : decode cX12_zero 294 = .ok (.iload_n 1, 1) := zo_27 (zkb zk_cX12_zero zn_cX12_zero (by decide +kernel))
theorem dX12_zero_295 : decode cX12_zero 295 = .ok (.iconst 2, 1) := zo_5 (zkb zk_cX12_zero zn_cX12_zero (by decide +kernel))
theorem dX12_zero_296 : decode cX12_zero 296 = .ok (.irem, 1) := zo_112 (zkb zk_cX12_zero zn_cX12_zero (by decide +kernel))
theorem dX12_zero_297 : decode cX12_zero 297 = .ok (.iconst 1, 1) := zo_4 (zkb zk_cX12_zero zn_cX12_zero (by decide +kernel))
theorem dX12_zero_298 : decode cX12_zero 298 = .ok (.if_icmp .ne 7, 3) := zo_160 (b1 := 0) (b2 := 7) (zkb3 zk_cX12_zero zn_cX12_zero (by decide +kernel)) rfl
theorem dX12_zero_301 : decode cX12_zero 301 = .ok (.iconst 1, 1) := zo_4 (zkb zk_cX12_zero zn_cX12_zero (by decide +kernel))
theorem dX12_zero_302 : decode cX12_zero 302 = .ok (.goto 4, 3) := zo_167 (b1 := 0) (b2 := 4) (zkb3 zk_cX12_zero zn_cX12_zero (by decide +kernel)) rfl
theorem dX12_zero_305 : decode cX12_zero 305 = .ok (.iconst 0, 1) := zo_3 (zkb zk_cX12_zero zn_cX12_zero (by decide +kernel))
theorem dX12_zero_306 : decode cX12_zero 306 = .ok (.invokevirtual 265, 3) := zo_182 (b1 := 1) (b2 := 9) (zkb3 zk_cX12_zero zn_cX12_zero (by decide +kernel)) rfl
theorem dX12_zero_309 : decode cX12_zero 309 = .ok (.ireturn, 1) := zo_172 (zkb zk_cX12_zero zn_cX12_zero (by decide +kernel))
theorem dX12_zero_310 : decode cX12_zero 310 = .ok (.aload_n 0, 1) := zo_42 (zkb zk_cX12_zero zn_cX12_zero (by decide +kernel))
theorem dX12_zero_311 : decode cX12_zero 311 = .ok (.iload_n 3, 1) := zo_29 (zkb zk_cX12_zero zn_cX12_zero (by decide +kernel))
theorem dX12_zero_312 : decode cX12_zero 312 = .ok (.aload_n 0, 1) := zo_42 (zkb zk_cX12_zero zn_cX12_zero (by decide +kernel))
theorem dX12_zero_313 : decode cX12_zero 313 = .ok (.iload_n 3, 1) := zo_29 (zkb zk_cX12_zero zn_cX12_zero (by decide +kernel))
theorem dX12_zero_314 : decode cX12_zero 314 = .ok (.invokevirtual 262, 3) := zo_182 (b1 := 1) (b2 := 6) (zkb3 zk_cX12_zero zn_cX12_zero (by decide +kernel)) rfl
theorem dX12_zero_317 : decode cX12_zero 317 = .ok (.iload_n 1, 1) := zo_27 (zkb zk_cX12_zero zn_cX12_zero (by decide +kernel))
theorem dX12_zero_318 : decode cX12_zero 318 = .ok (.iconst 2, 1) := zo_5 (zkb zk_cX12_zero zn_cX12_zero (by decide +kernel))
theorem dX12_zero_319 : decode cX12_zero 319 = .ok (.irem, 1) := zo_112 (zkb zk_cX12_zero zn_cX12_zero (by decide +kernel))
theorem dX12_zero_320 : decode cX12_zero 320 = .ok (.ifCond .ne 7, 3) := zo_154 (b1 := 0) (b2 := 7) (zkb3 zk_cX12_zero zn_cX12_zero (by decide +kernel)) rfl
theorem dX12_zero_323 : decode cX12_zero 323 = .ok (.iconst 1, 1) := zo_4 (zkb zk_cX12_zero zn_cX12_zero (by decide +kernel))
theorem dX12_zero_324 : decode cX12_zero 324 = .ok (.goto 4, 3) := zo_167 (b1 := 0) (b2 := 4) (zkb3 zk_cX12_zero zn_cX12_zero (by decide +kernel)) rfl
theorem dX12_zero_327 : decode cX12_zero 327 = .ok (.iconst (-1), 1) := zo_2 (zkb zk_cX12_zero zn_cX12_zero (by decide +kernel))
theorem dX12_zero_328 : decode cX12_zero 328 = .ok (.iadd, 1) := zo_96 (zkb zk_cX12_zero zn_cX12_zero (by decide +kernel))
theorem dX12_zero_329 : decode cX12_zero 329 = .ok (.invokevirtual 259, 3) := zo_182 (b1 := 1) (b2 := 3) (zkb3 zk_cX12_zero zn_cX12_zero (by decide +kernel)) rfl
theorem dX12_zero_332 : decode cX12_zero 332 = .ok (.bipush 6, 2) := zo_16 (b1 := 6) (zkb2 zk_cX12_zero zn_cX12_zero (by decide +kernel)) rfl
theorem dX12_zero_334 : decode cX12_zero 334 = .ok (.ireturn, 1) := zo_172 (zkb zk_cX12_zero zn_cX12_zero (by decide +kernel))
def kn_cX12_moves : Nat := 0xac0d100500a710100800a0051b4f7e8f1260041d0900a7807eff001160041d7808102e031600b42a17009a1c1b00a0061b14101600b42aa900b62e031600b42a1d2a0e00a74fa600b61d2a031600b42a1100991c2000a71001b6b700b62a1d2a0f00a0051b3100a7bb00b60d01b61d2a2a0f00991c1300a0051b3e0001b62aac07104f807eff001160041d7808102e031600b42a14101600b42aa900b62e031600b42a1d2a2600a74f7e8f1260041d14101600b42a4fa600b61d2a031600b42a1e00991c3eb100b6070400a70507009a1b2a5600a2051b
theorem zk_cX12_moves : zkd cX12_moves.data.toList kn_cX12_moves = true := by decide +kernel
theorem zn_cX12_moves : cX12_moves.data.toList.length = 215 := by decide +kernel
theorem dX12_moves_0 : decode cX12_moves 0 = .ok (.iload_n 1, 1) := zo_27 (zkb zk_cX12_moves zn_cX12_moves (by decide +kernel))
theorem dX12_moves_1 : decode cX12_moves 1 = .ok (.iconst 2, 1) := zo_5 (zkb zk_cX12_moves zn_cX12_moves (by decide +kernel))
theorem dX12_moves_2 : decode cX12_moves 2 = .ok (.if_icmp .ge 86, 3) := zo_162 (b1 := 0) (b2 := 86) (zkb3 zk_cX12_moves zn_cX12_moves (by decide +kernel)) rfl
theorem dX12_moves_5 : decode cX12_moves 5 = .ok (.aload_n 0, 1) := zo_42 (zkb zk_cX12_moves zn_cX12_moves (by decide +kernel))
theorem dX12_moves_6 : decode cX12_moves 6 = .ok (.iload_n 1, 1) := zo_27 (zkb zk_cX12_moves zn_cX12_moves (by decide +kernel))
theorem dX12_moves_7 : decode cX12_moves 7 = .ok (.ifCond .ne 7, 3) := zo_154 (b1 := 0) (b2 := 7) (zkb3 zk_cX12_moves zn_cX12_moves (by decide +kernel)) rfl
theorem dX12_moves_10 : decode cX12_moves 10 = .ok (.iconst 2, 1) := zo_5 (zkb zk_cX12_moves zn_cX12_moves (by decide +kernel))
theorem dX12_moves_11 : decode cX12_moves 11 = .ok (.goto 4, 3) := zo_167 (b1 := 0) (b2 := 4) (zkb3 zk_cX12_moves zn_cX12_moves (by decide +kernel)) rfl
theorem dX12_moves_14 : decode cX12_moves 14 = .ok (.iconst 4, 1) := zo_7 (zkb zk_cX12_moves zn_cX12_moves (by decide +kernel))
theorem dX12_moves_15 : decode cX12_moves 15 = .ok (.invokevirtual 177, 3) := zo_182 (b1 := 0) (b2 := 177) (zkb3 zk_cX12_moves zn_cX12_moves (by decide +kernel)) rfl
theorem dX12_moves_18 : decode cX12_moves 18 = .ok (.istore_n 3, 1) := zo_62 (zkb zk_cX12_moves zn_cX12_moves (by decide +kernel))
theorem dX12_moves_19 : decode cX12_moves 19 = .ok (.iload_n 2, 1) := zo_28 (zkb zk_cX12_moves zn_cX12_moves (by decide +kernel))
theorem dX12_moves_20 : decode cX12_moves 20 = .ok (.ifCond .eq 30, 3) := zo_153 (b1 := 0) (b2 := 30) (zkb3 zk_cX12_moves zn_cX12_moves (by decide +kernel)) rfl
theorem dX12_moves_23 : decode cX12_moves 23 = .ok (.aload_n 0, 1) := zo_42 (zkb zk_cX12_moves zn_cX12_moves (by decide +kernel))
theorem dX12_moves_24 : decode cX12_moves 24 = .ok (.getfield 22, 3) := zo_180 (b1 := 0) (b2 := 22) (zkb3 zk_cX12_moves zn_cX12_moves (by decide +kernel)) rfl
theorem dX12_moves_27 : decode cX12_moves 27 = .ok (.iconst 0, 1) := zo_3 (zkb zk_cX12_moves zn_cX12_moves (by decide +kernel))
theorem dX12_moves_28 : decode cX12_moves 28 = .ok (.aload_n 0, 1) := zo_42 (zkb zk_cX12_moves zn_cX12_moves (by decide +kernel))
theorem dX12_moves_29 : decode cX12_moves 29 = .ok (.iload_n 3, 1) := zo_29 (zkb zk_cX12_moves zn_cX12_moves (by decide +kernel))
theorem dX12_moves_30 : decode cX12_moves 30 = .ok (.invokevirtual 166, 3) := zo_182 (b1 := 0) (b2 := 166) (zkb3 zk_cX12_moves zn_cX12_moves (by decide +kernel)) rfl
theorem dX12_moves_33 : decode cX12_moves 33 = .ok (.iastore, 1) := zo_79 (zkb zk_cX12_moves zn_cX12_moves (by decide +kernel))
theorem dX12_moves_34 : decode cX12_moves 34 = .ok (.aload_n 0, 1) := zo_42 (zkb zk_cX12_moves zn_cX12_moves (by decide +kernel))
theorem dX12_moves_35 : decode cX12_moves 35 = .ok (.getfield 22, 3) := zo_180 (b1 := 0) (b2 := 22) (zkb3 zk_cX12_moves zn_cX12_moves (by decide +kernel)) rfl
theorem dX12_moves_38 : decode cX12_moves 38 = .ok (.bipush 20, 2) := zo_16 (b1 := 20) (zkb2 zk_cX12_moves zn_cX12_moves (by decide +kernel)) rfl
theorem dX12_moves_40 : decode cX12_moves 40 = .ok (.iload_n 3, 1) := zo_29 (zkb zk_cX12_moves zn_cX12_moves (by decide +kernel))
theorem dX12_moves_41 : decode cX12_moves 41 = .ok (.iconst 1, 1) := zo_4 (zkb zk_cX12_moves zn_cX12_moves (by decide +kernel))
theorem dX12_moves_42 : decode cX12_moves 42 = .ok (.iadd, 1) := zo_96 (zkb zk_cX12_moves zn_cX12_moves (by decide +kernel))
theorem dX12_moves_43 : decode cX12_moves 43 = .ok (.ldc 143, 2) := zo_18 (b1 := 143) (zkb2 zk_cX12_moves zn_cX12_moves (by decide +kernel))
theorem dX12_moves_45 : decode cX12_moves 45 = .ok (.iand, 1) := zo_126 (zkb zk_cX12_moves zn_cX12_moves (by decide +kernel))
theorem dX12_moves_46 : decode cX12_moves 46 = .ok (.iastore, 1) := zo_79 (zkb zk_cX12_moves zn_cX12_moves (by decide +kernel))
theorem dX12_moves_47 : decode cX12_moves 47 = .ok (.goto 38, 3) := zo_167 (b1 := 0) (b2 := 38) (zkb3 zk_cX12_moves zn_cX12_moves (by decide +kernel)) rfl
theorem dX12_moves_50 : decode cX12_moves 50 = .ok (.aload_n 0, 1) := zo_42 (zkb zk_cX12_moves zn_cX12_moves (by decide +kernel))
theorem dX12_moves_51 : decode cX12_moves 51 = .ok (.iload_n 3, 1) := zo_29 (zkb zk_cX12_moves zn_cX12_moves (by decide +kernel))
theorem dX12_moves_52 : decode cX12_moves 52 = .ok (.aload_n 0, 1) := zo_42 (zkb zk_cX12_moves zn_cX12_moves (by decide +kernel))
theorem dX12_moves_53 : decode cX12_moves 53 = .ok (.getfield 22, 3) := zo_180 (b1 := 0) (b2 := 22) (zkb3 zk_cX12_moves zn_cX12_moves (by decide +kernel)) rfl
theorem dX12_moves_56 : decode cX12_moves 56 = .ok (.iconst 0, 1) := zo_3 (zkb zk_cX12_moves zn_cX12_moves (by decide +kernel))
theorem dX12_moves_57 : decode cX12_moves 57 = .ok (.iaload, 1) := zo_46 (zkb zk_cX12_moves zn_cX12_moves (by decide +kernel))
theorem dX12_moves_58 : decode cX12_moves 58 = .ok (.invokevirtual 169, 3) := zo_182 (b1 := 0) (b2 := 169) (zkb3 zk_cX12_moves zn_cX12_moves (by decide +kernel)) rfl
theorem dX12_moves_61 : decode cX12_moves 61 = .ok (.aload_n 0, 1) := zo_42 (zkb zk_cX12_moves zn_cX12_moves (by decide +kernel))
theorem dX12_moves_62 : decode cX12_moves 62 = .ok (.getfield 22, 3) := zo_180 (b1 := 0) (b2 := 22) (zkb3 zk_cX12_moves zn_cX12_moves (by decide +kernel)) rfl
theorem dX12_moves_65 : decode cX12_moves 65 = .ok (.bipush 20, 2) := zo_16 (b1 := 20) (zkb2 zk_cX12_moves zn_cX12_moves (by decide +kernel)) rfl
theorem dX12_moves_67 : decode cX12_moves 67 = .ok (.aload_n 0, 1) := zo_42 (zkb zk_cX12_moves zn_cX12_moves (by decide +kernel))
theorem dX12_moves_68 : decode cX12_moves 68 = .ok (.getfield 22, 3) := zo_180 (b1 := 0) (b2 := 22) (zkb3 zk_cX12_moves zn_cX12_moves (by decide +kernel)) rfl
theorem dX12_moves_71 : decode cX12_moves 71 = .ok (.iconst 0, 1) := zo_3 (zkb zk_cX12_moves zn_cX12_moves (by decide +kernel))
theorem dX12_moves_72 : decode cX12_moves 72 = .ok (.iaload, 1) := zo_46 (zkb zk_cX12_moves zn_cX12_moves (by decide +kernel))
theorem dX12_moves_73 : decode cX12_moves 73 = .ok (.bipush 8, 2) := zo_16 (b1 := 8) (zkb2 zk_cX12_moves zn_cX12_moves (by decide +kernel)) rfl
theorem dX12_moves_75 : decode cX12_moves 75 = .ok (.ishl, 1) := zo_120 (zkb zk_cX12_moves zn_cX12_moves (by decide +kernel))
theorem dX12_moves_76 : decode cX12_moves 76 = .ok (.iload_n 3, 1) := zo_29 (zkb zk_cX12_moves zn_cX12_moves (by decide +kernel))
theorem dX12_moves_77 : decode cX12_moves 77 = .ok (.iconst 1, 1) := zo_4 (zkb zk_cX12_moves zn_cX12_moves (by decide +kernel))
theorem dX12_moves_78 : decode cX12_moves 78 = .ok (.iadd, 1) := zo_96 (zkb zk_cX12_moves zn_cX12_moves (by decide +kernel))
theorem dX12_moves_79 : decode cX12_moves 79 = .ok (.sipush 255, 3) := zo_17 (b1 := 0) (b2 := 255) (zkb3 zk_cX12_moves zn_cX12_moves (by decide +kernel)) rfl
theorem dX12_moves_82 : decode cX12_moves 82 = .ok (.iand, 1) := zo_126 (zkb zk_cX12_moves zn_cX12_moves (by decide +kernel))
theorem dX12_moves_83 : decode cX12_moves 83 = .ok (.ior, 1) := zo_128 (zkb zk_cX12_moves zn_cX12_moves (by decide +kernel))
theorem dX12_moves_84 : decode cX12_moves 84 = .ok (.iastore, 1) := zo_79 (zkb zk_cX12_moves zn_cX12_moves (by decide +kernel))
theorem dX12_moves_85 : decode cX12_moves 85 = .ok (.bipush 7, 2) := zo_16 (b1 := 7) (zkb2 zk_cX12_moves zn_cX12_moves (by decide +kernel)) rfl
theorem dX12_moves_87 : decode cX12_moves 87 = .ok (.ireturn, 1) := zo_172 (zkb zk_cX12_moves zn_cX12_moves (by decide +kernel))
theorem dX12_moves_88 : decode cX12_moves 88 = .ok (.aload_n 0, 1) := zo_42 (zkb zk_cX12_moves zn_cX12_moves (by decide +kernel))
theorem dX12_moves_89 : decode cX12_moves 89 = .ok (.invokevirtual 256, 3) := zo_182 (b1 := 1) (b2 := 0) (zkb3 zk_cX12_moves zn_cX12_moves (by decide +kernel)) rfl
theorem dX12_moves_92 : decode cX12_moves 92 = .ok (.istore_n 3, 1) := zo_62 (zkb zk_cX12_moves zn_cX12_moves (by decide +kernel))
theorem dX12_moves_93 : decode cX12_moves 93 = .ok (.iload_n 1, 1) := zo_27 (zkb zk_cX12_moves zn_cX12_moves (by decide +kernel))
theorem dX12_moves_94 : decode cX12_moves 94 = .ok (.iconst 2, 1) := zo_5 (zkb zk_cX12_moves zn_cX12_moves (by decide +kernel))
theorem dX12_moves_95 : decode cX12_moves 95 = .ok (.if_icmp .ne 19, 3) := zo_160 (b1 := 0) (b2 := 19) (zkb3 zk_cX12_moves zn_cX12_moves (by decide +kernel)) rfl
theorem dX12_moves_98 : decode cX12_moves 98 = .ok (.iload_n 2, 1) := zo_28 (zkb zk_cX12_moves zn_cX12_moves (by decide +kernel))
theorem dX12_moves_99 : decode cX12_moves 99 = .ok (.ifCond .eq 15, 3) := zo_153 (b1 := 0) (b2 := 15) (zkb3 zk_cX12_moves zn_cX12_moves (by decide +kernel)) rfl
theorem dX12_moves_102 : decode cX12_moves 102 = .ok (.aload_n 0, 1) := zo_42 (zkb zk_cX12_moves zn_cX12_moves (by decide +kernel))
theorem dX12_moves_103 : decode cX12_moves 103 = .ok (.aload_n 0, 1) := zo_42 (zkb zk_cX12_moves zn_cX12_moves (by decide +kernel))
theorem dX12_moves_104 : decode cX12_moves 104 = .ok (.iload_n 3, 1) := zo_29 (zkb zk_cX12_moves zn_cX12_moves (by decide +kernel))
theorem dX12_moves_105 : decode cX12_moves 105 = .ok (.invokevirtual 269, 3) := zo_182 (b1 := 1) (b2 := 13) (zkb3 zk_cX12_moves zn_cX12_moves (by decide +kernel)) rfl
theorem dX12_moves_108 : decode cX12_moves 108 = .ok (.invokevirtual 187, 3) := zo_182 (b1 := 0) (b2 := 187) (zkb3 zk_cX12_moves zn_cX12_moves (by decide +kernel)) rfl
theorem dX12_moves_111 : decode cX12_moves 111 = .ok (.goto 49, 3) := zo_167 (b1 := 0) (b2 := 49) (zkb3 zk_cX12_moves zn_cX12_moves (by decide +kernel)) rfl
theorem dX12_moves_114 : decode cX12_moves 114 = .ok (.iload_n 1, 1) := zo_27 (zkb zk_cX12_moves zn_cX12_moves (by decide +kernel))
theorem dX12_moves_115 : decode cX12_moves 115 = .ok (.iconst 2, 1) := zo_5 (zkb zk_cX12_moves zn_cX12_moves (by decide +kernel))
theorem dX12_moves_116 : decode cX12_moves 116 = .ok (.if_icmp .ne 15, 3) := zo_160 (b1 := 0) (b2 := 15) (zkb3 zk_cX12_moves zn_cX12_moves (by decide +kernel)) rfl
theorem dX12_moves_119 : decode cX12_moves 119 = .ok (.aload_n 0, 1) := zo_42 (zkb zk_cX12_moves zn_cX12_moves (by decide +kernel))
theorem dX12_moves_120 : decode cX12_moves 120 = .ok (.iload_n 3, 1) := zo_29 (zkb zk_cX12_moves zn_cX12_moves (by decide +kernel))
theorem dX12_moves_121 : decode cX12_moves 121 = .ok (.aload_n 0, 1) := zo_42 (zkb zk_cX12_moves zn_cX12_moves (by decide +kernel))
theorem dX12_moves_122 : decode cX12_moves 122 = .ok (.invokevirtual 183, 3) := zo_182 (b1 := 0) (b2 := 183) (zkb3 zk_cX12_moves zn_cX12_moves (by decide +kernel)) rfl
theorem dX12_moves_125 : decode cX12_moves 125 = .ok (.invokevirtual 272, 3) := zo_182 (b1 := 1) (b2 := 16) (zkb3 zk_cX12_moves zn_cX12_moves (by decide +kernel)) rfl
theorem dX12_moves_128 : decode cX12_moves 128 = .ok (.goto 32, 3) := zo_167 (b1 := 0) (b2 := 32) (zkb3 zk_cX12_moves zn_cX12_moves (by decide +kernel)) rfl
theorem dX12_moves_131 : decode cX12_moves 131 = .ok (.iload_n 2, 1) := zo_28 (zkb zk_cX12_moves zn_cX12_moves (by decide +kernel))
theorem dX12_moves_132 : decode cX12_moves 132 = .ok (.ifCond .eq 17, 3) := zo_153 (b1 := 0) (b2 := 17) (zkb3 zk_cX12_moves zn_cX12_moves (by decide +kernel)) rfl
theorem dX12_moves_135 : decode cX12_moves 135 = .ok (.aload_n 0, 1) := zo_42 (zkb zk_cX12_moves zn_cX12_moves (by decide +kernel))
theorem dX12_moves_136 : decode cX12_moves 136 = .ok (.getfield 22, 3) := zo_180 (b1 := 0) (b2 := 22) (zkb3 zk_cX12_moves zn_cX12_moves (by decide +kernel)) rfl
theorem dX12_moves_139 : decode cX12_moves 139 = .ok (.iconst 0, 1) := zo_3 (zkb zk_cX12_moves zn_cX12_moves (by decide +kernel))
theorem dX12_moves_140 : decode cX12_moves 140 = .ok (.aload_n 0, 1) := zo_42 (zkb zk_cX12_moves zn_cX12_moves (by decide +kernel))
theorem dX12_moves_141 : decode cX12_moves 141 = .ok (.iload_n 3, 1) := zo_29 (zkb zk_cX12_moves zn_cX12_moves (by decide +kernel))
theorem dX12_moves_142 : decode cX12_moves 142 = .ok (.invokevirtual 166, 3) := zo_182 (b1 := 0) (b2 := 166) (zkb3 zk_cX12_moves zn_cX12_moves (by decide +kernel)) rfl
theorem dX12_moves_145 : decode cX12_moves 145 = .ok (.iastore, 1) := zo_79 (zkb zk_cX12_moves zn_cX12_moves (by decide +kernel))
theorem dX12_moves_146 : decode cX12_moves 146 = .ok (.goto 14, 3) := zo_167 (b1 := 0) (b2 := 14) (zkb3 zk_cX12_moves zn_cX12_moves (by decide +kernel)) rfl
theorem dX12_moves_149 : decode cX12_moves 149 = .ok (.aload_n 0, 1) := zo_42 (zkb zk_cX12_moves zn_cX12_moves (by decide +kernel))
theorem dX12_moves_150 : decode cX12_moves 150 = .ok (.iload_n 3, 1) := zo_29 (zkb zk_cX12_moves zn_cX12_moves (by decide +kernel))
theorem dX12_moves_151 : decode cX12_moves 151 = .ok (.aload_n 0, 1) := zo_42 (zkb zk_cX12_moves zn_cX12_moves (by decide +kernel))
theorem dX12_moves_152 : decode cX12_moves 152 = .ok (.getfield 22, 3) := zo_180 (b1 := 0) (b2 := 22) (zkb3 zk_cX12_moves zn_cX12_moves (by decide +kernel)) rfl
theorem dX12_moves_155 : decode cX12_moves 155 = .ok (.iconst 0, 1) := zo_3 (zkb zk_cX12_moves zn_cX12_moves (by decide +kernel))
theorem dX12_moves_156 : decode cX12_moves 156 = .ok (.iaload, 1) := zo_46 (zkb zk_cX12_moves zn_cX12_moves (by decide +kernel))
theorem dX12_moves_157 : decode cX12_moves 157 = .ok (.invokevirtual 169, 3) := zo_182 (b1 := 0) (b2 := 169) (zkb3 zk_cX12_moves zn_cX12_moves (by decide +kernel)) rfl
theorem dX12_moves_160 : decode cX12_moves 160 = .ok (.aload_n 0, 1) := zo_42 (zkb zk_cX12_moves zn_cX12_moves (by decide +kernel))
theorem dX12_moves_161 : decode cX12_moves 161 = .ok (.getfield 22, 3) := zo_180 (b1 := 0) (b2 := 22) (zkb3 zk_cX12_moves zn_cX12_moves (by decide +kernel)) rfl
theorem dX12_moves_164 : decode cX12_moves 164 = .ok (.bipush 20, 2) := zo_16 (b1 := 20) (zkb2 zk_cX12_moves zn_cX12_moves (by decide +kernel)) rfl
theorem dX12_moves_166 : decode cX12_moves 166 = .ok (.iload_n 1, 1) := zo_27 (zkb zk_cX12_moves zn_cX12_moves (by decide +kernel))
theorem dX12_moves_167 : decode cX12_moves 167 = .ok (.iconst 3, 1) := zo_6 (zkb zk_cX12_moves zn_cX12_moves (by decide +kernel))
theorem dX12_moves_168 : decode cX12_moves 168 = .ok (.if_icmp .ne 27, 3) := zo_160 (b1 := 0) (b2 := 27) (zkb3 zk_cX12_moves zn_cX12_moves (by decide +kernel)) rfl
theorem dX12_moves_171 : decode cX12_moves 171 = .ok (.iload_n 2, 1) := zo_28 (zkb zk_cX12_moves zn_cX12_moves (by decide +kernel))
theorem dX12_moves_172 : decode cX12_moves 172 = .ok (.ifCond .ne 23, 3) := zo_154 (b1 := 0) (b2 := 23) (zkb3 zk_cX12_moves zn_cX12_moves (by decide +kernel)) rfl
theorem dX12_moves_175 : decode cX12_moves 175 = .ok (.aload_n 0, 1) := zo_42 (zkb zk_cX12_moves zn_cX12_moves (by decide +kernel))
theorem dX12_moves_176 : decode cX12_moves 176 = .ok (.getfield 22, 3) := zo_180 (b1 := 0) (b2 := 22) (zkb3 zk_cX12_moves zn_cX12_moves (by decide +kernel)) rfl
theorem dX12_moves_179 : decode cX12_moves 179 = .ok (.iconst 0, 1) := zo_3 (zkb zk_cX12_moves zn_cX12_moves (by decide +kernel))
theorem dX12_moves_180 : decode cX12_moves 180 = .ok (.iaload, 1) := zo_46 (zkb zk_cX12_moves zn_cX12_moves (by decide +kernel))
theorem dX12_moves_181 : decode cX12_moves 181 = .ok (.bipush 8, 2) := zo_16 (b1 := 8) (zkb2 zk_cX12_moves zn_cX12_moves (by decide +kernel)) rfl
theorem dX12_moves_183 : decode cX12_moves 183 = .ok (.ishl, 1) := zo_120 (zkb zk_cX12_moves zn_cX12_moves (by decide +kernel))
theorem dX12_moves_184 : decode cX12_moves 184 = .ok (.iload_n 3, 1) := zo_29 (zkb zk_cX12_moves zn_cX12_moves (by decide +kernel))
theorem dX12_moves_185 : decode cX12_moves 185 = .ok (.iconst 1, 1) := zo_4 (zkb zk_cX12_moves zn_cX12_moves (by decide +kernel))
theorem dX12_moves_186 : decode cX12_moves 186 = .ok (.iadd, 1) := zo_96 (zkb zk_cX12_moves zn_cX12_moves (by decide +kernel))
theorem dX12_moves_187 : decode cX12_moves 187 = .ok (.sipush 255, 3) := zo_17 (b1 := 0) (b2 := 255) (zkb3 zk_cX12_moves zn_cX12_moves (by decide +kernel)) rfl
theorem dX12_moves_190 : decode cX12_moves 190 = .ok (.iand, 1) := zo_126 (zkb zk_cX12_moves zn_cX12_moves (by decide +kernel))
theorem dX12_moves_191 : decode cX12_moves 191 = .ok (.ior, 1) := zo_128 (zkb zk_cX12_moves zn_cX12_moves (by decide +kernel))
theorem dX12_moves_192 : decode cX12_moves 192 = .ok (.goto 9, 3) := zo_167 (b1 := 0) (b2 := 9) (zkb3 zk_cX12_moves zn_cX12_moves (by decide +kernel)) rfl
theorem dX12_moves_195 : decode cX12_moves 195 = .ok (.iload_n 3, 1) := zo_29 (zkb zk_cX12_moves zn_cX12_moves (by decide +kernel))
theorem dX12_moves_196 : decode cX12_moves 196 = .ok (.iconst 1, 1) := zo_4 (zkb zk_cX12_moves zn_cX12_moves (by decide +kernel))
theorem dX12_moves_197 : decode cX12_moves 197 = .ok (.iadd, 1) := zo_96 (zkb zk_cX12_moves zn_cX12_moves (by decide +kernel))
theorem dX12_moves_198 : decode cX12_moves 198 = .ok (.ldc 143, 2) := zo_18 (b1 := 143) (zkb2 zk_cX12_moves zn_cX12_moves (by decide +kernel))
theorem dX12_moves_200 : decode cX12_moves 200 = .ok (.iand, 1) := zo_126 (zkb zk_cX12_moves zn_cX12_moves (by decide +kernel))
theorem dX12_moves_201 : decode cX12_moves 201 = .ok (.iastore, 1) := zo_79 (zkb zk_cX12_moves zn_cX12_moves (by decide +kernel))
theorem dX12_moves_202 : decode cX12_moves 202 = .ok (.iload_n 1, 1) := zo_27 (zkb zk_cX12_moves zn_cX12_moves (by decide +kernel))
theorem dX12_moves_203 : decode cX12_moves 203 = .ok (.iconst 2, 1) := zo_5 (zkb zk_cX12_moves zn_cX12_moves (by decide +kernel))
theorem dX12_moves_204 : decode cX12_moves 204 = .ok (.if_icmp .ne 8, 3) := zo_160 (b1 := 0) (b2 := 8) (zkb3 zk_cX12_moves zn_cX12_moves (by decide +kernel)) rfl
theorem dX12_moves_207 : decode cX12_moves 207 = .ok (.bipush 16, 2) := zo_16 (b1 := 16) (zkb2 zk_cX12_moves zn_cX12_moves (by decide +kernel)) rfl
theorem dX12_moves_209 : decode cX12_moves 209 = .ok (.goto 5, 3) := zo_167 (b1 := 0) (b2 := 5) (zkb3 zk_cX12_moves zn_cX12_moves (by decide +kernel)) rfl
theorem dX12_moves_212 : decode cX12_moves 212 = .ok (.bipush 13, 2) := zo_16 (b1 := 13) (zkb2 zk_cX12_moves zn_cX12_moves (by decide +kernel)) rfl
theorem dX12_moves_214 : decode cX12_moves 214 = .ok (.ireturn, 1) := zo_172 (zkb zk_cX12_moves zn_cX12_moves (by decide +kernel))
def kn_cX12_more3 : Nat := 0xac3101b611100500a710100800a0041d2a1300a72e01b6d900b62a2a0e00a0051dac11104f2e14101600b42a13101600b42ad600b62e13101600b42a2a4f0001b62a14101600b42a2a009a1dac0b10d600b60601b61d2a0800a7b100b6032a0b00a0061d2a1c009a70051bac0b102b01b6681b08102a0e00a007101cac0710eb00b6d000b62a1b2a0f00a006101cac11104f2e14101600b42a13101600b42ad600b62e13101600b42a2aac0a1006009afa00b61b2a4f0001b62a14101600b42a3500a0071c3e7a041b
theorem zk_cX12_more3 : zkd cX12_more3.data.toList kn_cX12_more3 = true := by decide +kernel
theorem zn_cX12_more3 : cX12_more3.data.toList.length = 201 := by decide +kernel
theorem dX12_more3_0 : decode cX12_more3 0 = .ok (.iload_n 1, 1) := zo_27 (zkb zk_cX12_more3 zn_cX12_more3 (by decide +kernel))
theorem dX12_more3_1 : decode cX12_more3 1 = .ok (.iconst 1, 1) := zo_4 (zkb zk_cX12_more3 zn_cX12_more3 (by decide +kernel))
theorem dX12_more3_2 : decode cX12_more3 2 = .ok (.ishr, 1) := zo_122 (zkb zk_cX12_more3 zn_cX12_more3 (by decide +kernel))
theorem dX12_more3_3 : decode cX12_more3 3 = .ok (.istore_n 3, 1) := zo_62 (zkb zk_cX12_more3 zn_cX12_more3 (by decide +kernel))
theorem dX12_more3_4 : decode cX12_more3 4 = .ok (.iload_n 2, 1) := zo_28 (zkb zk_cX12_more3 zn_cX12_more3 (by decide +kernel))
theorem dX12_more3_5 : decode cX12_more3 5 = .ok (.iconst 4, 1) := zo_7 (zkb zk_cX12_more3 zn_cX12_more3 (by decide +kernel))
theorem dX12_more3_6 : decode cX12_more3 6 = .ok (.if_icmp .ne 53, 3) := zo_160 (b1 := 0) (b2 := 53) (zkb3 zk_cX12_more3 zn_cX12_more3 (by decide +kernel)) rfl
theorem dX12_more3_9 : decode cX12_more3 9 = .ok (.aload_n 0, 1) := zo_42 (zkb zk_cX12_more3 zn_cX12_more3 (by decide +kernel))
theorem dX12_more3_10 : decode cX12_more3 10 = .ok (.getfield 22, 3) := zo_180 (b1 := 0) (b2 := 22) (zkb3 zk_cX12_more3 zn_cX12_more3 (by decide +kernel)) rfl
theorem dX12_more3_13 : decode cX12_more3 13 = .ok (.bipush 20, 2) := zo_16 (b1 := 20) (zkb2 zk_cX12_more3 zn_cX12_more3 (by decide +kernel)) rfl
theorem dX12_more3_15 : decode cX12_more3 15 = .ok (.aload_n 0, 1) := zo_42 (zkb zk_cX12_more3 zn_cX12_more3 (by decide +kernel))
theorem dX12_more3_16 : decode cX12_more3 16 = .ok (.invokevirtual 256, 3) := zo_182 (b1 := 1) (b2 := 0) (zkb3 zk_cX12_more3 zn_cX12_more3 (by decide +kernel)) rfl
theorem dX12_more3_19 : decode cX12_more3 19 = .ok (.iastore, 1) := zo_79 (zkb zk_cX12_more3 zn_cX12_more3 (by decide +kernel))
theorem dX12_more3_20 : decode cX12_more3 20 = .ok (.aload_n 0, 1) := zo_42 (zkb zk_cX12_more3 zn_cX12_more3 (by decide +kernel))
theorem dX12_more3_21 : decode cX12_more3 21 = .ok (.iload_n 1, 1) := zo_27 (zkb zk_cX12_more3 zn_cX12_more3 (by decide +kernel))
theorem dX12_more3_22 : decode cX12_more3 22 = .ok (.invokevirtual 250, 3) := zo_182 (b1 := 0) (b2 := 250) (zkb3 zk_cX12_more3 zn_cX12_more3 (by decide +kernel)) rfl
theorem dX12_more3_25 : decode cX12_more3 25 = .ok (.ifCond .ne 6, 3) := zo_154 (b1 := 0) (b2 := 6) (zkb3 zk_cX12_more3 zn_cX12_more3 (by decide +kernel)) rfl
theorem dX12_more3_28 : decode cX12_more3 28 = .ok (.bipush 10, 2) := zo_16 (b1 := 10) (zkb2 zk_cX12_more3 zn_cX12_more3 (by decide +kernel)) rfl
theorem dX12_more3_30 : decode cX12_more3 30 = .ok (.ireturn, 1) := zo_172 (zkb zk_cX12_more3 zn_cX12_more3 (by decide +kernel))
theorem dX12_more3_31 : decode cX12_more3 31 = .ok (.aload_n 0, 1) := zo_42 (zkb zk_cX12_more3 zn_cX12_more3 (by decide +kernel))
theorem dX12_more3_32 : decode cX12_more3 32 = .ok (.aload_n 0, 1) := zo_42 (zkb zk_cX12_more3 zn_cX12_more3 (by decide +kernel))
theorem dX12_more3_33 : decode cX12_more3 33 = .ok (.getfield 22, 3) := zo_180 (b1 := 0) (b2 := 22) (zkb3 zk_cX12_more3 zn_cX12_more3 (by decide +kernel)) rfl
theorem dX12_more3_36 : decode cX12_more3 36 = .ok (.bipush 19, 2) := zo_16 (b1 := 19) (zkb2 zk_cX12_more3 zn_cX12_more3 (by decide +kernel)) rfl
theorem dX12_more3_38 : decode cX12_more3 38 = .ok (.iaload, 1) := zo_46 (zkb zk_cX12_more3 zn_cX12_more3 (by decide +kernel))
theorem dX12_more3_39 : decode cX12_more3 39 = .ok (.invokevirtual 214, 3) := zo_182 (b1 := 0) (b2 := 214) (zkb3 zk_cX12_more3 zn_cX12_more3 (by decide +kernel)) rfl
theorem dX12_more3_42 : decode cX12_more3 42 = .ok (.aload_n 0, 1) := zo_42 (zkb zk_cX12_more3 zn_cX12_more3 (by decide +kernel))
theorem dX12_more3_43 : decode cX12_more3 43 = .ok (.getfield 22, 3) := zo_180 (b1 := 0) (b2 := 22) (zkb3 zk_cX12_more3 zn_cX12_more3 (by decide +kernel)) rfl
theorem dX12_more3_46 : decode cX12_more3 46 = .ok (.bipush 19, 2) := zo_16 (b1 := 19) (zkb2 zk_cX12_more3 zn_cX12_more3 (by decide +kernel)) rfl
theorem dX12_more3_48 : decode cX12_more3 48 = .ok (.aload_n 0, 1) := zo_42 (zkb zk_cX12_more3 zn_cX12_more3 (by decide +kernel))
theorem dX12_more3_49 : decode cX12_more3 49 = .ok (.getfield 22, 3) := zo_180 (b1 := 0) (b2 := 22) (zkb3 zk_cX12_more3 zn_cX12_more3 (by decide +kernel)) rfl
theorem dX12_more3_52 : decode cX12_more3 52 = .ok (.bipush 20, 2) := zo_16 (b1 := 20) (zkb2 zk_cX12_more3 zn_cX12_more3 (by decide +kernel)) rfl
theorem dX12_more3_54 : decode cX12_more3 54 = .ok (.iaload, 1) := zo_46 (zkb zk_cX12_more3 zn_cX12_more3 (by decide +kernel))
theorem dX12_more3_55 : decode cX12_more3 55 = .ok (.iastore, 1) := zo_79 (zkb zk_cX12_more3 zn_cX12_more3 (by decide +kernel))
theorem dX12_more3_56 : decode cX12_more3 56 = .ok (.bipush 17, 2) := zo_16 (b1 := 17) (zkb2 zk_cX12_more3 zn_cX12_more3 (by decide +kernel)) rfl
theorem dX12_more3_58 : decode cX12_more3 58 = .ok (.ireturn, 1) := zo_172 (zkb zk_cX12_more3 zn_cX12_more3 (by decide +kernel))
theorem dX12_more3_59 : decode cX12_more3 59 = .ok (.iload_n 2, 1) := zo_28 (zkb zk_cX12_more3 zn_cX12_more3 (by decide +kernel))
theorem dX12_more3_60 : decode cX12_more3 60 = .ok (.bipush 6, 2) := zo_16 (b1 := 6) (zkb2 zk_cX12_more3 zn_cX12_more3 (by decide +kernel)) rfl
theorem dX12_more3_62 : decode cX12_more3 62 = .ok (.if_icmp .ne 15, 3) := zo_160 (b1 := 0) (b2 := 15) (zkb3 zk_cX12_more3 zn_cX12_more3 (by decide +kernel)) rfl
theorem dX12_more3_65 : decode cX12_more3 65 = .ok (.aload_n 0, 1) := zo_42 (zkb zk_cX12_more3 zn_cX12_more3 (by decide +kernel))
theorem dX12_more3_66 : decode cX12_more3 66 = .ok (.iload_n 1, 1) := zo_27 (zkb zk_cX12_more3 zn_cX12_more3 (by decide +kernel))
theorem dX12_more3_67 : decode cX12_more3 67 = .ok (.aload_n 0, 1) := zo_42 (zkb zk_cX12_more3 zn_cX12_more3 (by decide +kernel))
theorem dX12_more3_68 : decode cX12_more3 68 = .ok (.invokevirtual 208, 3) := zo_182 (b1 := 0) (b2 := 208) (zkb3 zk_cX12_more3 zn_cX12_more3 (by decide +kernel)) rfl
theorem dX12_more3_71 : decode cX12_more3 71 = .ok (.invokevirtual 235, 3) := zo_182 (b1 := 0) (b2 := 235) (zkb3 zk_cX12_more3 zn_cX12_more3 (by decide +kernel)) rfl
theorem dX12_more3_74 : decode cX12_more3 74 = .ok (.bipush 7, 2) := zo_16 (b1 := 7) (zkb2 zk_cX12_more3 zn_cX12_more3 (by decide +kernel)) rfl
theorem dX12_more3_76 : decode cX12_more3 76 = .ok (.ireturn, 1) := zo_172 (zkb zk_cX12_more3 zn_cX12_more3 (by decide +kernel))
theorem dX12_more3_77 : decode cX12_more3 77 = .ok (.iload_n 2, 1) := zo_28 (zkb zk_cX12_more3 zn_cX12_more3 (by decide +kernel))
theorem dX12_more3_78 : decode cX12_more3 78 = .ok (.bipush 7, 2) := zo_16 (b1 := 7) (zkb2 zk_cX12_more3 zn_cX12_more3 (by decide +kernel)) rfl
theorem dX12_more3_80 : decode cX12_more3 80 = .ok (.if_icmp .ne 14, 3) := zo_160 (b1 := 0) (b2 := 14) (zkb3 zk_cX12_more3 zn_cX12_more3 (by decide +kernel)) rfl
theorem dX12_more3_83 : decode cX12_more3 83 = .ok (.aload_n 0, 1) := zo_42 (zkb zk_cX12_more3 zn_cX12_more3 (by decide +kernel))
theorem dX12_more3_84 : decode cX12_more3 84 = .ok (.bipush 8, 2) := zo_16 (b1 := 8) (zkb2 zk_cX12_more3 zn_cX12_more3 (by decide +kernel)) rfl
theorem dX12_more3_86 : decode cX12_more3 86 = .ok (.iload_n 1, 1) := zo_27 (zkb zk_cX12_more3 zn_cX12_more3 (by decide +kernel))
theorem dX12_more3_87 : decode cX12_more3 87 = .ok (.imul, 1) := zo_104 (zkb zk_cX12_more3 zn_cX12_more3 (by decide +kernel))
theorem dX12_more3_88 : decode cX12_more3 88 = .ok (.invokevirtual 299, 3) := zo_182 (b1 := 1) (b2 := 43) (zkb3 zk_cX12_more3 zn_cX12_more3 (by decide +kernel)) rfl
theorem dX12_more3_91 : decode cX12_more3 91 = .ok (.bipush 11, 2) := zo_16 (b1 := 11) (zkb2 zk_cX12_more3 zn_cX12_more3 (by decide +kernel)) rfl
theorem dX12_more3_93 : decode cX12_more3 93 = .ok (.ireturn, 1) := zo_172 (zkb zk_cX12_more3 zn_cX12_more3 (by decide +kernel))
theorem dX12_more3_94 : decode cX12_more3 94 = .ok (.iload_n 1, 1) := zo_27 (zkb zk_cX12_more3 zn_cX12_more3 (by decide +kernel))
theorem dX12_more3_95 : decode cX12_more3 95 = .ok (.iconst 2, 1) := zo_5 (zkb zk_cX12_more3 zn_cX12_more3 (by decide +kernel))
theorem dX12_more3_96 : decode cX12_more3 96 = .ok (.irem, 1) := zo_112 (zkb zk_cX12_more3 zn_cX12_more3 (by decide +kernel))
theorem dX12_more3_97 : decode cX12_more3 97 = .ok (.ifCond .ne 28, 3) := zo_154 (b1 := 0) (b2 := 28) (zkb3 zk_cX12_more3 zn_cX12_more3 (by decide +kernel)) rfl
theorem dX12_more3_100 : decode cX12_more3 100 = .ok (.aload_n 0, 1) := zo_42 (zkb zk_cX12_more3 zn_cX12_more3 (by decide +kernel))
theorem dX12_more3_101 : decode cX12_more3 101 = .ok (.iload_n 3, 1) := zo_29 (zkb zk_cX12_more3 zn_cX12_more3 (by decide +kernel))
theorem dX12_more3_102 : decode cX12_more3 102 = .ok (.iconst 3, 1) := zo_6 (zkb zk_cX12_more3 zn_cX12_more3 (by decide +kernel))
theorem dX12_more3_103 : decode cX12_more3 103 = .ok (.if_icmp .ne 11, 3) := zo_160 (b1 := 0) (b2 := 11) (zkb3 zk_cX12_more3 zn_cX12_more3 (by decide +kernel)) rfl
theorem dX12_more3_106 : decode cX12_more3 106 = .ok (.aload_n 0, 1) := zo_42 (zkb zk_cX12_more3 zn_cX12_more3 (by decide +kernel))
theorem dX12_more3_107 : decode cX12_more3 107 = .ok (.iconst 0, 1) := zo_3 (zkb zk_cX12_more3 zn_cX12_more3 (by decide +kernel))
theorem dX12_more3_108 : decode cX12_more3 108 = .ok (.invokevirtual 177, 3) := zo_182 (b1 := 0) (b2 := 177) (zkb3 zk_cX12_more3 zn_cX12_more3 (by decide +kernel)) rfl
theorem dX12_more3_111 : decode cX12_more3 111 = .ok (.goto 8, 3) := zo_167 (b1 := 0) (b2 := 8) (zkb3 zk_cX12_more3 zn_cX12_more3 (by decide +kernel)) rfl
theorem dX12_more3_114 : decode cX12_more3 114 = .ok (.aload_n 0, 1) := zo_42 (zkb zk_cX12_more3 zn_cX12_more3 (by decide +kernel))
theorem dX12_more3_115 : decode cX12_more3 115 = .ok (.iload_n 3, 1) := zo_29 (zkb zk_cX12_more3 zn_cX12_more3 (by decide +kernel))
theorem dX12_more3_116 : decode cX12_more3 116 = .ok (.invokevirtual 262, 3) := zo_182 (b1 := 1) (b2 := 6) (zkb3 zk_cX12_more3 zn_cX12_more3 (by decide +kernel)) rfl
theorem dX12_more3_119 : decode cX12_more3 119 = .ok (.invokevirtual 214, 3) := zo_182 (b1 := 0) (b2 := 214) (zkb3 zk_cX12_more3 zn_cX12_more3 (by decide +kernel)) rfl
theorem dX12_more3_122 : decode cX12_more3 122 = .ok (.bipush 11, 2) := zo_16 (b1 := 11) (zkb2 zk_cX12_more3 zn_cX12_more3 (by decide +kernel)) rfl
theorem dX12_more3_124 : decode cX12_more3 124 = .ok (.ireturn, 1) := zo_172 (zkb zk_cX12_more3 zn_cX12_more3 (by decide +kernel))
theorem dX12_more3_125 : decode cX12_more3 125 = .ok (.iload_n 3, 1) := zo_29 (zkb zk_cX12_more3 zn_cX12_more3 (by decide +kernel))
theorem dX12_more3_126 : decode cX12_more3 126 = .ok (.ifCond .ne 42, 3) := zo_154 (b1 := 0) (b2 := 42) (zkb3 zk_cX12_more3 zn_cX12_more3 (by decide +kernel)) rfl
theorem dX12_more3_129 : decode cX12_more3 129 = .ok (.aload_n 0, 1) := zo_42 (zkb zk_cX12_more3 zn_cX12_more3 (by decide +kernel))
theorem dX12_more3_130 : decode cX12_more3 130 = .ok (.getfield 22, 3) := zo_180 (b1 := 0) (b2 := 22) (zkb3 zk_cX12_more3 zn_cX12_more3 (by decide +kernel)) rfl
theorem dX12_more3_133 : decode cX12_more3 133 = .ok (.bipush 20, 2) := zo_16 (b1 := 20) (zkb2 zk_cX12_more3 zn_cX12_more3 (by decide +kernel)) rfl
theorem dX12_more3_135 : decode cX12_more3 135 = .ok (.aload_n 0, 1) := zo_42 (zkb zk_cX12_more3 zn_cX12_more3 (by decide +kernel))
theorem dX12_more3_136 : decode cX12_more3 136 = .ok (.invokevirtual 256, 3) := zo_182 (b1 := 1) (b2 := 0) (zkb3 zk_cX12_more3 zn_cX12_more3 (by decide +kernel)) rfl
theorem dX12_more3_139 : decode cX12_more3 139 = .ok (.iastore, 1) := zo_79 (zkb zk_cX12_more3 zn_cX12_more3 (by decide +kernel))
theorem dX12_more3_140 : decode cX12_more3 140 = .ok (.aload_n 0, 1) := zo_42 (zkb zk_cX12_more3 zn_cX12_more3 (by decide +kernel))
theorem dX12_more3_141 : decode cX12_more3 141 = .ok (.aload_n 0, 1) := zo_42 (zkb zk_cX12_more3 zn_cX12_more3 (by decide +kernel))
theorem dX12_more3_142 : decode cX12_more3 142 = .ok (.getfield 22, 3) := zo_180 (b1 := 0) (b2 := 22) (zkb3 zk_cX12_more3 zn_cX12_more3 (by decide +kernel)) rfl
theorem dX12_more3_145 : decode cX12_more3 145 = .ok (.bipush 19, 2) := zo_16 (b1 := 19) (zkb2 zk_cX12_more3 zn_cX12_more3 (by decide +kernel)) rfl
theorem dX12_more3_147 : decode cX12_more3 147 = .ok (.iaload, 1) := zo_46 (zkb zk_cX12_more3 zn_cX12_more3 (by decide +kernel))
theorem dX12_more3_148 : decode cX12_more3 148 = .ok (.invokevirtual 214, 3) := zo_182 (b1 := 0) (b2 := 214) (zkb3 zk_cX12_more3 zn_cX12_more3 (by decide +kernel)) rfl
theorem dX12_more3_151 : decode cX12_more3 151 = .ok (.aload_n 0, 1) := zo_42 (zkb zk_cX12_more3 zn_cX12_more3 (by decide +kernel))
theorem dX12_more3_152 : decode cX12_more3 152 = .ok (.getfield 22, 3) := zo_180 (b1 := 0) (b2 := 22) (zkb3 zk_cX12_more3 zn_cX12_more3 (by decide +kernel)) rfl
theorem dX12_more3_155 : decode cX12_more3 155 = .ok (.bipush 19, 2) := zo_16 (b1 := 19) (zkb2 zk_cX12_more3 zn_cX12_more3 (by decide +kernel)) rfl
theorem dX12_more3_157 : decode cX12_more3 157 = .ok (.aload_n 0, 1) := zo_42 (zkb zk_cX12_more3 zn_cX12_more3 (by decide +kernel))
theorem dX12_more3_158 : decode cX12_more3 158 = .ok (.getfield 22, 3) := zo_180 (b1 := 0) (b2 := 22) (zkb3 zk_cX12_more3 zn_cX12_more3 (by decide +kernel)) rfl
theorem dX12_more3_161 : decode cX12_more3 161 = .ok (.bipush 20, 2) := zo_16 (b1 := 20) (zkb2 zk_cX12_more3 zn_cX12_more3 (by decide +kernel)) rfl
theorem dX12_more3_163 : decode cX12_more3 163 = .ok (.iaload, 1) := zo_46 (zkb zk_cX12_more3 zn_cX12_more3 (by decide +kernel))
theorem dX12_more3_164 : decode cX12_more3 164 = .ok (.iastore, 1) := zo_79 (zkb zk_cX12_more3 zn_cX12_more3 (by decide +kernel))
theorem dX12_more3_165 : decode cX12_more3 165 = .ok (.bipush 17, 2) := zo_16 (b1 := 17) (zkb2 zk_cX12_more3 zn_cX12_more3 (by decide +kernel)) rfl
theorem dX12_more3_167 : decode cX12_more3 167 = .ok (.ireturn, 1) := zo_172 (zkb zk_cX12_more3 zn_cX12_more3 (by decide +kernel))
theorem dX12_more3_168 : decode cX12_more3 168 = .ok (.iload_n 3, 1) := zo_29 (zkb zk_cX12_more3 zn_cX12_more3 (by decide +kernel))
theorem dX12_more3_169 : decode cX12_more3 169 = .ok (.iconst 2, 1) := zo_5 (zkb zk_cX12_more3 zn_cX12_more3 (by decide +kernel))
theorem dX12_more3_170 : decode cX12_more3 170 = .ok (.if_icmp .ne 14, 3) := zo_160 (b1 := 0) (b2 := 14) (zkb3 zk_cX12_more3 zn_cX12_more3 (by decide +kernel)) rfl
theorem dX12_more3_173 : decode cX12_more3 173 = .ok (.aload_n 0, 1) := zo_42 (zkb zk_cX12_more3 zn_cX12_more3 (by decide +kernel))
theorem dX12_more3_174 : decode cX12_more3 174 = .ok (.aload_n 0, 1) := zo_42 (zkb zk_cX12_more3 zn_cX12_more3 (by decide +kernel))
theorem dX12_more3_175 : decode cX12_more3 175 = .ok (.invokevirtual 217, 3) := zo_182 (b1 := 0) (b2 := 217) (zkb3 zk_cX12_more3 zn_cX12_more3 (by decide +kernel)) rfl
theorem dX12_more3_178 : decode cX12_more3 178 = .ok (.invokevirtual 302, 3) := zo_182 (b1 := 1) (b2 := 46) (zkb3 zk_cX12_more3 zn_cX12_more3 (by decide +kernel)) rfl
theorem dX12_more3_181 : decode cX12_more3 181 = .ok (.goto 19, 3) := zo_167 (b1 := 0) (b2 := 19) (zkb3 zk_cX12_more3 zn_cX12_more3 (by decide +kernel)) rfl
theorem dX12_more3_184 : decode cX12_more3 184 = .ok (.aload_n 0, 1) := zo_42 (zkb zk_cX12_more3 zn_cX12_more3 (by decide +kernel))
theorem dX12_more3_185 : decode cX12_more3 185 = .ok (.iload_n 3, 1) := zo_29 (zkb zk_cX12_more3 zn_cX12_more3 (by decide +kernel))
theorem dX12_more3_186 : decode cX12_more3 186 = .ok (.iconst 1, 1) := zo_4 (zkb zk_cX12_more3 zn_cX12_more3 (by decide +kernel))
theorem dX12_more3_187 : decode cX12_more3 187 = .ok (.if_icmp .ne 8, 3) := zo_160 (b1 := 0) (b2 := 8) (zkb3 zk_cX12_more3 zn_cX12_more3 (by decide +kernel)) rfl
theorem dX12_more3_190 : decode cX12_more3 190 = .ok (.bipush 16, 2) := zo_16 (b1 := 16) (zkb2 zk_cX12_more3 zn_cX12_more3 (by decide +kernel)) rfl
theorem dX12_more3_192 : decode cX12_more3 192 = .ok (.goto 5, 3) := zo_167 (b1 := 0) (b2 := 5) (zkb3 zk_cX12_more3 zn_cX12_more3 (by decide +kernel)) rfl
theorem dX12_more3_195 : decode cX12_more3 195 = .ok (.bipush 17, 2) := zo_16 (b1 := 17) (zkb2 zk_cX12_more3 zn_cX12_more3 (by decide +kernel)) rfl
theorem dX12_more3_197 : decode cX12_more3 197 = .ok (.invokevirtual 305, 3) := zo_182 (b1 := 1) (b2 := 49) (zkb3 zk_cX12_more3 zn_cX12_more3 (by decide +kernel)) rfl
theorem dX12_more3_200 : decode cX12_more3 200 = .ok (.ireturn, 1) := zo_172 (zkb zk_cX12_more3 zn_cX12_more3 (by decide +kernel))
def kn_cX12_prefixed : Nat := 0xac600c100500a709100800a036101ddc00b61d2abf00b5042a4f7e8f1260f700b8d000b62a2e1b1600b42a14101600b42aac6007dc00b61d2aae00b51b2a10009a07150736030400a7040700a0061005150e00a00506151000a076101d0900a0061005150a009f061004151700a00406152a009f061004150a00a2071005151100a406051517009a061506367a06101d05367e07101d04367e07107a061dac60081005150800a714100800a0047a06100415e800b63701b42a7e071004152abf00b5032a15009f06107e071004151f009f047a0610041505363401b604152a0436d000b62abf00b5042a4f7e8f1260f700b8d000b62a2e1b1600b42a14101600b42a6700a0cb00111d3ed900b62aac074f041b101600b42a0d00a0fd00111c0a009fed00111c11009fdd00111c3da600b62e13101600b42a2a
theorem zk_cX12_prefixed : zkd cX12_prefixed.data.toList kn_cX12_prefixed = true := by decide +kernel
theorem zn_cX12_prefixed : cX12_prefixed.data.toList.length = 313 := by decide +kernel
theorem dX12_prefixed_0 : decode cX12_prefixed 0 = .ok (.aload_n 0, 1) := zo_42 (zkb zk_cX12_prefixed zn_cX12_prefixed (by decide +kernel))
theorem dX12_prefixed_1 : decode cX12_prefixed 1 = .ok (.aload_n 0, 1) := zo_42 (zkb zk_cX12_prefixed zn_cX12_prefixed (by decide +kernel))
theorem dX12_prefixed_2 : decode cX12_prefixed 2 = .ok (.getfield 22, 3) := zo_180 (b1 := 0) (b2 := 22) (zkb3 zk_cX12_prefixed zn_cX12_prefixed (by decide +kernel)) rfl
theorem dX12_prefixed_5 : decode cX12_prefixed 5 = .ok (.bipush 19, 2) := zo_16 (b1 := 19) (zkb2 zk_cX12_prefixed zn_cX12_prefixed (by decide +kernel)) rfl
theorem dX12_prefixed_7 : decode cX12_prefixed 7 = .ok (.iaload, 1) := zo_46 (zkb zk_cX12_prefixed zn_cX12_prefixed (by decide +kernel))
theorem dX12_prefixed_8 : decode cX12_prefixed 8 = .ok (.invokevirtual 166, 3) := zo_182 (b1 := 0) (b2 := 166) (zkb3 zk_cX12_prefixed zn_cX12_prefixed (by decide +kernel)) rfl
theorem dX12_prefixed_11 : decode cX12_prefixed 11 = .ok (.istore_n 2, 1) := zo_61 (zkb zk_cX12_prefixed zn_cX12_prefixed (by decide +kernel))
theorem dX12_prefixed_12 : decode cX12_prefixed 12 = .ok (.iload_n 2, 1) := zo_28 (zkb zk_cX12_prefixed zn_cX12_prefixed (by decide +kernel))
theorem dX12_prefixed_13 : decode cX12_prefixed 13 = .ok (.sipush 221, 3) := zo_17 (b1 := 0) (b2 := 221) (zkb3 zk_cX12_prefixed zn_cX12_prefixed (by decide +kernel)) rfl
theorem dX12_prefixed_16 : decode cX12_prefixed 16 = .ok (.if_icmp .eq 17, 3) := zo_159 (b1 := 0) (b2 := 17) (zkb3 zk_cX12_prefixed zn_cX12_prefixed (by decide +kernel)) rfl
theorem dX12_prefixed_19 : decode cX12_prefixed 19 = .ok (.iload_n 2, 1) := zo_28 (zkb zk_cX12_prefixed zn_cX12_prefixed (by decide +kernel))
theorem dX12_prefixed_20 : decode cX12_prefixed 20 = .ok (.sipush 237, 3) := zo_17 (b1 := 0) (b2 := 237) (zkb3 zk_cX12_prefixed zn_cX12_prefixed (by decide +kernel)) rfl
theorem dX12_prefixed_23 : decode cX12_prefixed 23 = .ok (.if_icmp .eq 10, 3) := zo_159 (b1 := 0) (b2 := 10) (zkb3 zk_cX12_prefixed zn_cX12_prefixed (by decide +kernel)) rfl
theorem dX12_prefixed_26 : decode cX12_prefixed 26 = .ok (.iload_n 2, 1) := zo_28 (zkb zk_cX12_prefixed zn_cX12_prefixed (by decide +kernel))
theorem dX12_prefixed_27 : decode cX12_prefixed 27 = .ok (.sipush 253, 3) := zo_17 (b1 := 0) (b2 := 253) (zkb3 zk_cX12_prefixed zn_cX12_prefixed (by decide +kernel)) rfl
theorem dX12_prefixed_30 : decode cX12_prefixed 30 = .ok (.if_icmp .ne 13, 3) := zo_160 (b1 := 0) (b2 := 13) (zkb3 zk_cX12_prefixed zn_cX12_prefixed (by decide +kernel)) rfl
theorem dX12_prefixed_33 : decode cX12_prefixed 33 = .ok (.aload_n 0, 1) := zo_42 (zkb zk_cX12_prefixed zn_cX12_prefixed (by decide +kernel))
theorem dX12_prefixed_34 : decode cX12_prefixed 34 = .ok (.getfield 22, 3) := zo_180 (b1 := 0) (b2 := 22) (zkb3 zk_cX12_prefixed zn_cX12_prefixed (by decide +kernel)) rfl
theorem dX12_prefixed_37 : decode cX12_prefixed 37 = .ok (.bipush 27, 2) := zo_16 (b1 := 27) (zkb2 zk_cX12_prefixed zn_cX12_prefixed (by decide +kernel)) rfl
theorem dX12_prefixed_39 : decode cX12_prefixed 39 = .ok (.iconst 1, 1) := zo_4 (zkb zk_cX12_prefixed zn_cX12_prefixed (by decide +kernel))
theorem dX12_prefixed_40 : decode cX12_prefixed 40 = .ok (.iastore, 1) := zo_79 (zkb zk_cX12_prefixed zn_cX12_prefixed (by decide +kernel))
theorem dX12_prefixed_41 : decode cX12_prefixed 41 = .ok (.iconst 4, 1) := zo_7 (zkb zk_cX12_prefixed zn_cX12_prefixed (by decide +kernel))
theorem dX12_prefixed_42 : decode cX12_prefixed 42 = .ok (.ireturn, 1) := zo_172 (zkb zk_cX12_prefixed zn_cX12_prefixed (by decide +kernel))
theorem dX12_prefixed_43 : decode cX12_prefixed 43 = .ok (.aload_n 0, 1) := zo_42 (zkb zk_cX12_prefixed zn_cX12_prefixed (by decide +kernel))
theorem dX12_prefixed_44 : decode cX12_prefixed 44 = .ok (.invokevirtual 217, 3) := zo_182 (b1 := 0) (b2 := 217) (zkb3 zk_cX12_prefixed zn_cX12_prefixed (by decide +kernel)) rfl
theorem dX12_prefixed_47 : decode cX12_prefixed 47 = .ok (.istore_n 3, 1) := zo_62 (zkb zk_cX12_prefixed zn_cX12_prefixed (by decide +kernel))
theorem dX12_prefixed_48 : decode cX12_prefixed 48 = .ok (.iload_n 3, 1) := zo_29 (zkb zk_cX12_prefixed zn_cX12_prefixed (by decide +kernel))
theorem dX12_prefixed_49 : decode cX12_prefixed 49 = .ok (.sipush 203, 3) := zo_17 (b1 := 0) (b2 := 203) (zkb3 zk_cX12_prefixed zn_cX12_prefixed (by decide +kernel)) rfl
theorem dX12_prefixed_52 : decode cX12_prefixed 52 = .ok (.if_icmp .ne 103, 3) := zo_160 (b1 := 0) (b2 := 103) (zkb3 zk_cX12_prefixed zn_cX12_prefixed (by decide +kernel)) rfl
theorem dX12_prefixed_55 : decode cX12_prefixed 55 = .ok (.aload_n 0, 1) := zo_42 (zkb zk_cX12_prefixed zn_cX12_prefixed (by decide +kernel))
theorem dX12_prefixed_56 : decode cX12_prefixed 56 = .ok (.getfield 22, 3) := zo_180 (b1 := 0) (b2 := 22) (zkb3 zk_cX12_prefixed zn_cX12_prefixed (by decide +kernel)) rfl
theorem dX12_prefixed_59 : decode cX12_prefixed 59 = .ok (.bipush 20, 2) := zo_16 (b1 := 20) (zkb2 zk_cX12_prefixed zn_cX12_prefixed (by decide +kernel)) rfl
theorem dX12_prefixed_61 : decode cX12_prefixed 61 = .ok (.aload_n 0, 1) := zo_42 (zkb zk_cX12_prefixed zn_cX12_prefixed (by decide +kernel))
theorem dX12_prefixed_62 : decode cX12_prefixed 62 = .ok (.getfield 22, 3) := zo_180 (b1 := 0) (b2 := 22) (zkb3 zk_cX12_prefixed zn_cX12_prefixed (by decide +kernel)) rfl
theorem dX12_prefixed_65 : decode cX12_prefixed 65 = .ok (.iload_n 1, 1) := zo_27 (zkb zk_cX12_prefixed zn_cX12_prefixed (by decide +kernel))
theorem dX12_prefixed_66 : decode cX12_prefixed 66 = .ok (.iaload, 1) := zo_46 (zkb zk_cX12_prefixed zn_cX12_prefixed (by decide +kernel))
theorem dX12_prefixed_67 : decode cX12_prefixed 67 = .ok (.aload_n 0, 1) := zo_42 (zkb zk_cX12_prefixed zn_cX12_prefixed (by decide +kernel))
theorem dX12_prefixed_68 : decode cX12_prefixed 68 = .ok (.invokevirtual 208, 3) := zo_182 (b1 := 0) (b2 := 208) (zkb3 zk_cX12_prefixed zn_cX12_prefixed (by decide +kernel)) rfl
theorem dX12_prefixed_71 : decode cX12_prefixed 71 = .ok (.invokestatic 247, 3) := zo_184 (b1 := 0) (b2 := 247) (zkb3 zk_cX12_prefixed zn_cX12_prefixed (by decide +kernel)) rfl
theorem dX12_prefixed_74 : decode cX12_prefixed 74 = .ok (.iadd, 1) := zo_96 (zkb zk_cX12_prefixed zn_cX12_prefixed (by decide +kernel))
theorem dX12_prefixed_75 : decode cX12_prefixed 75 = .ok (.ldc 143, 2) := zo_18 (b1 := 143) (zkb2 zk_cX12_prefixed zn_cX12_prefixed (by decide +kernel))
theorem dX12_prefixed_77 : decode cX12_prefixed 77 = .ok (.iand, 1) := zo_126 (zkb zk_cX12_prefixed zn_cX12_prefixed (by decide +kernel))
theorem dX12_prefixed_78 : decode cX12_prefixed 78 = .ok (.iastore, 1) := zo_79 (zkb zk_cX12_prefixed zn_cX12_prefixed (by decide +kernel))
theorem dX12_prefixed_79 : decode cX12_prefixed 79 = .ok (.aload_n 0, 1) := zo_42 (zkb zk_cX12_prefixed zn_cX12_prefixed (by decide +kernel))
theorem dX12_prefixed_80 : decode cX12_prefixed 80 = .ok (.iconst 1, 1) := zo_4 (zkb zk_cX12_prefixed zn_cX12_prefixed (by decide +kernel))
theorem dX12_prefixed_81 : decode cX12_prefixed 81 = .ok (.putfield 191, 3) := zo_181 (b1 := 0) (b2 := 191) (zkb3 zk_cX12_prefixed zn_cX12_prefixed (by decide +kernel)) rfl
theorem dX12_prefixed_84 : decode cX12_prefixed 84 = .ok (.aload_n 0, 1) := zo_42 (zkb zk_cX12_prefixed zn_cX12_prefixed (by decide +kernel))
theorem dX12_prefixed_85 : decode cX12_prefixed 85 = .ok (.invokevirtual 208, 3) := zo_182 (b1 := 0) (b2 := 208) (zkb3 zk_cX12_prefixed zn_cX12_prefixed (by decide +kernel)) rfl
theorem dX12_prefixed_88 : decode cX12_prefixed 88 = .ok (.istore 4, 2) := zo_54 (b1 := 4) (zkb2 zk_cX12_prefixed zn_cX12_prefixed (by decide +kernel))
theorem dX12_prefixed_90 : decode cX12_prefixed 90 = .ok (.aload_n 0, 1) := zo_42 (zkb zk_cX12_prefixed zn_cX12_prefixed (by decide +kernel))
theorem dX12_prefixed_91 : decode cX12_prefixed 91 = .ok (.iload 4, 2) := zo_21 (b1 := 4) (zkb2 zk_cX12_prefixed zn_cX12_prefixed (by decide +kernel))
theorem dX12_prefixed_93 : decode cX12_prefixed 93 = .ok (.invokevirtual 308, 3) := zo_182 (b1 := 1) (b2 := 52) (zkb3 zk_cX12_prefixed zn_cX12_prefixed (by decide +kernel)) rfl
theorem dX12_prefixed_96 : decode cX12_prefixed 96 = .ok (.istore 5, 2) := zo_54 (b1 := 5) (zkb2 zk_cX12_prefixed zn_cX12_prefixed (by decide +kernel))
theorem dX12_prefixed_98 : decode cX12_prefixed 98 = .ok (.iload 4, 2) := zo_21 (b1 := 4) (zkb2 zk_cX12_prefixed zn_cX12_prefixed (by decide +kernel))
theorem dX12_prefixed_100 : decode cX12_prefixed 100 = .ok (.bipush 6, 2) := zo_16 (b1 := 6) (zkb2 zk_cX12_prefixed zn_cX12_prefixed (by decide +kernel)) rfl
theorem dX12_prefixed_102 : decode cX12_prefixed 102 = .ok (.ishr, 1) := zo_122 (zkb zk_cX12_prefixed zn_cX12_prefixed (by decide +kernel))
theorem dX12_prefixed_103 : decode cX12_prefixed 103 = .ok (.iconst 1, 1) := zo_4 (zkb zk_cX12_prefixed zn_cX12_prefixed (by decide +kernel))
theorem dX12_prefixed_104 : decode cX12_prefixed 104 = .ok (.if_icmp .eq 31, 3) := zo_159 (b1 := 0) (b2 := 31) (zkb3 zk_cX12_prefixed zn_cX12_prefixed (by decide +kernel)) rfl
theorem dX12_prefixed_107 : decode cX12_prefixed 107 = .ok (.iload 4, 2) := zo_21 (b1 := 4) (zkb2 zk_cX12_prefixed zn_cX12_prefixed (by decide +kernel))
theorem dX12_prefixed_109 : decode cX12_prefixed 109 = .ok (.bipush 7, 2) := zo_16 (b1 := 7) (zkb2 zk_cX12_prefixed zn_cX12_prefixed (by decide +kernel)) rfl
theorem dX12_prefixed_111 : decode cX12_prefixed 111 = .ok (.iand, 1) := zo_126 (zkb zk_cX12_prefixed zn_cX12_prefixed (by decide +kernel))
theorem dX12_prefixed_112 : decode cX12_prefixed 112 = .ok (.bipush 6, 2) := zo_16 (b1 := 6) (zkb2 zk_cX12_prefixed zn_cX12_prefixed (by decide +kernel)) rfl
theorem dX12_prefixed_114 : decode cX12_prefixed 114 = .ok (.if_icmp .eq 21, 3) := zo_159 (b1 := 0) (b2 := 21) (zkb3 zk_cX12_prefixed zn_cX12_prefixed (by decide +kernel)) rfl
theorem dX12_prefixed_117 : decode cX12_prefixed 117 = .ok (.aload_n 0, 1) := zo_42 (zkb zk_cX12_prefixed zn_cX12_prefixed (by decide +kernel))
theorem dX12_prefixed_118 : decode cX12_prefixed 118 = .ok (.iconst 0, 1) := zo_3 (zkb zk_cX12_prefixed zn_cX12_prefixed (by decide +kernel))
theorem dX12_prefixed_119 : decode cX12_prefixed 119 = .ok (.putfield 191, 3) := zo_181 (b1 := 0) (b2 := 191) (zkb3 zk_cX12_prefixed zn_cX12_prefixed (by decide +kernel)) rfl
theorem dX12_prefixed_122 : decode cX12_prefixed 122 = .ok (.aload_n 0, 1) := zo_42 (zkb zk_cX12_prefixed zn_cX12_prefixed (by decide +kernel))
theorem dX12_prefixed_123 : decode cX12_prefixed 123 = .ok (.iload 4, 2) := zo_21 (b1 := 4) (zkb2 zk_cX12_prefixed zn_cX12_prefixed (by decide +kernel))
theorem dX12_prefixed_125 : decode cX12_prefixed 125 = .ok (.bipush 7, 2) := zo_16 (b1 := 7) (zkb2 zk_cX12_prefixed zn_cX12_prefixed (by decide +kernel)) rfl
theorem dX12_prefixed_127 : decode cX12_prefixed 127 = .ok (.iand, 1) := zo_126 (zkb zk_cX12_prefixed zn_cX12_prefixed (by decide +kernel))
theorem dX12_prefixed_128 : decode cX12_prefixed 128 = .ok (.aload_n 0, 1) := zo_42 (zkb zk_cX12_prefixed zn_cX12_prefixed (by decide +kernel))
theorem dX12_prefixed_129 : decode cX12_prefixed 129 = .ok (.getfield 311, 3) := zo_180 (b1 := 1) (b2 := 55) (zkb3 zk_cX12_prefixed zn_cX12_prefixed (by decide +kernel)) rfl
theorem dX12_prefixed_132 : decode cX12_prefixed 132 = .ok (.invokevirtual 232, 3) := zo_182 (b1 := 0) (b2 := 232) (zkb3 zk_cX12_prefixed zn_cX12_prefixed (by decide +kernel)) rfl
theorem dX12_prefixed_135 : decode cX12_prefixed 135 = .ok (.iload 4, 2) := zo_21 (b1 := 4) (zkb2 zk_cX12_prefixed zn_cX12_prefixed (by decide +kernel))
theorem dX12_prefixed_137 : decode cX12_prefixed 137 = .ok (.bipush 6, 2) := zo_16 (b1 := 6) (zkb2 zk_cX12_prefixed zn_cX12_prefixed (by decide +kernel)) rfl
theorem dX12_prefixed_139 : decode cX12_prefixed 139 = .ok (.ishr, 1) := zo_122 (zkb zk_cX12_prefixed zn_cX12_prefixed (by decide +kernel))
theorem dX12_prefixed_140 : decode cX12_prefixed 140 = .ok (.iconst 1, 1) := zo_4 (zkb zk_cX12_prefixed zn_cX12_prefixed (by decide +kernel))
theorem dX12_prefixed_141 : decode cX12_prefixed 141 = .ok (.if_icmp .ne 8, 3) := zo_160 (b1 := 0) (b2 := 8) (zkb3 zk_cX12_prefixed zn_cX12_prefixed (by decide +kernel)) rfl
theorem dX12_prefixed_144 : decode cX12_prefixed 144 = .ok (.bipush 20, 2) := zo_16 (b1 := 20) (zkb2 zk_cX12_prefixed zn_cX12_prefixed (by decide +kernel)) rfl
theorem dX12_prefixed_146 : decode cX12_prefixed 146 = .ok (.goto 8, 3) := zo_167 (b1 := 0) (b2 := 8) (zkb3 zk_cX12_prefixed zn_cX12_prefixed (by decide +kernel)) rfl
theorem dX12_prefixed_149 : decode cX12_prefixed 149 = .ok (.iload 5, 2) := zo_21 (b1 := 5) (zkb2 zk_cX12_prefixed zn_cX12_prefixed (by decide +kernel))
theorem dX12_prefixed_151 : decode cX12_prefixed 151 = .ok (.bipush 8, 2) := zo_16 (b1 := 8) (zkb2 zk_cX12_prefixed zn_cX12_prefixed (by decide +kernel)) rfl
theorem dX12_prefixed_153 : decode cX12_prefixed 153 = .ok (.iadd, 1) := zo_96 (zkb zk_cX12_prefixed zn_cX12_prefixed (by decide +kernel))
theorem dX12_prefixed_154 : decode cX12_prefixed 154 = .ok (.ireturn, 1) := zo_172 (zkb zk_cX12_prefixed zn_cX12_prefixed (by decide +kernel))
theorem dX12_prefixed_155 : decode cX12_prefixed 155 = .ok (.iload_n 3, 1) := zo_29 (zkb zk_cX12_prefixed zn_cX12_prefixed (by decide +kernel))
theorem dX12_prefixed_156 : decode cX12_prefixed 156 = .ok (.iconst 3, 1) := zo_6 (zkb zk_cX12_prefixed zn_cX12_prefixed (by decide +kernel))
theorem dX12_prefixed_157 : decode cX12_prefixed 157 = .ok (.ishr, 1) := zo_122 (zkb zk_cX12_prefixed zn_cX12_prefixed (by decide +kernel))
theorem dX12_prefixed_158 : decode cX12_prefixed 158 = .ok (.bipush 7, 2) := zo_16 (b1 := 7) (zkb2 zk_cX12_prefixed zn_cX12_prefixed (by decide +kernel)) rfl
theorem dX12_prefixed_160 : decode cX12_prefixed 160 = .ok (.iand, 1) := zo_126 (zkb zk_cX12_prefixed zn_cX12_prefixed (by decide +kernel))
theorem dX12_prefixed_161 : decode cX12_prefixed 161 = .ok (.istore 4, 2) := zo_54 (b1 := 4) (zkb2 zk_cX12_prefixed zn_cX12_prefixed (by decide +kernel))
theorem dX12_prefixed_163 : decode cX12_prefixed 163 = .ok (.iload_n 3, 1) := zo_29 (zkb zk_cX12_prefixed zn_cX12_prefixed (by decide +kernel))
theorem dX12_prefixed_164 : decode cX12_prefixed 164 = .ok (.bipush 7, 2) := zo_16 (b1 := 7) (zkb2 zk_cX12_prefixed zn_cX12_prefixed (by decide +kernel)) rfl
theorem dX12_prefixed_166 : decode cX12_prefixed 166 = .ok (.iand, 1) := zo_126 (zkb zk_cX12_prefixed zn_cX12_prefixed (by decide +kernel))
theorem dX12_prefixed_167 : decode cX12_prefixed 167 = .ok (.istore 5, 2) := zo_54 (b1 := 5) (zkb2 zk_cX12_prefixed zn_cX12_prefixed (by decide +kernel))
theorem dX12_prefixed_169 : decode cX12_prefixed 169 = .ok (.iload_n 3, 1) := zo_29 (zkb zk_cX12_prefixed zn_cX12_prefixed (by decide +kernel))
theorem dX12_prefixed_170 : decode cX12_prefixed 170 = .ok (.bipush 6, 2) := zo_16 (b1 := 6) (zkb2 zk_cX12_prefixed zn_cX12_prefixed (by decide +kernel)) rfl
theorem dX12_prefixed_172 : decode cX12_prefixed 172 = .ok (.ishr, 1) := zo_122 (zkb zk_cX12_prefixed zn_cX12_prefixed (by decide +kernel))
theorem dX12_prefixed_173 : decode cX12_prefixed 173 = .ok (.istore 6, 2) := zo_54 (b1 := 6) (zkb2 zk_cX12_prefixed zn_cX12_prefixed (by decide +kernel))
theorem dX12_prefixed_175 : decode cX12_prefixed 175 = .ok (.iload 6, 2) := zo_21 (b1 := 6) (zkb2 zk_cX12_prefixed zn_cX12_prefixed (by decide +kernel))
theorem dX12_prefixed_177 : decode cX12_prefixed 177 = .ok (.ifCond .ne 23, 3) := zo_154 (b1 := 0) (b2 := 23) (zkb3 zk_cX12_prefixed zn_cX12_prefixed (by decide +kernel)) rfl
theorem dX12_prefixed_180 : decode cX12_prefixed 180 = .ok (.iload 5, 2) := zo_21 (b1 := 5) (zkb2 zk_cX12_prefixed zn_cX12_prefixed (by decide +kernel))
theorem dX12_prefixed_182 : decode cX12_prefixed 182 = .ok (.iconst 3, 1) := zo_6 (zkb zk_cX12_prefixed zn_cX12_prefixed (by decide +kernel))
theorem dX12_prefixed_183 : decode cX12_prefixed 183 = .ok (.if_icmp .le 17, 3) := zo_164 (b1 := 0) (b2 := 17) (zkb3 zk_cX12_prefixed zn_cX12_prefixed (by decide +kernel)) rfl
theorem dX12_prefixed_186 : decode cX12_prefixed 186 = .ok (.iload 5, 2) := zo_21 (b1 := 5) (zkb2 zk_cX12_prefixed zn_cX12_prefixed (by decide +kernel))
theorem dX12_prefixed_188 : decode cX12_prefixed 188 = .ok (.bipush 7, 2) := zo_16 (b1 := 7) (zkb2 zk_cX12_prefixed zn_cX12_prefixed (by decide +kernel)) rfl
theorem dX12_prefixed_190 : decode cX12_prefixed 190 = .ok (.if_icmp .ge 10, 3) := zo_162 (b1 := 0) (b2 := 10) (zkb3 zk_cX12_prefixed zn_cX12_prefixed (by decide +kernel)) rfl
theorem dX12_prefixed_193 : decode cX12_prefixed 193 = .ok (.iload 4, 2) := zo_21 (b1 := 4) (zkb2 zk_cX12_prefixed zn_cX12_prefixed (by decide +kernel))
theorem dX12_prefixed_195 : decode cX12_prefixed 195 = .ok (.bipush 6, 2) := zo_16 (b1 := 6) (zkb2 zk_cX12_prefixed zn_cX12_prefixed (by decide +kernel)) rfl
theorem dX12_prefixed_197 : decode cX12_prefixed 197 = .ok (.if_icmp .eq 42, 3) := zo_159 (b1 := 0) (b2 := 42) (zkb3 zk_cX12_prefixed zn_cX12_prefixed (by decide +kernel)) rfl
theorem dX12_prefixed_200 : decode cX12_prefixed 200 = .ok (.iload 6, 2) := zo_21 (b1 := 6) (zkb2 zk_cX12_prefixed zn_cX12_prefixed (by decide +kernel))
theorem dX12_prefixed_202 : decode cX12_prefixed 202 = .ok (.iconst 1, 1) := zo_4 (zkb zk_cX12_prefixed zn_cX12_prefixed (by decide +kernel))
theorem dX12_prefixed_203 : decode cX12_prefixed 203 = .ok (.if_icmp .ne 23, 3) := zo_160 (b1 := 0) (b2 := 23) (zkb3 zk_cX12_prefixed zn_cX12_prefixed (by decide +kernel)) rfl
theorem dX12_prefixed_206 : decode cX12_prefixed 206 = .ok (.iload 4, 2) := zo_21 (b1 := 4) (zkb2 zk_cX12_prefixed zn_cX12_prefixed (by decide +kernel))
theorem dX12_prefixed_208 : decode cX12_prefixed 208 = .ok (.bipush 6, 2) := zo_16 (b1 := 6) (zkb2 zk_cX12_prefixed zn_cX12_prefixed (by decide +kernel)) rfl
theorem dX12_prefixed_210 : decode cX12_prefixed 210 = .ok (.if_icmp .eq 10, 3) := zo_159 (b1 := 0) (b2 := 10) (zkb3 zk_cX12_prefixed zn_cX12_prefixed (by decide +kernel)) rfl
theorem dX12_prefixed_213 : decode cX12_prefixed 213 = .ok (.iload 5, 2) := zo_21 (b1 := 5) (zkb2 zk_cX12_prefixed zn_cX12_prefixed (by decide +kernel))
theorem dX12_prefixed_215 : decode cX12_prefixed 215 = .ok (.bipush 6, 2) := zo_16 (b1 := 6) (zkb2 zk_cX12_prefixed zn_cX12_prefixed (by decide +kernel)) rfl
theorem dX12_prefixed_217 : decode cX12_prefixed 217 = .ok (.if_icmp .ne 9, 3) := zo_160 (b1 := 0) (b2 := 9) (zkb3 zk_cX12_prefixed zn_cX12_prefixed (by decide +kernel)) rfl
theorem dX12_prefixed_220 : decode cX12_prefixed 220 = .ok (.iload_n 3, 1) := zo_29 (zkb zk_cX12_prefixed zn_cX12_prefixed (by decide +kernel))
theorem dX12_prefixed_221 : decode cX12_prefixed 221 = .ok (.bipush 118, 2) := zo_16 (b1 := 118) (zkb2 zk_cX12_prefixed zn_cX12_prefixed (by decide +kernel)) rfl
theorem dX12_prefixed_223 : decode cX12_prefixed 223 = .ok (.if_icmp .ne 16, 3) := zo_160 (b1 := 0) (b2 := 16) (zkb3 zk_cX12_prefixed zn_cX12_prefixed (by decide +kernel)) rfl
theorem dX12_prefixed_226 : decode cX12_prefixed 226 = .ok (.iload 6, 2) := zo_21 (b1 := 6) (zkb2 zk_cX12_prefixed zn_cX12_prefixed (by decide +kernel))
theorem dX12_prefixed_228 : decode cX12_prefixed 228 = .ok (.iconst 2, 1) := zo_5 (zkb zk_cX12_prefixed zn_cX12_prefixed (by decide +kernel))
theorem dX12_prefixed_229 : decode cX12_prefixed 229 = .ok (.if_icmp .ne 14, 3) := zo_160 (b1 := 0) (b2 := 14) (zkb3 zk_cX12_prefixed zn_cX12_prefixed (by decide +kernel)) rfl
theorem dX12_prefixed_232 : decode cX12_prefixed 232 = .ok (.iload 5, 2) := zo_21 (b1 := 5) (zkb2 zk_cX12_prefixed zn_cX12_prefixed (by decide +kernel))
theorem dX12_prefixed_234 : decode cX12_prefixed 234 = .ok (.bipush 6, 2) := zo_16 (b1 := 6) (zkb2 zk_cX12_prefixed zn_cX12_prefixed (by decide +kernel)) rfl
theorem dX12_prefixed_236 : decode cX12_prefixed 236 = .ok (.if_icmp .ne 7, 3) := zo_160 (b1 := 0) (b2 := 7) (zkb3 zk_cX12_prefixed zn_cX12_prefixed (by decide +kernel)) rfl
theorem dX12_prefixed_239 : decode cX12_prefixed 239 = .ok (.iconst 1, 1) := zo_4 (zkb zk_cX12_prefixed zn_cX12_prefixed (by decide +kernel))
theorem dX12_prefixed_240 : decode cX12_prefixed 240 = .ok (.goto 4, 3) := zo_167 (b1 := 0) (b2 := 4) (zkb3 zk_cX12_prefixed zn_cX12_prefixed (by decide +kernel)) rfl
theorem dX12_prefixed_243 : decode cX12_prefixed 243 = .ok (.iconst 0, 1) := zo_3 (zkb zk_cX12_prefixed zn_cX12_prefixed (by decide +kernel))
theorem dX12_prefixed_244 : decode cX12_prefixed 244 = .ok (.istore 7, 2) := zo_54 (b1 := 7) (zkb2 zk_cX12_prefixed zn_cX12_prefixed (by decide +kernel))
theorem dX12_prefixed_246 : decode cX12_prefixed 246 = .ok (.iload 7, 2) := zo_21 (b1 := 7) (zkb2 zk_cX12_prefixed zn_cX12_prefixed (by decide +kernel))
theorem dX12_prefixed_248 : decode cX12_prefixed 248 = .ok (.ifCond .ne 16, 3) := zo_154 (b1 := 0) (b2 := 16) (zkb3 zk_cX12_prefixed zn_cX12_prefixed (by decide +kernel)) rfl
theorem dX12_prefixed_251 : decode cX12_prefixed 251 = .ok (.aload_n 0, 1) := zo_42 (zkb zk_cX12_prefixed zn_cX12_prefixed (by decide +kernel))
theorem dX12_prefixed_252 : decode cX12_prefixed 252 = .ok (.iload_n 1, 1) := zo_27 (zkb zk_cX12_prefixed zn_cX12_prefixed (by decide +kernel))
theorem dX12_prefixed_253 : decode cX12_prefixed 253 = .ok (.putfield 174, 3) := zo_181 (b1 := 0) (b2 := 174) (zkb3 zk_cX12_prefixed zn_cX12_prefixed (by decide +kernel)) rfl
theorem dX12_prefixed_256 : decode cX12_prefixed 256 = .ok (.aload_n 0, 1) := zo_42 (zkb zk_cX12_prefixed zn_cX12_prefixed (by decide +kernel))
theorem dX12_prefixed_257 : decode cX12_prefixed 257 = .ok (.iload_n 3, 1) := zo_29 (zkb zk_cX12_prefixed zn_cX12_prefixed (by decide +kernel))
theorem dX12_prefixed_258 : decode cX12_prefixed 258 = .ok (.invokevirtual 220, 3) := zo_182 (b1 := 0) (b2 := 220) (zkb3 zk_cX12_prefixed zn_cX12_prefixed (by decide +kernel)) rfl
theorem dX12_prefixed_261 : decode cX12_prefixed 261 = .ok (.iconst 4, 1) := zo_7 (zkb zk_cX12_prefixed zn_cX12_prefixed (by decide +kernel))
theorem dX12_prefixed_262 : decode cX12_prefixed 262 = .ok (.iadd, 1) := zo_96 (zkb zk_cX12_prefixed zn_cX12_prefixed (by decide +kernel))
theorem dX12_prefixed_263 : decode cX12_prefixed 263 = .ok (.ireturn, 1) := zo_172 (zkb zk_cX12_prefixed zn_cX12_prefixed (by decide +kernel))
theorem dX12_prefixed_264 : decode cX12_prefixed 264 = .ok (.aload_n 0, 1) := zo_42 (zkb zk_cX12_prefixed zn_cX12_prefixed (by decide +kernel))
theorem dX12_prefixed_265 : decode cX12_prefixed 265 = .ok (.getfield 22, 3) := zo_180 (b1 := 0) (b2 := 22) (zkb3 zk_cX12_prefixed zn_cX12_prefixed (by decide +kernel)) rfl
theorem dX12_prefixed_268 : decode cX12_prefixed 268 = .ok (.bipush 20, 2) := zo_16 (b1 := 20) (zkb2 zk_cX12_prefixed zn_cX12_prefixed (by decide +kernel)) rfl
theorem dX12_prefixed_270 : decode cX12_prefixed 270 = .ok (.aload_n 0, 1) := zo_42 (zkb zk_cX12_prefixed zn_cX12_prefixed (by decide +kernel))
theorem dX12_prefixed_271 : decode cX12_prefixed 271 = .ok (.getfield 22, 3) := zo_180 (b1 := 0) (b2 := 22) (zkb3 zk_cX12_prefixed zn_cX12_prefixed (by decide +kernel)) rfl
theorem dX12_prefixed_274 : decode cX12_prefixed 274 = .ok (.iload_n 1, 1) := zo_27 (zkb zk_cX12_prefixed zn_cX12_prefixed (by decide +kernel))
theorem dX12_prefixed_275 : decode cX12_prefixed 275 = .ok (.iaload, 1) := zo_46 (zkb zk_cX12_prefixed zn_cX12_prefixed (by decide +kernel))
theorem dX12_prefixed_276 : decode cX12_prefixed 276 = .ok (.aload_n 0, 1) := zo_42 (zkb zk_cX12_prefixed zn_cX12_prefixed (by decide +kernel))
theorem dX12_prefixed_277 : decode cX12_prefixed 277 = .ok (.invokevirtual 208, 3) := zo_182 (b1 := 0) (b2 := 208) (zkb3 zk_cX12_prefixed zn_cX12_prefixed (by decide +kernel)) rfl
theorem dX12_prefixed_280 : decode cX12_prefixed 280 = .ok (.invokestatic 247, 3) := zo_184 (b1 := 0) (b2 := 247) (zkb3 zk_cX12_prefixed zn_cX12_prefixed (by decide +kernel)) rfl
theorem dX12_prefixed_283 : decode cX12_prefixed 283 = .ok (.iadd, 1) := zo_96 (zkb zk_cX12_prefixed zn_cX12_prefixed (by decide +kernel))
theorem dX12_prefixed_284 : decode cX12_prefixed 284 = .ok (.ldc 143, 2) := zo_18 (b1 := 143) (zkb2 zk_cX12_prefixed zn_cX12_prefixed (by decide +kernel))
theorem dX12_prefixed_286 : decode cX12_prefixed 286 = .ok (.iand, 1) := zo_126 (zkb zk_cX12_prefixed zn_cX12_prefixed (by decide +kernel))
theorem dX12_prefixed_287 : decode cX12_prefixed 287 = .ok (.iastore, 1) := zo_79 (zkb zk_cX12_prefixed zn_cX12_prefixed (by decide +kernel))
theorem dX12_prefixed_288 : decode cX12_prefixed 288 = .ok (.aload_n 0, 1) := zo_42 (zkb zk_cX12_prefixed zn_cX12_prefixed (by decide +kernel))
theorem dX12_prefixed_289 : decode cX12_prefixed 289 = .ok (.iconst 1, 1) := zo_4 (zkb zk_cX12_prefixed zn_cX12_prefixed (by decide +kernel))
theorem dX12_prefixed_290 : decode cX12_prefixed 290 = .ok (.putfield 191, 3) := zo_181 (b1 := 0) (b2 := 191) (zkb3 zk_cX12_prefixed zn_cX12_prefixed (by decide +kernel)) rfl
theorem dX12_prefixed_293 : decode cX12_prefixed 293 = .ok (.aload_n 0, 1) := zo_42 (zkb zk_cX12_prefixed zn_cX12_prefixed (by decide +kernel))
theorem dX12_prefixed_294 : decode cX12_prefixed 294 = .ok (.iload_n 3, 1) := zo_29 (zkb zk_cX12_prefixed zn_cX12_prefixed (by decide +kernel))
theorem dX12_prefixed_295 : decode cX12_prefixed 295 = .ok (.invokevirtual 220, 3) := zo_182 (b1 := 0) (b2 := 220) (zkb3 zk_cX12_prefixed zn_cX12_prefixed (by decide +kernel)) rfl
theorem dX12_prefixed_298 : decode cX12_prefixed 298 = .ok (.iload_n 3, 1) := zo_29 (zkb zk_cX12_prefixed zn_cX12_prefixed (by decide +kernel))
theorem dX12_prefixed_299 : decode cX12_prefixed 299 = .ok (.bipush 54, 2) := zo_16 (b1 := 54) (zkb2 zk_cX12_prefixed zn_cX12_prefixed (by decide +kernel)) rfl
theorem dX12_prefixed_301 : decode cX12_prefixed 301 = .ok (.if_icmp .ne 8, 3) := zo_160 (b1 := 0) (b2 := 8) (zkb3 zk_cX12_prefixed zn_cX12_prefixed (by decide +kernel)) rfl
theorem dX12_prefixed_304 : decode cX12_prefixed 304 = .ok (.bipush 9, 2) := zo_16 (b1 := 9) (zkb2 zk_cX12_prefixed zn_cX12_prefixed (by decide +kernel)) rfl
theorem dX12_prefixed_306 : decode cX12_prefixed 306 = .ok (.goto 5, 3) := zo_167 (b1 := 0) (b2 := 5) (zkb3 zk_cX12_prefixed zn_cX12_prefixed (by decide +kernel)) rfl
theorem dX12_prefixed_309 : decode cX12_prefixed 309 = .ok (.bipush 12, 2) := zo_16 (b1 := 12) (zkb2 zk_cX12_prefixed zn_cX12_prefixed (by decide +kernel)) rfl
theorem dX12_prefixed_311 : decode cX12_prefixed 311 = .ok (.iadd, 1) := zo_96 (zkb zk_cX12_prefixed zn_cX12_prefixed (by decide +kernel))
theorem dX12_prefixed_312 : decode cX12_prefixed 312 = .ok (.ireturn, 1) := zo_172 (zkb zk_cX12_prefixed zn_cX12_prefixed (by decide +kernel))
def kn_cX12_more : Nat := 0xac4001b61d2aac08104f640470071d0800a7030700a20570071d19101600b42aac0e104f2e18101600b42a17101600b42a4f2e13101600b42a14101600b42a4f1f01b62a13101600b42aac0810eb00b60815052a4f03031600b42a08362e031600b42aac14104f7e8f126004071514101600b42a0301b60d01b607152a7a041d2a1000a71001b60601b67a041d2a07152a13009a70051d07360001b62aac0f103d01b6030400a7040700a00470051d7a041d2aac0c104f7e8f126004b100b6052a14101600b42a2501b6e500b61d2a0800a7030700a006101d2e061600b42a2aac0c104f051514101600b42ac600b603042ac600b603072ac600b61c01b80615052a1301b606152ae800b606151d2a0a009f06101d06362801b62e061600b42a2a05367e8f126004b100b6052a390100000f010000f6000000bc000000a6000000790000002c000000060000000000000053010000000000aa0415ac081006009f041cac3a01b604151d2a0b00a20704151100a4061d1600a0051c04367e07101b3e7e07107a061b3d7a06101b
theorem zk_cX12_more : zkd cX12_more.data.toList kn_cX12_more = true := by decide +kernel
theorem zn_cX12_more : cX12_more.data.toList.length = 397 := by decide +kernel
theorem dX12_more_0 : decode cX12_more 0 = .ok (.iload_n 1, 1) := zo_27 (zkb zk_cX12_more zn_cX12_more (by decide +kernel))
theorem dX12_more_1 : decode cX12_more 1 = .ok (.bipush 6, 2) := zo_16 (b1 := 6) (zkb2 zk_cX12_more zn_cX12_more (by decide +kernel)) rfl
theorem dX12_more_3 : decode cX12_more 3 = .ok (.ishr, 1) := zo_122 (zkb zk_cX12_more zn_cX12_more (by decide +kernel))
theorem dX12_more_4 : decode cX12_more 4 = .ok (.istore_n 2, 1) := zo_61 (zkb zk_cX12_more zn_cX12_more (by decide +kernel))
theorem dX12_more_5 : decode cX12_more 5 = .ok (.iload_n 1, 1) := zo_27 (zkb zk_cX12_more zn_cX12_more (by decide +kernel))
theorem dX12_more_6 : decode cX12_more 6 = .ok (.iconst 3, 1) := zo_6 (zkb zk_cX12_more zn_cX12_more (by decide +kernel))
theorem dX12_more_7 : decode cX12_more 7 = .ok (.ishr, 1) := zo_122 (zkb zk_cX12_more zn_cX12_more (by decide +kernel))
theorem dX12_more_8 : decode cX12_more 8 = .ok (.bipush 7, 2) := zo_16 (b1 := 7) (zkb2 zk_cX12_more zn_cX12_more (by decide +kernel)) rfl
theorem dX12_more_10 : decode cX12_more 10 = .ok (.iand, 1) := zo_126 (zkb zk_cX12_more zn_cX12_more (by decide +kernel))
theorem dX12_more_11 : decode cX12_more 11 = .ok (.istore_n 3, 1) := zo_62 (zkb zk_cX12_more zn_cX12_more (by decide +kernel))
theorem dX12_more_12 : decode cX12_more 12 = .ok (.iload_n 1, 1) := zo_27 (zkb zk_cX12_more zn_cX12_more (by decide +kernel))
theorem dX12_more_13 : decode cX12_more 13 = .ok (.bipush 7, 2) := zo_16 (b1 := 7) (zkb2 zk_cX12_more zn_cX12_more (by decide +kernel)) rfl
theorem dX12_more_15 : decode cX12_more 15 = .ok (.iand, 1) := zo_126 (zkb zk_cX12_more zn_cX12_more (by decide +kernel))
theorem dX12_more_16 : decode cX12_more 16 = .ok (.istore 4, 2) := zo_54 (b1 := 4) (zkb2 zk_cX12_more zn_cX12_more (by decide +kernel))
theorem dX12_more_18 : decode cX12_more 18 = .ok (.iload_n 2, 1) := zo_28 (zkb zk_cX12_more zn_cX12_more (by decide +kernel))
theorem dX12_more_19 : decode cX12_more 19 = .ok (.iconst 2, 1) := zo_5 (zkb zk_cX12_more zn_cX12_more (by decide +kernel))
theorem dX12_more_20 : decode cX12_more 20 = .ok (.if_icmp .ne 22, 3) := zo_160 (b1 := 0) (b2 := 22) (zkb3 zk_cX12_more zn_cX12_more (by decide +kernel)) rfl
theorem dX12_more_23 : decode cX12_more 23 = .ok (.iload_n 3, 1) := zo_29 (zkb zk_cX12_more zn_cX12_more (by decide +kernel))
theorem dX12_more_24 : decode cX12_more 24 = .ok (.iconst 3, 1) := zo_6 (zkb zk_cX12_more zn_cX12_more (by decide +kernel))
theorem dX12_more_25 : decode cX12_more 25 = .ok (.if_icmp .le 17, 3) := zo_164 (b1 := 0) (b2 := 17) (zkb3 zk_cX12_more zn_cX12_more (by decide +kernel)) rfl
theorem dX12_more_28 : decode cX12_more 28 = .ok (.iload 4, 2) := zo_21 (b1 := 4) (zkb2 zk_cX12_more zn_cX12_more (by decide +kernel))
theorem dX12_more_30 : decode cX12_more 30 = .ok (.iconst 4, 1) := zo_7 (zkb zk_cX12_more zn_cX12_more (by decide +kernel))
theorem dX12_more_31 : decode cX12_more 31 = .ok (.if_icmp .ge 11, 3) := zo_162 (b1 := 0) (b2 := 11) (zkb3 zk_cX12_more zn_cX12_more (by decide +kernel)) rfl
theorem dX12_more_34 : decode cX12_more 34 = .ok (.aload_n 0, 1) := zo_42 (zkb zk_cX12_more zn_cX12_more (by decide +kernel))
theorem dX12_more_35 : decode cX12_more 35 = .ok (.iload_n 3, 1) := zo_29 (zkb zk_cX12_more zn_cX12_more (by decide +kernel))
theorem dX12_more_36 : decode cX12_more 36 = .ok (.iload 4, 2) := zo_21 (b1 := 4) (zkb2 zk_cX12_more zn_cX12_more (by decide +kernel))
theorem dX12_more_38 : decode cX12_more 38 = .ok (.invokevirtual 314, 3) := zo_182 (b1 := 1) (b2 := 58) (zkb3 zk_cX12_more zn_cX12_more (by decide +kernel)) rfl
theorem dX12_more_41 : decode cX12_more 41 = .ok (.ireturn, 1) := zo_172 (zkb zk_cX12_more zn_cX12_more (by decide +kernel))
theorem dX12_more_42 : decode cX12_more 42 = .ok (.iload_n 2, 1) := zo_28 (zkb zk_cX12_more zn_cX12_more (by decide +kernel))
theorem dX12_more_43 : decode cX12_more 43 = .ok (.iconst 1, 1) := zo_4 (zkb zk_cX12_more zn_cX12_more (by decide +kernel))
theorem dX12_more_44 : decode cX12_more 44 = .ok (.if_icmp .eq 6, 3) := zo_159 (b1 := 0) (b2 := 6) (zkb3 zk_cX12_more zn_cX12_more (by decide +kernel)) rfl
theorem dX12_more_47 : decode cX12_more 47 = .ok (.bipush 8, 2) := zo_16 (b1 := 8) (zkb2 zk_cX12_more zn_cX12_more (by decide +kernel)) rfl
theorem dX12_more_49 : decode cX12_more 49 = .ok (.ireturn, 1) := zo_172 (zkb zk_cX12_more zn_cX12_more (by decide +kernel))
theorem dX12_more_50 : decode cX12_more 50 = .ok (.iload 4, 2) := zo_21 (b1 := 4) (zkb2 zk_cX12_more zn_cX12_more (by decide +kernel))
theorem dX12_more_52 : decode cX12_more 52 = .ok (.tableswitch 339 0 6 #[44, 121, 166, 188, 246, 271, 313], 44) := by decide +kernel
theorem dX12_more_96 : decode cX12_more 96 = .ok (.aload_n 0, 1) := zo_42 (zkb zk_cX12_more zn_cX12_more (by decide +kernel))
theorem dX12_more_97 : decode cX12_more 97 = .ok (.iconst 2, 1) := zo_5 (zkb zk_cX12_more zn_cX12_more (by decide +kernel))
theorem dX12_more_98 : decode cX12_more 98 = .ok (.invokevirtual 177, 3) := zo_182 (b1 := 0) (b2 := 177) (zkb3 zk_cX12_more zn_cX12_more (by decide +kernel)) rfl
theorem dX12_more_101 : decode cX12_more 101 = .ok (.iconst 1, 1) := zo_4 (zkb zk_cX12_more zn_cX12_more (by decide +kernel))
theorem dX12_more_102 : decode cX12_more 102 = .ok (.iadd, 1) := zo_96 (zkb zk_cX12_more zn_cX12_more (by decide +kernel))
theorem dX12_more_103 : decode cX12_more 103 = .ok (.ldc 143, 2) := zo_18 (b1 := 143) (zkb2 zk_cX12_more zn_cX12_more (by decide +kernel))
theorem dX12_more_105 : decode cX12_more 105 = .ok (.iand, 1) := zo_126 (zkb zk_cX12_more zn_cX12_more (by decide +kernel))
theorem dX12_more_106 : decode cX12_more 106 = .ok (.istore 5, 2) := zo_54 (b1 := 5) (zkb2 zk_cX12_more zn_cX12_more (by decide +kernel))
theorem dX12_more_108 : decode cX12_more 108 = .ok (.aload_n 0, 1) := zo_42 (zkb zk_cX12_more zn_cX12_more (by decide +kernel))
theorem dX12_more_109 : decode cX12_more 109 = .ok (.aload_n 0, 1) := zo_42 (zkb zk_cX12_more zn_cX12_more (by decide +kernel))
theorem dX12_more_110 : decode cX12_more 110 = .ok (.getfield 22, 3) := zo_180 (b1 := 0) (b2 := 22) (zkb3 zk_cX12_more zn_cX12_more (by decide +kernel)) rfl
theorem dX12_more_113 : decode cX12_more 113 = .ok (.iconst 3, 1) := zo_6 (zkb zk_cX12_more zn_cX12_more (by decide +kernel))
theorem dX12_more_114 : decode cX12_more 114 = .ok (.iaload, 1) := zo_46 (zkb zk_cX12_more zn_cX12_more (by decide +kernel))
theorem dX12_more_115 : decode cX12_more 115 = .ok (.invokevirtual 296, 3) := zo_182 (b1 := 1) (b2 := 40) (zkb3 zk_cX12_more zn_cX12_more (by decide +kernel)) rfl
theorem dX12_more_118 : decode cX12_more 118 = .ok (.istore 6, 2) := zo_54 (b1 := 6) (zkb2 zk_cX12_more zn_cX12_more (by decide +kernel))
theorem dX12_more_120 : decode cX12_more 120 = .ok (.iload_n 3, 1) := zo_29 (zkb zk_cX12_more zn_cX12_more (by decide +kernel))
theorem dX12_more_121 : decode cX12_more 121 = .ok (.bipush 6, 2) := zo_16 (b1 := 6) (zkb2 zk_cX12_more zn_cX12_more (by decide +kernel)) rfl
theorem dX12_more_123 : decode cX12_more 123 = .ok (.if_icmp .eq 10, 3) := zo_159 (b1 := 0) (b2 := 10) (zkb3 zk_cX12_more zn_cX12_more (by decide +kernel)) rfl
theorem dX12_more_126 : decode cX12_more 126 = .ok (.aload_n 0, 1) := zo_42 (zkb zk_cX12_more zn_cX12_more (by decide +kernel))
theorem dX12_more_127 : decode cX12_more 127 = .ok (.iload_n 3, 1) := zo_29 (zkb zk_cX12_more zn_cX12_more (by decide +kernel))
theorem dX12_more_128 : decode cX12_more 128 = .ok (.iload 6, 2) := zo_21 (b1 := 6) (zkb2 zk_cX12_more zn_cX12_more (by decide +kernel))
theorem dX12_more_130 : decode cX12_more 130 = .ok (.invokevirtual 232, 3) := zo_182 (b1 := 0) (b2 := 232) (zkb3 zk_cX12_more zn_cX12_more (by decide +kernel)) rfl
theorem dX12_more_133 : decode cX12_more 133 = .ok (.aload_n 0, 1) := zo_42 (zkb zk_cX12_more zn_cX12_more (by decide +kernel))
theorem dX12_more_134 : decode cX12_more 134 = .ok (.iload 6, 2) := zo_21 (b1 := 6) (zkb2 zk_cX12_more zn_cX12_more (by decide +kernel))
theorem dX12_more_136 : decode cX12_more 136 = .ok (.invokevirtual 275, 3) := zo_182 (b1 := 1) (b2 := 19) (zkb3 zk_cX12_more zn_cX12_more (by decide +kernel)) rfl
theorem dX12_more_139 : decode cX12_more 139 = .ok (.aload_n 0, 1) := zo_42 (zkb zk_cX12_more zn_cX12_more (by decide +kernel))
theorem dX12_more_140 : decode cX12_more 140 = .ok (.iconst 2, 1) := zo_5 (zkb zk_cX12_more zn_cX12_more (by decide +kernel))
theorem dX12_more_141 : decode cX12_more 141 = .ok (.iload 6, 2) := zo_21 (b1 := 6) (zkb2 zk_cX12_more zn_cX12_more (by decide +kernel))
theorem dX12_more_143 : decode cX12_more 143 = .ok (.invokestatic 284, 3) := zo_184 (b1 := 1) (b2 := 28) (zkb3 zk_cX12_more zn_cX12_more (by decide +kernel)) rfl
theorem dX12_more_146 : decode cX12_more 146 = .ok (.invokevirtual 198, 3) := zo_182 (b1 := 0) (b2 := 198) (zkb3 zk_cX12_more zn_cX12_more (by decide +kernel)) rfl
theorem dX12_more_149 : decode cX12_more 149 = .ok (.aload_n 0, 1) := zo_42 (zkb zk_cX12_more zn_cX12_more (by decide +kernel))
theorem dX12_more_150 : decode cX12_more 150 = .ok (.iconst 4, 1) := zo_7 (zkb zk_cX12_more zn_cX12_more (by decide +kernel))
theorem dX12_more_151 : decode cX12_more 151 = .ok (.iconst 0, 1) := zo_3 (zkb zk_cX12_more zn_cX12_more (by decide +kernel))
theorem dX12_more_152 : decode cX12_more 152 = .ok (.invokevirtual 198, 3) := zo_182 (b1 := 0) (b2 := 198) (zkb3 zk_cX12_more zn_cX12_more (by decide +kernel)) rfl
theorem dX12_more_155 : decode cX12_more 155 = .ok (.aload_n 0, 1) := zo_42 (zkb zk_cX12_more zn_cX12_more (by decide +kernel))
theorem dX12_more_156 : decode cX12_more 156 = .ok (.iconst 1, 1) := zo_4 (zkb zk_cX12_more zn_cX12_more (by decide +kernel))
theorem dX12_more_157 : decode cX12_more 157 = .ok (.iconst 0, 1) := zo_3 (zkb zk_cX12_more zn_cX12_more (by decide +kernel))
theorem dX12_more_158 : decode cX12_more 158 = .ok (.invokevirtual 198, 3) := zo_182 (b1 := 0) (b2 := 198) (zkb3 zk_cX12_more zn_cX12_more (by decide +kernel)) rfl
theorem dX12_more_161 : decode cX12_more 161 = .ok (.aload_n 0, 1) := zo_42 (zkb zk_cX12_more zn_cX12_more (by decide +kernel))
theorem dX12_more_162 : decode cX12_more 162 = .ok (.getfield 22, 3) := zo_180 (b1 := 0) (b2 := 22) (zkb3 zk_cX12_more zn_cX12_more (by decide +kernel)) rfl
theorem dX12_more_165 : decode cX12_more 165 = .ok (.bipush 20, 2) := zo_16 (b1 := 20) (zkb2 zk_cX12_more zn_cX12_more (by decide +kernel)) rfl
theorem dX12_more_167 : decode cX12_more 167 = .ok (.iload 5, 2) := zo_21 (b1 := 5) (zkb2 zk_cX12_more zn_cX12_more (by decide +kernel))
theorem dX12_more_169 : decode cX12_more 169 = .ok (.iastore, 1) := zo_79 (zkb zk_cX12_more zn_cX12_more (by decide +kernel))
theorem dX12_more_170 : decode cX12_more 170 = .ok (.bipush 12, 2) := zo_16 (b1 := 12) (zkb2 zk_cX12_more zn_cX12_more (by decide +kernel)) rfl
theorem dX12_more_172 : decode cX12_more 172 = .ok (.ireturn, 1) := zo_172 (zkb zk_cX12_more zn_cX12_more (by decide +kernel))
theorem dX12_more_173 : decode cX12_more 173 = .ok (.aload_n 0, 1) := zo_42 (zkb zk_cX12_more zn_cX12_more (by decide +kernel))
theorem dX12_more_174 : decode cX12_more 174 = .ok (.aload_n 0, 1) := zo_42 (zkb zk_cX12_more zn_cX12_more (by decide +kernel))
theorem dX12_more_175 : decode cX12_more 175 = .ok (.getfield 22, 3) := zo_180 (b1 := 0) (b2 := 22) (zkb3 zk_cX12_more zn_cX12_more (by decide +kernel)) rfl
theorem dX12_more_178 : decode cX12_more 178 = .ok (.iconst 3, 1) := zo_6 (zkb zk_cX12_more zn_cX12_more (by decide +kernel))
theorem dX12_more_179 : decode cX12_more 179 = .ok (.iaload, 1) := zo_46 (zkb zk_cX12_more zn_cX12_more (by decide +kernel))
theorem dX12_more_180 : decode cX12_more 180 = .ok (.iload_n 3, 1) := zo_29 (zkb zk_cX12_more zn_cX12_more (by decide +kernel))
theorem dX12_more_181 : decode cX12_more 181 = .ok (.bipush 6, 2) := zo_16 (b1 := 6) (zkb2 zk_cX12_more zn_cX12_more (by decide +kernel)) rfl
theorem dX12_more_183 : decode cX12_more 183 = .ok (.if_icmp .ne 7, 3) := zo_160 (b1 := 0) (b2 := 7) (zkb3 zk_cX12_more zn_cX12_more (by decide +kernel)) rfl
theorem dX12_more_186 : decode cX12_more 186 = .ok (.iconst 0, 1) := zo_3 (zkb zk_cX12_more zn_cX12_more (by decide +kernel))
theorem dX12_more_187 : decode cX12_more 187 = .ok (.goto 8, 3) := zo_167 (b1 := 0) (b2 := 8) (zkb3 zk_cX12_more zn_cX12_more (by decide +kernel)) rfl
theorem dX12_more_190 : decode cX12_more 190 = .ok (.aload_n 0, 1) := zo_42 (zkb zk_cX12_more zn_cX12_more (by decide +kernel))
theorem dX12_more_191 : decode cX12_more 191 = .ok (.iload_n 3, 1) := zo_29 (zkb zk_cX12_more zn_cX12_more (by decide +kernel))
theorem dX12_more_192 : decode cX12_more 192 = .ok (.invokevirtual 229, 3) := zo_182 (b1 := 0) (b2 := 229) (zkb3 zk_cX12_more zn_cX12_more (by decide +kernel)) rfl
theorem dX12_more_195 : decode cX12_more 195 = .ok (.invokevirtual 293, 3) := zo_182 (b1 := 1) (b2 := 37) (zkb3 zk_cX12_more zn_cX12_more (by decide +kernel)) rfl
theorem dX12_more_198 : decode cX12_more 198 = .ok (.aload_n 0, 1) := zo_42 (zkb zk_cX12_more zn_cX12_more (by decide +kernel))
theorem dX12_more_199 : decode cX12_more 199 = .ok (.getfield 22, 3) := zo_180 (b1 := 0) (b2 := 22) (zkb3 zk_cX12_more zn_cX12_more (by decide +kernel)) rfl
theorem dX12_more_202 : decode cX12_more 202 = .ok (.bipush 20, 2) := zo_16 (b1 := 20) (zkb2 zk_cX12_more zn_cX12_more (by decide +kernel)) rfl
theorem dX12_more_204 : decode cX12_more 204 = .ok (.aload_n 0, 1) := zo_42 (zkb zk_cX12_more zn_cX12_more (by decide +kernel))
theorem dX12_more_205 : decode cX12_more 205 = .ok (.iconst 2, 1) := zo_5 (zkb zk_cX12_more zn_cX12_more (by decide +kernel))
theorem dX12_more_206 : decode cX12_more 206 = .ok (.invokevirtual 177, 3) := zo_182 (b1 := 0) (b2 := 177) (zkb3 zk_cX12_more zn_cX12_more (by decide +kernel)) rfl
theorem dX12_more_209 : decode cX12_more 209 = .ok (.iconst 1, 1) := zo_4 (zkb zk_cX12_more zn_cX12_more (by decide +kernel))
theorem dX12_more_210 : decode cX12_more 210 = .ok (.iadd, 1) := zo_96 (zkb zk_cX12_more zn_cX12_more (by decide +kernel))
theorem dX12_more_211 : decode cX12_more 211 = .ok (.ldc 143, 2) := zo_18 (b1 := 143) (zkb2 zk_cX12_more zn_cX12_more (by decide +kernel))
theorem dX12_more_213 : decode cX12_more 213 = .ok (.iand, 1) := zo_126 (zkb zk_cX12_more zn_cX12_more (by decide +kernel))
theorem dX12_more_214 : decode cX12_more 214 = .ok (.iastore, 1) := zo_79 (zkb zk_cX12_more zn_cX12_more (by decide +kernel))
theorem dX12_more_215 : decode cX12_more 215 = .ok (.bipush 12, 2) := zo_16 (b1 := 12) (zkb2 zk_cX12_more zn_cX12_more (by decide +kernel)) rfl
theorem dX12_more_217 : decode cX12_more 217 = .ok (.ireturn, 1) := zo_172 (zkb zk_cX12_more zn_cX12_more (by decide +kernel))
theorem dX12_more_218 : decode cX12_more 218 = .ok (.aload_n 0, 1) := zo_42 (zkb zk_cX12_more zn_cX12_more (by decide +kernel))
theorem dX12_more_219 : decode cX12_more 219 = .ok (.iload_n 3, 1) := zo_29 (zkb zk_cX12_more zn_cX12_more (by decide +kernel))
theorem dX12_more_220 : decode cX12_more 220 = .ok (.iconst 1, 1) := zo_4 (zkb zk_cX12_more zn_cX12_more (by decide +kernel))
theorem dX12_more_221 : decode cX12_more 221 = .ok (.ishr, 1) := zo_122 (zkb zk_cX12_more zn_cX12_more (by decide +kernel))
theorem dX12_more_222 : decode cX12_more 222 = .ok (.iload_n 3, 1) := zo_29 (zkb zk_cX12_more zn_cX12_more (by decide +kernel))
theorem dX12_more_223 : decode cX12_more 223 = .ok (.iconst 2, 1) := zo_5 (zkb zk_cX12_more zn_cX12_more (by decide +kernel))
theorem dX12_more_224 : decode cX12_more 224 = .ok (.irem, 1) := zo_112 (zkb zk_cX12_more zn_cX12_more (by decide +kernel))
theorem dX12_more_225 : decode cX12_more 225 = .ok (.iconst 1, 1) := zo_4 (zkb zk_cX12_more zn_cX12_more (by decide +kernel))
theorem dX12_more_226 : decode cX12_more 226 = .ok (.if_icmp .ne 7, 3) := zo_160 (b1 := 0) (b2 := 7) (zkb3 zk_cX12_more zn_cX12_more (by decide +kernel)) rfl
theorem dX12_more_229 : decode cX12_more 229 = .ok (.iconst 1, 1) := zo_4 (zkb zk_cX12_more zn_cX12_more (by decide +kernel))
theorem dX12_more_230 : decode cX12_more 230 = .ok (.goto 4, 3) := zo_167 (b1 := 0) (b2 := 4) (zkb3 zk_cX12_more zn_cX12_more (by decide +kernel)) rfl
theorem dX12_more_233 : decode cX12_more 233 = .ok (.iconst 0, 1) := zo_3 (zkb zk_cX12_more zn_cX12_more (by decide +kernel))
theorem dX12_more_234 : decode cX12_more 234 = .ok (.invokevirtual 317, 3) := zo_182 (b1 := 1) (b2 := 61) (zkb3 zk_cX12_more zn_cX12_more (by decide +kernel)) rfl
theorem dX12_more_237 : decode cX12_more 237 = .ok (.bipush 15, 2) := zo_16 (b1 := 15) (zkb2 zk_cX12_more zn_cX12_more (by decide +kernel)) rfl
theorem dX12_more_239 : decode cX12_more 239 = .ok (.ireturn, 1) := zo_172 (zkb zk_cX12_more zn_cX12_more (by decide +kernel))
theorem dX12_more_240 : decode cX12_more 240 = .ok (.aload_n 0, 1) := zo_42 (zkb zk_cX12_more zn_cX12_more (by decide +kernel))
theorem dX12_more_241 : decode cX12_more 241 = .ok (.invokevirtual 256, 3) := zo_182 (b1 := 1) (b2 := 0) (zkb3 zk_cX12_more zn_cX12_more (by decide +kernel)) rfl
theorem dX12_more_244 : decode cX12_more 244 = .ok (.istore 7, 2) := zo_54 (b1 := 7) (zkb2 zk_cX12_more zn_cX12_more (by decide +kernel))
theorem dX12_more_246 : decode cX12_more 246 = .ok (.iload_n 3, 1) := zo_29 (zkb zk_cX12_more zn_cX12_more (by decide +kernel))
theorem dX12_more_247 : decode cX12_more 247 = .ok (.iconst 2, 1) := zo_5 (zkb zk_cX12_more zn_cX12_more (by decide +kernel))
theorem dX12_more_248 : decode cX12_more 248 = .ok (.irem, 1) := zo_112 (zkb zk_cX12_more zn_cX12_more (by decide +kernel))
theorem dX12_more_249 : decode cX12_more 249 = .ok (.ifCond .ne 19, 3) := zo_154 (b1 := 0) (b2 := 19) (zkb3 zk_cX12_more zn_cX12_more (by decide +kernel)) rfl
theorem dX12_more_252 : decode cX12_more 252 = .ok (.aload_n 0, 1) := zo_42 (zkb zk_cX12_more zn_cX12_more (by decide +kernel))
theorem dX12_more_253 : decode cX12_more 253 = .ok (.iload 7, 2) := zo_21 (b1 := 7) (zkb2 zk_cX12_more zn_cX12_more (by decide +kernel))
theorem dX12_more_255 : decode cX12_more 255 = .ok (.aload_n 0, 1) := zo_42 (zkb zk_cX12_more zn_cX12_more (by decide +kernel))
theorem dX12_more_256 : decode cX12_more 256 = .ok (.iload_n 3, 1) := zo_29 (zkb zk_cX12_more zn_cX12_more (by decide +kernel))
theorem dX12_more_257 : decode cX12_more 257 = .ok (.iconst 1, 1) := zo_4 (zkb zk_cX12_more zn_cX12_more (by decide +kernel))
theorem dX12_more_258 : decode cX12_more 258 = .ok (.ishr, 1) := zo_122 (zkb zk_cX12_more zn_cX12_more (by decide +kernel))
theorem dX12_more_259 : decode cX12_more 259 = .ok (.invokevirtual 262, 3) := zo_182 (b1 := 1) (b2 := 6) (zkb3 zk_cX12_more zn_cX12_more (by decide +kernel)) rfl
theorem dX12_more_262 : decode cX12_more 262 = .ok (.invokevirtual 272, 3) := zo_182 (b1 := 1) (b2 := 16) (zkb3 zk_cX12_more zn_cX12_more (by decide +kernel)) rfl
theorem dX12_more_265 : decode cX12_more 265 = .ok (.goto 16, 3) := zo_167 (b1 := 0) (b2 := 16) (zkb3 zk_cX12_more zn_cX12_more (by decide +kernel)) rfl
theorem dX12_more_268 : decode cX12_more 268 = .ok (.aload_n 0, 1) := zo_42 (zkb zk_cX12_more zn_cX12_more (by decide +kernel))
theorem dX12_more_269 : decode cX12_more 269 = .ok (.iload_n 3, 1) := zo_29 (zkb zk_cX12_more zn_cX12_more (by decide +kernel))
theorem dX12_more_270 : decode cX12_more 270 = .ok (.iconst 1, 1) := zo_4 (zkb zk_cX12_more zn_cX12_more (by decide +kernel))
theorem dX12_more_271 : decode cX12_more 271 = .ok (.ishr, 1) := zo_122 (zkb zk_cX12_more zn_cX12_more (by decide +kernel))
theorem dX12_more_272 : decode cX12_more 272 = .ok (.aload_n 0, 1) := zo_42 (zkb zk_cX12_more zn_cX12_more (by decide +kernel))
theorem dX12_more_273 : decode cX12_more 273 = .ok (.iload 7, 2) := zo_21 (b1 := 7) (zkb2 zk_cX12_more zn_cX12_more (by decide +kernel))
theorem dX12_more_275 : decode cX12_more 275 = .ok (.invokevirtual 269, 3) := zo_182 (b1 := 1) (b2 := 13) (zkb3 zk_cX12_more zn_cX12_more (by decide +kernel)) rfl
theorem dX12_more_278 : decode cX12_more 278 = .ok (.invokevirtual 259, 3) := zo_182 (b1 := 1) (b2 := 3) (zkb3 zk_cX12_more zn_cX12_more (by decide +kernel)) rfl
theorem dX12_more_281 : decode cX12_more 281 = .ok (.aload_n 0, 1) := zo_42 (zkb zk_cX12_more zn_cX12_more (by decide +kernel))
theorem dX12_more_282 : decode cX12_more 282 = .ok (.getfield 22, 3) := zo_180 (b1 := 0) (b2 := 22) (zkb3 zk_cX12_more zn_cX12_more (by decide +kernel)) rfl
theorem dX12_more_285 : decode cX12_more 285 = .ok (.bipush 20, 2) := zo_16 (b1 := 20) (zkb2 zk_cX12_more zn_cX12_more (by decide +kernel)) rfl
theorem dX12_more_287 : decode cX12_more 287 = .ok (.iload 7, 2) := zo_21 (b1 := 7) (zkb2 zk_cX12_more zn_cX12_more (by decide +kernel))
theorem dX12_more_289 : decode cX12_more 289 = .ok (.iconst 1, 1) := zo_4 (zkb zk_cX12_more zn_cX12_more (by decide +kernel))
theorem dX12_more_290 : decode cX12_more 290 = .ok (.iadd, 1) := zo_96 (zkb zk_cX12_more zn_cX12_more (by decide +kernel))
theorem dX12_more_291 : decode cX12_more 291 = .ok (.ldc 143, 2) := zo_18 (b1 := 143) (zkb2 zk_cX12_more zn_cX12_more (by decide +kernel))
theorem dX12_more_293 : decode cX12_more 293 = .ok (.iand, 1) := zo_126 (zkb zk_cX12_more zn_cX12_more (by decide +kernel))
theorem dX12_more_294 : decode cX12_more 294 = .ok (.iastore, 1) := zo_79 (zkb zk_cX12_more zn_cX12_more (by decide +kernel))
theorem dX12_more_295 : decode cX12_more 295 = .ok (.bipush 20, 2) := zo_16 (b1 := 20) (zkb2 zk_cX12_more zn_cX12_more (by decide +kernel)) rfl
theorem dX12_more_297 : decode cX12_more 297 = .ok (.ireturn, 1) := zo_172 (zkb zk_cX12_more zn_cX12_more (by decide +kernel))
theorem dX12_more_298 : decode cX12_more 298 = .ok (.aload_n 0, 1) := zo_42 (zkb zk_cX12_more zn_cX12_more (by decide +kernel))
theorem dX12_more_299 : decode cX12_more 299 = .ok (.getfield 22, 3) := zo_180 (b1 := 0) (b2 := 22) (zkb3 zk_cX12_more zn_cX12_more (by decide +kernel)) rfl
theorem dX12_more_302 : decode cX12_more 302 = .ok (.iconst 0, 1) := zo_3 (zkb zk_cX12_more zn_cX12_more (by decide +kernel))
theorem dX12_more_303 : decode cX12_more 303 = .ok (.iaload, 1) := zo_46 (zkb zk_cX12_more zn_cX12_more (by decide +kernel))
theorem dX12_more_304 : decode cX12_more 304 = .ok (.istore 8, 2) := zo_54 (b1 := 8) (zkb2 zk_cX12_more zn_cX12_more (by decide +kernel))
theorem dX12_more_306 : decode cX12_more 306 = .ok (.aload_n 0, 1) := zo_42 (zkb zk_cX12_more zn_cX12_more (by decide +kernel))
theorem dX12_more_307 : decode cX12_more 307 = .ok (.getfield 22, 3) := zo_180 (b1 := 0) (b2 := 22) (zkb3 zk_cX12_more zn_cX12_more (by decide +kernel)) rfl
theorem dX12_more_310 : decode cX12_more 310 = .ok (.iconst 0, 1) := zo_3 (zkb zk_cX12_more zn_cX12_more (by decide +kernel))
theorem dX12_more_311 : decode cX12_more 311 = .ok (.iconst 0, 1) := zo_3 (zkb zk_cX12_more zn_cX12_more (by decide +kernel))
theorem dX12_more_312 : decode cX12_more 312 = .ok (.iastore, 1) := zo_79 (zkb zk_cX12_more zn_cX12_more (by decide +kernel))
theorem dX12_more_313 : decode cX12_more 313 = .ok (.aload_n 0, 1) := zo_42 (zkb zk_cX12_more zn_cX12_more (by decide +kernel))
theorem dX12_more_314 : decode cX12_more 314 = .ok (.iconst 2, 1) := zo_5 (zkb zk_cX12_more zn_cX12_more (by decide +kernel))
theorem dX12_more_315 : decode cX12_more 315 = .ok (.iload 8, 2) := zo_21 (b1 := 8) (zkb2 zk_cX12_more zn_cX12_more (by decide +kernel))
theorem dX12_more_317 : decode cX12_more 317 = .ok (.invokevirtual 235, 3) := zo_182 (b1 := 0) (b2 := 235) (zkb3 zk_cX12_more zn_cX12_more (by decide +kernel)) rfl
theorem dX12_more_320 : decode cX12_more 320 = .ok (.bipush 8, 2) := zo_16 (b1 := 8) (zkb2 zk_cX12_more zn_cX12_more (by decide +kernel)) rfl
theorem dX12_more_322 : decode cX12_more 322 = .ok (.ireturn, 1) := zo_172 (zkb zk_cX12_more zn_cX12_more (by decide +kernel))
theorem dX12_more_323 : decode cX12_more 323 = .ok (.aload_n 0, 1) := zo_42 (zkb zk_cX12_more zn_cX12_more (by decide +kernel))
theorem dX12_more_324 : decode cX12_more 324 = .ok (.getfield 22, 3) := zo_180 (b1 := 0) (b2 := 22) (zkb3 zk_cX12_more zn_cX12_more (by decide +kernel)) rfl
theorem dX12_more_327 : decode cX12_more 327 = .ok (.bipush 19, 2) := zo_16 (b1 := 19) (zkb2 zk_cX12_more zn_cX12_more (by decide +kernel)) rfl
theorem dX12_more_329 : decode cX12_more 329 = .ok (.aload_n 0, 1) := zo_42 (zkb zk_cX12_more zn_cX12_more (by decide +kernel))
theorem dX12_more_330 : decode cX12_more 330 = .ok (.invokevirtual 287, 3) := zo_182 (b1 := 1) (b2 := 31) (zkb3 zk_cX12_more zn_cX12_more (by decide +kernel)) rfl
theorem dX12_more_333 : decode cX12_more 333 = .ok (.iastore, 1) := zo_79 (zkb zk_cX12_more zn_cX12_more (by decide +kernel))
theorem dX12_more_334 : decode cX12_more 334 = .ok (.aload_n 0, 1) := zo_42 (zkb zk_cX12_more zn_cX12_more (by decide +kernel))
theorem dX12_more_335 : decode cX12_more 335 = .ok (.getfield 22, 3) := zo_180 (b1 := 0) (b2 := 22) (zkb3 zk_cX12_more zn_cX12_more (by decide +kernel)) rfl
theorem dX12_more_338 : decode cX12_more 338 = .ok (.bipush 20, 2) := zo_16 (b1 := 20) (zkb2 zk_cX12_more zn_cX12_more (by decide +kernel)) rfl
theorem dX12_more_340 : decode cX12_more 340 = .ok (.aload_n 0, 1) := zo_42 (zkb zk_cX12_more zn_cX12_more (by decide +kernel))
theorem dX12_more_341 : decode cX12_more 341 = .ok (.getfield 22, 3) := zo_180 (b1 := 0) (b2 := 22) (zkb3 zk_cX12_more zn_cX12_more (by decide +kernel)) rfl
theorem dX12_more_344 : decode cX12_more 344 = .ok (.bipush 19, 2) := zo_16 (b1 := 19) (zkb2 zk_cX12_more zn_cX12_more (by decide +kernel)) rfl
theorem dX12_more_346 : decode cX12_more 346 = .ok (.iaload, 1) := zo_46 (zkb zk_cX12_more zn_cX12_more (by decide +kernel))
theorem dX12_more_347 : decode cX12_more 347 = .ok (.iastore, 1) := zo_79 (zkb zk_cX12_more zn_cX12_more (by decide +kernel))
theorem dX12_more_348 : decode cX12_more 348 = .ok (.aload_n 0, 1) := zo_42 (zkb zk_cX12_more zn_cX12_more (by decide +kernel))
theorem dX12_more_349 : decode cX12_more 349 = .ok (.getfield 22, 3) := zo_180 (b1 := 0) (b2 := 22) (zkb3 zk_cX12_more zn_cX12_more (by decide +kernel)) rfl
theorem dX12_more_352 : decode cX12_more 352 = .ok (.bipush 23, 2) := zo_16 (b1 := 23) (zkb2 zk_cX12_more zn_cX12_more (by decide +kernel)) rfl
theorem dX12_more_354 : decode cX12_more 354 = .ok (.aload_n 0, 1) := zo_42 (zkb zk_cX12_more zn_cX12_more (by decide +kernel))
theorem dX12_more_355 : decode cX12_more 355 = .ok (.getfield 22, 3) := zo_180 (b1 := 0) (b2 := 22) (zkb3 zk_cX12_more zn_cX12_more (by decide +kernel)) rfl
theorem dX12_more_358 : decode cX12_more 358 = .ok (.bipush 24, 2) := zo_16 (b1 := 24) (zkb2 zk_cX12_more zn_cX12_more (by decide +kernel)) rfl
theorem dX12_more_360 : decode cX12_more 360 = .ok (.iaload, 1) := zo_46 (zkb zk_cX12_more zn_cX12_more (by decide +kernel))
theorem dX12_more_361 : decode cX12_more 361 = .ok (.iastore, 1) := zo_79 (zkb zk_cX12_more zn_cX12_more (by decide +kernel))
theorem dX12_more_362 : decode cX12_more 362 = .ok (.bipush 14, 2) := zo_16 (b1 := 14) (zkb2 zk_cX12_more zn_cX12_more (by decide +kernel)) rfl
theorem dX12_more_364 : decode cX12_more 364 = .ok (.ireturn, 1) := zo_172 (zkb zk_cX12_more zn_cX12_more (by decide +kernel))
theorem dX12_more_365 : decode cX12_more 365 = .ok (.aload_n 0, 1) := zo_42 (zkb zk_cX12_more zn_cX12_more (by decide +kernel))
theorem dX12_more_366 : decode cX12_more 366 = .ok (.getfield 22, 3) := zo_180 (b1 := 0) (b2 := 22) (zkb3 zk_cX12_more zn_cX12_more (by decide +kernel)) rfl
theorem dX12_more_369 : decode cX12_more 369 = .ok (.bipush 25, 2) := zo_16 (b1 := 25) (zkb2 zk_cX12_more zn_cX12_more (by decide +kernel)) rfl
theorem dX12_more_371 : decode cX12_more 371 = .ok (.iload_n 3, 1) := zo_29 (zkb zk_cX12_more zn_cX12_more (by decide +kernel))
theorem dX12_more_372 : decode cX12_more 372 = .ok (.iconst 4, 1) := zo_7 (zkb zk_cX12_more zn_cX12_more (by decide +kernel))
theorem dX12_more_373 : decode cX12_more 373 = .ok (.irem, 1) := zo_112 (zkb zk_cX12_more zn_cX12_more (by decide +kernel))
theorem dX12_more_374 : decode cX12_more 374 = .ok (.iconst 2, 1) := zo_5 (zkb zk_cX12_more zn_cX12_more (by decide +kernel))
theorem dX12_more_375 : decode cX12_more 375 = .ok (.if_icmp .ge 7, 3) := zo_162 (b1 := 0) (b2 := 7) (zkb3 zk_cX12_more zn_cX12_more (by decide +kernel)) rfl
theorem dX12_more_378 : decode cX12_more 378 = .ok (.iconst 0, 1) := zo_3 (zkb zk_cX12_more zn_cX12_more (by decide +kernel))
theorem dX12_more_379 : decode cX12_more 379 = .ok (.goto 8, 3) := zo_167 (b1 := 0) (b2 := 8) (zkb3 zk_cX12_more zn_cX12_more (by decide +kernel)) rfl
theorem dX12_more_382 : decode cX12_more 382 = .ok (.iload_n 3, 1) := zo_29 (zkb zk_cX12_more zn_cX12_more (by decide +kernel))
theorem dX12_more_383 : decode cX12_more 383 = .ok (.iconst 4, 1) := zo_7 (zkb zk_cX12_more zn_cX12_more (by decide +kernel))
theorem dX12_more_384 : decode cX12_more 384 = .ok (.irem, 1) := zo_112 (zkb zk_cX12_more zn_cX12_more (by decide +kernel))
theorem dX12_more_385 : decode cX12_more 385 = .ok (.iconst 1, 1) := zo_4 (zkb zk_cX12_more zn_cX12_more (by decide +kernel))
theorem dX12_more_386 : decode cX12_more 386 = .ok (.isub, 1) := zo_100 (zkb zk_cX12_more zn_cX12_more (by decide +kernel))
theorem dX12_more_387 : decode cX12_more 387 = .ok (.iastore, 1) := zo_79 (zkb zk_cX12_more zn_cX12_more (by decide +kernel))
theorem dX12_more_388 : decode cX12_more 388 = .ok (.bipush 8, 2) := zo_16 (b1 := 8) (zkb2 zk_cX12_more zn_cX12_more (by decide +kernel)) rfl
theorem dX12_more_390 : decode cX12_more 390 = .ok (.ireturn, 1) := zo_172 (zkb zk_cX12_more zn_cX12_more (by decide +kernel))
theorem dX12_more_391 : decode cX12_more 391 = .ok (.aload_n 0, 1) := zo_42 (zkb zk_cX12_more zn_cX12_more (by decide +kernel))
theorem dX12_more_392 : decode cX12_more 392 = .ok (.iload_n 3, 1) := zo_29 (zkb zk_cX12_more zn_cX12_more (by decide +kernel))
theorem dX12_more_393 : decode cX12_more 393 = .ok (.invokevirtual 320, 3) := zo_182 (b1 := 1) (b2 := 64) (zkb3 zk_cX12_more zn_cX12_more (by decide +kernel)) rfl
theorem dX12_more_396 : decode cX12_more 396 = .ok (.ireturn, 1) := zo_172 (zkb zk_cX12_more zn_cX12_more (by decide +kernel))
def kn_cX12_words : Nat := 0xb1c600b6030400a70407009a1c042ac600b6030400a7040700a4ff7f1107150b00a10080110715052ac600b6030400a7040700a48f1206150a009b0615032ac600b6030400a70407009c640515647eff0f1104157eff0f111d1a00a7031e00a7040700a4ff0f11600515607eff0f1104157eff0f111d2000991c072aca00b67a081006152ac600b6030400a70407009a7e8f12061506102ac600b6030400a7040700997e2112061507102abb00b606152a073664051564930415931d0c00a760051560930415931d0f00991c06366405156404151d0a00a76005156004151d0d00991c4f7e8f1260041d14101600b42a0536cd00b6032a04360601b61b2a3eb700b62a
theorem zk_cX12_words : zkd cX12_words.data.toList kn_cX12_words = true := by decide +kernel
theorem zn_cX12_words : cX12_words.data.toList.length = 259 := by decide +kernel
theorem dX12_words_0 : decode cX12_words 0 = .ok (.aload_n 0, 1) := zo_42 (zkb zk_cX12_words zn_cX12_words (by decide +kernel))
theorem dX12_words_1 : decode cX12_words 1 = .ok (.invokevirtual 183, 3) := zo_182 (b1 := 0) (b2 := 183) (zkb3 zk_cX12_words zn_cX12_words (by decide +kernel)) rfl
theorem dX12_words_4 : decode cX12_words 4 = .ok (.istore_n 3, 1) := zo_62 (zkb zk_cX12_words zn_cX12_words (by decide +kernel))
theorem dX12_words_5 : decode cX12_words 5 = .ok (.aload_n 0, 1) := zo_42 (zkb zk_cX12_words zn_cX12_words (by decide +kernel))
theorem dX12_words_6 : decode cX12_words 6 = .ok (.iload_n 1, 1) := zo_27 (zkb zk_cX12_words zn_cX12_words (by decide +kernel))
theorem dX12_words_7 : decode cX12_words 7 = .ok (.invokevirtual 262, 3) := zo_182 (b1 := 1) (b2 := 6) (zkb3 zk_cX12_words zn_cX12_words (by decide +kernel)) rfl
theorem dX12_words_10 : decode cX12_words 10 = .ok (.istore 4, 2) := zo_54 (b1 := 4) (zkb2 zk_cX12_words zn_cX12_words (by decide +kernel))
theorem dX12_words_12 : decode cX12_words 12 = .ok (.aload_n 0, 1) := zo_42 (zkb zk_cX12_words zn_cX12_words (by decide +kernel))
theorem dX12_words_13 : decode cX12_words 13 = .ok (.iconst 0, 1) := zo_3 (zkb zk_cX12_words zn_cX12_words (by decide +kernel))
theorem dX12_words_14 : decode cX12_words 14 = .ok (.invokevirtual 205, 3) := zo_182 (b1 := 0) (b2 := 205) (zkb3 zk_cX12_words zn_cX12_words (by decide +kernel)) rfl
theorem dX12_words_17 : decode cX12_words 17 = .ok (.istore 5, 2) := zo_54 (b1 := 5) (zkb2 zk_cX12_words zn_cX12_words (by decide +kernel))
theorem dX12_words_19 : decode cX12_words 19 = .ok (.aload_n 0, 1) := zo_42 (zkb zk_cX12_words zn_cX12_words (by decide +kernel))
theorem dX12_words_20 : decode cX12_words 20 = .ok (.getfield 22, 3) := zo_180 (b1 := 0) (b2 := 22) (zkb3 zk_cX12_words zn_cX12_words (by decide +kernel)) rfl
theorem dX12_words_23 : decode cX12_words 23 = .ok (.bipush 20, 2) := zo_16 (b1 := 20) (zkb2 zk_cX12_words zn_cX12_words (by decide +kernel)) rfl
theorem dX12_words_25 : decode cX12_words 25 = .ok (.iload_n 3, 1) := zo_29 (zkb zk_cX12_words zn_cX12_words (by decide +kernel))
theorem dX12_words_26 : decode cX12_words 26 = .ok (.iconst 1, 1) := zo_4 (zkb zk_cX12_words zn_cX12_words (by decide +kernel))
theorem dX12_words_27 : decode cX12_words 27 = .ok (.iadd, 1) := zo_96 (zkb zk_cX12_words zn_cX12_words (by decide +kernel))
theorem dX12_words_28 : decode cX12_words 28 = .ok (.ldc 143, 2) := zo_18 (b1 := 143) (zkb2 zk_cX12_words zn_cX12_words (by decide +kernel))
theorem dX12_words_30 : decode cX12_words 30 = .ok (.iand, 1) := zo_126 (zkb zk_cX12_words zn_cX12_words (by decide +kernel))
theorem dX12_words_31 : decode cX12_words 31 = .ok (.iastore, 1) := zo_79 (zkb zk_cX12_words zn_cX12_words (by decide +kernel))
theorem dX12_words_32 : decode cX12_words 32 = .ok (.iload_n 2, 1) := zo_28 (zkb zk_cX12_words zn_cX12_words (by decide +kernel))
theorem dX12_words_33 : decode cX12_words 33 = .ok (.ifCond .eq 13, 3) := zo_153 (b1 := 0) (b2 := 13) (zkb3 zk_cX12_words zn_cX12_words (by decide +kernel)) rfl
theorem dX12_words_36 : decode cX12_words 36 = .ok (.iload_n 3, 1) := zo_29 (zkb zk_cX12_words zn_cX12_words (by decide +kernel))
theorem dX12_words_37 : decode cX12_words 37 = .ok (.iload 4, 2) := zo_21 (b1 := 4) (zkb2 zk_cX12_words zn_cX12_words (by decide +kernel))
theorem dX12_words_39 : decode cX12_words 39 = .ok (.iadd, 1) := zo_96 (zkb zk_cX12_words zn_cX12_words (by decide +kernel))
theorem dX12_words_40 : decode cX12_words 40 = .ok (.iload 5, 2) := zo_21 (b1 := 5) (zkb2 zk_cX12_words zn_cX12_words (by decide +kernel))
theorem dX12_words_42 : decode cX12_words 42 = .ok (.iadd, 1) := zo_96 (zkb zk_cX12_words zn_cX12_words (by decide +kernel))
theorem dX12_words_43 : decode cX12_words 43 = .ok (.goto 10, 3) := zo_167 (b1 := 0) (b2 := 10) (zkb3 zk_cX12_words zn_cX12_words (by decide +kernel)) rfl
theorem dX12_words_46 : decode cX12_words 46 = .ok (.iload_n 3, 1) := zo_29 (zkb zk_cX12_words zn_cX12_words (by decide +kernel))
theorem dX12_words_47 : decode cX12_words 47 = .ok (.iload 4, 2) := zo_21 (b1 := 4) (zkb2 zk_cX12_words zn_cX12_words (by decide +kernel))
theorem dX12_words_49 : decode cX12_words 49 = .ok (.isub, 1) := zo_100 (zkb zk_cX12_words zn_cX12_words (by decide +kernel))
theorem dX12_words_50 : decode cX12_words 50 = .ok (.iload 5, 2) := zo_21 (b1 := 5) (zkb2 zk_cX12_words zn_cX12_words (by decide +kernel))
theorem dX12_words_52 : decode cX12_words 52 = .ok (.isub, 1) := zo_100 (zkb zk_cX12_words zn_cX12_words (by decide +kernel))
theorem dX12_words_53 : decode cX12_words 53 = .ok (.istore 6, 2) := zo_54 (b1 := 6) (zkb2 zk_cX12_words zn_cX12_words (by decide +kernel))
theorem dX12_words_55 : decode cX12_words 55 = .ok (.iload_n 2, 1) := zo_28 (zkb zk_cX12_words zn_cX12_words (by decide +kernel))
theorem dX12_words_56 : decode cX12_words 56 = .ok (.ifCond .eq 15, 3) := zo_153 (b1 := 0) (b2 := 15) (zkb3 zk_cX12_words zn_cX12_words (by decide +kernel)) rfl
theorem dX12_words_59 : decode cX12_words 59 = .ok (.iload_n 3, 1) := zo_29 (zkb zk_cX12_words zn_cX12_words (by decide +kernel))
theorem dX12_words_60 : decode cX12_words 60 = .ok (.i2s, 1) := by decide +kernel
theorem dX12_words_61 : decode cX12_words 61 = .ok (.iload 4, 2) := zo_21 (b1 := 4) (zkb2 zk_cX12_words zn_cX12_words (by decide +kernel))
theorem dX12_words_63 : decode cX12_words 63 = .ok (.i2s, 1) := by decide +kernel
theorem dX12_words_64 : decode cX12_words 64 = .ok (.iadd, 1) := zo_96 (zkb zk_cX12_words zn_cX12_words (by decide +kernel))
theorem dX12_words_65 : decode cX12_words 65 = .ok (.iload 5, 2) := zo_21 (b1 := 5) (zkb2 zk_cX12_words zn_cX12_words (by decide +kernel))
theorem dX12_words_67 : decode cX12_words 67 = .ok (.iadd, 1) := zo_96 (zkb zk_cX12_words zn_cX12_words (by decide +kernel))
theorem dX12_words_68 : decode cX12_words 68 = .ok (.goto 12, 3) := zo_167 (b1 := 0) (b2 := 12) (zkb3 zk_cX12_words zn_cX12_words (by decide +kernel)) rfl
theorem dX12_words_71 : decode cX12_words 71 = .ok (.iload_n 3, 1) := zo_29 (zkb zk_cX12_words zn_cX12_words (by decide +kernel))
theorem dX12_words_72 : decode cX12_words 72 = .ok (.i2s, 1) := by decide +kernel
theorem dX12_words_73 : decode cX12_words 73 = .ok (.iload 4, 2) := zo_21 (b1 := 4) (zkb2 zk_cX12_words zn_cX12_words (by decide +kernel))
theorem dX12_words_75 : decode cX12_words 75 = .ok (.i2s, 1) := by decide +kernel
theorem dX12_words_76 : decode cX12_words 76 = .ok (.isub, 1) := zo_100 (zkb zk_cX12_words zn_cX12_words (by decide +kernel))
theorem dX12_words_77 : decode cX12_words 77 = .ok (.iload 5, 2) := zo_21 (b1 := 5) (zkb2 zk_cX12_words zn_cX12_words (by decide +kernel))
theorem dX12_words_79 : decode cX12_words 79 = .ok (.isub, 1) := zo_100 (zkb zk_cX12_words zn_cX12_words (by decide +kernel))
theorem dX12_words_80 : decode cX12_words 80 = .ok (.istore 7, 2) := zo_54 (b1 := 7) (zkb2 zk_cX12_words zn_cX12_words (by decide +kernel))
theorem dX12_words_82 : decode cX12_words 82 = .ok (.aload_n 0, 1) := zo_42 (zkb zk_cX12_words zn_cX12_words (by decide +kernel))
theorem dX12_words_83 : decode cX12_words 83 = .ok (.iload 6, 2) := zo_21 (b1 := 6) (zkb2 zk_cX12_words zn_cX12_words (by decide +kernel))
theorem dX12_words_85 : decode cX12_words 85 = .ok (.invokevirtual 187, 3) := zo_182 (b1 := 0) (b2 := 187) (zkb3 zk_cX12_words zn_cX12_words (by decide +kernel)) rfl
theorem dX12_words_88 : decode cX12_words 88 = .ok (.aload_n 0, 1) := zo_42 (zkb zk_cX12_words zn_cX12_words (by decide +kernel))
theorem dX12_words_89 : decode cX12_words 89 = .ok (.bipush 7, 2) := zo_16 (b1 := 7) (zkb2 zk_cX12_words zn_cX12_words (by decide +kernel)) rfl
theorem dX12_words_91 : decode cX12_words 91 = .ok (.iload 6, 2) := zo_21 (b1 := 6) (zkb2 zk_cX12_words zn_cX12_words (by decide +kernel))
theorem dX12_words_93 : decode cX12_words 93 = .ok (.ldc 33, 2) := zo_18 (b1 := 33) (zkb2 zk_cX12_words zn_cX12_words (by decide +kernel))
theorem dX12_words_95 : decode cX12_words 95 = .ok (.iand, 1) := zo_126 (zkb zk_cX12_words zn_cX12_words (by decide +kernel))
theorem dX12_words_96 : decode cX12_words 96 = .ok (.ifCond .eq 7, 3) := zo_153 (b1 := 0) (b2 := 7) (zkb3 zk_cX12_words zn_cX12_words (by decide +kernel)) rfl
theorem dX12_words_99 : decode cX12_words 99 = .ok (.iconst 1, 1) := zo_4 (zkb zk_cX12_words zn_cX12_words (by decide +kernel))
theorem dX12_words_100 : decode cX12_words 100 = .ok (.goto 4, 3) := zo_167 (b1 := 0) (b2 := 4) (zkb3 zk_cX12_words zn_cX12_words (by decide +kernel)) rfl
theorem dX12_words_103 : decode cX12_words 103 = .ok (.iconst 0, 1) := zo_3 (zkb zk_cX12_words zn_cX12_words (by decide +kernel))
theorem dX12_words_104 : decode cX12_words 104 = .ok (.invokevirtual 198, 3) := zo_182 (b1 := 0) (b2 := 198) (zkb3 zk_cX12_words zn_cX12_words (by decide +kernel)) rfl
theorem dX12_words_107 : decode cX12_words 107 = .ok (.aload_n 0, 1) := zo_42 (zkb zk_cX12_words zn_cX12_words (by decide +kernel))
theorem dX12_words_108 : decode cX12_words 108 = .ok (.bipush 6, 2) := zo_16 (b1 := 6) (zkb2 zk_cX12_words zn_cX12_words (by decide +kernel)) rfl
theorem dX12_words_110 : decode cX12_words 110 = .ok (.iload 6, 2) := zo_21 (b1 := 6) (zkb2 zk_cX12_words zn_cX12_words (by decide +kernel))
theorem dX12_words_112 : decode cX12_words 112 = .ok (.ldc 143, 2) := zo_18 (b1 := 143) (zkb2 zk_cX12_words zn_cX12_words (by decide +kernel))
theorem dX12_words_114 : decode cX12_words 114 = .ok (.iand, 1) := zo_126 (zkb zk_cX12_words zn_cX12_words (by decide +kernel))
theorem dX12_words_115 : decode cX12_words 115 = .ok (.ifCond .ne 7, 3) := zo_154 (b1 := 0) (b2 := 7) (zkb3 zk_cX12_words zn_cX12_words (by decide +kernel)) rfl
theorem dX12_words_118 : decode cX12_words 118 = .ok (.iconst 1, 1) := zo_4 (zkb zk_cX12_words zn_cX12_words (by decide +kernel))
theorem dX12_words_119 : decode cX12_words 119 = .ok (.goto 4, 3) := zo_167 (b1 := 0) (b2 := 4) (zkb3 zk_cX12_words zn_cX12_words (by decide +kernel)) rfl
theorem dX12_words_122 : decode cX12_words 122 = .ok (.iconst 0, 1) := zo_3 (zkb zk_cX12_words zn_cX12_words (by decide +kernel))
theorem dX12_words_123 : decode cX12_words 123 = .ok (.invokevirtual 198, 3) := zo_182 (b1 := 0) (b2 := 198) (zkb3 zk_cX12_words zn_cX12_words (by decide +kernel)) rfl
theorem dX12_words_126 : decode cX12_words 126 = .ok (.aload_n 0, 1) := zo_42 (zkb zk_cX12_words zn_cX12_words (by decide +kernel))
theorem dX12_words_127 : decode cX12_words 127 = .ok (.iload 6, 2) := zo_21 (b1 := 6) (zkb2 zk_cX12_words zn_cX12_words (by decide +kernel))
theorem dX12_words_129 : decode cX12_words 129 = .ok (.bipush 8, 2) := zo_16 (b1 := 8) (zkb2 zk_cX12_words zn_cX12_words (by decide +kernel)) rfl
theorem dX12_words_131 : decode cX12_words 131 = .ok (.ishr, 1) := zo_122 (zkb zk_cX12_words zn_cX12_words (by decide +kernel))
theorem dX12_words_132 : decode cX12_words 132 = .ok (.invokevirtual 202, 3) := zo_182 (b1 := 0) (b2 := 202) (zkb3 zk_cX12_words zn_cX12_words (by decide +kernel)) rfl
theorem dX12_words_135 : decode cX12_words 135 = .ok (.aload_n 0, 1) := zo_42 (zkb zk_cX12_words zn_cX12_words (by decide +kernel))
theorem dX12_words_136 : decode cX12_words 136 = .ok (.iconst 4, 1) := zo_7 (zkb zk_cX12_words zn_cX12_words (by decide +kernel))
theorem dX12_words_137 : decode cX12_words 137 = .ok (.iload_n 2, 1) := zo_28 (zkb zk_cX12_words zn_cX12_words (by decide +kernel))
theorem dX12_words_138 : decode cX12_words 138 = .ok (.ifCond .eq 32, 3) := zo_153 (b1 := 0) (b2 := 32) (zkb3 zk_cX12_words zn_cX12_words (by decide +kernel)) rfl
theorem dX12_words_141 : decode cX12_words 141 = .ok (.iload_n 3, 1) := zo_29 (zkb zk_cX12_words zn_cX12_words (by decide +kernel))
theorem dX12_words_142 : decode cX12_words 142 = .ok (.sipush 4095, 3) := zo_17 (b1 := 15) (b2 := 255) (zkb3 zk_cX12_words zn_cX12_words (by decide +kernel)) rfl
theorem dX12_words_145 : decode cX12_words 145 = .ok (.iand, 1) := zo_126 (zkb zk_cX12_words zn_cX12_words (by decide +kernel))
theorem dX12_words_146 : decode cX12_words 146 = .ok (.iload 4, 2) := zo_21 (b1 := 4) (zkb2 zk_cX12_words zn_cX12_words (by decide +kernel))
theorem dX12_words_148 : decode cX12_words 148 = .ok (.sipush 4095, 3) := zo_17 (b1 := 15) (b2 := 255) (zkb3 zk_cX12_words zn_cX12_words (by decide +kernel)) rfl
theorem dX12_words_151 : decode cX12_words 151 = .ok (.iand, 1) := zo_126 (zkb zk_cX12_words zn_cX12_words (by decide +kernel))
theorem dX12_words_152 : decode cX12_words 152 = .ok (.iadd, 1) := zo_96 (zkb zk_cX12_words zn_cX12_words (by decide +kernel))
theorem dX12_words_153 : decode cX12_words 153 = .ok (.iload 5, 2) := zo_21 (b1 := 5) (zkb2 zk_cX12_words zn_cX12_words (by decide +kernel))
theorem dX12_words_155 : decode cX12_words 155 = .ok (.iadd, 1) := zo_96 (zkb zk_cX12_words zn_cX12_words (by decide +kernel))
theorem dX12_words_156 : decode cX12_words 156 = .ok (.sipush 4095, 3) := zo_17 (b1 := 15) (b2 := 255) (zkb3 zk_cX12_words zn_cX12_words (by decide +kernel)) rfl
theorem dX12_words_159 : decode cX12_words 159 = .ok (.if_icmp .le 7, 3) := zo_164 (b1 := 0) (b2 := 7) (zkb3 zk_cX12_words zn_cX12_words (by decide +kernel)) rfl
theorem dX12_words_162 : decode cX12_words 162 = .ok (.iconst 1, 1) := zo_4 (zkb zk_cX12_words zn_cX12_words (by decide +kernel))
theorem dX12_words_163 : decode cX12_words 163 = .ok (.goto 30, 3) := zo_167 (b1 := 0) (b2 := 30) (zkb3 zk_cX12_words zn_cX12_words (by decide +kernel)) rfl
theorem dX12_words_166 : decode cX12_words 166 = .ok (.iconst 0, 1) := zo_3 (zkb zk_cX12_words zn_cX12_words (by decide +kernel))
theorem dX12_words_167 : decode cX12_words 167 = .ok (.goto 26, 3) := zo_167 (b1 := 0) (b2 := 26) (zkb3 zk_cX12_words zn_cX12_words (by decide +kernel)) rfl
theorem dX12_words_170 : decode cX12_words 170 = .ok (.iload_n 3, 1) := zo_29 (zkb zk_cX12_words zn_cX12_words (by decide +kernel))
theorem dX12_words_171 : decode cX12_words 171 = .ok (.sipush 4095, 3) := zo_17 (b1 := 15) (b2 := 255) (zkb3 zk_cX12_words zn_cX12_words (by decide +kernel)) rfl
theorem dX12_words_174 : decode cX12_words 174 = .ok (.iand, 1) := zo_126 (zkb zk_cX12_words zn_cX12_words (by decide +kernel))
theorem dX12_words_175 : decode cX12_words 175 = .ok (.iload 4, 2) := zo_21 (b1 := 4) (zkb2 zk_cX12_words zn_cX12_words (by decide +kernel))
theorem dX12_words_177 : decode cX12_words 177 = .ok (.sipush 4095, 3) := zo_17 (b1 := 15) (b2 := 255) (zkb3 zk_cX12_words zn_cX12_words (by decide +kernel)) rfl
theorem dX12_words_180 : decode cX12_words 180 = .ok (.iand, 1) := zo_126 (zkb zk_cX12_words zn_cX12_words (by decide +kernel))
theorem dX12_words_181 : decode cX12_words 181 = .ok (.isub, 1) := zo_100 (zkb zk_cX12_words zn_cX12_words (by decide +kernel))
theorem dX12_words_182 : decode cX12_words 182 = .ok (.iload 5, 2) := zo_21 (b1 := 5) (zkb2 zk_cX12_words zn_cX12_words (by decide +kernel))
theorem dX12_words_184 : decode cX12_words 184 = .ok (.isub, 1) := zo_100 (zkb zk_cX12_words zn_cX12_words (by decide +kernel))
theorem dX12_words_185 : decode cX12_words 185 = .ok (.ifCond .ge 7, 3) := zo_156 (b1 := 0) (b2 := 7) (zkb3 zk_cX12_words zn_cX12_words (by decide +kernel)) rfl
theorem dX12_words_188 : decode cX12_words 188 = .ok (.iconst 1, 1) := zo_4 (zkb zk_cX12_words zn_cX12_words (by decide +kernel))
theorem dX12_words_189 : decode cX12_words 189 = .ok (.goto 4, 3) := zo_167 (b1 := 0) (b2 := 4) (zkb3 zk_cX12_words zn_cX12_words (by decide +kernel)) rfl
theorem dX12_words_192 : decode cX12_words 192 = .ok (.iconst 0, 1) := zo_3 (zkb zk_cX12_words zn_cX12_words (by decide +kernel))
theorem dX12_words_193 : decode cX12_words 193 = .ok (.invokevirtual 198, 3) := zo_182 (b1 := 0) (b2 := 198) (zkb3 zk_cX12_words zn_cX12_words (by decide +kernel)) rfl
theorem dX12_words_196 : decode cX12_words 196 = .ok (.aload_n 0, 1) := zo_42 (zkb zk_cX12_words zn_cX12_words (by decide +kernel))
theorem dX12_words_197 : decode cX12_words 197 = .ok (.iconst 0, 1) := zo_3 (zkb zk_cX12_words zn_cX12_words (by decide +kernel))
theorem dX12_words_198 : decode cX12_words 198 = .ok (.iload 6, 2) := zo_21 (b1 := 6) (zkb2 zk_cX12_words zn_cX12_words (by decide +kernel))
theorem dX12_words_200 : decode cX12_words 200 = .ok (.ifCond .lt 10, 3) := zo_155 (b1 := 0) (b2 := 10) (zkb3 zk_cX12_words zn_cX12_words (by decide +kernel)) rfl
theorem dX12_words_203 : decode cX12_words 203 = .ok (.iload 6, 2) := zo_21 (b1 := 6) (zkb2 zk_cX12_words zn_cX12_words (by decide +kernel))
theorem dX12_words_205 : decode cX12_words 205 = .ok (.ldc 143, 2) := zo_18 (b1 := 143) (zkb2 zk_cX12_words zn_cX12_words (by decide +kernel))
theorem dX12_words_207 : decode cX12_words 207 = .ok (.if_icmp .le 7, 3) := zo_164 (b1 := 0) (b2 := 7) (zkb3 zk_cX12_words zn_cX12_words (by decide +kernel)) rfl
theorem dX12_words_210 : decode cX12_words 210 = .ok (.iconst 1, 1) := zo_4 (zkb zk_cX12_words zn_cX12_words (by decide +kernel))
theorem dX12_words_211 : decode cX12_words 211 = .ok (.goto 4, 3) := zo_167 (b1 := 0) (b2 := 4) (zkb3 zk_cX12_words zn_cX12_words (by decide +kernel)) rfl
theorem dX12_words_214 : decode cX12_words 214 = .ok (.iconst 0, 1) := zo_3 (zkb zk_cX12_words zn_cX12_words (by decide +kernel))
theorem dX12_words_215 : decode cX12_words 215 = .ok (.invokevirtual 198, 3) := zo_182 (b1 := 0) (b2 := 198) (zkb3 zk_cX12_words zn_cX12_words (by decide +kernel)) rfl
theorem dX12_words_218 : decode cX12_words 218 = .ok (.aload_n 0, 1) := zo_42 (zkb zk_cX12_words zn_cX12_words (by decide +kernel))
theorem dX12_words_219 : decode cX12_words 219 = .ok (.iconst 2, 1) := zo_5 (zkb zk_cX12_words zn_cX12_words (by decide +kernel))
theorem dX12_words_220 : decode cX12_words 220 = .ok (.iload 7, 2) := zo_21 (b1 := 7) (zkb2 zk_cX12_words zn_cX12_words (by decide +kernel))
theorem dX12_words_222 : decode cX12_words 222 = .ok (.sipush (-32768), 3) := zo_17 (b1 := 128) (b2 := 0) (zkb3 zk_cX12_words zn_cX12_words (by decide +kernel)) rfl
theorem dX12_words_225 : decode cX12_words 225 = .ok (.if_icmp .lt 11, 3) := zo_161 (b1 := 0) (b2 := 11) (zkb3 zk_cX12_words zn_cX12_words (by decide +kernel)) rfl
theorem dX12_words_228 : decode cX12_words 228 = .ok (.iload 7, 2) := zo_21 (b1 := 7) (zkb2 zk_cX12_words zn_cX12_words (by decide +kernel))
theorem dX12_words_230 : decode cX12_words 230 = .ok (.sipush 32767, 3) := zo_17 (b1 := 127) (b2 := 255) (zkb3 zk_cX12_words zn_cX12_words (by decide +kernel)) rfl
theorem dX12_words_233 : decode cX12_words 233 = .ok (.if_icmp .le 7, 3) := zo_164 (b1 := 0) (b2 := 7) (zkb3 zk_cX12_words zn_cX12_words (by decide +kernel)) rfl
theorem dX12_words_236 : decode cX12_words 236 = .ok (.iconst 1, 1) := zo_4 (zkb zk_cX12_words zn_cX12_words (by decide +kernel))
theorem dX12_words_237 : decode cX12_words 237 = .ok (.goto 4, 3) := zo_167 (b1 := 0) (b2 := 4) (zkb3 zk_cX12_words zn_cX12_words (by decide +kernel)) rfl
theorem dX12_words_240 : decode cX12_words 240 = .ok (.iconst 0, 1) := zo_3 (zkb zk_cX12_words zn_cX12_words (by decide +kernel))
theorem dX12_words_241 : decode cX12_words 241 = .ok (.invokevirtual 198, 3) := zo_182 (b1 := 0) (b2 := 198) (zkb3 zk_cX12_words zn_cX12_words (by decide +kernel)) rfl
theorem dX12_words_244 : decode cX12_words 244 = .ok (.aload_n 0, 1) := zo_42 (zkb zk_cX12_words zn_cX12_words (by decide +kernel))
theorem dX12_words_245 : decode cX12_words 245 = .ok (.iconst 1, 1) := zo_4 (zkb zk_cX12_words zn_cX12_words (by decide +kernel))
theorem dX12_words_246 : decode cX12_words 246 = .ok (.iload_n 2, 1) := zo_28 (zkb zk_cX12_words zn_cX12_words (by decide +kernel))
theorem dX12_words_247 : decode cX12_words 247 = .ok (.ifCond .ne 7, 3) := zo_154 (b1 := 0) (b2 := 7) (zkb3 zk_cX12_words zn_cX12_words (by decide +kernel)) rfl
theorem dX12_words_250 : decode cX12_words 250 = .ok (.iconst 1, 1) := zo_4 (zkb zk_cX12_words zn_cX12_words (by decide +kernel))
theorem dX12_words_251 : decode cX12_words 251 = .ok (.goto 4, 3) := zo_167 (b1 := 0) (b2 := 4) (zkb3 zk_cX12_words zn_cX12_words (by decide +kernel)) rfl
theorem dX12_words_254 : decode cX12_words 254 = .ok (.iconst 0, 1) := zo_3 (zkb zk_cX12_words zn_cX12_words (by decide +kernel))
theorem dX12_words_255 : decode cX12_words 255 = .ok (.invokevirtual 198, 3) := zo_182 (b1 := 0) (b2 := 198) (zkb3 zk_cX12_words zn_cX12_words (by decide +kernel)) rfl
theorem dX12_words_258 : decode cX12_words 258 = .ok (.return_, 1) := zo_177 (zkb zk_cX12_words zn_cX12_words (by decide +kernel))
def kn_cX12_specials : Nat := 0xac12100500a709100800a2071bc600b603042ac600b603072ac600b61c01b82e031600b42a052a1301b62e031600b42a2a4f807a071d0600a77e0f101d0a00a0071b7ef000112e031600b42a031600b42aa900b680041578071d0900a7807a071d780704150e00a0071b1c2a04367e0f102e031600b42a3ea600b61c2a4f7e8f1260041c14101600b42a3db100b606102a7b00a7c600b6030400a7040700a0042e18101600b42a052a1301b62e031600b42a2a4f2e16100500a715100800a0051b1600b42a031600b42a3c00a2071bac09104f2e031600b42a16100500a7151008009a1b1600b42a1c00a2051bac08100600a4081b
theorem zk_cX12_specials : zkd cX12_specials.data.toList kn_cX12_specials = true := by decide +kernel
theorem zn_cX12_specials : cX12_specials.data.toList.length = 245 := by decide +kernel
theorem dX12_specials_0 : decode cX12_specials 0 = .ok (.iload_n 1, 1) := zo_27 (zkb zk_cX12_specials zn_cX12_specials (by decide +kernel))
theorem dX12_specials_1 : decode cX12_specials 1 = .ok (.iconst 5, 1) := zo_8 (zkb zk_cX12_specials zn_cX12_specials (by decide +kernel))
theorem dX12_specials_2 : decode cX12_specials 2 = .ok (.if_icmp .le 6, 3) := zo_164 (b1 := 0) (b2 := 6) (zkb3 zk_cX12_specials zn_cX12_specials (by decide +kernel)) rfl
theorem dX12_specials_5 : decode cX12_specials 5 = .ok (.bipush 8, 2) := zo_16 (b1 := 8) (zkb2 zk_cX12_specials zn_cX12_specials (by decide +kernel)) rfl
theorem dX12_specials_7 : decode cX12_specials 7 = .ok (.ireturn, 1) := zo_172 (zkb zk_cX12_specials zn_cX12_specials (by decide +kernel))
theorem dX12_specials_8 : decode cX12_specials 8 = .ok (.iload_n 1, 1) := zo_27 (zkb zk_cX12_specials zn_cX12_specials (by decide +kernel))
theorem dX12_specials_9 : decode cX12_specials 9 = .ok (.iconst 2, 1) := zo_5 (zkb zk_cX12_specials zn_cX12_specials (by decide +kernel))
theorem dX12_specials_10 : decode cX12_specials 10 = .ok (.if_icmp .ge 28, 3) := zo_162 (b1 := 0) (b2 := 28) (zkb3 zk_cX12_specials zn_cX12_specials (by decide +kernel)) rfl
theorem dX12_specials_13 : decode cX12_specials 13 = .ok (.aload_n 0, 1) := zo_42 (zkb zk_cX12_specials zn_cX12_specials (by decide +kernel))
theorem dX12_specials_14 : decode cX12_specials 14 = .ok (.getfield 22, 3) := zo_180 (b1 := 0) (b2 := 22) (zkb3 zk_cX12_specials zn_cX12_specials (by decide +kernel)) rfl
theorem dX12_specials_17 : decode cX12_specials 17 = .ok (.iload_n 1, 1) := zo_27 (zkb zk_cX12_specials zn_cX12_specials (by decide +kernel))
theorem dX12_specials_18 : decode cX12_specials 18 = .ok (.ifCond .ne 8, 3) := zo_154 (b1 := 0) (b2 := 8) (zkb3 zk_cX12_specials zn_cX12_specials (by decide +kernel)) rfl
theorem dX12_specials_21 : decode cX12_specials 21 = .ok (.bipush 21, 2) := zo_16 (b1 := 21) (zkb2 zk_cX12_specials zn_cX12_specials (by decide +kernel)) rfl
theorem dX12_specials_23 : decode cX12_specials 23 = .ok (.goto 5, 3) := zo_167 (b1 := 0) (b2 := 5) (zkb3 zk_cX12_specials zn_cX12_specials (by decide +kernel)) rfl
theorem dX12_specials_26 : decode cX12_specials 26 = .ok (.bipush 22, 2) := zo_16 (b1 := 22) (zkb2 zk_cX12_specials zn_cX12_specials (by decide +kernel)) rfl
theorem dX12_specials_28 : decode cX12_specials 28 = .ok (.aload_n 0, 1) := zo_42 (zkb zk_cX12_specials zn_cX12_specials (by decide +kernel))
theorem dX12_specials_29 : decode cX12_specials 29 = .ok (.getfield 22, 3) := zo_180 (b1 := 0) (b2 := 22) (zkb3 zk_cX12_specials zn_cX12_specials (by decide +kernel)) rfl
theorem dX12_specials_32 : decode cX12_specials 32 = .ok (.iconst 0, 1) := zo_3 (zkb zk_cX12_specials zn_cX12_specials (by decide +kernel))
theorem dX12_specials_33 : decode cX12_specials 33 = .ok (.iaload, 1) := zo_46 (zkb zk_cX12_specials zn_cX12_specials (by decide +kernel))
theorem dX12_specials_34 : decode cX12_specials 34 = .ok (.iastore, 1) := zo_79 (zkb zk_cX12_specials zn_cX12_specials (by decide +kernel))
theorem dX12_specials_35 : decode cX12_specials 35 = .ok (.bipush 9, 2) := zo_16 (b1 := 9) (zkb2 zk_cX12_specials zn_cX12_specials (by decide +kernel)) rfl
theorem dX12_specials_37 : decode cX12_specials 37 = .ok (.ireturn, 1) := zo_172 (zkb zk_cX12_specials zn_cX12_specials (by decide +kernel))
theorem dX12_specials_38 : decode cX12_specials 38 = .ok (.iload_n 1, 1) := zo_27 (zkb zk_cX12_specials zn_cX12_specials (by decide +kernel))
theorem dX12_specials_39 : decode cX12_specials 39 = .ok (.iconst 4, 1) := zo_7 (zkb zk_cX12_specials zn_cX12_specials (by decide +kernel))
theorem dX12_specials_40 : decode cX12_specials 40 = .ok (.if_icmp .ge 60, 3) := zo_162 (b1 := 0) (b2 := 60) (zkb3 zk_cX12_specials zn_cX12_specials (by decide +kernel)) rfl
theorem dX12_specials_43 : decode cX12_specials 43 = .ok (.aload_n 0, 1) := zo_42 (zkb zk_cX12_specials zn_cX12_specials (by decide +kernel))
theorem dX12_specials_44 : decode cX12_specials 44 = .ok (.getfield 22, 3) := zo_180 (b1 := 0) (b2 := 22) (zkb3 zk_cX12_specials zn_cX12_specials (by decide +kernel)) rfl
theorem dX12_specials_47 : decode cX12_specials 47 = .ok (.iconst 0, 1) := zo_3 (zkb zk_cX12_specials zn_cX12_specials (by decide +kernel))
theorem dX12_specials_48 : decode cX12_specials 48 = .ok (.aload_n 0, 1) := zo_42 (zkb zk_cX12_specials zn_cX12_specials (by decide +kernel))
theorem dX12_specials_49 : decode cX12_specials 49 = .ok (.getfield 22, 3) := zo_180 (b1 := 0) (b2 := 22) (zkb3 zk_cX12_specials zn_cX12_specials (by decide +kernel)) rfl
theorem dX12_specials_52 : decode cX12_specials 52 = .ok (.iload_n 1, 1) := zo_27 (zkb zk_cX12_specials zn_cX12_specials (by decide +kernel))
theorem dX12_specials_53 : decode cX12_specials 53 = .ok (.iconst 2, 1) := zo_5 (zkb zk_cX12_specials zn_cX12_specials (by decide +kernel))
theorem dX12_specials_54 : decode cX12_specials 54 = .ok (.if_icmp .ne 8, 3) := zo_160 (b1 := 0) (b2 := 8) (zkb3 zk_cX12_specials zn_cX12_specials (by decide +kernel)) rfl
theorem dX12_specials_57 : decode cX12_specials 57 = .ok (.bipush 21, 2) := zo_16 (b1 := 21) (zkb2 zk_cX12_specials zn_cX12_specials (by decide +kernel)) rfl
theorem dX12_specials_59 : decode cX12_specials 59 = .ok (.goto 5, 3) := zo_167 (b1 := 0) (b2 := 5) (zkb3 zk_cX12_specials zn_cX12_specials (by decide +kernel)) rfl
theorem dX12_specials_62 : decode cX12_specials 62 = .ok (.bipush 22, 2) := zo_16 (b1 := 22) (zkb2 zk_cX12_specials zn_cX12_specials (by decide +kernel)) rfl
theorem dX12_specials_64 : decode cX12_specials 64 = .ok (.iaload, 1) := zo_46 (zkb zk_cX12_specials zn_cX12_specials (by decide +kernel))
theorem dX12_specials_65 : decode cX12_specials 65 = .ok (.iastore, 1) := zo_79 (zkb zk_cX12_specials zn_cX12_specials (by decide +kernel))
theorem dX12_specials_66 : decode cX12_specials 66 = .ok (.aload_n 0, 1) := zo_42 (zkb zk_cX12_specials zn_cX12_specials (by decide +kernel))
theorem dX12_specials_67 : decode cX12_specials 67 = .ok (.aload_n 0, 1) := zo_42 (zkb zk_cX12_specials zn_cX12_specials (by decide +kernel))
theorem dX12_specials_68 : decode cX12_specials 68 = .ok (.getfield 22, 3) := zo_180 (b1 := 0) (b2 := 22) (zkb3 zk_cX12_specials zn_cX12_specials (by decide +kernel)) rfl
theorem dX12_specials_71 : decode cX12_specials 71 = .ok (.iconst 0, 1) := zo_3 (zkb zk_cX12_specials zn_cX12_specials (by decide +kernel))
theorem dX12_specials_72 : decode cX12_specials 72 = .ok (.iaload, 1) := zo_46 (zkb zk_cX12_specials zn_cX12_specials (by decide +kernel))
theorem dX12_specials_73 : decode cX12_specials 73 = .ok (.invokevirtual 275, 3) := zo_182 (b1 := 1) (b2 := 19) (zkb3 zk_cX12_specials zn_cX12_specials (by decide +kernel)) rfl
theorem dX12_specials_76 : decode cX12_specials 76 = .ok (.aload_n 0, 1) := zo_42 (zkb zk_cX12_specials zn_cX12_specials (by decide +kernel))
theorem dX12_specials_77 : decode cX12_specials 77 = .ok (.iconst 2, 1) := zo_5 (zkb zk_cX12_specials zn_cX12_specials (by decide +kernel))
theorem dX12_specials_78 : decode cX12_specials 78 = .ok (.aload_n 0, 1) := zo_42 (zkb zk_cX12_specials zn_cX12_specials (by decide +kernel))
theorem dX12_specials_79 : decode cX12_specials 79 = .ok (.getfield 22, 3) := zo_180 (b1 := 0) (b2 := 22) (zkb3 zk_cX12_specials zn_cX12_specials (by decide +kernel)) rfl
theorem dX12_specials_82 : decode cX12_specials 82 = .ok (.bipush 24, 2) := zo_16 (b1 := 24) (zkb2 zk_cX12_specials zn_cX12_specials (by decide +kernel)) rfl
theorem dX12_specials_84 : decode cX12_specials 84 = .ok (.iaload, 1) := zo_46 (zkb zk_cX12_specials zn_cX12_specials (by decide +kernel))
theorem dX12_specials_85 : decode cX12_specials 85 = .ok (.iconst 1, 1) := zo_4 (zkb zk_cX12_specials zn_cX12_specials (by decide +kernel))
theorem dX12_specials_86 : decode cX12_specials 86 = .ok (.if_icmp .ne 7, 3) := zo_160 (b1 := 0) (b2 := 7) (zkb3 zk_cX12_specials zn_cX12_specials (by decide +kernel)) rfl
theorem dX12_specials_89 : decode cX12_specials 89 = .ok (.iconst 1, 1) := zo_4 (zkb zk_cX12_specials zn_cX12_specials (by decide +kernel))
theorem dX12_specials_90 : decode cX12_specials 90 = .ok (.goto 4, 3) := zo_167 (b1 := 0) (b2 := 4) (zkb3 zk_cX12_specials zn_cX12_specials (by decide +kernel)) rfl
theorem dX12_specials_93 : decode cX12_specials 93 = .ok (.iconst 0, 1) := zo_3 (zkb zk_cX12_specials zn_cX12_specials (by decide +kernel))
theorem dX12_specials_94 : decode cX12_specials 94 = .ok (.invokevirtual 198, 3) := zo_182 (b1 := 0) (b2 := 198) (zkb3 zk_cX12_specials zn_cX12_specials (by decide +kernel)) rfl
theorem dX12_specials_97 : decode cX12_specials 97 = .ok (.goto 123, 3) := zo_167 (b1 := 0) (b2 := 123) (zkb3 zk_cX12_specials zn_cX12_specials (by decide +kernel)) rfl
theorem dX12_specials_100 : decode cX12_specials 100 = .ok (.aload_n 0, 1) := zo_42 (zkb zk_cX12_specials zn_cX12_specials (by decide +kernel))
theorem dX12_specials_101 : decode cX12_specials 101 = .ok (.bipush 6, 2) := zo_16 (b1 := 6) (zkb2 zk_cX12_specials zn_cX12_specials (by decide +kernel)) rfl
theorem dX12_specials_103 : decode cX12_specials 103 = .ok (.invokevirtual 177, 3) := zo_182 (b1 := 0) (b2 := 177) (zkb3 zk_cX12_specials zn_cX12_specials (by decide +kernel)) rfl
theorem dX12_specials_106 : decode cX12_specials 106 = .ok (.istore_n 2, 1) := zo_61 (zkb zk_cX12_specials zn_cX12_specials (by decide +kernel))
theorem dX12_specials_107 : decode cX12_specials 107 = .ok (.aload_n 0, 1) := zo_42 (zkb zk_cX12_specials zn_cX12_specials (by decide +kernel))
theorem dX12_specials_108 : decode cX12_specials 108 = .ok (.getfield 22, 3) := zo_180 (b1 := 0) (b2 := 22) (zkb3 zk_cX12_specials zn_cX12_specials (by decide +kernel)) rfl
theorem dX12_specials_111 : decode cX12_specials 111 = .ok (.bipush 20, 2) := zo_16 (b1 := 20) (zkb2 zk_cX12_specials zn_cX12_specials (by decide +kernel)) rfl
theorem dX12_specials_113 : decode cX12_specials 113 = .ok (.iload_n 2, 1) := zo_28 (zkb zk_cX12_specials zn_cX12_specials (by decide +kernel))
theorem dX12_specials_114 : decode cX12_specials 114 = .ok (.iconst 1, 1) := zo_4 (zkb zk_cX12_specials zn_cX12_specials (by decide +kernel))
theorem dX12_specials_115 : decode cX12_specials 115 = .ok (.iadd, 1) := zo_96 (zkb zk_cX12_specials zn_cX12_specials (by decide +kernel))
theorem dX12_specials_116 : decode cX12_specials 116 = .ok (.ldc 143, 2) := zo_18 (b1 := 143) (zkb2 zk_cX12_specials zn_cX12_specials (by decide +kernel))
theorem dX12_specials_118 : decode cX12_specials 118 = .ok (.iand, 1) := zo_126 (zkb zk_cX12_specials zn_cX12_specials (by decide +kernel))
theorem dX12_specials_119 : decode cX12_specials 119 = .ok (.iastore, 1) := zo_79 (zkb zk_cX12_specials zn_cX12_specials (by decide +kernel))
theorem dX12_specials_120 : decode cX12_specials 120 = .ok (.aload_n 0, 1) := zo_42 (zkb zk_cX12_specials zn_cX12_specials (by decide +kernel))
theorem dX12_specials_121 : decode cX12_specials 121 = .ok (.iload_n 2, 1) := zo_28 (zkb zk_cX12_specials zn_cX12_specials (by decide +kernel))
theorem dX12_specials_122 : decode cX12_specials 122 = .ok (.invokevirtual 166, 3) := zo_182 (b1 := 0) (b2 := 166) (zkb3 zk_cX12_specials zn_cX12_specials (by decide +kernel)) rfl
theorem dX12_specials_125 : decode cX12_specials 125 = .ok (.istore_n 3, 1) := zo_62 (zkb zk_cX12_specials zn_cX12_specials (by decide +kernel))
theorem dX12_specials_126 : decode cX12_specials 126 = .ok (.aload_n 0, 1) := zo_42 (zkb zk_cX12_specials zn_cX12_specials (by decide +kernel))
theorem dX12_specials_127 : decode cX12_specials 127 = .ok (.getfield 22, 3) := zo_180 (b1 := 0) (b2 := 22) (zkb3 zk_cX12_specials zn_cX12_specials (by decide +kernel)) rfl
theorem dX12_specials_130 : decode cX12_specials 130 = .ok (.iconst 0, 1) := zo_3 (zkb zk_cX12_specials zn_cX12_specials (by decide +kernel))
theorem dX12_specials_131 : decode cX12_specials 131 = .ok (.iaload, 1) := zo_46 (zkb zk_cX12_specials zn_cX12_specials (by decide +kernel))
theorem dX12_specials_132 : decode cX12_specials 132 = .ok (.bipush 15, 2) := zo_16 (b1 := 15) (zkb2 zk_cX12_specials zn_cX12_specials (by decide +kernel)) rfl
theorem dX12_specials_134 : decode cX12_specials 134 = .ok (.iand, 1) := zo_126 (zkb zk_cX12_specials zn_cX12_specials (by decide +kernel))
theorem dX12_specials_135 : decode cX12_specials 135 = .ok (.istore 4, 2) := zo_54 (b1 := 4) (zkb2 zk_cX12_specials zn_cX12_specials (by decide +kernel))
theorem dX12_specials_137 : decode cX12_specials 137 = .ok (.aload_n 0, 1) := zo_42 (zkb zk_cX12_specials zn_cX12_specials (by decide +kernel))
theorem dX12_specials_138 : decode cX12_specials 138 = .ok (.iload_n 2, 1) := zo_28 (zkb zk_cX12_specials zn_cX12_specials (by decide +kernel))
theorem dX12_specials_139 : decode cX12_specials 139 = .ok (.iload_n 1, 1) := zo_27 (zkb zk_cX12_specials zn_cX12_specials (by decide +kernel))
theorem dX12_specials_140 : decode cX12_specials 140 = .ok (.iconst 4, 1) := zo_7 (zkb zk_cX12_specials zn_cX12_specials (by decide +kernel))
theorem dX12_specials_141 : decode cX12_specials 141 = .ok (.if_icmp .ne 14, 3) := zo_160 (b1 := 0) (b2 := 14) (zkb3 zk_cX12_specials zn_cX12_specials (by decide +kernel)) rfl
theorem dX12_specials_144 : decode cX12_specials 144 = .ok (.iload 4, 2) := zo_21 (b1 := 4) (zkb2 zk_cX12_specials zn_cX12_specials (by decide +kernel))
theorem dX12_specials_146 : decode cX12_specials 146 = .ok (.iconst 4, 1) := zo_7 (zkb zk_cX12_specials zn_cX12_specials (by decide +kernel))
theorem dX12_specials_147 : decode cX12_specials 147 = .ok (.ishl, 1) := zo_120 (zkb zk_cX12_specials zn_cX12_specials (by decide +kernel))
theorem dX12_specials_148 : decode cX12_specials 148 = .ok (.iload_n 3, 1) := zo_29 (zkb zk_cX12_specials zn_cX12_specials (by decide +kernel))
theorem dX12_specials_149 : decode cX12_specials 149 = .ok (.iconst 4, 1) := zo_7 (zkb zk_cX12_specials zn_cX12_specials (by decide +kernel))
theorem dX12_specials_150 : decode cX12_specials 150 = .ok (.ishr, 1) := zo_122 (zkb zk_cX12_specials zn_cX12_specials (by decide +kernel))
theorem dX12_specials_151 : decode cX12_specials 151 = .ok (.ior, 1) := zo_128 (zkb zk_cX12_specials zn_cX12_specials (by decide +kernel))
theorem dX12_specials_152 : decode cX12_specials 152 = .ok (.goto 9, 3) := zo_167 (b1 := 0) (b2 := 9) (zkb3 zk_cX12_specials zn_cX12_specials (by decide +kernel)) rfl
theorem dX12_specials_155 : decode cX12_specials 155 = .ok (.iload_n 3, 1) := zo_29 (zkb zk_cX12_specials zn_cX12_specials (by decide +kernel))
theorem dX12_specials_156 : decode cX12_specials 156 = .ok (.iconst 4, 1) := zo_7 (zkb zk_cX12_specials zn_cX12_specials (by decide +kernel))
theorem dX12_specials_157 : decode cX12_specials 157 = .ok (.ishl, 1) := zo_120 (zkb zk_cX12_specials zn_cX12_specials (by decide +kernel))
theorem dX12_specials_158 : decode cX12_specials 158 = .ok (.iload 4, 2) := zo_21 (b1 := 4) (zkb2 zk_cX12_specials zn_cX12_specials (by decide +kernel))
theorem dX12_specials_160 : decode cX12_specials 160 = .ok (.ior, 1) := zo_128 (zkb zk_cX12_specials zn_cX12_specials (by decide +kernel))
theorem dX12_specials_161 : decode cX12_specials 161 = .ok (.invokevirtual 169, 3) := zo_182 (b1 := 0) (b2 := 169) (zkb3 zk_cX12_specials zn_cX12_specials (by decide +kernel)) rfl
theorem dX12_specials_164 : decode cX12_specials 164 = .ok (.aload_n 0, 1) := zo_42 (zkb zk_cX12_specials zn_cX12_specials (by decide +kernel))
theorem dX12_specials_165 : decode cX12_specials 165 = .ok (.getfield 22, 3) := zo_180 (b1 := 0) (b2 := 22) (zkb3 zk_cX12_specials zn_cX12_specials (by decide +kernel)) rfl
theorem dX12_specials_168 : decode cX12_specials 168 = .ok (.iconst 0, 1) := zo_3 (zkb zk_cX12_specials zn_cX12_specials (by decide +kernel))
theorem dX12_specials_169 : decode cX12_specials 169 = .ok (.aload_n 0, 1) := zo_42 (zkb zk_cX12_specials zn_cX12_specials (by decide +kernel))
theorem dX12_specials_170 : decode cX12_specials 170 = .ok (.getfield 22, 3) := zo_180 (b1 := 0) (b2 := 22) (zkb3 zk_cX12_specials zn_cX12_specials (by decide +kernel)) rfl
theorem dX12_specials_173 : decode cX12_specials 173 = .ok (.iconst 0, 1) := zo_3 (zkb zk_cX12_specials zn_cX12_specials (by decide +kernel))
theorem dX12_specials_174 : decode cX12_specials 174 = .ok (.iaload, 1) := zo_46 (zkb zk_cX12_specials zn_cX12_specials (by decide +kernel))
theorem dX12_specials_175 : decode cX12_specials 175 = .ok (.sipush 240, 3) := zo_17 (b1 := 0) (b2 := 240) (zkb3 zk_cX12_specials zn_cX12_specials (by decide +kernel)) rfl
theorem dX12_specials_178 : decode cX12_specials 178 = .ok (.iand, 1) := zo_126 (zkb zk_cX12_specials zn_cX12_specials (by decide +kernel))
theorem dX12_specials_179 : decode cX12_specials 179 = .ok (.iload_n 1, 1) := zo_27 (zkb zk_cX12_specials zn_cX12_specials (by decide +kernel))
theorem dX12_specials_180 : decode cX12_specials 180 = .ok (.iconst 4, 1) := zo_7 (zkb zk_cX12_specials zn_cX12_specials (by decide +kernel))
theorem dX12_specials_181 : decode cX12_specials 181 = .ok (.if_icmp .ne 10, 3) := zo_160 (b1 := 0) (b2 := 10) (zkb3 zk_cX12_specials zn_cX12_specials (by decide +kernel)) rfl
theorem dX12_specials_184 : decode cX12_specials 184 = .ok (.iload_n 3, 1) := zo_29 (zkb zk_cX12_specials zn_cX12_specials (by decide +kernel))
theorem dX12_specials_185 : decode cX12_specials 185 = .ok (.bipush 15, 2) := zo_16 (b1 := 15) (zkb2 zk_cX12_specials zn_cX12_specials (by decide +kernel)) rfl
theorem dX12_specials_187 : decode cX12_specials 187 = .ok (.iand, 1) := zo_126 (zkb zk_cX12_specials zn_cX12_specials (by decide +kernel))
theorem dX12_specials_188 : decode cX12_specials 188 = .ok (.goto 6, 3) := zo_167 (b1 := 0) (b2 := 6) (zkb3 zk_cX12_specials zn_cX12_specials (by decide +kernel)) rfl
theorem dX12_specials_191 : decode cX12_specials 191 = .ok (.iload_n 3, 1) := zo_29 (zkb zk_cX12_specials zn_cX12_specials (by decide +kernel))
theorem dX12_specials_192 : decode cX12_specials 192 = .ok (.iconst 4, 1) := zo_7 (zkb zk_cX12_specials zn_cX12_specials (by decide +kernel))
theorem dX12_specials_193 : decode cX12_specials 193 = .ok (.ishr, 1) := zo_122 (zkb zk_cX12_specials zn_cX12_specials (by decide +kernel))
theorem dX12_specials_194 : decode cX12_specials 194 = .ok (.ior, 1) := zo_128 (zkb zk_cX12_specials zn_cX12_specials (by decide +kernel))
theorem dX12_specials_195 : decode cX12_specials 195 = .ok (.iastore, 1) := zo_79 (zkb zk_cX12_specials zn_cX12_specials (by decide +kernel))
theorem dX12_specials_196 : decode cX12_specials 196 = .ok (.aload_n 0, 1) := zo_42 (zkb zk_cX12_specials zn_cX12_specials (by decide +kernel))
theorem dX12_specials_197 : decode cX12_specials 197 = .ok (.aload_n 0, 1) := zo_42 (zkb zk_cX12_specials zn_cX12_specials (by decide +kernel))
theorem dX12_specials_198 : decode cX12_specials 198 = .ok (.getfield 22, 3) := zo_180 (b1 := 0) (b2 := 22) (zkb3 zk_cX12_specials zn_cX12_specials (by decide +kernel)) rfl
theorem dX12_specials_201 : decode cX12_specials 201 = .ok (.iconst 0, 1) := zo_3 (zkb zk_cX12_specials zn_cX12_specials (by decide +kernel))
theorem dX12_specials_202 : decode cX12_specials 202 = .ok (.iaload, 1) := zo_46 (zkb zk_cX12_specials zn_cX12_specials (by decide +kernel))
theorem dX12_specials_203 : decode cX12_specials 203 = .ok (.invokevirtual 275, 3) := zo_182 (b1 := 1) (b2 := 19) (zkb3 zk_cX12_specials zn_cX12_specials (by decide +kernel)) rfl
theorem dX12_specials_206 : decode cX12_specials 206 = .ok (.aload_n 0, 1) := zo_42 (zkb zk_cX12_specials zn_cX12_specials (by decide +kernel))
theorem dX12_specials_207 : decode cX12_specials 207 = .ok (.iconst 2, 1) := zo_5 (zkb zk_cX12_specials zn_cX12_specials (by decide +kernel))
theorem dX12_specials_208 : decode cX12_specials 208 = .ok (.aload_n 0, 1) := zo_42 (zkb zk_cX12_specials zn_cX12_specials (by decide +kernel))
theorem dX12_specials_209 : decode cX12_specials 209 = .ok (.getfield 22, 3) := zo_180 (b1 := 0) (b2 := 22) (zkb3 zk_cX12_specials zn_cX12_specials (by decide +kernel)) rfl
theorem dX12_specials_212 : decode cX12_specials 212 = .ok (.iconst 0, 1) := zo_3 (zkb zk_cX12_specials zn_cX12_specials (by decide +kernel))
theorem dX12_specials_213 : decode cX12_specials 213 = .ok (.iaload, 1) := zo_46 (zkb zk_cX12_specials zn_cX12_specials (by decide +kernel))
theorem dX12_specials_214 : decode cX12_specials 214 = .ok (.invokestatic 284, 3) := zo_184 (b1 := 1) (b2 := 28) (zkb3 zk_cX12_specials zn_cX12_specials (by decide +kernel)) rfl
theorem dX12_specials_217 : decode cX12_specials 217 = .ok (.invokevirtual 198, 3) := zo_182 (b1 := 0) (b2 := 198) (zkb3 zk_cX12_specials zn_cX12_specials (by decide +kernel)) rfl
theorem dX12_specials_220 : decode cX12_specials 220 = .ok (.aload_n 0, 1) := zo_42 (zkb zk_cX12_specials zn_cX12_specials (by decide +kernel))
theorem dX12_specials_221 : decode cX12_specials 221 = .ok (.iconst 4, 1) := zo_7 (zkb zk_cX12_specials zn_cX12_specials (by decide +kernel))
theorem dX12_specials_222 : decode cX12_specials 222 = .ok (.iconst 0, 1) := zo_3 (zkb zk_cX12_specials zn_cX12_specials (by decide +kernel))
theorem dX12_specials_223 : decode cX12_specials 223 = .ok (.invokevirtual 198, 3) := zo_182 (b1 := 0) (b2 := 198) (zkb3 zk_cX12_specials zn_cX12_specials (by decide +kernel)) rfl
theorem dX12_specials_226 : decode cX12_specials 226 = .ok (.aload_n 0, 1) := zo_42 (zkb zk_cX12_specials zn_cX12_specials (by decide +kernel))
theorem dX12_specials_227 : decode cX12_specials 227 = .ok (.iconst 1, 1) := zo_4 (zkb zk_cX12_specials zn_cX12_specials (by decide +kernel))
theorem dX12_specials_228 : decode cX12_specials 228 = .ok (.iconst 0, 1) := zo_3 (zkb zk_cX12_specials zn_cX12_specials (by decide +kernel))
theorem dX12_specials_229 : decode cX12_specials 229 = .ok (.invokevirtual 198, 3) := zo_182 (b1 := 0) (b2 := 198) (zkb3 zk_cX12_specials zn_cX12_specials (by decide +kernel)) rfl
theorem dX12_specials_232 : decode cX12_specials 232 = .ok (.iload_n 1, 1) := zo_27 (zkb zk_cX12_specials zn_cX12_specials (by decide +kernel))
theorem dX12_specials_233 : decode cX12_specials 233 = .ok (.iconst 4, 1) := zo_7 (zkb zk_cX12_specials zn_cX12_specials (by decide +kernel))
theorem dX12_specials_234 : decode cX12_specials 234 = .ok (.if_icmp .ge 8, 3) := zo_162 (b1 := 0) (b2 := 8) (zkb3 zk_cX12_specials zn_cX12_specials (by decide +kernel)) rfl
theorem dX12_specials_237 : decode cX12_specials 237 = .ok (.bipush 9, 2) := zo_16 (b1 := 9) (zkb2 zk_cX12_specials zn_cX12_specials (by decide +kernel)) rfl
theorem dX12_specials_239 : decode cX12_specials 239 = .ok (.goto 5, 3) := zo_167 (b1 := 0) (b2 := 5) (zkb3 zk_cX12_specials zn_cX12_specials (by decide +kernel)) rfl
theorem dX12_specials_242 : decode cX12_specials 242 = .ok (.bipush 18, 2) := zo_16 (b1 := 18) (zkb2 zk_cX12_specials zn_cX12_specials (by decide +kernel)) rfl
theorem dX12_specials_244 : decode cX12_specials 244 = .ok (.ireturn, 1) := zo_172 (zkb zk_cX12_specials zn_cX12_specials (by decide +kernel))
def rmX12_specials : Room := { frames := 3, cells := 0, slots := 0, locals := 64 }
def wzX12_specials : List Cond := .code yX12_specials cX12_specials 5 (some .int) :: wsL_law
theorem hinX12_specials_X120 : ∀ w ∈ wsX120, w ∈ wzX12_specials := fun w h => List.mem_cons_of_mem _ (inlX12 w h)
def fX12_specials_28  (σ : zSt) (s0 : Int32) : Option (zSt × Int32) :=
  zck (zin 0 1048) (
  zck (zin s0 1048) (zbv (zsi σ 3 (s0.toNatClampNeg) (zgi σ 3 (0 : Int32).toNatClampNeg)) (fun σ1 =>
  some (σ1, 9))))
def fX12_specials_244  (σ : zSt) (s0 : Int32) : Option (zSt × Int32) :=
  some (σ, s0)
def fX12_specials_220  (σ : zSt) (x1 : Int32) : Option (zSt × Int32) :=
  zbu (fX12_put σ 4 0) (fun σ2 =>
  zbu (fX12_put σ2 1 0) (fun σ3 =>
  if 4 ≤ x1 then fX12_specials_244 σ3 18 else
  fX12_specials_244 σ3 9))
def fX12_specials_94  (σ : zSt) (x1 : Int32) (s0 : Int32) (s1 : Int32) : Option (zSt × Int32) :=
  zbu (fX12_put σ s1 s0) (fun σ4 =>
  fX12_specials_220 σ4 x1)
def fX12_specials_64  (σ : zSt) (x1 : Int32) (s0 : Int32) (s2 : Int32) : Option (zSt × Int32) :=
  zck (zin s0 1048) (
  zck (zin s2 1048) (zbv (zsi σ 3 (s2.toNatClampNeg) (zgi σ 3 s0.toNatClampNeg)) (fun σ5 =>
  zck (zin 0 1048) (
  zbu (fX12_by σ5 (zgi σ5 3 (0 : Int32).toNatClampNeg)) (fun σ6 =>
  zck (zin 24 1048) (
  if (zgi σ6 3 (24 : Int32).toNatClampNeg) = 1 then fX12_specials_94 σ6 x1 1 2 else
  fX12_specials_94 σ6 x1 0 2))))))
def fX12_specials_194  (σ : zSt) (x1 : Int32) (s0 : Int32) (s1 : Int32) (s2 : Int32) : Option (zSt × Int32) :=
  zck (zin s2 1048) (zbv (zsi σ 3 (s2.toNatClampNeg) (s1 ||| s0)) (fun σ7 =>
  zck (zin 0 1048) (
  zbu (fX12_by σ7 (zgi σ7 3 (0 : Int32).toNatClampNeg)) (fun σ8 =>
  zck (zin 0 1048) (
  zbi (fX12_isEven σ8 (zgi σ8 3 (0 : Int32).toNatClampNeg)) (fun σ9 v10 =>
  zbu (fX12_put σ9 2 v10) (fun σ11 =>
  fX12_specials_220 σ11 x1)))))))
def fX12_specials_161  (σ : zSt) (x1 : Int32) (x3 : Int32) (s0 : Int32) (s1 : Int32) : Option (zSt × Int32) :=
  zbu (fX12_write σ s1 s0) (fun σ12 =>
  zck (zin 0 1048) (
  if x1 = 4 then fX12_specials_194 σ12 x1 (x3 &&& 15) ((zgi σ12 3 (0 : Int32).toNatClampNeg) &&& 240) 0 else
  fX12_specials_194 σ12 x1 (x3 >>> ((4 : Int32) &&& 31)) ((zgi σ12 3 (0 : Int32).toNatClampNeg) &&& 240) 0))
def fX12_specials  (σ : zSt) (x1 : Int32) : Option (zSt × Int32) :=
  if x1 ≤ 5 then if 2 ≤ x1 then if 4 ≤ x1 then zbi (fX12_pair σ 6) (fun σ13 v14 =>
  zck (zin 20 1048) (zbv (zsi σ13 3 ((20 : Int32).toNatClampNeg) ((v14 + 1) &&& 65535)) (fun σ15 =>
  zbi (fX12_read σ15 v14) (fun σ16 v17 =>
  zck (zin 0 1048) (
  zbv ((zgi σ16 3 (0 : Int32).toNatClampNeg) &&& 15) (fun v18 =>
  if x1 = 4 then fX12_specials_161 σ16 x1 v17 ((v18 <<< ((4 : Int32) &&& 31)) ||| (v17 >>> ((4 : Int32) &&& 31))) v14 else
  fX12_specials_161 σ16 x1 v17 ((v17 <<< ((4 : Int32) &&& 31)) ||| v18) v14)))))) else
  if x1 = 2 then fX12_specials_64 σ x1 21 0 else
  fX12_specials_64 σ x1 22 0 else
  if x1 = 0 then fX12_specials_28 σ 21 else
  fX12_specials_28 σ 22 else
  some (σ, 8)
set_option maxRecDepth 20000 in
set_option maxHeartbeats 4000000 in
theorem bX12_specials_28 {st : Nat → Nat} {p : Program} {l : Launch} {e : Env} {s : State} {m : MethodId} {args : Array Value} {below : List Frame} {meth : Method} {c : Code} {D : va_G} {A : Nat → Prop} {ad : Nat → Nat} {cy : Nat → ClassId} (hC : zC p m c cX12_specials 5 s args wzX12_specials RX12 meth (some .int))  {res : zSt × Int32} {H : Heap} {locs : List Loc} {σ : zSt} {ls : Array Slot} {s0 : Int32} (hI : zI st D (tM cy) (wM ad cy σ) A s H locs) (hl : lv_has ls 5 [(0, .ref (ad 0))]) (hf : fX12_specials_28  σ s0 = some res) : W p l e rmX12_specials s m args below meth c H locs 0 0 (zQi below args s D (tM cy) (wM ad cy) A res) (F0 m 28 ls [.int s0, .ref (ad 3)]) := by
  have hx := hC.1
  have hb := hC.2.1
  unfold fX12_specials_28 at hf
  refine lv_aload_n hx hb dX12_specials_28 rfl (lv_at hl 0 rfl) ?_
  refine z_get hC hI hinX12_specials_X120 0 (wM_e0 ad cy σ) rfl 10 (by decide) (List.mem_cons_of_mem _ zw9_7) rfl dX12_specials_29 ?_
  refine lv_iconst (v := 0) hx hb dX12_specials_32 (by decide) ?_
  obtain ⟨q, hf⟩ := zck_use hf
  refine z_iald hC hI 3 2 (wM_e3 ad cy σ) (tM_t3 cy) q dX12_specials_33 ?_
  obtain ⟨q, hf⟩ := zck_use hf
  obtain ⟨σ1, eσ1⟩ : ∃ z, z = zsi σ 3 (s0.toNatClampNeg) (zgi σ 3 (0 : Int32).toNatClampNeg) := ⟨_, rfl⟩
  replace hf := zbv_use eσ1 hf
  refine z_iast hC hI 3 2 (wM_e3 ad cy σ) (tM_t3 cy) q ((wM_s3 ad cy σ _ _).trans (congrArg (wM ad cy) eσ1.symm)) dX12_specials_34 (fun H locs hI => ?_)
  refine lv_bipush (v := 9) hx hb dX12_specials_35 (by decide) ?_
  exact z_ireturn hC hI hf dX12_specials_37
set_option maxRecDepth 20000 in
set_option maxHeartbeats 4000000 in
theorem bX12_specials_244 {st : Nat → Nat} {p : Program} {l : Launch} {e : Env} {s : State} {m : MethodId} {args : Array Value} {below : List Frame} {meth : Method} {c : Code} {D : va_G} {A : Nat → Prop} {ad : Nat → Nat} {cy : Nat → ClassId} (hC : zC p m c cX12_specials 5 s args wzX12_specials RX12 meth (some .int))  {res : zSt × Int32} {H : Heap} {locs : List Loc} {σ : zSt} {ls : Array Slot} {s0 : Int32} (hI : zI st D (tM cy) (wM ad cy σ) A s H locs) (hl : lv_has ls 5 []) (hf : fX12_specials_244  σ s0 = some res) : W p l e rmX12_specials s m args below meth c H locs 0 0 (zQi below args s D (tM cy) (wM ad cy) A res) (F0 m 244 ls [.int s0]) := by
  have hx := hC.1
  have hb := hC.2.1
  unfold fX12_specials_244 at hf
  exact z_ireturn hC hI hf dX12_specials_244
set_option maxRecDepth 20000 in
set_option maxHeartbeats 4000000 in
theorem bX12_specials_220 {st : Nat → Nat} {p : Program} {l : Launch} {e : Env} {s : State} {m : MethodId} {args : Array Value} {below : List Frame} {meth : Method} {c : Code} {D : va_G} {A : Nat → Prop} {ad : Nat → Nat} {cy : Nat → ClassId} (hC : zC p m c cX12_specials 5 s args wzX12_specials RX12 meth (some .int))  {res : zSt × Int32} {H : Heap} {locs : List Loc} {σ : zSt} {ls : Array Slot} {x1 : Int32} (hI : zI st D (tM cy) (wM ad cy σ) A s H locs) (hl : lv_has ls 5 [(0, .ref (ad 0)), (1, .int x1)]) (hf : fX12_specials_220  σ x1 = some res) : W p l e rmX12_specials s m args below meth c H locs 0 0 (zQi below args s D (tM cy) (wM ad cy) A res) (F0 m 220 ls []) := by
  have hx := hC.1
  have hb := hC.2.1
  unfold fX12_specials_220 at hf
  refine lv_aload_n hx hb dX12_specials_220 rfl (lv_at hl 0 rfl) ?_
  refine lv_iconst (v := 4) hx hb dX12_specials_221 (by decide) ?_
  refine lv_iconst (v := 0) hx hb dX12_specials_222 (by decide) ?_
  obtain ⟨σ2, g2, hf⟩ := zbu_use hf
  refine z_callVu (As := [.int 4, .int 0]) (rest := []) hC hI (cX12_put_met st l D ad cy σ 4 0 _ g2) (zgV zw52_13 zw52_14 zw52_15 zw1_5 zw52_16) rfl ⟨rfl, rfl⟩ 2 hdX12_put ⟨Nat.le_of_ble_eq_true rfl, Nat.le_of_ble_eq_true rfl⟩ rfl rfl (wM_e0 ad cy σ) rfl hl rfl (Nat.le_of_ble_eq_true rfl) dX12_specials_223 ⟨Nat.zero_le _, Nat.zero_le _⟩ (fun H locs hI => ?_)
  refine lv_aload_n hx hb dX12_specials_226 rfl (lv_at hl 0 rfl) ?_
  refine lv_iconst (v := 1) hx hb dX12_specials_227 (by decide) ?_
  refine lv_iconst (v := 0) hx hb dX12_specials_228 (by decide) ?_
  obtain ⟨σ3, g3, hf⟩ := zbu_use hf
  refine z_callVu (As := [.int 1, .int 0]) (rest := []) hC hI (cX12_put_met st l D ad cy σ2 1 0 _ g3) (zgV zw52_13 zw52_14 zw52_15 zw1_5 zw52_16) rfl ⟨rfl, rfl⟩ 2 hdX12_put ⟨Nat.le_of_ble_eq_true rfl, Nat.le_of_ble_eq_true rfl⟩ rfl rfl (wM_e0 ad cy σ2) rfl hl rfl (Nat.le_of_ble_eq_true rfl) dX12_specials_229 ⟨Nat.zero_le _, Nat.zero_le _⟩ (fun H locs hI => ?_)
  refine lv_iload_n hx hb dX12_specials_232 rfl (lv_at hl 1 rfl) ?_
  refine lv_iconst (v := 4) hx hb dX12_specials_233 (by decide) ?_
  refine lv_icmp_ge (tgt := 242) hx hb dX12_specials_234 (by decide) (fun q => ?_) (fun q => ?_)
  · replace hf := zif_t q hf
    refine lv_bipush (v := 18) hx hb dX12_specials_242 (by decide) ?_
    exact bX12_specials_244 hC  hI (lv_sub hl [] rfl) hf
  replace hf := zif_f q hf
  refine lv_bipush (v := 9) hx hb dX12_specials_237 (by decide) ?_
  refine lv_goto (tgt := 244) hx hb dX12_specials_239 (by decide) ?_
  exact bX12_specials_244 hC  hI (lv_sub hl [] rfl) hf
set_option maxRecDepth 20000 in
set_option maxHeartbeats 4000000 in
theorem bX12_specials_94 {st : Nat → Nat} {p : Program} {l : Launch} {e : Env} {s : State} {m : MethodId} {args : Array Value} {below : List Frame} {meth : Method} {c : Code} {D : va_G} {A : Nat → Prop} {ad : Nat → Nat} {cy : Nat → ClassId} (hC : zC p m c cX12_specials 5 s args wzX12_specials RX12 meth (some .int))  {res : zSt × Int32} {H : Heap} {locs : List Loc} {σ : zSt} {ls : Array Slot} {x1 : Int32} {s0 : Int32} {s1 : Int32} (hI : zI st D (tM cy) (wM ad cy σ) A s H locs) (hl : lv_has ls 5 [(0, .ref (ad 0)), (1, .int x1)]) (hf : fX12_specials_94  σ x1 s0 s1 = some res) : W p l e rmX12_specials s m args below meth c H locs 0 0 (zQi below args s D (tM cy) (wM ad cy) A res) (F0 m 94 ls [.int s0, .int s1, .ref (ad 0)]) := by
  have hx := hC.1
  have hb := hC.2.1
  unfold fX12_specials_94 at hf
  obtain ⟨σ4, g4, hf⟩ := zbu_use hf
  refine z_callVu (As := [.int s1, .int s0]) (rest := []) hC hI (cX12_put_met st l D ad cy σ s1 s0 _ g4) (zgV zw52_13 zw52_14 zw52_15 zw1_5 zw52_16) rfl ⟨rfl, rfl⟩ 2 hdX12_put ⟨Nat.le_of_ble_eq_true rfl, Nat.le_of_ble_eq_true rfl⟩ rfl rfl (wM_e0 ad cy σ) rfl hl rfl (Nat.le_of_ble_eq_true rfl) dX12_specials_94 ⟨Nat.zero_le _, Nat.zero_le _⟩ (fun H locs hI => ?_)
  refine lv_goto (tgt := 220) hx hb dX12_specials_97 (by decide) ?_
  exact bX12_specials_220 hC  hI hl hf
set_option maxRecDepth 20000 in
set_option maxHeartbeats 4000000 in
theorem bX12_specials_64 {st : Nat → Nat} {p : Program} {l : Launch} {e : Env} {s : State} {m : MethodId} {args : Array Value} {below : List Frame} {meth : Method} {c : Code} {D : va_G} {A : Nat → Prop} {ad : Nat → Nat} {cy : Nat → ClassId} (hC : zC p m c cX12_specials 5 s args wzX12_specials RX12 meth (some .int))  {res : zSt × Int32} {H : Heap} {locs : List Loc} {σ : zSt} {ls : Array Slot} {x1 : Int32} {s0 : Int32} {s2 : Int32} (hI : zI st D (tM cy) (wM ad cy σ) A s H locs) (hl : lv_has ls 5 [(0, .ref (ad 0)), (1, .int x1)]) (hf : fX12_specials_64  σ x1 s0 s2 = some res) : W p l e rmX12_specials s m args below meth c H locs 0 0 (zQi below args s D (tM cy) (wM ad cy) A res) (F0 m 64 ls [.int s0, .ref (ad 3), .int s2, .ref (ad 3)]) := by
  have hx := hC.1
  have hb := hC.2.1
  unfold fX12_specials_64 at hf
  obtain ⟨q, hf⟩ := zck_use hf
  refine z_iald hC hI 3 2 (wM_e3 ad cy σ) (tM_t3 cy) q dX12_specials_64 ?_
  obtain ⟨q, hf⟩ := zck_use hf
  obtain ⟨σ5, eσ5⟩ : ∃ z, z = zsi σ 3 (s2.toNatClampNeg) (zgi σ 3 s0.toNatClampNeg) := ⟨_, rfl⟩
  replace hf := zbv_use eσ5 hf
  refine z_iast hC hI 3 2 (wM_e3 ad cy σ) (tM_t3 cy) q ((wM_s3 ad cy σ _ _).trans (congrArg (wM ad cy) eσ5.symm)) dX12_specials_65 (fun H locs hI => ?_)
  refine lv_aload_n hx hb dX12_specials_66 rfl (lv_at hl 0 rfl) ?_
  refine lv_aload_n hx hb dX12_specials_67 rfl (lv_at hl 0 rfl) ?_
  refine z_get hC hI hinX12_specials_X120 0 (wM_e0 ad cy σ5) rfl 10 (by decide) (List.mem_cons_of_mem _ zw9_7) rfl dX12_specials_68 ?_
  refine lv_iconst (v := 0) hx hb dX12_specials_71 (by decide) ?_
  obtain ⟨q, hf⟩ := zck_use hf
  refine z_iald hC hI 3 2 (wM_e3 ad cy σ5) (tM_t3 cy) q dX12_specials_72 ?_
  obtain ⟨σ6, g6, hf⟩ := zbu_use hf
  refine z_callVu (As := [.int (zgi σ5 3 (0 : Int32).toNatClampNeg)]) (rest := []) hC hI (cX12_by_met st l D ad cy σ5 (zgi σ5 3 (0 : Int32).toNatClampNeg) _ g6) (zgV zw53_22 zw53_23 zw54_0 zw1_5 zw54_1) rfl ⟨rfl, rfl⟩ 1 hdX12_by ⟨Nat.le_of_ble_eq_true rfl, Nat.le_of_ble_eq_true rfl⟩ rfl rfl (wM_e0 ad cy σ5) rfl hl rfl (Nat.le_of_ble_eq_true rfl) dX12_specials_73 ⟨Nat.zero_le _, Nat.zero_le _⟩ (fun H locs hI => ?_)
  refine lv_aload_n hx hb dX12_specials_76 rfl (lv_at hl 0 rfl) ?_
  refine lv_iconst (v := 2) hx hb dX12_specials_77 (by decide) ?_
  refine lv_aload_n hx hb dX12_specials_78 rfl (lv_at hl 0 rfl) ?_
  refine z_get hC hI hinX12_specials_X120 0 (wM_e0 ad cy σ6) rfl 10 (by decide) (List.mem_cons_of_mem _ zw9_7) rfl dX12_specials_79 ?_
  refine lv_bipush (v := 24) hx hb dX12_specials_82 (by decide) ?_
  obtain ⟨q, hf⟩ := zck_use hf
  refine z_iald hC hI 3 2 (wM_e3 ad cy σ6) (tM_t3 cy) q dX12_specials_84 ?_
  refine lv_iconst (v := 1) hx hb dX12_specials_85 (by decide) ?_
  refine lv_icmp_ne (tgt := 93) hx hb dX12_specials_86 (by decide) (fun q => ?_) (fun q => ?_)
  · replace hf := zif_f q hf
    refine lv_iconst (v := 0) hx hb dX12_specials_93 (by decide) ?_
    exact bX12_specials_94 hC  hI hl hf
  replace hf := zif_t q hf
  refine lv_iconst (v := 1) hx hb dX12_specials_89 (by decide) ?_
  refine lv_goto (tgt := 94) hx hb dX12_specials_90 (by decide) ?_
  exact bX12_specials_94 hC  hI hl hf
set_option maxRecDepth 20000 in
set_option maxHeartbeats 4000000 in
theorem bX12_specials_194 {st : Nat → Nat} {p : Program} {l : Launch} {e : Env} {s : State} {m : MethodId} {args : Array Value} {below : List Frame} {meth : Method} {c : Code} {D : va_G} {A : Nat → Prop} {ad : Nat → Nat} {cy : Nat → ClassId} (hC : zC p m c cX12_specials 5 s args wzX12_specials RX12 meth (some .int))  {res : zSt × Int32} {H : Heap} {locs : List Loc} {σ : zSt} {ls : Array Slot} {x1 : Int32} {s0 : Int32} {s1 : Int32} {s2 : Int32} (hI : zI st D (tM cy) (wM ad cy σ) A s H locs) (hl : lv_has ls 5 [(0, .ref (ad 0)), (1, .int x1)]) (hf : fX12_specials_194  σ x1 s0 s1 s2 = some res) : W p l e rmX12_specials s m args below meth c H locs 0 0 (zQi below args s D (tM cy) (wM ad cy) A res) (F0 m 194 ls [.int s0, .int s1, .int s2, .ref (ad 3)]) := by
  have hx := hC.1
  have hb := hC.2.1
  unfold fX12_specials_194 at hf
  refine lv_ior hx hb dX12_specials_194 ?_
  obtain ⟨q, hf⟩ := zck_use hf
  obtain ⟨σ7, eσ7⟩ : ∃ z, z = zsi σ 3 (s2.toNatClampNeg) (s1 ||| s0) := ⟨_, rfl⟩
  replace hf := zbv_use eσ7 hf
  refine z_iast hC hI 3 2 (wM_e3 ad cy σ) (tM_t3 cy) q ((wM_s3 ad cy σ _ _).trans (congrArg (wM ad cy) eσ7.symm)) dX12_specials_195 (fun H locs hI => ?_)
  refine lv_aload_n hx hb dX12_specials_196 rfl (lv_at hl 0 rfl) ?_
  refine lv_aload_n hx hb dX12_specials_197 rfl (lv_at hl 0 rfl) ?_
  refine z_get hC hI hinX12_specials_X120 0 (wM_e0 ad cy σ7) rfl 10 (by decide) (List.mem_cons_of_mem _ zw9_7) rfl dX12_specials_198 ?_
  refine lv_iconst (v := 0) hx hb dX12_specials_201 (by decide) ?_
  obtain ⟨q, hf⟩ := zck_use hf
  refine z_iald hC hI 3 2 (wM_e3 ad cy σ7) (tM_t3 cy) q dX12_specials_202 ?_
  obtain ⟨σ8, g8, hf⟩ := zbu_use hf
  refine z_callVu (As := [.int (zgi σ7 3 (0 : Int32).toNatClampNeg)]) (rest := []) hC hI (cX12_by_met st l D ad cy σ7 (zgi σ7 3 (0 : Int32).toNatClampNeg) _ g8) (zgV zw53_22 zw53_23 zw54_0 zw1_5 zw54_1) rfl ⟨rfl, rfl⟩ 1 hdX12_by ⟨Nat.le_of_ble_eq_true rfl, Nat.le_of_ble_eq_true rfl⟩ rfl rfl (wM_e0 ad cy σ7) rfl hl rfl (Nat.le_of_ble_eq_true rfl) dX12_specials_203 ⟨Nat.zero_le _, Nat.zero_le _⟩ (fun H locs hI => ?_)
  refine lv_aload_n hx hb dX12_specials_206 rfl (lv_at hl 0 rfl) ?_
  refine lv_iconst (v := 2) hx hb dX12_specials_207 (by decide) ?_
  refine lv_aload_n hx hb dX12_specials_208 rfl (lv_at hl 0 rfl) ?_
  refine z_get hC hI hinX12_specials_X120 0 (wM_e0 ad cy σ8) rfl 10 (by decide) (List.mem_cons_of_mem _ zw9_7) rfl dX12_specials_209 ?_
  refine lv_iconst (v := 0) hx hb dX12_specials_212 (by decide) ?_
  obtain ⟨q, hf⟩ := zck_use hf
  refine z_iald hC hI 3 2 (wM_e3 ad cy σ8) (tM_t3 cy) q dX12_specials_213 ?_
  obtain ⟨σ9, v10, g9, hf⟩ := zbi_use hf
  refine z_callSi (As := [.int (zgi σ8 3 (0 : Int32).toNatClampNeg)]) (rest := [.int 2, .ref (ad 0)]) hC hI (cX12_isEven_met st l D ad cy σ8 (zgi σ8 3 (0 : Int32).toNatClampNeg) _ g9) (zgS zw54_10 zw54_11 zw1_5 zw54_12) rfl ⟨rfl, rfl⟩ 1 hdX12_isEven ⟨Nat.le_of_ble_eq_true rfl, Nat.le_of_ble_eq_true rfl⟩ rfl hl rfl (Nat.le_of_ble_eq_true rfl) dX12_specials_214 ⟨Nat.zero_le _, Nat.zero_le _⟩ (fun H locs hI => ?_)
  obtain ⟨σ11, g11, hf⟩ := zbu_use hf
  refine z_callVu (As := [.int 2, .int v10]) (rest := []) hC hI (cX12_put_met st l D ad cy σ9 2 v10 _ g11) (zgV zw52_13 zw52_14 zw52_15 zw1_5 zw52_16) rfl ⟨rfl, rfl⟩ 2 hdX12_put ⟨Nat.le_of_ble_eq_true rfl, Nat.le_of_ble_eq_true rfl⟩ rfl rfl (wM_e0 ad cy σ9) rfl hl rfl (Nat.le_of_ble_eq_true rfl) dX12_specials_217 ⟨Nat.zero_le _, Nat.zero_le _⟩ (fun H locs hI => ?_)
  exact bX12_specials_220 hC  hI hl hf
set_option maxRecDepth 20000 in
set_option maxHeartbeats 4000000 in
theorem bX12_specials_161 {st : Nat → Nat} {p : Program} {l : Launch} {e : Env} {s : State} {m : MethodId} {args : Array Value} {below : List Frame} {meth : Method} {c : Code} {D : va_G} {A : Nat → Prop} {ad : Nat → Nat} {cy : Nat → ClassId} (hC : zC p m c cX12_specials 5 s args wzX12_specials RX12 meth (some .int))  {res : zSt × Int32} {H : Heap} {locs : List Loc} {σ : zSt} {ls : Array Slot} {x1 : Int32} {x3 : Int32} {s0 : Int32} {s1 : Int32} (hI : zI st D (tM cy) (wM ad cy σ) A s H locs) (hl : lv_has ls 5 [(0, .ref (ad 0)), (1, .int x1), (3, .int x3)]) (hf : fX12_specials_161  σ x1 x3 s0 s1 = some res) : W p l e rmX12_specials s m args below meth c H locs 0 0 (zQi below args s D (tM cy) (wM ad cy) A res) (F0 m 161 ls [.int s0, .int s1, .ref (ad 0)]) := by
  have hx := hC.1
  have hb := hC.2.1
  unfold fX12_specials_161 at hf
  obtain ⟨σ12, g12, hf⟩ := zbu_use hf
  refine z_callVu (As := [.int s1, .int s0]) (rest := []) hC hI (cX12_write_met st l D ad cy σ s1 s0 _ g12) (zgV zw48_5 zw48_6 zw48_7 zw1_5 zw48_8) rfl ⟨rfl, rfl⟩ 2 hdX12_write ⟨Nat.le_of_ble_eq_true rfl, Nat.le_of_ble_eq_true rfl⟩ rfl rfl (wM_e0 ad cy σ) rfl hl rfl (Nat.le_of_ble_eq_true rfl) dX12_specials_161 ⟨Nat.zero_le _, Nat.zero_le _⟩ (fun H locs hI => ?_)
  refine lv_aload_n hx hb dX12_specials_164 rfl (lv_at hl 0 rfl) ?_
  refine z_get hC hI hinX12_specials_X120 0 (wM_e0 ad cy σ12) rfl 10 (by decide) (List.mem_cons_of_mem _ zw9_7) rfl dX12_specials_165 ?_
  refine lv_iconst (v := 0) hx hb dX12_specials_168 (by decide) ?_
  refine lv_aload_n hx hb dX12_specials_169 rfl (lv_at hl 0 rfl) ?_
  refine z_get hC hI hinX12_specials_X120 0 (wM_e0 ad cy σ12) rfl 10 (by decide) (List.mem_cons_of_mem _ zw9_7) rfl dX12_specials_170 ?_
  refine lv_iconst (v := 0) hx hb dX12_specials_173 (by decide) ?_
  obtain ⟨q, hf⟩ := zck_use hf
  refine z_iald hC hI 3 2 (wM_e3 ad cy σ12) (tM_t3 cy) q dX12_specials_174 ?_
  refine lv_sipush (v := 240) hx hb dX12_specials_175 (by decide) ?_
  refine lv_iand hx hb dX12_specials_178 ?_
  refine lv_iload_n hx hb dX12_specials_179 rfl (lv_at hl 1 rfl) ?_
  refine lv_iconst (v := 4) hx hb dX12_specials_180 (by decide) ?_
  refine lv_icmp_ne (tgt := 191) hx hb dX12_specials_181 (by decide) (fun q => ?_) (fun q => ?_)
  · replace hf := zif_f q hf
    refine lv_iload_n hx hb dX12_specials_191 rfl (lv_at hl 2 rfl) ?_
    refine lv_iconst (v := 4) hx hb dX12_specials_192 (by decide) ?_
    refine lv_ishr hx hb dX12_specials_193 ?_
    exact bX12_specials_194 hC  hI (lv_sub hl [0, 1] rfl) hf
  replace hf := zif_t q hf
  refine lv_iload_n hx hb dX12_specials_184 rfl (lv_at hl 2 rfl) ?_
  refine lv_bipush (v := 15) hx hb dX12_specials_185 (by decide) ?_
  refine lv_iand hx hb dX12_specials_187 ?_
  refine lv_goto (tgt := 194) hx hb dX12_specials_188 (by decide) ?_
  exact bX12_specials_194 hC  hI (lv_sub hl [0, 1] rfl) hf
set_option maxRecDepth 20000 in
set_option maxHeartbeats 4000000 in
theorem bX12_specials {st : Nat → Nat} {p : Program} {l : Launch} {e : Env} {s : State} {m : MethodId} {args : Array Value} {below : List Frame} {meth : Method} {c : Code} {D : va_G} {A : Nat → Prop} {ad : Nat → Nat} {cy : Nat → ClassId} (hC : zC p m c cX12_specials 5 s args wzX12_specials RX12 meth (some .int))  {res : zSt × Int32} {H : Heap} {locs : List Loc} {σ : zSt} {ls : Array Slot} {x1 : Int32} (hI : zI st D (tM cy) (wM ad cy σ) A s H locs) (hl : lv_has ls 5 [(0, .ref (ad 0)), (1, .int x1)]) (hf : fX12_specials  σ x1 = some res) : W p l e rmX12_specials s m args below meth c H locs 0 0 (zQi below args s D (tM cy) (wM ad cy) A res) (F0 m 0 ls []) := by
  have hx := hC.1
  have hb := hC.2.1
  unfold fX12_specials at hf
  refine lv_iload_n hx hb dX12_specials_0 rfl (lv_at hl 1 rfl) ?_
  refine lv_iconst (v := 5) hx hb dX12_specials_1 (by decide) ?_
  refine lv_icmp_le (tgt := 8) hx hb dX12_specials_2 (by decide) (fun q => ?_) (fun q => ?_)
  · replace hf := zif_t q hf
    refine lv_iload_n hx hb dX12_specials_8 rfl (lv_at hl 1 rfl) ?_
    refine lv_iconst (v := 2) hx hb dX12_specials_9 (by decide) ?_
    refine lv_icmp_ge (tgt := 38) hx hb dX12_specials_10 (by decide) (fun q => ?_) (fun q => ?_)
    · replace hf := zif_t q hf
      refine lv_iload_n hx hb dX12_specials_38 rfl (lv_at hl 1 rfl) ?_
      refine lv_iconst (v := 4) hx hb dX12_specials_39 (by decide) ?_
      refine lv_icmp_ge (tgt := 100) hx hb dX12_specials_40 (by decide) (fun q => ?_) (fun q => ?_)
      · replace hf := zif_t q hf
        refine lv_aload_n hx hb dX12_specials_100 rfl (lv_at hl 0 rfl) ?_
        refine lv_bipush (v := 6) hx hb dX12_specials_101 (by decide) ?_
        obtain ⟨σ13, v14, g13, hf⟩ := zbi_use hf
        refine z_callVi (As := [.int 6]) (rest := []) hC hI (cX12_pair_met st l D ad cy σ 6 _ g13) (zgV zw52_5 zw52_6 zw52_7 zw1_5 zw52_8) rfl ⟨rfl, rfl⟩ 1 hdX12_pair ⟨Nat.le_of_ble_eq_true rfl, Nat.le_of_ble_eq_true rfl⟩ rfl rfl (wM_e0 ad cy σ) rfl hl rfl (Nat.le_of_ble_eq_true rfl) dX12_specials_103 ⟨Nat.zero_le _, Nat.zero_le _⟩ (fun H locs hI => ?_)
        refine lv_istore_n (lv' := [(2, .int v14), (0, .ref (ad 0)), (1, .int x1)]) hx hb dX12_specials_106 rfl hl (by decide) rfl (fun ls hl => ?_)
        refine lv_aload_n hx hb dX12_specials_107 rfl (lv_at hl 1 rfl) ?_
        refine z_get hC hI hinX12_specials_X120 0 (wM_e0 ad cy σ13) rfl 10 (by decide) (List.mem_cons_of_mem _ zw9_7) rfl dX12_specials_108 ?_
        refine lv_bipush (v := 20) hx hb dX12_specials_111 (by decide) ?_
        refine lv_iload_n hx hb dX12_specials_113 rfl (lv_at hl 0 rfl) ?_
        refine lv_iconst (v := 1) hx hb dX12_specials_114 (by decide) ?_
        refine lv_iadd hx hb dX12_specials_115 ?_
        refine lv_ldc (v := 65535) hx hb hC.2.2.2.1 (hC.2.2.2.2.1 _ (List.mem_cons_of_mem _ zw16_11)) dX12_specials_116 ?_
        refine lv_iand hx hb dX12_specials_118 ?_
        obtain ⟨q, hf⟩ := zck_use hf
        obtain ⟨σ15, eσ15⟩ : ∃ z, z = zsi σ13 3 ((20 : Int32).toNatClampNeg) ((v14 + 1) &&& 65535) := ⟨_, rfl⟩
        replace hf := zbv_use eσ15 hf
        refine z_iast hC hI 3 2 (wM_e3 ad cy σ13) (tM_t3 cy) q ((wM_s3 ad cy σ13 _ _).trans (congrArg (wM ad cy) eσ15.symm)) dX12_specials_119 (fun H locs hI => ?_)
        refine lv_aload_n hx hb dX12_specials_120 rfl (lv_at hl 1 rfl) ?_
        refine lv_iload_n hx hb dX12_specials_121 rfl (lv_at hl 0 rfl) ?_
        obtain ⟨σ16, v17, g16, hf⟩ := zbi_use hf
        refine z_callVi (As := [.int v14]) (rest := []) hC hI (cX12_read_met st l D ad cy σ15 v14 _ g16) (zgV zw49_8 zw49_9 zw49_10 zw1_5 zw49_11) rfl ⟨rfl, rfl⟩ 1 hdX12_read ⟨Nat.le_of_ble_eq_true rfl, Nat.le_of_ble_eq_true rfl⟩ rfl rfl (wM_e0 ad cy σ15) rfl hl rfl (Nat.le_of_ble_eq_true rfl) dX12_specials_122 ⟨Nat.zero_le _, Nat.zero_le _⟩ (fun H locs hI => ?_)
        refine lv_istore_n (lv' := [(3, .int v17), (2, .int v14), (0, .ref (ad 0)), (1, .int x1)]) hx hb dX12_specials_125 rfl hl (by decide) rfl (fun ls hl => ?_)
        refine lv_aload_n hx hb dX12_specials_126 rfl (lv_at hl 2 rfl) ?_
        refine z_get hC hI hinX12_specials_X120 0 (wM_e0 ad cy σ16) rfl 10 (by decide) (List.mem_cons_of_mem _ zw9_7) rfl dX12_specials_127 ?_
        refine lv_iconst (v := 0) hx hb dX12_specials_130 (by decide) ?_
        obtain ⟨q, hf⟩ := zck_use hf
        refine z_iald hC hI 3 2 (wM_e3 ad cy σ16) (tM_t3 cy) q dX12_specials_131 ?_
        refine lv_bipush (v := 15) hx hb dX12_specials_132 (by decide) ?_
        refine lv_iand hx hb dX12_specials_134 ?_
        refine lv_topi (fun v18 ev18 => ?_)
        replace hf := zbv_use ev18 hf
        refine lv_istore (lv' := [(4, .int v18), (3, .int v17), (2, .int v14), (0, .ref (ad 0)), (1, .int x1)]) hx hb dX12_specials_135 hl (by decide) rfl (fun ls hl => ?_)
        refine lv_aload_n hx hb dX12_specials_137 rfl (lv_at hl 3 rfl) ?_
        refine lv_iload_n hx hb dX12_specials_138 rfl (lv_at hl 2 rfl) ?_
        refine lv_iload_n hx hb dX12_specials_139 rfl (lv_at hl 4 rfl) ?_
        refine lv_iconst (v := 4) hx hb dX12_specials_140 (by decide) ?_
        refine lv_icmp_ne (tgt := 155) hx hb dX12_specials_141 (by decide) (fun q => ?_) (fun q => ?_)
        · replace hf := zif_f q hf
          refine lv_iload_n hx hb dX12_specials_155 rfl (lv_at hl 1 rfl) ?_
          refine lv_iconst (v := 4) hx hb dX12_specials_156 (by decide) ?_
          refine lv_ishl hx hb dX12_specials_157 ?_
          refine lv_iload hx hb dX12_specials_158 (lv_at hl 0 rfl) ?_
          refine lv_ior hx hb dX12_specials_160 ?_
          exact bX12_specials_161 hC  hI (lv_sub hl [3, 4, 1] rfl) hf
        replace hf := zif_t q hf
        refine lv_iload hx hb dX12_specials_144 (lv_at hl 0 rfl) ?_
        refine lv_iconst (v := 4) hx hb dX12_specials_146 (by decide) ?_
        refine lv_ishl hx hb dX12_specials_147 ?_
        refine lv_iload_n hx hb dX12_specials_148 rfl (lv_at hl 1 rfl) ?_
        refine lv_iconst (v := 4) hx hb dX12_specials_149 (by decide) ?_
        refine lv_ishr hx hb dX12_specials_150 ?_
        refine lv_ior hx hb dX12_specials_151 ?_
        refine lv_goto (tgt := 161) hx hb dX12_specials_152 (by decide) ?_
        exact bX12_specials_161 hC  hI (lv_sub hl [3, 4, 1] rfl) hf
      replace hf := zif_f q hf
      refine lv_aload_n hx hb dX12_specials_43 rfl (lv_at hl 0 rfl) ?_
      refine z_get hC hI hinX12_specials_X120 0 (wM_e0 ad cy σ) rfl 10 (by decide) (List.mem_cons_of_mem _ zw9_7) rfl dX12_specials_44 ?_
      refine lv_iconst (v := 0) hx hb dX12_specials_47 (by decide) ?_
      refine lv_aload_n hx hb dX12_specials_48 rfl (lv_at hl 0 rfl) ?_
      refine z_get hC hI hinX12_specials_X120 0 (wM_e0 ad cy σ) rfl 10 (by decide) (List.mem_cons_of_mem _ zw9_7) rfl dX12_specials_49 ?_
      refine lv_iload_n hx hb dX12_specials_52 rfl (lv_at hl 1 rfl) ?_
      refine lv_iconst (v := 2) hx hb dX12_specials_53 (by decide) ?_
      refine lv_icmp_ne (tgt := 62) hx hb dX12_specials_54 (by decide) (fun q => ?_) (fun q => ?_)
      · replace hf := zif_f q hf
        refine lv_bipush (v := 22) hx hb dX12_specials_62 (by decide) ?_
        exact bX12_specials_64 hC  hI hl hf
      replace hf := zif_t q hf
      refine lv_bipush (v := 21) hx hb dX12_specials_57 (by decide) ?_
      refine lv_goto (tgt := 64) hx hb dX12_specials_59 (by decide) ?_
      exact bX12_specials_64 hC  hI hl hf
    replace hf := zif_f q hf
    refine lv_aload_n hx hb dX12_specials_13 rfl (lv_at hl 0 rfl) ?_
    refine z_get hC hI hinX12_specials_X120 0 (wM_e0 ad cy σ) rfl 10 (by decide) (List.mem_cons_of_mem _ zw9_7) rfl dX12_specials_14 ?_
    refine lv_iload_n hx hb dX12_specials_17 rfl (lv_at hl 1 rfl) ?_
    refine lv_if_ne (tgt := 26) hx hb dX12_specials_18 (by decide) (fun q => ?_) (fun q => ?_)
    · replace hf := zif_f q hf
      refine lv_bipush (v := 22) hx hb dX12_specials_26 (by decide) ?_
      exact bX12_specials_28 hC  hI (lv_sub hl [0] rfl) hf
    replace hf := zif_t q hf
    refine lv_bipush (v := 21) hx hb dX12_specials_21 (by decide) ?_
    refine lv_goto (tgt := 28) hx hb dX12_specials_23 (by decide) ?_
    exact bX12_specials_28 hC  hI (lv_sub hl [0] rfl) hf
  replace hf := zif_f q hf
  refine lv_bipush (v := 8) hx hb dX12_specials_5 (by decide) ?_
  exact z_ireturn hC hI hf dX12_specials_7
set_option maxRecDepth 20000 in
theorem cX12_specials_met (st : Nat → Nat) (l : Launch) (D : va_G) (ad : Nat → Nat) (cy : Nat → ClassId) (σ : zSt) (x1 : Int32) (res : zSt × Int32) (hf : fX12_specials σ x1 = some res) (sz : Nat) : zMi st l yX12_specials wzX12_specials rmX12_specials [.ref (ad 0), .int x1] D (tM cy) (wM ad cy) sz σ res :=
  zMi.of (cc := cX12_specials) (maxL := 5) (ret := (some .int)) (by decide) rfl (Nat.le_of_ble_eq_true rfl) (fun p e s m args below meth c hC A hI ls hl => bX12_specials hC hI hl hf)
theorem hdX12_specials : yX12_specials.cls = RX12 ∧ yX12_specials.cls ≠ "java/lang/invoke/MethodHandle" ∧ yX12_specials.cls ≠ "java/lang/invoke/VarHandle" ∧ (parseMethodDescriptor yX12_specials.desc).map (fun d => d.parameters.length) = some 1 := by decide +kernel
def rmX12_words : Room := { frames := 3, cells := 0, slots := 0, locals := 62 }
def wzX12_words : List Cond := .code yX12_words cX12_words 8 none :: wsL_law
theorem hinX12_words_X120 : ∀ w ∈ wsX120, w ∈ wzX12_words := fun w h => List.mem_cons_of_mem _ (inlX12 w h)
def fX12_words_255  (σ : zSt) (s0 : Int32) (s1 : Int32) : Option (zSt) :=
  zbu (fX12_put σ s1 s0) (fun σ1 =>
  some σ1)
def fX12_words_241  (σ : zSt) (x2 : Int32) (s0 : Int32) (s1 : Int32) : Option (zSt) :=
  zbu (fX12_put σ s1 s0) (fun σ2 =>
  if x2 = 0 then fX12_words_255 σ2 1 1 else
  fX12_words_255 σ2 0 1)
def fX12_words_236  (σ : zSt) (x2 : Int32) (s0 : Int32) : Option (zSt) :=
  fX12_words_241 σ x2 1 s0
def fX12_words_215  (σ : zSt) (x2 : Int32) (x7 : Int32) (s0 : Int32) (s1 : Int32) : Option (zSt) :=
  zbu (fX12_put σ s1 s0) (fun σ3 =>
  if x7 < (-32768) then fX12_words_236 σ3 x2 2 else
  if x7 ≤ 32767 then fX12_words_241 σ3 x2 0 2 else
  fX12_words_236 σ3 x2 2)
def fX12_words_210  (σ : zSt) (x2 : Int32) (x7 : Int32) (s0 : Int32) : Option (zSt) :=
  fX12_words_215 σ x2 x7 1 s0
def fX12_words_193  (σ : zSt) (x2 : Int32) (x6 : Int32) (x7 : Int32) (s0 : Int32) (s1 : Int32) : Option (zSt) :=
  zbu (fX12_put σ s1 s0) (fun σ4 =>
  if x6 < 0 then fX12_words_210 σ4 x2 x7 0 else
  if x6 ≤ 65535 then fX12_words_215 σ4 x2 x7 0 0 else
  fX12_words_210 σ4 x2 x7 0)
def fX12_words_123  (σ : zSt) (x2 : Int32) (x3 : Int32) (x4 : Int32) (x5 : Int32) (x6 : Int32) (x7 : Int32) (s0 : Int32) (s1 : Int32) : Option (zSt) :=
  zbu (fX12_put σ s1 s0) (fun σ5 =>
  zbu (fX12_xy σ5 (x6 >>> ((8 : Int32) &&& 31))) (fun σ6 =>
  if x2 = 0 then if 0 ≤ (((x3 &&& 4095) - (x4 &&& 4095)) - x5) then fX12_words_193 σ6 x2 x6 x7 0 4 else
  fX12_words_193 σ6 x2 x6 x7 1 4 else
  if (((x3 &&& 4095) + (x4 &&& 4095)) + x5) ≤ 4095 then fX12_words_193 σ6 x2 x6 x7 0 4 else
  fX12_words_193 σ6 x2 x6 x7 1 4))
def fX12_words_104  (σ : zSt) (x2 : Int32) (x3 : Int32) (x4 : Int32) (x5 : Int32) (x6 : Int32) (x7 : Int32) (s0 : Int32) (s1 : Int32) : Option (zSt) :=
  zbu (fX12_put σ s1 s0) (fun σ7 =>
  if (x6 &&& 65535) = 0 then fX12_words_123 σ7 x2 x3 x4 x5 x6 x7 1 6 else
  fX12_words_123 σ7 x2 x3 x4 x5 x6 x7 0 6)
def fX12_words_80  (σ : zSt) (x2 : Int32) (x3 : Int32) (x4 : Int32) (x5 : Int32) (x6 : Int32) (s0 : Int32) : Option (zSt) :=
  zbu (fX12_hlTo σ x6) (fun σ8 =>
  if (x6 &&& 32768) = 0 then fX12_words_104 σ8 x2 x3 x4 x5 x6 s0 0 7 else
  fX12_words_104 σ8 x2 x3 x4 x5 x6 s0 1 7)
def fX12_words_53  (σ : zSt) (x2 : Int32) (x3 : Int32) (x4 : Int32) (x5 : Int32) (s0 : Int32) : Option (zSt) :=
  if x2 = 0 then fX12_words_80 σ x2 x3 x4 x5 s0 (((x3.toInt16.toInt32) - (x4.toInt16.toInt32)) - x5) else
  fX12_words_80 σ x2 x3 x4 x5 s0 (((x3.toInt16.toInt32) + (x4.toInt16.toInt32)) + x5)
def fX12_words  (σ : zSt) (x1 : Int32) (x2 : Int32) : Option (zSt) :=
  zbi (fX12_hl σ ) (fun σ9 v10 =>
  zbi (fX12_rp σ9 x1) (fun σ11 v12 =>
  zbi (fX12_flag σ11 0) (fun σ13 v14 =>
  zck (zin 20 1048) (zbv (zsi σ13 3 ((20 : Int32).toNatClampNeg) ((v10 + 1) &&& 65535)) (fun σ15 =>
  if x2 = 0 then fX12_words_53 σ15 x2 v10 v12 v14 ((v10 - v12) - v14) else
  fX12_words_53 σ15 x2 v10 v12 v14 ((v10 + v12) + v14))))))
set_option maxRecDepth 20000 in
set_option maxHeartbeats 4000000 in
theorem bX12_words_255 {st : Nat → Nat} {p : Program} {l : Launch} {e : Env} {s : State} {m : MethodId} {args : Array Value} {below : List Frame} {meth : Method} {c : Code} {D : va_G} {A : Nat → Prop} {ad : Nat → Nat} {cy : Nat → ClassId} (hC : zC p m c cX12_words 8 s args wzX12_words RX12 meth none)  {res : zSt} {H : Heap} {locs : List Loc} {σ : zSt} {ls : Array Slot} {s0 : Int32} {s1 : Int32} (hI : zI st D (tM cy) (wM ad cy σ) A s H locs) (hl : lv_has ls 8 []) (hf : fX12_words_255  σ s0 s1 = some res) : W p l e rmX12_words s m args below meth c H locs 0 0 (zQu below args s D (tM cy) (wM ad cy) A res) (F0 m 255 ls [.int s0, .int s1, .ref (ad 0)]) := by
  have hx := hC.1
  have hb := hC.2.1
  unfold fX12_words_255 at hf
  obtain ⟨σ1, g1, hf⟩ := zbu_use hf
  refine z_callVu (As := [.int s1, .int s0]) (rest := []) hC hI (cX12_put_met st l D ad cy σ s1 s0 _ g1) (zgV zw52_13 zw52_14 zw52_15 zw1_5 zw52_16) rfl ⟨rfl, rfl⟩ 2 hdX12_put ⟨Nat.le_of_ble_eq_true rfl, Nat.le_of_ble_eq_true rfl⟩ rfl rfl (wM_e0 ad cy σ) rfl hl rfl (Nat.le_of_ble_eq_true rfl) dX12_words_255 ⟨Nat.zero_le _, Nat.zero_le _⟩ (fun H locs hI => ?_)
  exact z_return hC hI hf dX12_words_258
set_option maxRecDepth 20000 in
set_option maxHeartbeats 4000000 in
theorem bX12_words_241 {st : Nat → Nat} {p : Program} {l : Launch} {e : Env} {s : State} {m : MethodId} {args : Array Value} {below : List Frame} {meth : Method} {c : Code} {D : va_G} {A : Nat → Prop} {ad : Nat → Nat} {cy : Nat → ClassId} (hC : zC p m c cX12_words 8 s args wzX12_words RX12 meth none)  {res : zSt} {H : Heap} {locs : List Loc} {σ : zSt} {ls : Array Slot} {x2 : Int32} {s0 : Int32} {s1 : Int32} (hI : zI st D (tM cy) (wM ad cy σ) A s H locs) (hl : lv_has ls 8 [(0, .ref (ad 0)), (2, .int x2)]) (hf : fX12_words_241  σ x2 s0 s1 = some res) : W p l e rmX12_words s m args below meth c H locs 0 0 (zQu below args s D (tM cy) (wM ad cy) A res) (F0 m 241 ls [.int s0, .int s1, .ref (ad 0)]) := by
  have hx := hC.1
  have hb := hC.2.1
  unfold fX12_words_241 at hf
  obtain ⟨σ2, g2, hf⟩ := zbu_use hf
  refine z_callVu (As := [.int s1, .int s0]) (rest := []) hC hI (cX12_put_met st l D ad cy σ s1 s0 _ g2) (zgV zw52_13 zw52_14 zw52_15 zw1_5 zw52_16) rfl ⟨rfl, rfl⟩ 2 hdX12_put ⟨Nat.le_of_ble_eq_true rfl, Nat.le_of_ble_eq_true rfl⟩ rfl rfl (wM_e0 ad cy σ) rfl hl rfl (Nat.le_of_ble_eq_true rfl) dX12_words_241 ⟨Nat.zero_le _, Nat.zero_le _⟩ (fun H locs hI => ?_)
  refine lv_aload_n hx hb dX12_words_244 rfl (lv_at hl 0 rfl) ?_
  refine lv_iconst (v := 1) hx hb dX12_words_245 (by decide) ?_
  refine lv_iload_n hx hb dX12_words_246 rfl (lv_at hl 1 rfl) ?_
  refine lv_if_ne (tgt := 254) hx hb dX12_words_247 (by decide) (fun q => ?_) (fun q => ?_)
  · replace hf := zif_f q hf
    refine lv_iconst (v := 0) hx hb dX12_words_254 (by decide) ?_
    exact bX12_words_255 hC  hI (lv_sub hl [] rfl) hf
  replace hf := zif_t q hf
  refine lv_iconst (v := 1) hx hb dX12_words_250 (by decide) ?_
  refine lv_goto (tgt := 255) hx hb dX12_words_251 (by decide) ?_
  exact bX12_words_255 hC  hI (lv_sub hl [] rfl) hf
set_option maxRecDepth 20000 in
set_option maxHeartbeats 4000000 in
theorem bX12_words_236 {st : Nat → Nat} {p : Program} {l : Launch} {e : Env} {s : State} {m : MethodId} {args : Array Value} {below : List Frame} {meth : Method} {c : Code} {D : va_G} {A : Nat → Prop} {ad : Nat → Nat} {cy : Nat → ClassId} (hC : zC p m c cX12_words 8 s args wzX12_words RX12 meth none)  {res : zSt} {H : Heap} {locs : List Loc} {σ : zSt} {ls : Array Slot} {x2 : Int32} {s0 : Int32} (hI : zI st D (tM cy) (wM ad cy σ) A s H locs) (hl : lv_has ls 8 [(0, .ref (ad 0)), (2, .int x2)]) (hf : fX12_words_236  σ x2 s0 = some res) : W p l e rmX12_words s m args below meth c H locs 0 0 (zQu below args s D (tM cy) (wM ad cy) A res) (F0 m 236 ls [.int s0, .ref (ad 0)]) := by
  have hx := hC.1
  have hb := hC.2.1
  unfold fX12_words_236 at hf
  refine lv_iconst (v := 1) hx hb dX12_words_236 (by decide) ?_
  refine lv_goto (tgt := 241) hx hb dX12_words_237 (by decide) ?_
  exact bX12_words_241 hC  hI hl hf
set_option maxRecDepth 20000 in
set_option maxHeartbeats 4000000 in
theorem bX12_words_215 {st : Nat → Nat} {p : Program} {l : Launch} {e : Env} {s : State} {m : MethodId} {args : Array Value} {below : List Frame} {meth : Method} {c : Code} {D : va_G} {A : Nat → Prop} {ad : Nat → Nat} {cy : Nat → ClassId} (hC : zC p m c cX12_words 8 s args wzX12_words RX12 meth none)  {res : zSt} {H : Heap} {locs : List Loc} {σ : zSt} {ls : Array Slot} {x2 : Int32} {x7 : Int32} {s0 : Int32} {s1 : Int32} (hI : zI st D (tM cy) (wM ad cy σ) A s H locs) (hl : lv_has ls 8 [(0, .ref (ad 0)), (2, .int x2), (7, .int x7)]) (hf : fX12_words_215  σ x2 x7 s0 s1 = some res) : W p l e rmX12_words s m args below meth c H locs 0 0 (zQu below args s D (tM cy) (wM ad cy) A res) (F0 m 215 ls [.int s0, .int s1, .ref (ad 0)]) := by
  have hx := hC.1
  have hb := hC.2.1
  unfold fX12_words_215 at hf
  obtain ⟨σ3, g3, hf⟩ := zbu_use hf
  refine z_callVu (As := [.int s1, .int s0]) (rest := []) hC hI (cX12_put_met st l D ad cy σ s1 s0 _ g3) (zgV zw52_13 zw52_14 zw52_15 zw1_5 zw52_16) rfl ⟨rfl, rfl⟩ 2 hdX12_put ⟨Nat.le_of_ble_eq_true rfl, Nat.le_of_ble_eq_true rfl⟩ rfl rfl (wM_e0 ad cy σ) rfl hl rfl (Nat.le_of_ble_eq_true rfl) dX12_words_215 ⟨Nat.zero_le _, Nat.zero_le _⟩ (fun H locs hI => ?_)
  refine lv_aload_n hx hb dX12_words_218 rfl (lv_at hl 0 rfl) ?_
  refine lv_iconst (v := 2) hx hb dX12_words_219 (by decide) ?_
  refine lv_iload hx hb dX12_words_220 (lv_at hl 2 rfl) ?_
  refine lv_sipush (v := (-32768)) hx hb dX12_words_222 (by decide) ?_
  refine lv_icmp_lt (tgt := 236) hx hb dX12_words_225 (by decide) (fun q => ?_) (fun q => ?_)
  · replace hf := zif_t q hf
    exact bX12_words_236 hC  hI (lv_sub hl [0, 1] rfl) hf
  replace hf := zif_f q hf
  refine lv_iload hx hb dX12_words_228 (lv_at hl 2 rfl) ?_
  refine lv_sipush (v := 32767) hx hb dX12_words_230 (by decide) ?_
  refine lv_icmp_le (tgt := 240) hx hb dX12_words_233 (by decide) (fun q => ?_) (fun q => ?_)
  · replace hf := zif_t q hf
    refine lv_iconst (v := 0) hx hb dX12_words_240 (by decide) ?_
    exact bX12_words_241 hC  hI (lv_sub hl [0, 1] rfl) hf
  replace hf := zif_f q hf
  exact bX12_words_236 hC  hI (lv_sub hl [0, 1] rfl) hf
set_option maxRecDepth 20000 in
set_option maxHeartbeats 4000000 in
theorem bX12_words_210 {st : Nat → Nat} {p : Program} {l : Launch} {e : Env} {s : State} {m : MethodId} {args : Array Value} {below : List Frame} {meth : Method} {c : Code} {D : va_G} {A : Nat → Prop} {ad : Nat → Nat} {cy : Nat → ClassId} (hC : zC p m c cX12_words 8 s args wzX12_words RX12 meth none)  {res : zSt} {H : Heap} {locs : List Loc} {σ : zSt} {ls : Array Slot} {x2 : Int32} {x7 : Int32} {s0 : Int32} (hI : zI st D (tM cy) (wM ad cy σ) A s H locs) (hl : lv_has ls 8 [(0, .ref (ad 0)), (2, .int x2), (7, .int x7)]) (hf : fX12_words_210  σ x2 x7 s0 = some res) : W p l e rmX12_words s m args below meth c H locs 0 0 (zQu below args s D (tM cy) (wM ad cy) A res) (F0 m 210 ls [.int s0, .ref (ad 0)]) := by
  have hx := hC.1
  have hb := hC.2.1
  unfold fX12_words_210 at hf
  refine lv_iconst (v := 1) hx hb dX12_words_210 (by decide) ?_
  refine lv_goto (tgt := 215) hx hb dX12_words_211 (by decide) ?_
  exact bX12_words_215 hC  hI hl hf
set_option maxRecDepth 20000 in
set_option maxHeartbeats 4000000 in
theorem bX12_words_193 {st : Nat → Nat} {p : Program} {l : Launch} {e : Env} {s : State} {m : MethodId} {args : Array Value} {below : List Frame} {meth : Method} {c : Code} {D : va_G} {A : Nat → Prop} {ad : Nat → Nat} {cy : Nat → ClassId} (hC : zC p m c cX12_words 8 s args wzX12_words RX12 meth none)  {res : zSt} {H : Heap} {locs : List Loc} {σ : zSt} {ls : Array Slot} {x2 : Int32} {x6 : Int32} {x7 : Int32} {s0 : Int32} {s1 : Int32} (hI : zI st D (tM cy) (wM ad cy σ) A s H locs) (hl : lv_has ls 8 [(0, .ref (ad 0)), (2, .int x2), (6, .int x6), (7, .int x7)]) (hf : fX12_words_193  σ x2 x6 x7 s0 s1 = some res) : W p l e rmX12_words s m args below meth c H locs 0 0 (zQu below args s D (tM cy) (wM ad cy) A res) (F0 m 193 ls [.int s0, .int s1, .ref (ad 0)]) := by
  have hx := hC.1
  have hb := hC.2.1
  unfold fX12_words_193 at hf
  obtain ⟨σ4, g4, hf⟩ := zbu_use hf
  refine z_callVu (As := [.int s1, .int s0]) (rest := []) hC hI (cX12_put_met st l D ad cy σ s1 s0 _ g4) (zgV zw52_13 zw52_14 zw52_15 zw1_5 zw52_16) rfl ⟨rfl, rfl⟩ 2 hdX12_put ⟨Nat.le_of_ble_eq_true rfl, Nat.le_of_ble_eq_true rfl⟩ rfl rfl (wM_e0 ad cy σ) rfl hl rfl (Nat.le_of_ble_eq_true rfl) dX12_words_193 ⟨Nat.zero_le _, Nat.zero_le _⟩ (fun H locs hI => ?_)
  refine lv_aload_n hx hb dX12_words_196 rfl (lv_at hl 0 rfl) ?_
  refine lv_iconst (v := 0) hx hb dX12_words_197 (by decide) ?_
  refine lv_iload hx hb dX12_words_198 (lv_at hl 2 rfl) ?_
  refine lv_if_lt (tgt := 210) hx hb dX12_words_200 (by decide) (fun q => ?_) (fun q => ?_)
  · replace hf := zif_t q hf
    exact bX12_words_210 hC  hI (lv_sub hl [0, 1, 3] rfl) hf
  replace hf := zif_f q hf
  refine lv_iload hx hb dX12_words_203 (lv_at hl 2 rfl) ?_
  refine lv_ldc (v := 65535) hx hb hC.2.2.2.1 (hC.2.2.2.2.1 _ (List.mem_cons_of_mem _ zw16_11)) dX12_words_205 ?_
  refine lv_icmp_le (tgt := 214) hx hb dX12_words_207 (by decide) (fun q => ?_) (fun q => ?_)
  · replace hf := zif_t q hf
    refine lv_iconst (v := 0) hx hb dX12_words_214 (by decide) ?_
    exact bX12_words_215 hC  hI (lv_sub hl [0, 1, 3] rfl) hf
  replace hf := zif_f q hf
  exact bX12_words_210 hC  hI (lv_sub hl [0, 1, 3] rfl) hf
set_option maxRecDepth 20000 in
set_option maxHeartbeats 4000000 in
theorem bX12_words_123 {st : Nat → Nat} {p : Program} {l : Launch} {e : Env} {s : State} {m : MethodId} {args : Array Value} {below : List Frame} {meth : Method} {c : Code} {D : va_G} {A : Nat → Prop} {ad : Nat → Nat} {cy : Nat → ClassId} (hC : zC p m c cX12_words 8 s args wzX12_words RX12 meth none)  {res : zSt} {H : Heap} {locs : List Loc} {σ : zSt} {ls : Array Slot} {x2 : Int32} {x3 : Int32} {x4 : Int32} {x5 : Int32} {x6 : Int32} {x7 : Int32} {s0 : Int32} {s1 : Int32} (hI : zI st D (tM cy) (wM ad cy σ) A s H locs) (hl : lv_has ls 8 [(0, .ref (ad 0)), (2, .int x2), (3, .int x3), (4, .int x4), (5, .int x5), (6, .int x6), (7, .int x7)]) (hf : fX12_words_123  σ x2 x3 x4 x5 x6 x7 s0 s1 = some res) : W p l e rmX12_words s m args below meth c H locs 0 0 (zQu below args s D (tM cy) (wM ad cy) A res) (F0 m 123 ls [.int s0, .int s1, .ref (ad 0)]) := by
  have hx := hC.1
  have hb := hC.2.1
  unfold fX12_words_123 at hf
  obtain ⟨σ5, g5, hf⟩ := zbu_use hf
  refine z_callVu (As := [.int s1, .int s0]) (rest := []) hC hI (cX12_put_met st l D ad cy σ s1 s0 _ g5) (zgV zw52_13 zw52_14 zw52_15 zw1_5 zw52_16) rfl ⟨rfl, rfl⟩ 2 hdX12_put ⟨Nat.le_of_ble_eq_true rfl, Nat.le_of_ble_eq_true rfl⟩ rfl rfl (wM_e0 ad cy σ) rfl hl rfl (Nat.le_of_ble_eq_true rfl) dX12_words_123 ⟨Nat.zero_le _, Nat.zero_le _⟩ (fun H locs hI => ?_)
  refine lv_aload_n hx hb dX12_words_126 rfl (lv_at hl 0 rfl) ?_
  refine lv_iload hx hb dX12_words_127 (lv_at hl 5 rfl) ?_
  refine lv_bipush (v := 8) hx hb dX12_words_129 (by decide) ?_
  refine lv_ishr hx hb dX12_words_131 ?_
  obtain ⟨σ6, g6, hf⟩ := zbu_use hf
  refine z_callVu (As := [.int (x6 >>> ((8 : Int32) &&& 31))]) (rest := []) hC hI (cX12_xy_met st l D ad cy σ5 (x6 >>> ((8 : Int32) &&& 31)) _ g6) (zgV zw52_17 zw52_18 zw52_19 zw1_5 zw52_20) rfl ⟨rfl, rfl⟩ 1 hdX12_xy ⟨Nat.le_of_ble_eq_true rfl, Nat.le_of_ble_eq_true rfl⟩ rfl rfl (wM_e0 ad cy σ5) rfl hl rfl (Nat.le_of_ble_eq_true rfl) dX12_words_132 ⟨Nat.zero_le _, Nat.zero_le _⟩ (fun H locs hI => ?_)
  refine lv_aload_n hx hb dX12_words_135 rfl (lv_at hl 0 rfl) ?_
  refine lv_iconst (v := 4) hx hb dX12_words_136 (by decide) ?_
  refine lv_iload_n hx hb dX12_words_137 rfl (lv_at hl 1 rfl) ?_
  refine lv_if_eq (tgt := 170) hx hb dX12_words_138 (by decide) (fun q => ?_) (fun q => ?_)
  · replace hf := zif_t q hf
    refine lv_iload_n hx hb dX12_words_170 rfl (lv_at hl 2 rfl) ?_
    refine lv_sipush (v := 4095) hx hb dX12_words_171 (by decide) ?_
    refine lv_iand hx hb dX12_words_174 ?_
    refine lv_iload hx hb dX12_words_175 (lv_at hl 3 rfl) ?_
    refine lv_sipush (v := 4095) hx hb dX12_words_177 (by decide) ?_
    refine lv_iand hx hb dX12_words_180 ?_
    refine lv_isub hx hb dX12_words_181 ?_
    refine lv_iload hx hb dX12_words_182 (lv_at hl 4 rfl) ?_
    refine lv_isub hx hb dX12_words_184 ?_
    refine lv_if_ge (tgt := 192) hx hb dX12_words_185 (by decide) (fun q => ?_) (fun q => ?_)
    · replace hf := zif_t q hf
      refine lv_iconst (v := 0) hx hb dX12_words_192 (by decide) ?_
      exact bX12_words_193 hC  hI (lv_sub hl [0, 1, 5, 6] rfl) hf
    replace hf := zif_f q hf
    refine lv_iconst (v := 1) hx hb dX12_words_188 (by decide) ?_
    refine lv_goto (tgt := 193) hx hb dX12_words_189 (by decide) ?_
    exact bX12_words_193 hC  hI (lv_sub hl [0, 1, 5, 6] rfl) hf
  replace hf := zif_f q hf
  refine lv_iload_n hx hb dX12_words_141 rfl (lv_at hl 2 rfl) ?_
  refine lv_sipush (v := 4095) hx hb dX12_words_142 (by decide) ?_
  refine lv_iand hx hb dX12_words_145 ?_
  refine lv_iload hx hb dX12_words_146 (lv_at hl 3 rfl) ?_
  refine lv_sipush (v := 4095) hx hb dX12_words_148 (by decide) ?_
  refine lv_iand hx hb dX12_words_151 ?_
  refine lv_iadd hx hb dX12_words_152 ?_
  refine lv_iload hx hb dX12_words_153 (lv_at hl 4 rfl) ?_
  refine lv_iadd hx hb dX12_words_155 ?_
  refine lv_sipush (v := 4095) hx hb dX12_words_156 (by decide) ?_
  refine lv_icmp_le (tgt := 166) hx hb dX12_words_159 (by decide) (fun q => ?_) (fun q => ?_)
  · replace hf := zif_t q hf
    refine lv_iconst (v := 0) hx hb dX12_words_166 (by decide) ?_
    refine lv_goto (tgt := 193) hx hb dX12_words_167 (by decide) ?_
    exact bX12_words_193 hC  hI (lv_sub hl [0, 1, 5, 6] rfl) hf
  replace hf := zif_f q hf
  refine lv_iconst (v := 1) hx hb dX12_words_162 (by decide) ?_
  refine lv_goto (tgt := 193) hx hb dX12_words_163 (by decide) ?_
  exact bX12_words_193 hC  hI (lv_sub hl [0, 1, 5, 6] rfl) hf
set_option maxRecDepth 20000 in
set_option maxHeartbeats 4000000 in
theorem bX12_words_104 {st : Nat → Nat} {p : Program} {l : Launch} {e : Env} {s : State} {m : MethodId} {args : Array Value} {below : List Frame} {meth : Method} {c : Code} {D : va_G} {A : Nat → Prop} {ad : Nat → Nat} {cy : Nat → ClassId} (hC : zC p m c cX12_words 8 s args wzX12_words RX12 meth none)  {res : zSt} {H : Heap} {locs : List Loc} {σ : zSt} {ls : Array Slot} {x2 : Int32} {x3 : Int32} {x4 : Int32} {x5 : Int32} {x6 : Int32} {x7 : Int32} {s0 : Int32} {s1 : Int32} (hI : zI st D (tM cy) (wM ad cy σ) A s H locs) (hl : lv_has ls 8 [(0, .ref (ad 0)), (2, .int x2), (3, .int x3), (4, .int x4), (5, .int x5), (6, .int x6), (7, .int x7)]) (hf : fX12_words_104  σ x2 x3 x4 x5 x6 x7 s0 s1 = some res) : W p l e rmX12_words s m args below meth c H locs 0 0 (zQu below args s D (tM cy) (wM ad cy) A res) (F0 m 104 ls [.int s0, .int s1, .ref (ad 0)]) := by
  have hx := hC.1
  have hb := hC.2.1
  unfold fX12_words_104 at hf
  obtain ⟨σ7, g7, hf⟩ := zbu_use hf
  refine z_callVu (As := [.int s1, .int s0]) (rest := []) hC hI (cX12_put_met st l D ad cy σ s1 s0 _ g7) (zgV zw52_13 zw52_14 zw52_15 zw1_5 zw52_16) rfl ⟨rfl, rfl⟩ 2 hdX12_put ⟨Nat.le_of_ble_eq_true rfl, Nat.le_of_ble_eq_true rfl⟩ rfl rfl (wM_e0 ad cy σ) rfl hl rfl (Nat.le_of_ble_eq_true rfl) dX12_words_104 ⟨Nat.zero_le _, Nat.zero_le _⟩ (fun H locs hI => ?_)
  refine lv_aload_n hx hb dX12_words_107 rfl (lv_at hl 0 rfl) ?_
  refine lv_bipush (v := 6) hx hb dX12_words_108 (by decide) ?_
  refine lv_iload hx hb dX12_words_110 (lv_at hl 5 rfl) ?_
  refine lv_ldc (v := 65535) hx hb hC.2.2.2.1 (hC.2.2.2.2.1 _ (List.mem_cons_of_mem _ zw16_11)) dX12_words_112 ?_
  refine lv_iand hx hb dX12_words_114 ?_
  refine lv_if_ne (tgt := 122) hx hb dX12_words_115 (by decide) (fun q => ?_) (fun q => ?_)
  · replace hf := zif_f q hf
    refine lv_iconst (v := 0) hx hb dX12_words_122 (by decide) ?_
    exact bX12_words_123 hC  hI hl hf
  replace hf := zif_t q hf
  refine lv_iconst (v := 1) hx hb dX12_words_118 (by decide) ?_
  refine lv_goto (tgt := 123) hx hb dX12_words_119 (by decide) ?_
  exact bX12_words_123 hC  hI hl hf
set_option maxRecDepth 20000 in
set_option maxHeartbeats 4000000 in
theorem bX12_words_80 {st : Nat → Nat} {p : Program} {l : Launch} {e : Env} {s : State} {m : MethodId} {args : Array Value} {below : List Frame} {meth : Method} {c : Code} {D : va_G} {A : Nat → Prop} {ad : Nat → Nat} {cy : Nat → ClassId} (hC : zC p m c cX12_words 8 s args wzX12_words RX12 meth none)  {res : zSt} {H : Heap} {locs : List Loc} {σ : zSt} {ls : Array Slot} {x2 : Int32} {x3 : Int32} {x4 : Int32} {x5 : Int32} {x6 : Int32} {s0 : Int32} (hI : zI st D (tM cy) (wM ad cy σ) A s H locs) (hl : lv_has ls 8 [(0, .ref (ad 0)), (2, .int x2), (3, .int x3), (4, .int x4), (5, .int x5), (6, .int x6)]) (hf : fX12_words_80  σ x2 x3 x4 x5 x6 s0 = some res) : W p l e rmX12_words s m args below meth c H locs 0 0 (zQu below args s D (tM cy) (wM ad cy) A res) (F0 m 80 ls [.int s0]) := by
  have hx := hC.1
  have hb := hC.2.1
  unfold fX12_words_80 at hf
  refine lv_istore (lv' := [(7, .int s0), (0, .ref (ad 0)), (2, .int x2), (3, .int x3), (4, .int x4), (5, .int x5), (6, .int x6)]) hx hb dX12_words_80 hl (by decide) rfl (fun ls hl => ?_)
  refine lv_aload_n hx hb dX12_words_82 rfl (lv_at hl 1 rfl) ?_
  refine lv_iload hx hb dX12_words_83 (lv_at hl 6 rfl) ?_
  obtain ⟨σ8, g8, hf⟩ := zbu_use hf
  refine z_callVu (As := [.int x6]) (rest := []) hC hI (cX12_hlTo_met st l D ad cy σ x6 _ g8) (zgV zw51_21 zw51_22 zw51_23 zw1_5 zw52_0) rfl ⟨rfl, rfl⟩ 1 hdX12_hlTo ⟨Nat.le_of_ble_eq_true rfl, Nat.le_of_ble_eq_true rfl⟩ rfl rfl (wM_e0 ad cy σ) rfl hl rfl (Nat.le_of_ble_eq_true rfl) dX12_words_85 ⟨Nat.zero_le _, Nat.zero_le _⟩ (fun H locs hI => ?_)
  refine lv_aload_n hx hb dX12_words_88 rfl (lv_at hl 1 rfl) ?_
  refine lv_bipush (v := 7) hx hb dX12_words_89 (by decide) ?_
  refine lv_iload hx hb dX12_words_91 (lv_at hl 6 rfl) ?_
  refine lv_ldc (v := 32768) hx hb hC.2.2.2.1 (hC.2.2.2.2.1 _ (List.mem_cons_of_mem _ zw9_10)) dX12_words_93 ?_
  refine lv_iand hx hb dX12_words_95 ?_
  refine lv_if_eq (tgt := 103) hx hb dX12_words_96 (by decide) (fun q => ?_) (fun q => ?_)
  · replace hf := zif_t q hf
    refine lv_iconst (v := 0) hx hb dX12_words_103 (by decide) ?_
    exact bX12_words_104 hC  hI (lv_sub hl [1, 2, 3, 4, 5, 6, 0] rfl) hf
  replace hf := zif_f q hf
  refine lv_iconst (v := 1) hx hb dX12_words_99 (by decide) ?_
  refine lv_goto (tgt := 104) hx hb dX12_words_100 (by decide) ?_
  exact bX12_words_104 hC  hI (lv_sub hl [1, 2, 3, 4, 5, 6, 0] rfl) hf
set_option maxRecDepth 20000 in
set_option maxHeartbeats 4000000 in
theorem bX12_words_53 {st : Nat → Nat} {p : Program} {l : Launch} {e : Env} {s : State} {m : MethodId} {args : Array Value} {below : List Frame} {meth : Method} {c : Code} {D : va_G} {A : Nat → Prop} {ad : Nat → Nat} {cy : Nat → ClassId} (hC : zC p m c cX12_words 8 s args wzX12_words RX12 meth none)  {res : zSt} {H : Heap} {locs : List Loc} {σ : zSt} {ls : Array Slot} {x2 : Int32} {x3 : Int32} {x4 : Int32} {x5 : Int32} {s0 : Int32} (hI : zI st D (tM cy) (wM ad cy σ) A s H locs) (hl : lv_has ls 8 [(0, .ref (ad 0)), (2, .int x2), (3, .int x3), (4, .int x4), (5, .int x5)]) (hf : fX12_words_53  σ x2 x3 x4 x5 s0 = some res) : W p l e rmX12_words s m args below meth c H locs 0 0 (zQu below args s D (tM cy) (wM ad cy) A res) (F0 m 53 ls [.int s0]) := by
  have hx := hC.1
  have hb := hC.2.1
  unfold fX12_words_53 at hf
  refine lv_istore (lv' := [(6, .int s0), (0, .ref (ad 0)), (2, .int x2), (3, .int x3), (4, .int x4), (5, .int x5)]) hx hb dX12_words_53 hl (by decide) rfl (fun ls hl => ?_)
  refine lv_iload_n hx hb dX12_words_55 rfl (lv_at hl 2 rfl) ?_
  refine lv_if_eq (tgt := 71) hx hb dX12_words_56 (by decide) (fun q => ?_) (fun q => ?_)
  · replace hf := zif_t q hf
    refine lv_iload_n hx hb dX12_words_71 rfl (lv_at hl 3 rfl) ?_
    refine lv_i2s (v := x3.toInt16.toInt32) hx hb dX12_words_72 rfl ?_
    refine lv_iload hx hb dX12_words_73 (lv_at hl 4 rfl) ?_
    refine lv_i2s (v := x4.toInt16.toInt32) hx hb dX12_words_75 rfl ?_
    refine lv_isub hx hb dX12_words_76 ?_
    refine lv_iload hx hb dX12_words_77 (lv_at hl 5 rfl) ?_
    refine lv_isub hx hb dX12_words_79 ?_
    exact bX12_words_80 hC  hI (lv_sub hl [1, 2, 3, 4, 5, 0] rfl) hf
  replace hf := zif_f q hf
  refine lv_iload_n hx hb dX12_words_59 rfl (lv_at hl 3 rfl) ?_
  refine lv_i2s (v := x3.toInt16.toInt32) hx hb dX12_words_60 rfl ?_
  refine lv_iload hx hb dX12_words_61 (lv_at hl 4 rfl) ?_
  refine lv_i2s (v := x4.toInt16.toInt32) hx hb dX12_words_63 rfl ?_
  refine lv_iadd hx hb dX12_words_64 ?_
  refine lv_iload hx hb dX12_words_65 (lv_at hl 5 rfl) ?_
  refine lv_iadd hx hb dX12_words_67 ?_
  refine lv_goto (tgt := 80) hx hb dX12_words_68 (by decide) ?_
  exact bX12_words_80 hC  hI (lv_sub hl [1, 2, 3, 4, 5, 0] rfl) hf
set_option maxRecDepth 20000 in
set_option maxHeartbeats 4000000 in
theorem bX12_words {st : Nat → Nat} {p : Program} {l : Launch} {e : Env} {s : State} {m : MethodId} {args : Array Value} {below : List Frame} {meth : Method} {c : Code} {D : va_G} {A : Nat → Prop} {ad : Nat → Nat} {cy : Nat → ClassId} (hC : zC p m c cX12_words 8 s args wzX12_words RX12 meth none)  {res : zSt} {H : Heap} {locs : List Loc} {σ : zSt} {ls : Array Slot} {x1 : Int32} {x2 : Int32} (hI : zI st D (tM cy) (wM ad cy σ) A s H locs) (hl : lv_has ls 8 [(0, .ref (ad 0)), (1, .int x1), (2, .int x2)]) (hf : fX12_words  σ x1 x2 = some res) : W p l e rmX12_words s m args below meth c H locs 0 0 (zQu below args s D (tM cy) (wM ad cy) A res) (F0 m 0 ls []) := by
  have hx := hC.1
  have hb := hC.2.1
  unfold fX12_words at hf
  refine lv_aload_n hx hb dX12_words_0 rfl (lv_at hl 0 rfl) ?_
  obtain ⟨σ9, v10, g9, hf⟩ := zbi_use hf
  refine z_callVi (As := []) (rest := []) hC hI (cX12_hl_met st l D ad cy σ  _ g9) (zgV zw52_1 zw52_2 zw52_3 zw1_5 zw52_4) rfl ⟨rfl, rfl⟩ 0 hdX12_hl ⟨Nat.le_of_ble_eq_true rfl, Nat.le_of_ble_eq_true rfl⟩ rfl rfl (wM_e0 ad cy σ) rfl hl rfl (Nat.le_of_ble_eq_true rfl) dX12_words_1 ⟨Nat.zero_le _, Nat.zero_le _⟩ (fun H locs hI => ?_)
  refine lv_istore_n (lv' := [(3, .int v10), (0, .ref (ad 0)), (1, .int x1), (2, .int x2)]) hx hb dX12_words_4 rfl hl (by decide) rfl (fun ls hl => ?_)
  refine lv_aload_n hx hb dX12_words_5 rfl (lv_at hl 1 rfl) ?_
  refine lv_iload_n hx hb dX12_words_6 rfl (lv_at hl 2 rfl) ?_
  obtain ⟨σ11, v12, g11, hf⟩ := zbi_use hf
  refine z_callVi (As := [.int x1]) (rest := []) hC hI (cX12_rp_met st l D ad cy σ9 x1 _ g11) (zgV zw52_9 zw52_10 zw52_11 zw1_5 zw52_12) rfl ⟨rfl, rfl⟩ 1 hdX12_rp ⟨Nat.le_of_ble_eq_true rfl, Nat.le_of_ble_eq_true rfl⟩ rfl rfl (wM_e0 ad cy σ9) rfl hl rfl (Nat.le_of_ble_eq_true rfl) dX12_words_7 ⟨Nat.zero_le _, Nat.zero_le _⟩ (fun H locs hI => ?_)
  refine lv_istore (lv' := [(4, .int v12), (3, .int v10), (0, .ref (ad 0)), (1, .int x1), (2, .int x2)]) hx hb dX12_words_10 hl (by decide) rfl (fun ls hl => ?_)
  refine lv_aload_n hx hb dX12_words_12 rfl (lv_at hl 2 rfl) ?_
  refine lv_iconst (v := 0) hx hb dX12_words_13 (by decide) ?_
  obtain ⟨σ13, v14, g13, hf⟩ := zbi_use hf
  refine z_callVi (As := [.int 0]) (rest := []) hC hI (cX12_flag_met st l D ad cy σ11 0 _ g13) (zgV zw51_1 zw51_2 zw51_3 zw1_5 zw51_4) rfl ⟨rfl, rfl⟩ 1 hdX12_flag ⟨Nat.le_of_ble_eq_true rfl, Nat.le_of_ble_eq_true rfl⟩ rfl rfl (wM_e0 ad cy σ11) rfl hl rfl (Nat.le_of_ble_eq_true rfl) dX12_words_14 ⟨Nat.zero_le _, Nat.zero_le _⟩ (fun H locs hI => ?_)
  refine lv_istore (lv' := [(5, .int v14), (4, .int v12), (3, .int v10), (0, .ref (ad 0)), (1, .int x1), (2, .int x2)]) hx hb dX12_words_17 hl (by decide) rfl (fun ls hl => ?_)
  refine lv_aload_n hx hb dX12_words_19 rfl (lv_at hl 3 rfl) ?_
  refine z_get hC hI hinX12_words_X120 0 (wM_e0 ad cy σ13) rfl 10 (by decide) (List.mem_cons_of_mem _ zw9_7) rfl dX12_words_20 ?_
  refine lv_bipush (v := 20) hx hb dX12_words_23 (by decide) ?_
  refine lv_iload_n hx hb dX12_words_25 rfl (lv_at hl 2 rfl) ?_
  refine lv_iconst (v := 1) hx hb dX12_words_26 (by decide) ?_
  refine lv_iadd hx hb dX12_words_27 ?_
  refine lv_ldc (v := 65535) hx hb hC.2.2.2.1 (hC.2.2.2.2.1 _ (List.mem_cons_of_mem _ zw16_11)) dX12_words_28 ?_
  refine lv_iand hx hb dX12_words_30 ?_
  obtain ⟨q, hf⟩ := zck_use hf
  obtain ⟨σ15, eσ15⟩ : ∃ z, z = zsi σ13 3 ((20 : Int32).toNatClampNeg) ((v10 + 1) &&& 65535) := ⟨_, rfl⟩
  replace hf := zbv_use eσ15 hf
  refine z_iast hC hI 3 2 (wM_e3 ad cy σ13) (tM_t3 cy) q ((wM_s3 ad cy σ13 _ _).trans (congrArg (wM ad cy) eσ15.symm)) dX12_words_31 (fun H locs hI => ?_)
  refine lv_iload_n hx hb dX12_words_32 rfl (lv_at hl 5 rfl) ?_
  refine lv_if_eq (tgt := 46) hx hb dX12_words_33 (by decide) (fun q => ?_) (fun q => ?_)
  · replace hf := zif_t q hf
    refine lv_iload_n hx hb dX12_words_46 rfl (lv_at hl 2 rfl) ?_
    refine lv_iload hx hb dX12_words_47 (lv_at hl 1 rfl) ?_
    refine lv_isub hx hb dX12_words_49 ?_
    refine lv_iload hx hb dX12_words_50 (lv_at hl 0 rfl) ?_
    refine lv_isub hx hb dX12_words_52 ?_
    exact bX12_words_53 hC  hI (lv_sub hl [3, 5, 2, 1, 0] rfl) hf
  replace hf := zif_f q hf
  refine lv_iload_n hx hb dX12_words_36 rfl (lv_at hl 2 rfl) ?_
  refine lv_iload hx hb dX12_words_37 (lv_at hl 1 rfl) ?_
  refine lv_iadd hx hb dX12_words_39 ?_
  refine lv_iload hx hb dX12_words_40 (lv_at hl 0 rfl) ?_
  refine lv_iadd hx hb dX12_words_42 ?_
  refine lv_goto (tgt := 53) hx hb dX12_words_43 (by decide) ?_
  exact bX12_words_53 hC  hI (lv_sub hl [3, 5, 2, 1, 0] rfl) hf
set_option maxRecDepth 20000 in
theorem cX12_words_met (st : Nat → Nat) (l : Launch) (D : va_G) (ad : Nat → Nat) (cy : Nat → ClassId) (σ : zSt) (x1 : Int32) (x2 : Int32) (res : zSt) (hf : fX12_words σ x1 x2 = some res) (sz : Nat) : zMu st l yX12_words wzX12_words rmX12_words [.ref (ad 0), .int x1, .int x2] D (tM cy) (wM ad cy) sz σ res :=
  zMu.of (cc := cX12_words) (maxL := 8) (ret := none) (by decide) rfl (Nat.le_of_ble_eq_true rfl) (fun p e s m args below meth c hC A hI ls hl => bX12_words hC hI hl hf)
theorem hdX12_words : yX12_words.cls = RX12 ∧ yX12_words.cls ≠ "java/lang/invoke/MethodHandle" ∧ yX12_words.cls ≠ "java/lang/invoke/VarHandle" ∧ (parseMethodDescriptor yX12_words.desc).map (fun d => d.parameters.length) = some 2 := by decide +kernel
def rmX12_more : Room := { frames := 6, cells := 0, slots := 0, locals := 135 }
def wzX12_more : List Cond := .code yX12_more cX12_more 9 (some .int) :: wsL_law
theorem hinX12_more_X120 : ∀ w ∈ wsX120, w ∈ wzX12_more := fun w h => List.mem_cons_of_mem _ (inlX12 w h)
def fX12_more_387  (σ : zSt) (s0 : Int32) (s1 : Int32) : Option (zSt × Int32) :=
  zck (zin s1 1048) (zbv (zsi σ 3 (s1.toNatClampNeg) s0) (fun σ1 =>
  some (σ1, 8)))
def fX12_more_281  (σ : zSt) (x7 : Int32) : Option (zSt × Int32) :=
  zck (zin 20 1048) (zbv (zsi σ 3 ((20 : Int32).toNatClampNeg) ((x7 + 1) &&& 65535)) (fun σ2 =>
  some (σ2, 20)))
def fX12_more_234  (σ : zSt) (s0 : Int32) (s1 : Int32) : Option (zSt × Int32) :=
  zbu (fX12_words σ s1 s0) (fun σ3 =>
  some (σ3, 15))
def fX12_more_195  (σ : zSt) (s0 : Int32) (s1 : Int32) : Option (zSt × Int32) :=
  zbu (fX12_portTo σ s1 s0) (fun σ4 =>
  zbi (fX12_pair σ4 2) (fun σ5 v6 =>
  zck (zin 20 1048) (zbv (zsi σ5 3 ((20 : Int32).toNatClampNeg) ((v6 + 1) &&& 65535)) (fun σ7 =>
  some (σ7, 12)))))
def fX12_more_133  (σ : zSt) (x5 : Int32) (x6 : Int32) : Option (zSt × Int32) :=
  zbu (fX12_by σ x6) (fun σ8 =>
  zbi (fX12_isEven σ8 x6) (fun σ9 v10 =>
  zbu (fX12_put σ9 2 v10) (fun σ11 =>
  zbu (fX12_put σ11 4 0) (fun σ12 =>
  zbu (fX12_put σ12 1 0) (fun σ13 =>
  zck (zin 20 1048) (zbv (zsi σ13 3 ((20 : Int32).toNatClampNeg) x5) (fun σ14 =>
  some (σ14, 12))))))))
def fX12_more_42  (σ : zSt) (x2 : Int32) (x3 : Int32) (x4 : Int32) : Option (zSt × Int32) :=
  if x2 = 1 then if x4 = 0 then zbi (fX12_pair σ 2) (fun σ15 v16 =>
  zbv ((v16 + 1) &&& 65535) (fun v17 =>
  zck (zin 3 1048) (
  zbi (fX12_port σ15 (zgi σ15 3 (3 : Int32).toNatClampNeg)) (fun σ18 v19 =>
  if x3 = 6 then fX12_more_133 σ18 v17 v19 else
  zbu (fX12_rTo σ18 x3 v19) (fun σ20 =>
  fX12_more_133 σ20 v17 v19))))) else
  if x4 = 1 then zck (zin 3 1048) (
  if x3 = 6 then fX12_more_195 σ 0 (zgi σ 3 (3 : Int32).toNatClampNeg) else
  zbi (fX12_r σ x3) (fun σ21 v22 =>
  fX12_more_195 σ21 v22 (zgi σ 3 (3 : Int32).toNatClampNeg))) else
  if x4 = 2 then zck (decide (¬ 2 = 0)) (
  if (zrem x3 2) = 1 then fX12_more_234 σ 1 (x3 >>> ((1 : Int32) &&& 31)) else
  fX12_more_234 σ 0 (x3 >>> ((1 : Int32) &&& 31))) else
  if x4 = 3 then zbi (fX12_nextWord σ ) (fun σ23 v24 =>
  zck (decide (¬ 2 = 0)) (
  if (zrem x3 2) = 0 then zbi (fX12_rp σ23 (x3 >>> ((1 : Int32) &&& 31))) (fun σ28 v29 =>
  zbu (fX12_wordTo σ28 v24 v29) (fun σ30 =>
  fX12_more_281 σ30 v24)) else
  zbi (fX12_word σ23 v24) (fun σ25 v26 =>
  zbu (fX12_rpTo σ25 (x3 >>> ((1 : Int32) &&& 31)) v26) (fun σ27 =>
  fX12_more_281 σ27 v24)))) else
  if x4 = 4 then zck (zin 0 1048) (
  zbv (zgi σ 3 (0 : Int32).toNatClampNeg) (fun v31 =>
  zck (zin 0 1048) (zbv (zsi σ 3 ((0 : Int32).toNatClampNeg) 0) (fun σ32 =>
  zbu (fX12_does σ32 2 v31) (fun σ33 =>
  some (σ33, 8)))))) else
  if x4 = 5 then zbi (fX12_pop σ ) (fun σ34 v35 =>
  zck (zin 19 1048) (zbv (zsi σ34 3 ((19 : Int32).toNatClampNeg) v35) (fun σ36 =>
  zck (zin 19 1048) (
  zck (zin 20 1048) (zbv (zsi σ36 3 ((20 : Int32).toNatClampNeg) (zgi σ36 3 (19 : Int32).toNatClampNeg)) (fun σ37 =>
  zck (zin 24 1048) (
  zck (zin 23 1048) (zbv (zsi σ37 3 ((23 : Int32).toNatClampNeg) (zgi σ37 3 (24 : Int32).toNatClampNeg)) (fun σ38 =>
  some (σ38, 14)))))))))) else
  if x4 = 6 then zck (decide (¬ 4 = 0)) (
  if 2 ≤ (zrem x3 4) then zck (decide (¬ 4 = 0)) (
  fX12_more_387 σ ((zrem x3 4) - 1) 25) else
  fX12_more_387 σ 0 25) else
  zbi (fX12_specials σ x3) (fun σ39 v40 =>
  some (σ39, v40)) else
  some (σ, 8)
def fX12_more  (σ : zSt) (x1 : Int32) : Option (zSt × Int32) :=
  zbv (x1 >>> ((6 : Int32) &&& 31)) (fun v41 =>
  zbv ((x1 >>> ((3 : Int32) &&& 31)) &&& 7) (fun v42 =>
  zbv (x1 &&& 7) (fun v43 =>
  if v41 = 2 then if v42 ≤ 3 then fX12_more_42 σ v41 v42 v43 else
  if 4 ≤ v43 then fX12_more_42 σ v41 v42 v43 else
  zbi (fX12_blocks σ v42 v43) (fun σ44 v45 =>
  some (σ44, v45)) else
  fX12_more_42 σ v41 v42 v43)))
set_option maxRecDepth 20000 in
set_option maxHeartbeats 4000000 in
theorem bX12_more_387 {st : Nat → Nat} {p : Program} {l : Launch} {e : Env} {s : State} {m : MethodId} {args : Array Value} {below : List Frame} {meth : Method} {c : Code} {D : va_G} {A : Nat → Prop} {ad : Nat → Nat} {cy : Nat → ClassId} (hC : zC p m c cX12_more 9 s args wzX12_more RX12 meth (some .int))  {res : zSt × Int32} {H : Heap} {locs : List Loc} {σ : zSt} {ls : Array Slot} {s0 : Int32} {s1 : Int32} (hI : zI st D (tM cy) (wM ad cy σ) A s H locs) (hl : lv_has ls 9 []) (hf : fX12_more_387  σ s0 s1 = some res) : W p l e rmX12_more s m args below meth c H locs 0 0 (zQi below args s D (tM cy) (wM ad cy) A res) (F0 m 387 ls [.int s0, .int s1, .ref (ad 3)]) := by
  have hx := hC.1
  have hb := hC.2.1
  unfold fX12_more_387 at hf
  obtain ⟨q, hf⟩ := zck_use hf
  obtain ⟨σ1, eσ1⟩ : ∃ z, z = zsi σ 3 (s1.toNatClampNeg) s0 := ⟨_, rfl⟩
  replace hf := zbv_use eσ1 hf
  refine z_iast hC hI 3 2 (wM_e3 ad cy σ) (tM_t3 cy) q ((wM_s3 ad cy σ _ _).trans (congrArg (wM ad cy) eσ1.symm)) dX12_more_387 (fun H locs hI => ?_)
  refine lv_bipush (v := 8) hx hb dX12_more_388 (by decide) ?_
  exact z_ireturn hC hI hf dX12_more_390
set_option maxRecDepth 20000 in
set_option maxHeartbeats 4000000 in
theorem bX12_more_281 {st : Nat → Nat} {p : Program} {l : Launch} {e : Env} {s : State} {m : MethodId} {args : Array Value} {below : List Frame} {meth : Method} {c : Code} {D : va_G} {A : Nat → Prop} {ad : Nat → Nat} {cy : Nat → ClassId} (hC : zC p m c cX12_more 9 s args wzX12_more RX12 meth (some .int))  {res : zSt × Int32} {H : Heap} {locs : List Loc} {σ : zSt} {ls : Array Slot} {x7 : Int32} (hI : zI st D (tM cy) (wM ad cy σ) A s H locs) (hl : lv_has ls 9 [(0, .ref (ad 0)), (7, .int x7)]) (hf : fX12_more_281  σ x7 = some res) : W p l e rmX12_more s m args below meth c H locs 0 0 (zQi below args s D (tM cy) (wM ad cy) A res) (F0 m 281 ls []) := by
  have hx := hC.1
  have hb := hC.2.1
  unfold fX12_more_281 at hf
  refine lv_aload_n hx hb dX12_more_281 rfl (lv_at hl 0 rfl) ?_
  refine z_get hC hI hinX12_more_X120 0 (wM_e0 ad cy σ) rfl 10 (by decide) (List.mem_cons_of_mem _ zw9_7) rfl dX12_more_282 ?_
  refine lv_bipush (v := 20) hx hb dX12_more_285 (by decide) ?_
  refine lv_iload hx hb dX12_more_287 (lv_at hl 1 rfl) ?_
  refine lv_iconst (v := 1) hx hb dX12_more_289 (by decide) ?_
  refine lv_iadd hx hb dX12_more_290 ?_
  refine lv_ldc (v := 65535) hx hb hC.2.2.2.1 (hC.2.2.2.2.1 _ (List.mem_cons_of_mem _ zw16_11)) dX12_more_291 ?_
  refine lv_iand hx hb dX12_more_293 ?_
  obtain ⟨q, hf⟩ := zck_use hf
  obtain ⟨σ2, eσ2⟩ : ∃ z, z = zsi σ 3 ((20 : Int32).toNatClampNeg) ((x7 + 1) &&& 65535) := ⟨_, rfl⟩
  replace hf := zbv_use eσ2 hf
  refine z_iast hC hI 3 2 (wM_e3 ad cy σ) (tM_t3 cy) q ((wM_s3 ad cy σ _ _).trans (congrArg (wM ad cy) eσ2.symm)) dX12_more_294 (fun H locs hI => ?_)
  refine lv_bipush (v := 20) hx hb dX12_more_295 (by decide) ?_
  exact z_ireturn hC hI hf dX12_more_297
set_option maxRecDepth 20000 in
set_option maxHeartbeats 4000000 in
theorem bX12_more_234 {st : Nat → Nat} {p : Program} {l : Launch} {e : Env} {s : State} {m : MethodId} {args : Array Value} {below : List Frame} {meth : Method} {c : Code} {D : va_G} {A : Nat → Prop} {ad : Nat → Nat} {cy : Nat → ClassId} (hC : zC p m c cX12_more 9 s args wzX12_more RX12 meth (some .int))  {res : zSt × Int32} {H : Heap} {locs : List Loc} {σ : zSt} {ls : Array Slot} {s0 : Int32} {s1 : Int32} (hI : zI st D (tM cy) (wM ad cy σ) A s H locs) (hl : lv_has ls 9 []) (hf : fX12_more_234  σ s0 s1 = some res) : W p l e rmX12_more s m args below meth c H locs 0 0 (zQi below args s D (tM cy) (wM ad cy) A res) (F0 m 234 ls [.int s0, .int s1, .ref (ad 0)]) := by
  have hx := hC.1
  have hb := hC.2.1
  unfold fX12_more_234 at hf
  obtain ⟨σ3, g3, hf⟩ := zbu_use hf
  refine z_callVu (As := [.int s1, .int s0]) (rest := []) hC hI (cX12_words_met st l D ad cy σ s1 s0 _ g3) (zgV zw58_10 zw58_11 zw58_12 zw1_5 zw58_13) rfl ⟨rfl, rfl⟩ 2 hdX12_words ⟨Nat.le_of_ble_eq_true rfl, Nat.le_of_ble_eq_true rfl⟩ rfl rfl (wM_e0 ad cy σ) rfl hl rfl (Nat.le_of_ble_eq_true rfl) dX12_more_234 ⟨Nat.zero_le _, Nat.zero_le _⟩ (fun H locs hI => ?_)
  refine lv_bipush (v := 15) hx hb dX12_more_237 (by decide) ?_
  exact z_ireturn hC hI hf dX12_more_239
set_option maxRecDepth 20000 in
set_option maxHeartbeats 4000000 in
theorem bX12_more_195 {st : Nat → Nat} {p : Program} {l : Launch} {e : Env} {s : State} {m : MethodId} {args : Array Value} {below : List Frame} {meth : Method} {c : Code} {D : va_G} {A : Nat → Prop} {ad : Nat → Nat} {cy : Nat → ClassId} (hC : zC p m c cX12_more 9 s args wzX12_more RX12 meth (some .int))  {res : zSt × Int32} {H : Heap} {locs : List Loc} {σ : zSt} {ls : Array Slot} {s0 : Int32} {s1 : Int32} (hI : zI st D (tM cy) (wM ad cy σ) A s H locs) (hl : lv_has ls 9 [(0, .ref (ad 0))]) (hf : fX12_more_195  σ s0 s1 = some res) : W p l e rmX12_more s m args below meth c H locs 0 0 (zQi below args s D (tM cy) (wM ad cy) A res) (F0 m 195 ls [.int s0, .int s1, .ref (ad 0)]) := by
  have hx := hC.1
  have hb := hC.2.1
  unfold fX12_more_195 at hf
  obtain ⟨σ4, g4, hf⟩ := zbu_use hf
  refine z_callVu (As := [.int s1, .int s0]) (rest := []) hC hI (cX12_portTo_met st l D ad cy σ s1 s0 _ g4) (zgV zw55_10 zw55_11 zw55_12 zw1_5 zw55_13) rfl ⟨rfl, rfl⟩ 2 hdX12_portTo ⟨Nat.le_of_ble_eq_true rfl, Nat.le_of_ble_eq_true rfl⟩ rfl rfl (wM_e0 ad cy σ) rfl hl rfl (Nat.le_of_ble_eq_true rfl) dX12_more_195 ⟨Nat.zero_le _, Nat.zero_le _⟩ (fun H locs hI => ?_)
  refine lv_aload_n hx hb dX12_more_198 rfl (lv_at hl 0 rfl) ?_
  refine z_get hC hI hinX12_more_X120 0 (wM_e0 ad cy σ4) rfl 10 (by decide) (List.mem_cons_of_mem _ zw9_7) rfl dX12_more_199 ?_
  refine lv_bipush (v := 20) hx hb dX12_more_202 (by decide) ?_
  refine lv_aload_n hx hb dX12_more_204 rfl (lv_at hl 0 rfl) ?_
  refine lv_iconst (v := 2) hx hb dX12_more_205 (by decide) ?_
  obtain ⟨σ5, v6, g5, hf⟩ := zbi_use hf
  refine z_callVi (As := [.int 2]) (rest := [.int 20, .ref (ad 3)]) hC hI (cX12_pair_met st l D ad cy σ4 2 _ g5) (zgV zw52_5 zw52_6 zw52_7 zw1_5 zw52_8) rfl ⟨rfl, rfl⟩ 1 hdX12_pair ⟨Nat.le_of_ble_eq_true rfl, Nat.le_of_ble_eq_true rfl⟩ rfl rfl (wM_e0 ad cy σ4) rfl hl rfl (Nat.le_of_ble_eq_true rfl) dX12_more_206 ⟨Nat.zero_le _, Nat.zero_le _⟩ (fun H locs hI => ?_)
  refine lv_iconst (v := 1) hx hb dX12_more_209 (by decide) ?_
  refine lv_iadd hx hb dX12_more_210 ?_
  refine lv_ldc (v := 65535) hx hb hC.2.2.2.1 (hC.2.2.2.2.1 _ (List.mem_cons_of_mem _ zw16_11)) dX12_more_211 ?_
  refine lv_iand hx hb dX12_more_213 ?_
  obtain ⟨q, hf⟩ := zck_use hf
  obtain ⟨σ7, eσ7⟩ : ∃ z, z = zsi σ5 3 ((20 : Int32).toNatClampNeg) ((v6 + 1) &&& 65535) := ⟨_, rfl⟩
  replace hf := zbv_use eσ7 hf
  refine z_iast hC hI 3 2 (wM_e3 ad cy σ5) (tM_t3 cy) q ((wM_s3 ad cy σ5 _ _).trans (congrArg (wM ad cy) eσ7.symm)) dX12_more_214 (fun H locs hI => ?_)
  refine lv_bipush (v := 12) hx hb dX12_more_215 (by decide) ?_
  exact z_ireturn hC hI hf dX12_more_217
set_option maxRecDepth 20000 in
set_option maxHeartbeats 4000000 in
theorem bX12_more_133 {st : Nat → Nat} {p : Program} {l : Launch} {e : Env} {s : State} {m : MethodId} {args : Array Value} {below : List Frame} {meth : Method} {c : Code} {D : va_G} {A : Nat → Prop} {ad : Nat → Nat} {cy : Nat → ClassId} (hC : zC p m c cX12_more 9 s args wzX12_more RX12 meth (some .int))  {res : zSt × Int32} {H : Heap} {locs : List Loc} {σ : zSt} {ls : Array Slot} {x5 : Int32} {x6 : Int32} (hI : zI st D (tM cy) (wM ad cy σ) A s H locs) (hl : lv_has ls 9 [(0, .ref (ad 0)), (5, .int x5), (6, .int x6)]) (hf : fX12_more_133  σ x5 x6 = some res) : W p l e rmX12_more s m args below meth c H locs 0 0 (zQi below args s D (tM cy) (wM ad cy) A res) (F0 m 133 ls []) := by
  have hx := hC.1
  have hb := hC.2.1
  unfold fX12_more_133 at hf
  refine lv_aload_n hx hb dX12_more_133 rfl (lv_at hl 0 rfl) ?_
  refine lv_iload hx hb dX12_more_134 (lv_at hl 2 rfl) ?_
  obtain ⟨σ8, g8, hf⟩ := zbu_use hf
  refine z_callVu (As := [.int x6]) (rest := []) hC hI (cX12_by_met st l D ad cy σ x6 _ g8) (zgV zw53_22 zw53_23 zw54_0 zw1_5 zw54_1) rfl ⟨rfl, rfl⟩ 1 hdX12_by ⟨Nat.le_of_ble_eq_true rfl, Nat.le_of_ble_eq_true rfl⟩ rfl rfl (wM_e0 ad cy σ) rfl hl rfl (Nat.le_of_ble_eq_true rfl) dX12_more_136 ⟨Nat.zero_le _, Nat.zero_le _⟩ (fun H locs hI => ?_)
  refine lv_aload_n hx hb dX12_more_139 rfl (lv_at hl 0 rfl) ?_
  refine lv_iconst (v := 2) hx hb dX12_more_140 (by decide) ?_
  refine lv_iload hx hb dX12_more_141 (lv_at hl 2 rfl) ?_
  obtain ⟨σ9, v10, g9, hf⟩ := zbi_use hf
  refine z_callSi (As := [.int x6]) (rest := [.int 2, .ref (ad 0)]) hC hI (cX12_isEven_met st l D ad cy σ8 x6 _ g9) (zgS zw54_10 zw54_11 zw1_5 zw54_12) rfl ⟨rfl, rfl⟩ 1 hdX12_isEven ⟨Nat.le_of_ble_eq_true rfl, Nat.le_of_ble_eq_true rfl⟩ rfl hl rfl (Nat.le_of_ble_eq_true rfl) dX12_more_143 ⟨Nat.zero_le _, Nat.zero_le _⟩ (fun H locs hI => ?_)
  obtain ⟨σ11, g11, hf⟩ := zbu_use hf
  refine z_callVu (As := [.int 2, .int v10]) (rest := []) hC hI (cX12_put_met st l D ad cy σ9 2 v10 _ g11) (zgV zw52_13 zw52_14 zw52_15 zw1_5 zw52_16) rfl ⟨rfl, rfl⟩ 2 hdX12_put ⟨Nat.le_of_ble_eq_true rfl, Nat.le_of_ble_eq_true rfl⟩ rfl rfl (wM_e0 ad cy σ9) rfl hl rfl (Nat.le_of_ble_eq_true rfl) dX12_more_146 ⟨Nat.zero_le _, Nat.zero_le _⟩ (fun H locs hI => ?_)
  refine lv_aload_n hx hb dX12_more_149 rfl (lv_at hl 0 rfl) ?_
  refine lv_iconst (v := 4) hx hb dX12_more_150 (by decide) ?_
  refine lv_iconst (v := 0) hx hb dX12_more_151 (by decide) ?_
  obtain ⟨σ12, g12, hf⟩ := zbu_use hf
  refine z_callVu (As := [.int 4, .int 0]) (rest := []) hC hI (cX12_put_met st l D ad cy σ11 4 0 _ g12) (zgV zw52_13 zw52_14 zw52_15 zw1_5 zw52_16) rfl ⟨rfl, rfl⟩ 2 hdX12_put ⟨Nat.le_of_ble_eq_true rfl, Nat.le_of_ble_eq_true rfl⟩ rfl rfl (wM_e0 ad cy σ11) rfl hl rfl (Nat.le_of_ble_eq_true rfl) dX12_more_152 ⟨Nat.zero_le _, Nat.zero_le _⟩ (fun H locs hI => ?_)
  refine lv_aload_n hx hb dX12_more_155 rfl (lv_at hl 0 rfl) ?_
  refine lv_iconst (v := 1) hx hb dX12_more_156 (by decide) ?_
  refine lv_iconst (v := 0) hx hb dX12_more_157 (by decide) ?_
  obtain ⟨σ13, g13, hf⟩ := zbu_use hf
  refine z_callVu (As := [.int 1, .int 0]) (rest := []) hC hI (cX12_put_met st l D ad cy σ12 1 0 _ g13) (zgV zw52_13 zw52_14 zw52_15 zw1_5 zw52_16) rfl ⟨rfl, rfl⟩ 2 hdX12_put ⟨Nat.le_of_ble_eq_true rfl, Nat.le_of_ble_eq_true rfl⟩ rfl rfl (wM_e0 ad cy σ12) rfl hl rfl (Nat.le_of_ble_eq_true rfl) dX12_more_158 ⟨Nat.zero_le _, Nat.zero_le _⟩ (fun H locs hI => ?_)
  refine lv_aload_n hx hb dX12_more_161 rfl (lv_at hl 0 rfl) ?_
  refine z_get hC hI hinX12_more_X120 0 (wM_e0 ad cy σ13) rfl 10 (by decide) (List.mem_cons_of_mem _ zw9_7) rfl dX12_more_162 ?_
  refine lv_bipush (v := 20) hx hb dX12_more_165 (by decide) ?_
  refine lv_iload hx hb dX12_more_167 (lv_at hl 1 rfl) ?_
  obtain ⟨q, hf⟩ := zck_use hf
  obtain ⟨σ14, eσ14⟩ : ∃ z, z = zsi σ13 3 ((20 : Int32).toNatClampNeg) x5 := ⟨_, rfl⟩
  replace hf := zbv_use eσ14 hf
  refine z_iast hC hI 3 2 (wM_e3 ad cy σ13) (tM_t3 cy) q ((wM_s3 ad cy σ13 _ _).trans (congrArg (wM ad cy) eσ14.symm)) dX12_more_169 (fun H locs hI => ?_)
  refine lv_bipush (v := 12) hx hb dX12_more_170 (by decide) ?_
  exact z_ireturn hC hI hf dX12_more_172
set_option maxRecDepth 20000 in
set_option maxHeartbeats 4000000 in
theorem bX12_more_42 {st : Nat → Nat} {p : Program} {l : Launch} {e : Env} {s : State} {m : MethodId} {args : Array Value} {below : List Frame} {meth : Method} {c : Code} {D : va_G} {A : Nat → Prop} {ad : Nat → Nat} {cy : Nat → ClassId} (hC : zC p m c cX12_more 9 s args wzX12_more RX12 meth (some .int))  {res : zSt × Int32} {H : Heap} {locs : List Loc} {σ : zSt} {ls : Array Slot} {x2 : Int32} {x3 : Int32} {x4 : Int32} (hI : zI st D (tM cy) (wM ad cy σ) A s H locs) (hl : lv_has ls 9 [(0, .ref (ad 0)), (2, .int x2), (3, .int x3), (4, .int x4)]) (hf : fX12_more_42  σ x2 x3 x4 = some res) : W p l e rmX12_more s m args below meth c H locs 0 0 (zQi below args s D (tM cy) (wM ad cy) A res) (F0 m 42 ls []) := by
  have hx := hC.1
  have hb := hC.2.1
  unfold fX12_more_42 at hf
  refine lv_iload_n hx hb dX12_more_42 rfl (lv_at hl 1 rfl) ?_
  refine lv_iconst (v := 1) hx hb dX12_more_43 (by decide) ?_
  refine lv_icmp_eq (tgt := 50) hx hb dX12_more_44 (by decide) (fun q => ?_) (fun q => ?_)
  · replace hf := zif_t q hf
    refine lv_iload hx hb dX12_more_50 (lv_at hl 3 rfl) ?_
    by_cases q0 : x4 = 0
    · replace hf := zif_t q0 hf
      refine lv_tableIn (tgt := 96) hx hb dX12_more_52 (by rw [q0]; decide) (by rw [q0]; decide) (by rw [q0]; rfl) (by decide) ?_
      refine lv_aload_n hx hb dX12_more_96 rfl (lv_at hl 0 rfl) ?_
      refine lv_iconst (v := 2) hx hb dX12_more_97 (by decide) ?_
      obtain ⟨σ15, v16, g15, hf⟩ := zbi_use hf
      refine z_callVi (As := [.int 2]) (rest := []) hC hI (cX12_pair_met st l D ad cy σ 2 _ g15) (zgV zw52_5 zw52_6 zw52_7 zw1_5 zw52_8) rfl ⟨rfl, rfl⟩ 1 hdX12_pair ⟨Nat.le_of_ble_eq_true rfl, Nat.le_of_ble_eq_true rfl⟩ rfl rfl (wM_e0 ad cy σ) rfl hl rfl (Nat.le_of_ble_eq_true rfl) dX12_more_98 ⟨Nat.zero_le _, Nat.zero_le _⟩ (fun H locs hI => ?_)
      refine lv_iconst (v := 1) hx hb dX12_more_101 (by decide) ?_
      refine lv_iadd hx hb dX12_more_102 ?_
      refine lv_ldc (v := 65535) hx hb hC.2.2.2.1 (hC.2.2.2.2.1 _ (List.mem_cons_of_mem _ zw16_11)) dX12_more_103 ?_
      refine lv_iand hx hb dX12_more_105 ?_
      refine lv_topi (fun v17 ev17 => ?_)
      replace hf := zbv_use ev17 hf
      refine lv_istore (lv' := [(5, .int v17), (0, .ref (ad 0)), (2, .int x2), (3, .int x3), (4, .int x4)]) hx hb dX12_more_106 hl (by decide) rfl (fun ls hl => ?_)
      refine lv_aload_n hx hb dX12_more_108 rfl (lv_at hl 1 rfl) ?_
      refine lv_aload_n hx hb dX12_more_109 rfl (lv_at hl 1 rfl) ?_
      refine z_get hC hI hinX12_more_X120 0 (wM_e0 ad cy σ15) rfl 10 (by decide) (List.mem_cons_of_mem _ zw9_7) rfl dX12_more_110 ?_
      refine lv_iconst (v := 3) hx hb dX12_more_113 (by decide) ?_
      obtain ⟨q, hf⟩ := zck_use hf
      refine z_iald hC hI 3 2 (wM_e3 ad cy σ15) (tM_t3 cy) q dX12_more_114 ?_
      obtain ⟨σ18, v19, g18, hf⟩ := zbi_use hf
      refine z_callVi (As := [.int (zgi σ15 3 (3 : Int32).toNatClampNeg)]) (rest := []) hC hI (cX12_port_met st l D ad cy σ15 (zgi σ15 3 (3 : Int32).toNatClampNeg) _ g18) (zgV zw56_18 zw56_19 zw56_20 zw1_5 zw56_21) rfl ⟨rfl, rfl⟩ 1 hdX12_port ⟨Nat.le_of_ble_eq_true rfl, Nat.le_of_ble_eq_true rfl⟩ rfl rfl (wM_e0 ad cy σ15) rfl hl rfl (Nat.le_of_ble_eq_true rfl) dX12_more_115 ⟨Nat.zero_le _, Nat.zero_le _⟩ (fun H locs hI => ?_)
      refine lv_istore (lv' := [(6, .int v19), (5, .int v17), (0, .ref (ad 0)), (2, .int x2), (3, .int x3), (4, .int x4)]) hx hb dX12_more_118 hl (by decide) rfl (fun ls hl => ?_)
      refine lv_iload_n hx hb dX12_more_120 rfl (lv_at hl 4 rfl) ?_
      refine lv_bipush (v := 6) hx hb dX12_more_121 (by decide) ?_
      refine lv_icmp_eq (tgt := 133) hx hb dX12_more_123 (by decide) (fun q => ?_) (fun q => ?_)
      · replace hf := zif_t q hf
        exact bX12_more_133 hC  hI (lv_sub hl [2, 1, 0] rfl) hf
      replace hf := zif_f q hf
      refine lv_aload_n hx hb dX12_more_126 rfl (lv_at hl 2 rfl) ?_
      refine lv_iload_n hx hb dX12_more_127 rfl (lv_at hl 4 rfl) ?_
      refine lv_iload hx hb dX12_more_128 (lv_at hl 0 rfl) ?_
      obtain ⟨σ20, g20, hf⟩ := zbu_use hf
      refine z_callVu (As := [.int x3, .int v19]) (rest := []) hC hI (cX12_rTo_met st l D ad cy σ18 x3 v19 _ g20) (zgV zw53_9 zw53_10 zw53_11 zw1_5 zw53_12) rfl ⟨rfl, rfl⟩ 2 hdX12_rTo ⟨Nat.le_of_ble_eq_true rfl, Nat.le_of_ble_eq_true rfl⟩ rfl rfl (wM_e0 ad cy σ18) rfl hl rfl (Nat.le_of_ble_eq_true rfl) dX12_more_130 ⟨Nat.zero_le _, Nat.zero_le _⟩ (fun H locs hI => ?_)
      exact bX12_more_133 hC  hI (lv_sub hl [2, 1, 0] rfl) hf
    replace hf := zif_f q0 hf
    by_cases q1 : x4 = 1
    · replace hf := zif_t q1 hf
      refine lv_tableIn (tgt := 173) hx hb dX12_more_52 (by rw [q1]; decide) (by rw [q1]; decide) (by rw [q1]; rfl) (by decide) ?_
      refine lv_aload_n hx hb dX12_more_173 rfl (lv_at hl 0 rfl) ?_
      refine lv_aload_n hx hb dX12_more_174 rfl (lv_at hl 0 rfl) ?_
      refine z_get hC hI hinX12_more_X120 0 (wM_e0 ad cy σ) rfl 10 (by decide) (List.mem_cons_of_mem _ zw9_7) rfl dX12_more_175 ?_
      refine lv_iconst (v := 3) hx hb dX12_more_178 (by decide) ?_
      obtain ⟨q, hf⟩ := zck_use hf
      refine z_iald hC hI 3 2 (wM_e3 ad cy σ) (tM_t3 cy) q dX12_more_179 ?_
      refine lv_iload_n hx hb dX12_more_180 rfl (lv_at hl 2 rfl) ?_
      refine lv_bipush (v := 6) hx hb dX12_more_181 (by decide) ?_
      refine lv_icmp_ne (tgt := 190) hx hb dX12_more_183 (by decide) (fun q => ?_) (fun q => ?_)
      · replace hf := zif_f q hf
        refine lv_aload_n hx hb dX12_more_190 rfl (lv_at hl 0 rfl) ?_
        refine lv_iload_n hx hb dX12_more_191 rfl (lv_at hl 2 rfl) ?_
        obtain ⟨σ21, v22, g21, hf⟩ := zbi_use hf
        refine z_callVi (As := [.int x3]) (rest := [.int (zgi σ 3 (3 : Int32).toNatClampNeg), .ref (ad 0)]) hC hI (cX12_r_met st l D ad cy σ x3 _ g21) (zgV zw53_18 zw53_19 zw53_20 zw1_5 zw53_21) rfl ⟨rfl, rfl⟩ 1 hdX12_r ⟨Nat.le_of_ble_eq_true rfl, Nat.le_of_ble_eq_true rfl⟩ rfl rfl (wM_e0 ad cy σ) rfl hl rfl (Nat.le_of_ble_eq_true rfl) dX12_more_192 ⟨Nat.zero_le _, Nat.zero_le _⟩ (fun H locs hI => ?_)
        exact bX12_more_195 hC  hI (lv_sub hl [0] rfl) hf
      replace hf := zif_t q hf
      refine lv_iconst (v := 0) hx hb dX12_more_186 (by decide) ?_
      refine lv_goto (tgt := 195) hx hb dX12_more_187 (by decide) ?_
      exact bX12_more_195 hC  hI (lv_sub hl [0] rfl) hf
    replace hf := zif_f q1 hf
    by_cases q2 : x4 = 2
    · replace hf := zif_t q2 hf
      refine lv_tableIn (tgt := 218) hx hb dX12_more_52 (by rw [q2]; decide) (by rw [q2]; decide) (by rw [q2]; rfl) (by decide) ?_
      refine lv_aload_n hx hb dX12_more_218 rfl (lv_at hl 0 rfl) ?_
      refine lv_iload_n hx hb dX12_more_219 rfl (lv_at hl 2 rfl) ?_
      refine lv_iconst (v := 1) hx hb dX12_more_220 (by decide) ?_
      refine lv_ishr hx hb dX12_more_221 ?_
      refine lv_iload_n hx hb dX12_more_222 rfl (lv_at hl 2 rfl) ?_
      refine lv_iconst (v := 2) hx hb dX12_more_223 (by decide) ?_
      obtain ⟨q, hf⟩ := zck_use hf
      refine z_irem hx hb dX12_more_224 (of_decide_eq_true q) ?_
      refine lv_iconst (v := 1) hx hb dX12_more_225 (by decide) ?_
      refine lv_icmp_ne (tgt := 233) hx hb dX12_more_226 (by decide) (fun q => ?_) (fun q => ?_)
      · replace hf := zif_f q hf
        refine lv_iconst (v := 0) hx hb dX12_more_233 (by decide) ?_
        exact bX12_more_234 hC  hI (lv_sub hl [] rfl) hf
      replace hf := zif_t q hf
      refine lv_iconst (v := 1) hx hb dX12_more_229 (by decide) ?_
      refine lv_goto (tgt := 234) hx hb dX12_more_230 (by decide) ?_
      exact bX12_more_234 hC  hI (lv_sub hl [] rfl) hf
    replace hf := zif_f q2 hf
    by_cases q3 : x4 = 3
    · replace hf := zif_t q3 hf
      refine lv_tableIn (tgt := 240) hx hb dX12_more_52 (by rw [q3]; decide) (by rw [q3]; decide) (by rw [q3]; rfl) (by decide) ?_
      refine lv_aload_n hx hb dX12_more_240 rfl (lv_at hl 0 rfl) ?_
      obtain ⟨σ23, v24, g23, hf⟩ := zbi_use hf
      refine z_callVi (As := []) (rest := []) hC hI (cX12_nextWord_met st l D ad cy σ  _ g23) (zgV zw51_9 zw51_10 zw51_11 zw1_5 zw51_12) rfl ⟨rfl, rfl⟩ 0 hdX12_nextWord ⟨Nat.le_of_ble_eq_true rfl, Nat.le_of_ble_eq_true rfl⟩ rfl rfl (wM_e0 ad cy σ) rfl hl rfl (Nat.le_of_ble_eq_true rfl) dX12_more_241 ⟨Nat.zero_le _, Nat.zero_le _⟩ (fun H locs hI => ?_)
      refine lv_istore (lv' := [(7, .int v24), (0, .ref (ad 0)), (2, .int x2), (3, .int x3), (4, .int x4)]) hx hb dX12_more_244 hl (by decide) rfl (fun ls hl => ?_)
      refine lv_iload_n hx hb dX12_more_246 rfl (lv_at hl 3 rfl) ?_
      refine lv_iconst (v := 2) hx hb dX12_more_247 (by decide) ?_
      obtain ⟨q, hf⟩ := zck_use hf
      refine z_irem hx hb dX12_more_248 (of_decide_eq_true q) ?_
      refine lv_if_ne (tgt := 268) hx hb dX12_more_249 (by decide) (fun q => ?_) (fun q => ?_)
      · replace hf := zif_f q hf
        refine lv_aload_n hx hb dX12_more_268 rfl (lv_at hl 1 rfl) ?_
        refine lv_iload_n hx hb dX12_more_269 rfl (lv_at hl 3 rfl) ?_
        refine lv_iconst (v := 1) hx hb dX12_more_270 (by decide) ?_
        refine lv_ishr hx hb dX12_more_271 ?_
        refine lv_aload_n hx hb dX12_more_272 rfl (lv_at hl 1 rfl) ?_
        refine lv_iload hx hb dX12_more_273 (lv_at hl 0 rfl) ?_
        obtain ⟨σ25, v26, g25, hf⟩ := zbi_use hf
        refine z_callVi (As := [.int v24]) (rest := [.int (x3 >>> ((1 : Int32) &&& 31)), .ref (ad 0)]) hC hI (cX12_word_met st l D ad cy σ23 v24 _ g25) (zgV zw49_4 zw49_5 zw49_6 zw1_5 zw49_7) rfl ⟨rfl, rfl⟩ 1 hdX12_word ⟨Nat.le_of_ble_eq_true rfl, Nat.le_of_ble_eq_true rfl⟩ rfl rfl (wM_e0 ad cy σ23) rfl hl rfl (Nat.le_of_ble_eq_true rfl) dX12_more_275 ⟨Nat.zero_le _, Nat.zero_le _⟩ (fun H locs hI => ?_)
        obtain ⟨σ27, g27, hf⟩ := zbu_use hf
        refine z_callVu (As := [.int (x3 >>> ((1 : Int32) &&& 31)), .int v26]) (rest := []) hC hI (cX12_rpTo_met st l D ad cy σ25 (x3 >>> ((1 : Int32) &&& 31)) v26 _ g27) (zgV zw51_13 zw51_14 zw51_15 zw1_5 zw51_16) rfl ⟨rfl, rfl⟩ 2 hdX12_rpTo ⟨Nat.le_of_ble_eq_true rfl, Nat.le_of_ble_eq_true rfl⟩ rfl rfl (wM_e0 ad cy σ25) rfl hl rfl (Nat.le_of_ble_eq_true rfl) dX12_more_278 ⟨Nat.zero_le _, Nat.zero_le _⟩ (fun H locs hI => ?_)
        exact bX12_more_281 hC  hI (lv_sub hl [1, 0] rfl) hf
      replace hf := zif_t q hf
      refine lv_aload_n hx hb dX12_more_252 rfl (lv_at hl 1 rfl) ?_
      refine lv_iload hx hb dX12_more_253 (lv_at hl 0 rfl) ?_
      refine lv_aload_n hx hb dX12_more_255 rfl (lv_at hl 1 rfl) ?_
      refine lv_iload_n hx hb dX12_more_256 rfl (lv_at hl 3 rfl) ?_
      refine lv_iconst (v := 1) hx hb dX12_more_257 (by decide) ?_
      refine lv_ishr hx hb dX12_more_258 ?_
      obtain ⟨σ28, v29, g28, hf⟩ := zbi_use hf
      refine z_callVi (As := [.int (x3 >>> ((1 : Int32) &&& 31))]) (rest := [.int v24, .ref (ad 0)]) hC hI (cX12_rp_met st l D ad cy σ23 (x3 >>> ((1 : Int32) &&& 31)) _ g28) (zgV zw52_9 zw52_10 zw52_11 zw1_5 zw52_12) rfl ⟨rfl, rfl⟩ 1 hdX12_rp ⟨Nat.le_of_ble_eq_true rfl, Nat.le_of_ble_eq_true rfl⟩ rfl rfl (wM_e0 ad cy σ23) rfl hl rfl (Nat.le_of_ble_eq_true rfl) dX12_more_259 ⟨Nat.zero_le _, Nat.zero_le _⟩ (fun H locs hI => ?_)
      obtain ⟨σ30, g30, hf⟩ := zbu_use hf
      refine z_callVu (As := [.int v24, .int v29]) (rest := []) hC hI (cX12_wordTo_met st l D ad cy σ28 v24 v29 _ g30) (zgV zw53_1 zw53_2 zw53_3 zw1_5 zw53_4) rfl ⟨rfl, rfl⟩ 2 hdX12_wordTo ⟨Nat.le_of_ble_eq_true rfl, Nat.le_of_ble_eq_true rfl⟩ rfl rfl (wM_e0 ad cy σ28) rfl hl rfl (Nat.le_of_ble_eq_true rfl) dX12_more_262 ⟨Nat.zero_le _, Nat.zero_le _⟩ (fun H locs hI => ?_)
      refine lv_goto (tgt := 281) hx hb dX12_more_265 (by decide) ?_
      exact bX12_more_281 hC  hI (lv_sub hl [1, 0] rfl) hf
    replace hf := zif_f q3 hf
    by_cases q4 : x4 = 4
    · replace hf := zif_t q4 hf
      refine lv_tableIn (tgt := 298) hx hb dX12_more_52 (by rw [q4]; decide) (by rw [q4]; decide) (by rw [q4]; rfl) (by decide) ?_
      refine lv_aload_n hx hb dX12_more_298 rfl (lv_at hl 0 rfl) ?_
      refine z_get hC hI hinX12_more_X120 0 (wM_e0 ad cy σ) rfl 10 (by decide) (List.mem_cons_of_mem _ zw9_7) rfl dX12_more_299 ?_
      refine lv_iconst (v := 0) hx hb dX12_more_302 (by decide) ?_
      obtain ⟨q, hf⟩ := zck_use hf
      refine z_iald hC hI 3 2 (wM_e3 ad cy σ) (tM_t3 cy) q dX12_more_303 ?_
      refine lv_topi (fun v31 ev31 => ?_)
      replace hf := zbv_use ev31 hf
      refine lv_istore (lv' := [(8, .int v31), (0, .ref (ad 0)), (2, .int x2), (3, .int x3), (4, .int x4)]) hx hb dX12_more_304 hl (by decide) rfl (fun ls hl => ?_)
      refine lv_aload_n hx hb dX12_more_306 rfl (lv_at hl 1 rfl) ?_
      refine z_get hC hI hinX12_more_X120 0 (wM_e0 ad cy σ) rfl 10 (by decide) (List.mem_cons_of_mem _ zw9_7) rfl dX12_more_307 ?_
      refine lv_iconst (v := 0) hx hb dX12_more_310 (by decide) ?_
      refine lv_iconst (v := 0) hx hb dX12_more_311 (by decide) ?_
      obtain ⟨q, hf⟩ := zck_use hf
      obtain ⟨σ32, eσ32⟩ : ∃ z, z = zsi σ 3 ((0 : Int32).toNatClampNeg) 0 := ⟨_, rfl⟩
      replace hf := zbv_use eσ32 hf
      refine z_iast hC hI 3 2 (wM_e3 ad cy σ) (tM_t3 cy) q ((wM_s3 ad cy σ _ _).trans (congrArg (wM ad cy) eσ32.symm)) dX12_more_312 (fun H locs hI => ?_)
      refine lv_aload_n hx hb dX12_more_313 rfl (lv_at hl 1 rfl) ?_
      refine lv_iconst (v := 2) hx hb dX12_more_314 (by decide) ?_
      refine lv_iload hx hb dX12_more_315 (lv_at hl 0 rfl) ?_
      obtain ⟨σ33, g33, hf⟩ := zbu_use hf
      refine z_callVu (As := [.int 2, .int v31]) (rest := []) hC hI (cX12_does_met st l D ad cy σ32 2 v31 _ g33) (zgV zw54_13 zw54_14 zw54_15 zw1_5 zw54_16) rfl ⟨rfl, rfl⟩ 2 hdX12_does ⟨Nat.le_of_ble_eq_true rfl, Nat.le_of_ble_eq_true rfl⟩ rfl rfl (wM_e0 ad cy σ32) rfl hl rfl (Nat.le_of_ble_eq_true rfl) dX12_more_317 ⟨Nat.zero_le _, Nat.zero_le _⟩ (fun H locs hI => ?_)
      refine lv_bipush (v := 8) hx hb dX12_more_320 (by decide) ?_
      exact z_ireturn hC hI hf dX12_more_322
    replace hf := zif_f q4 hf
    by_cases q5 : x4 = 5
    · replace hf := zif_t q5 hf
      refine lv_tableIn (tgt := 323) hx hb dX12_more_52 (by rw [q5]; decide) (by rw [q5]; decide) (by rw [q5]; rfl) (by decide) ?_
      refine lv_aload_n hx hb dX12_more_323 rfl (lv_at hl 0 rfl) ?_
      refine z_get hC hI hinX12_more_X120 0 (wM_e0 ad cy σ) rfl 10 (by decide) (List.mem_cons_of_mem _ zw9_7) rfl dX12_more_324 ?_
      refine lv_bipush (v := 19) hx hb dX12_more_327 (by decide) ?_
      refine lv_aload_n hx hb dX12_more_329 rfl (lv_at hl 0 rfl) ?_
      obtain ⟨σ34, v35, g34, hf⟩ := zbi_use hf
      refine z_callVi (As := []) (rest := [.int 19, .ref (ad 3)]) hC hI (cX12_pop_met st l D ad cy σ  _ g34) (zgV zw54_21 zw54_22 zw54_23 zw1_5 zw55_0) rfl ⟨rfl, rfl⟩ 0 hdX12_pop ⟨Nat.le_of_ble_eq_true rfl, Nat.le_of_ble_eq_true rfl⟩ rfl rfl (wM_e0 ad cy σ) rfl hl rfl (Nat.le_of_ble_eq_true rfl) dX12_more_330 ⟨Nat.zero_le _, Nat.zero_le _⟩ (fun H locs hI => ?_)
      obtain ⟨q, hf⟩ := zck_use hf
      obtain ⟨σ36, eσ36⟩ : ∃ z, z = zsi σ34 3 ((19 : Int32).toNatClampNeg) v35 := ⟨_, rfl⟩
      replace hf := zbv_use eσ36 hf
      refine z_iast hC hI 3 2 (wM_e3 ad cy σ34) (tM_t3 cy) q ((wM_s3 ad cy σ34 _ _).trans (congrArg (wM ad cy) eσ36.symm)) dX12_more_333 (fun H locs hI => ?_)
      refine lv_aload_n hx hb dX12_more_334 rfl (lv_at hl 0 rfl) ?_
      refine z_get hC hI hinX12_more_X120 0 (wM_e0 ad cy σ36) rfl 10 (by decide) (List.mem_cons_of_mem _ zw9_7) rfl dX12_more_335 ?_
      refine lv_bipush (v := 20) hx hb dX12_more_338 (by decide) ?_
      refine lv_aload_n hx hb dX12_more_340 rfl (lv_at hl 0 rfl) ?_
      refine z_get hC hI hinX12_more_X120 0 (wM_e0 ad cy σ36) rfl 10 (by decide) (List.mem_cons_of_mem _ zw9_7) rfl dX12_more_341 ?_
      refine lv_bipush (v := 19) hx hb dX12_more_344 (by decide) ?_
      obtain ⟨q, hf⟩ := zck_use hf
      refine z_iald hC hI 3 2 (wM_e3 ad cy σ36) (tM_t3 cy) q dX12_more_346 ?_
      obtain ⟨q, hf⟩ := zck_use hf
      obtain ⟨σ37, eσ37⟩ : ∃ z, z = zsi σ36 3 ((20 : Int32).toNatClampNeg) (zgi σ36 3 (19 : Int32).toNatClampNeg) := ⟨_, rfl⟩
      replace hf := zbv_use eσ37 hf
      refine z_iast hC hI 3 2 (wM_e3 ad cy σ36) (tM_t3 cy) q ((wM_s3 ad cy σ36 _ _).trans (congrArg (wM ad cy) eσ37.symm)) dX12_more_347 (fun H locs hI => ?_)
      refine lv_aload_n hx hb dX12_more_348 rfl (lv_at hl 0 rfl) ?_
      refine z_get hC hI hinX12_more_X120 0 (wM_e0 ad cy σ37) rfl 10 (by decide) (List.mem_cons_of_mem _ zw9_7) rfl dX12_more_349 ?_
      refine lv_bipush (v := 23) hx hb dX12_more_352 (by decide) ?_
      refine lv_aload_n hx hb dX12_more_354 rfl (lv_at hl 0 rfl) ?_
      refine z_get hC hI hinX12_more_X120 0 (wM_e0 ad cy σ37) rfl 10 (by decide) (List.mem_cons_of_mem _ zw9_7) rfl dX12_more_355 ?_
      refine lv_bipush (v := 24) hx hb dX12_more_358 (by decide) ?_
      obtain ⟨q, hf⟩ := zck_use hf
      refine z_iald hC hI 3 2 (wM_e3 ad cy σ37) (tM_t3 cy) q dX12_more_360 ?_
      obtain ⟨q, hf⟩ := zck_use hf
      obtain ⟨σ38, eσ38⟩ : ∃ z, z = zsi σ37 3 ((23 : Int32).toNatClampNeg) (zgi σ37 3 (24 : Int32).toNatClampNeg) := ⟨_, rfl⟩
      replace hf := zbv_use eσ38 hf
      refine z_iast hC hI 3 2 (wM_e3 ad cy σ37) (tM_t3 cy) q ((wM_s3 ad cy σ37 _ _).trans (congrArg (wM ad cy) eσ38.symm)) dX12_more_361 (fun H locs hI => ?_)
      refine lv_bipush (v := 14) hx hb dX12_more_362 (by decide) ?_
      exact z_ireturn hC hI hf dX12_more_364
    replace hf := zif_f q5 hf
    by_cases q6 : x4 = 6
    · replace hf := zif_t q6 hf
      refine lv_tableIn (tgt := 365) hx hb dX12_more_52 (by rw [q6]; decide) (by rw [q6]; decide) (by rw [q6]; rfl) (by decide) ?_
      refine lv_aload_n hx hb dX12_more_365 rfl (lv_at hl 0 rfl) ?_
      refine z_get hC hI hinX12_more_X120 0 (wM_e0 ad cy σ) rfl 10 (by decide) (List.mem_cons_of_mem _ zw9_7) rfl dX12_more_366 ?_
      refine lv_bipush (v := 25) hx hb dX12_more_369 (by decide) ?_
      refine lv_iload_n hx hb dX12_more_371 rfl (lv_at hl 2 rfl) ?_
      refine lv_iconst (v := 4) hx hb dX12_more_372 (by decide) ?_
      obtain ⟨q, hf⟩ := zck_use hf
      refine z_irem hx hb dX12_more_373 (of_decide_eq_true q) ?_
      refine lv_iconst (v := 2) hx hb dX12_more_374 (by decide) ?_
      refine lv_icmp_ge (tgt := 382) hx hb dX12_more_375 (by decide) (fun q => ?_) (fun q => ?_)
      · replace hf := zif_t q hf
        refine lv_iload_n hx hb dX12_more_382 rfl (lv_at hl 2 rfl) ?_
        refine lv_iconst (v := 4) hx hb dX12_more_383 (by decide) ?_
        obtain ⟨q, hf⟩ := zck_use hf
        refine z_irem hx hb dX12_more_384 (of_decide_eq_true q) ?_
        refine lv_iconst (v := 1) hx hb dX12_more_385 (by decide) ?_
        refine lv_isub hx hb dX12_more_386 ?_
        exact bX12_more_387 hC  hI (lv_sub hl [] rfl) hf
      replace hf := zif_f q hf
      refine lv_iconst (v := 0) hx hb dX12_more_378 (by decide) ?_
      refine lv_goto (tgt := 387) hx hb dX12_more_379 (by decide) ?_
      exact bX12_more_387 hC  hI (lv_sub hl [] rfl) hf
    replace hf := zif_f q6 hf
    refine lv_tableOut (tgt := 391) hx hb dX12_more_52 (zsw (fun k h1 h2 => by rcases (show k = 0 ∨ k = 1 ∨ k = 2 ∨ k = 3 ∨ k = 4 ∨ k = 5 ∨ k = 6 by omega) with rfl | rfl | rfl | rfl | rfl | rfl | rfl <;> assumption)) (by decide) ?_
    refine lv_aload_n hx hb dX12_more_391 rfl (lv_at hl 0 rfl) ?_
    refine lv_iload_n hx hb dX12_more_392 rfl (lv_at hl 2 rfl) ?_
    obtain ⟨σ39, v40, g39, hf⟩ := zbi_use hf
    refine z_callVi (As := [.int x3]) (rest := []) hC hI (cX12_specials_met st l D ad cy σ x3 _ g39) (zgV zw58_14 zw58_15 zw58_16 zw1_5 zw58_17) rfl ⟨rfl, rfl⟩ 1 hdX12_specials ⟨Nat.le_of_ble_eq_true rfl, Nat.le_of_ble_eq_true rfl⟩ rfl rfl (wM_e0 ad cy σ) rfl hl rfl (Nat.le_of_ble_eq_true rfl) dX12_more_393 ⟨Nat.zero_le _, Nat.zero_le _⟩ (fun H locs hI => ?_)
    exact z_ireturn hC hI hf dX12_more_396
  replace hf := zif_f q hf
  refine lv_bipush (v := 8) hx hb dX12_more_47 (by decide) ?_
  exact z_ireturn hC hI hf dX12_more_49
set_option maxRecDepth 20000 in
set_option maxHeartbeats 4000000 in
theorem bX12_more {st : Nat → Nat} {p : Program} {l : Launch} {e : Env} {s : State} {m : MethodId} {args : Array Value} {below : List Frame} {meth : Method} {c : Code} {D : va_G} {A : Nat → Prop} {ad : Nat → Nat} {cy : Nat → ClassId} (hC : zC p m c cX12_more 9 s args wzX12_more RX12 meth (some .int))  {res : zSt × Int32} {H : Heap} {locs : List Loc} {σ : zSt} {ls : Array Slot} {x1 : Int32} (hI : zI st D (tM cy) (wM ad cy σ) A s H locs) (hl : lv_has ls 9 [(0, .ref (ad 0)), (1, .int x1)]) (hf : fX12_more  σ x1 = some res) : W p l e rmX12_more s m args below meth c H locs 0 0 (zQi below args s D (tM cy) (wM ad cy) A res) (F0 m 0 ls []) := by
  have hx := hC.1
  have hb := hC.2.1
  unfold fX12_more at hf
  refine lv_iload_n hx hb dX12_more_0 rfl (lv_at hl 1 rfl) ?_
  refine lv_bipush (v := 6) hx hb dX12_more_1 (by decide) ?_
  refine lv_ishr hx hb dX12_more_3 ?_
  refine lv_topi (fun v41 ev41 => ?_)
  replace hf := zbv_use ev41 hf
  refine lv_istore_n (lv' := [(2, .int v41), (0, .ref (ad 0)), (1, .int x1)]) hx hb dX12_more_4 rfl hl (by decide) rfl (fun ls hl => ?_)
  refine lv_iload_n hx hb dX12_more_5 rfl (lv_at hl 2 rfl) ?_
  refine lv_iconst (v := 3) hx hb dX12_more_6 (by decide) ?_
  refine lv_ishr hx hb dX12_more_7 ?_
  refine lv_bipush (v := 7) hx hb dX12_more_8 (by decide) ?_
  refine lv_iand hx hb dX12_more_10 ?_
  refine lv_topi (fun v42 ev42 => ?_)
  replace hf := zbv_use ev42 hf
  refine lv_istore_n (lv' := [(3, .int v42), (2, .int v41), (0, .ref (ad 0)), (1, .int x1)]) hx hb dX12_more_11 rfl hl (by decide) rfl (fun ls hl => ?_)
  refine lv_iload_n hx hb dX12_more_12 rfl (lv_at hl 3 rfl) ?_
  refine lv_bipush (v := 7) hx hb dX12_more_13 (by decide) ?_
  refine lv_iand hx hb dX12_more_15 ?_
  refine lv_topi (fun v43 ev43 => ?_)
  replace hf := zbv_use ev43 hf
  refine lv_istore (lv' := [(4, .int v43), (3, .int v42), (2, .int v41), (0, .ref (ad 0)), (1, .int x1)]) hx hb dX12_more_16 hl (by decide) rfl (fun ls hl => ?_)
  refine lv_iload_n hx hb dX12_more_18 rfl (lv_at hl 2 rfl) ?_
  refine lv_iconst (v := 2) hx hb dX12_more_19 (by decide) ?_
  refine lv_icmp_ne (tgt := 42) hx hb dX12_more_20 (by decide) (fun q => ?_) (fun q => ?_)
  · replace hf := zif_f q hf
    exact bX12_more_42 hC  hI (lv_sub hl [3, 2, 1, 0] rfl) hf
  replace hf := zif_t q hf
  refine lv_iload_n hx hb dX12_more_23 rfl (lv_at hl 1 rfl) ?_
  refine lv_iconst (v := 3) hx hb dX12_more_24 (by decide) ?_
  refine lv_icmp_le (tgt := 42) hx hb dX12_more_25 (by decide) (fun q => ?_) (fun q => ?_)
  · replace hf := zif_t q hf
    exact bX12_more_42 hC  hI (lv_sub hl [3, 2, 1, 0] rfl) hf
  replace hf := zif_f q hf
  refine lv_iload hx hb dX12_more_28 (lv_at hl 0 rfl) ?_
  refine lv_iconst (v := 4) hx hb dX12_more_30 (by decide) ?_
  refine lv_icmp_ge (tgt := 42) hx hb dX12_more_31 (by decide) (fun q => ?_) (fun q => ?_)
  · replace hf := zif_t q hf
    exact bX12_more_42 hC  hI (lv_sub hl [3, 2, 1, 0] rfl) hf
  replace hf := zif_f q hf
  refine lv_aload_n hx hb dX12_more_34 rfl (lv_at hl 3 rfl) ?_
  refine lv_iload_n hx hb dX12_more_35 rfl (lv_at hl 1 rfl) ?_
  refine lv_iload hx hb dX12_more_36 (lv_at hl 0 rfl) ?_
  obtain ⟨σ44, v45, g44, hf⟩ := zbi_use hf
  refine z_callVi (As := [.int v42, .int v43]) (rest := []) hC hI (cX12_blocks_met st l D ad cy σ v42 v43 _ g44) (zgV zw58_6 zw58_7 zw58_8 zw1_5 zw58_9) rfl ⟨rfl, rfl⟩ 2 hdX12_blocks ⟨Nat.le_of_ble_eq_true rfl, Nat.le_of_ble_eq_true rfl⟩ rfl rfl (wM_e0 ad cy σ) rfl hl rfl (Nat.le_of_ble_eq_true rfl) dX12_more_38 ⟨Nat.zero_le _, Nat.zero_le _⟩ (fun H locs hI => ?_)
  exact z_ireturn hC hI hf dX12_more_41
set_option maxRecDepth 20000 in
theorem cX12_more_met (st : Nat → Nat) (l : Launch) (D : va_G) (ad : Nat → Nat) (cy : Nat → ClassId) (σ : zSt) (x1 : Int32) (res : zSt × Int32) (hf : fX12_more σ x1 = some res) (sz : Nat) : zMi st l yX12_more wzX12_more rmX12_more [.ref (ad 0), .int x1] D (tM cy) (wM ad cy) sz σ res :=
  zMi.of (cc := cX12_more) (maxL := 9) (ret := (some .int)) (by decide) rfl (Nat.le_of_ble_eq_true rfl) (fun p e s m args below meth c hC A hI ls hl => bX12_more hC hI hl hf)
theorem hdX12_more : yX12_more.cls = RX12 ∧ yX12_more.cls ≠ "java/lang/invoke/MethodHandle" ∧ yX12_more.cls ≠ "java/lang/invoke/VarHandle" ∧ (parseMethodDescriptor yX12_more.desc).map (fun d => d.parameters.length) = some 1 := by decide +kernel
def rmX12_prefixed_r1 : Room := { frames := 4, cells := 0, slots := 0, locals := 94 }
def wzX12_prefixed : List Cond := .code yX12_prefixed cX12_prefixed 8 (some .int) :: wsL_law
theorem hinX12_prefixed_r1_X120 : ∀ w ∈ wsX120, w ∈ wzX12_prefixed := fun w h => List.mem_cons_of_mem _ (inlX12 w h)
def fX12_prefixed_r1_33  (σ : zSt)  : Option (zSt × Int32) :=
  zck (zin 27 1048) (zbv (zsi σ 3 ((27 : Int32).toNatClampNeg) 1) (fun σ1 =>
  some (σ1, 4)))
def fX12_prefixed_r1_154  (σ : zSt) (s0 : Int32) : Option (zSt × Int32) :=
  some (σ, s0)
def fX12_prefixed_r1_135  (σ : zSt) (x4 : Int32) (x5 : Int32) : Option (zSt × Int32) :=
  if (x4 >>> ((6 : Int32) &&& 31)) = 1 then fX12_prefixed_r1_154 σ 20 else
  fX12_prefixed_r1_154 σ (x5 + 8)
def fX12_prefixed_r1_244  (σ : zSt) (x1 : Int32) (x3 : Int32) (s0 : Int32) : Option (zSt × Int32) :=
  if s0 = 0 then zbv (zsi σ 0 31 x1) (fun σ8 =>
  none) else
  zck (zin x1 1048) (
  zbi (fX12_next σ ) (fun σ2 v3 =>
  zbi (fX12_signed σ2 v3) (fun σ4 v5 =>
  zck (zin 20 1048) (zbv (zsi σ4 3 ((20 : Int32).toNatClampNeg) (((zgi σ 3 x1.toNatClampNeg) + v5) &&& 65535)) (fun σ6 =>
  zck (zbo 1) (zbv (zsi σ6 0 32 1) (fun σ7 =>
  none)))))))
def fX12_prefixed_r1_243  (σ : zSt) (x1 : Int32) (x3 : Int32) : Option (zSt × Int32) :=
  fX12_prefixed_r1_244 σ x1 x3 0
def fX12_prefixed_r1_239  (σ : zSt) (x1 : Int32) (x3 : Int32) : Option (zSt × Int32) :=
  fX12_prefixed_r1_244 σ x1 x3 1
def fX12_prefixed_r1_226  (σ : zSt) (x1 : Int32) (x3 : Int32) (x5 : Int32) (x6 : Int32) : Option (zSt × Int32) :=
  if x6 = 2 then if x5 = 6 then fX12_prefixed_r1_239 σ x1 x3 else
  fX12_prefixed_r1_243 σ x1 x3 else
  fX12_prefixed_r1_243 σ x1 x3
def fX12_prefixed_r1_220  (σ : zSt) (x1 : Int32) (x3 : Int32) (x5 : Int32) (x6 : Int32) : Option (zSt × Int32) :=
  if x3 = 118 then fX12_prefixed_r1_226 σ x1 x3 x5 x6 else
  fX12_prefixed_r1_239 σ x1 x3
def fX12_prefixed_r1_200  (σ : zSt) (x1 : Int32) (x3 : Int32) (x4 : Int32) (x5 : Int32) (x6 : Int32) : Option (zSt × Int32) :=
  if x6 = 1 then if x4 = 6 then fX12_prefixed_r1_220 σ x1 x3 x5 x6 else
  if x5 = 6 then fX12_prefixed_r1_220 σ x1 x3 x5 x6 else
  fX12_prefixed_r1_226 σ x1 x3 x5 x6 else
  fX12_prefixed_r1_226 σ x1 x3 x5 x6
def fX12_prefixed_r1  (σ : zSt) (x1 : Int32) : Option (zSt × Int32) :=
  zck (zin 19 1048) (
  zbi (fX12_read σ (zgi σ 3 (19 : Int32).toNatClampNeg)) (fun σ9 v10 =>
  if v10 = 221 then fX12_prefixed_r1_33 σ9 else
  if v10 = 237 then fX12_prefixed_r1_33 σ9 else
  if v10 = 253 then fX12_prefixed_r1_33 σ9 else
  zbi (fX12_fetch σ9 ) (fun σ11 v12 =>
  if v12 = 203 then zck (zin x1 1048) (
  zbi (fX12_next σ11 ) (fun σ16 v17 =>
  zbi (fX12_signed σ16 v17) (fun σ18 v19 =>
  zck (zin 20 1048) (zbv (zsi σ18 3 ((20 : Int32).toNatClampNeg) (((zgi σ11 3 x1.toNatClampNeg) + v19) &&& 65535)) (fun σ20 =>
  zck (zbo 1) (zbv (zsi σ20 0 32 1) (fun σ21 =>
  zbi (fX12_next σ21 ) (fun σ22 v23 =>
  zbi (fX12_turn σ22 v23) (fun σ24 v25 =>
  if (v23 >>> ((6 : Int32) &&& 31)) = 1 then fX12_prefixed_r1_135 σ24 v23 v25 else
  if (v23 &&& 7) = 6 then fX12_prefixed_r1_135 σ24 v23 v25 else
  zck (zbo 0) (zbv (zsi σ24 0 32 0) (fun σ26 =>
  zbu (fX12_rTo σ26 (v23 &&& 7) (zgi σ26 0 33)) (fun σ27 =>
  fX12_prefixed_r1_135 σ27 v23 v25)))))))))))) else
  zbv ((v12 >>> ((3 : Int32) &&& 31)) &&& 7) (fun v13 =>
  zbv (v12 &&& 7) (fun v14 =>
  zbv (v12 >>> ((6 : Int32) &&& 31)) (fun v15 =>
  if v15 = 0 then if v14 ≤ 3 then fX12_prefixed_r1_200 σ11 x1 v12 v13 v14 v15 else
  if 7 ≤ v14 then fX12_prefixed_r1_200 σ11 x1 v12 v13 v14 v15 else
  if v13 = 6 then fX12_prefixed_r1_239 σ11 x1 v12 else
  fX12_prefixed_r1_200 σ11 x1 v12 v13 v14 v15 else
  fX12_prefixed_r1_200 σ11 x1 v12 v13 v14 v15))))))
set_option maxRecDepth 20000 in
set_option maxHeartbeats 4000000 in
theorem bX12_prefixed_r1_33 {st : Nat → Nat} {p : Program} {l : Launch} {e : Env} {s : State} {m : MethodId} {args : Array Value} {below : List Frame} {meth : Method} {c : Code} {D : va_G} {A : Nat → Prop} {ad : Nat → Nat} {cy : Nat → ClassId} (hC : zC p m c cX12_prefixed 8 s args wzX12_prefixed RX12 meth (some .int))  {res : zSt × Int32} {H : Heap} {locs : List Loc} {σ : zSt} {ls : Array Slot}  (hI : zI st D (tM cy) (wM ad cy σ) A s H locs) (hl : lv_has ls 8 [(0, .ref (ad 0))]) (hf : fX12_prefixed_r1_33  σ  = some res) : W p l e rmX12_prefixed_r1 s m args below meth c H locs 0 0 (zQi below args s D (tM cy) (wM ad cy) A res) (F0 m 33 ls []) := by
  have hx := hC.1
  have hb := hC.2.1
  unfold fX12_prefixed_r1_33 at hf
  refine lv_aload_n hx hb dX12_prefixed_33 rfl (lv_at hl 0 rfl) ?_
  refine z_get hC hI hinX12_prefixed_r1_X120 0 (wM_e0 ad cy σ) rfl 10 (by decide) (List.mem_cons_of_mem _ zw9_7) rfl dX12_prefixed_34 ?_
  refine lv_bipush (v := 27) hx hb dX12_prefixed_37 (by decide) ?_
  refine lv_iconst (v := 1) hx hb dX12_prefixed_39 (by decide) ?_
  obtain ⟨q, hf⟩ := zck_use hf
  obtain ⟨σ1, eσ1⟩ : ∃ z, z = zsi σ 3 ((27 : Int32).toNatClampNeg) 1 := ⟨_, rfl⟩
  replace hf := zbv_use eσ1 hf
  refine z_iast hC hI 3 2 (wM_e3 ad cy σ) (tM_t3 cy) q ((wM_s3 ad cy σ _ _).trans (congrArg (wM ad cy) eσ1.symm)) dX12_prefixed_40 (fun H locs hI => ?_)
  refine lv_iconst (v := 4) hx hb dX12_prefixed_41 (by decide) ?_
  exact z_ireturn hC hI hf dX12_prefixed_42
set_option maxRecDepth 20000 in
set_option maxHeartbeats 4000000 in
theorem bX12_prefixed_r1_154 {st : Nat → Nat} {p : Program} {l : Launch} {e : Env} {s : State} {m : MethodId} {args : Array Value} {below : List Frame} {meth : Method} {c : Code} {D : va_G} {A : Nat → Prop} {ad : Nat → Nat} {cy : Nat → ClassId} (hC : zC p m c cX12_prefixed 8 s args wzX12_prefixed RX12 meth (some .int))  {res : zSt × Int32} {H : Heap} {locs : List Loc} {σ : zSt} {ls : Array Slot} {s0 : Int32} (hI : zI st D (tM cy) (wM ad cy σ) A s H locs) (hl : lv_has ls 8 []) (hf : fX12_prefixed_r1_154  σ s0 = some res) : W p l e rmX12_prefixed_r1 s m args below meth c H locs 0 0 (zQi below args s D (tM cy) (wM ad cy) A res) (F0 m 154 ls [.int s0]) := by
  have hx := hC.1
  have hb := hC.2.1
  unfold fX12_prefixed_r1_154 at hf
  exact z_ireturn hC hI hf dX12_prefixed_154
set_option maxRecDepth 20000 in
set_option maxHeartbeats 4000000 in
theorem bX12_prefixed_r1_135 {st : Nat → Nat} {p : Program} {l : Launch} {e : Env} {s : State} {m : MethodId} {args : Array Value} {below : List Frame} {meth : Method} {c : Code} {D : va_G} {A : Nat → Prop} {ad : Nat → Nat} {cy : Nat → ClassId} (hC : zC p m c cX12_prefixed 8 s args wzX12_prefixed RX12 meth (some .int))  {res : zSt × Int32} {H : Heap} {locs : List Loc} {σ : zSt} {ls : Array Slot} {x4 : Int32} {x5 : Int32} (hI : zI st D (tM cy) (wM ad cy σ) A s H locs) (hl : lv_has ls 8 [(4, .int x4), (5, .int x5)]) (hf : fX12_prefixed_r1_135  σ x4 x5 = some res) : W p l e rmX12_prefixed_r1 s m args below meth c H locs 0 0 (zQi below args s D (tM cy) (wM ad cy) A res) (F0 m 135 ls []) := by
  have hx := hC.1
  have hb := hC.2.1
  unfold fX12_prefixed_r1_135 at hf
  refine lv_iload hx hb dX12_prefixed_135 (lv_at hl 0 rfl) ?_
  refine lv_bipush (v := 6) hx hb dX12_prefixed_137 (by decide) ?_
  refine lv_ishr hx hb dX12_prefixed_139 ?_
  refine lv_iconst (v := 1) hx hb dX12_prefixed_140 (by decide) ?_
  refine lv_icmp_ne (tgt := 149) hx hb dX12_prefixed_141 (by decide) (fun q => ?_) (fun q => ?_)
  · replace hf := zif_f q hf
    refine lv_iload hx hb dX12_prefixed_149 (lv_at hl 1 rfl) ?_
    refine lv_bipush (v := 8) hx hb dX12_prefixed_151 (by decide) ?_
    refine lv_iadd hx hb dX12_prefixed_153 ?_
    exact bX12_prefixed_r1_154 hC  hI (lv_sub hl [] rfl) hf
  replace hf := zif_t q hf
  refine lv_bipush (v := 20) hx hb dX12_prefixed_144 (by decide) ?_
  refine lv_goto (tgt := 154) hx hb dX12_prefixed_146 (by decide) ?_
  exact bX12_prefixed_r1_154 hC  hI (lv_sub hl [] rfl) hf
set_option maxRecDepth 20000 in
set_option maxHeartbeats 4000000 in
theorem bX12_prefixed_r1_244 {st : Nat → Nat} {p : Program} {l : Launch} {e : Env} {s : State} {m : MethodId} {args : Array Value} {below : List Frame} {meth : Method} {c : Code} {D : va_G} {A : Nat → Prop} {ad : Nat → Nat} {cy : Nat → ClassId} (hC : zC p m c cX12_prefixed 8 s args wzX12_prefixed RX12 meth (some .int))  {res : zSt × Int32} {H : Heap} {locs : List Loc} {σ : zSt} {ls : Array Slot} {x1 : Int32} {x3 : Int32} {s0 : Int32} (hI : zI st D (tM cy) (wM ad cy σ) A s H locs) (hl : lv_has ls 8 [(0, .ref (ad 0)), (1, .int x1), (3, .int x3)]) (hf : fX12_prefixed_r1_244  σ x1 x3 s0 = some res) : W p l e rmX12_prefixed_r1 s m args below meth c H locs 0 0 (zQi below args s D (tM cy) (wM ad cy) A res) (F0 m 244 ls [.int s0]) := by
  have hx := hC.1
  have hb := hC.2.1
  unfold fX12_prefixed_r1_244 at hf
  refine lv_istore (lv' := [(7, .int s0), (0, .ref (ad 0)), (1, .int x1), (3, .int x3)]) hx hb dX12_prefixed_244 hl (by decide) rfl (fun ls hl => ?_)
  refine lv_iload hx hb dX12_prefixed_246 (lv_at hl 0 rfl) ?_
  refine lv_if_ne (tgt := 264) hx hb dX12_prefixed_248 (by decide) (fun q => ?_) (fun q => ?_)
  · replace hf := zif_f q hf
    refine lv_aload_n hx hb dX12_prefixed_264 rfl (lv_at hl 1 rfl) ?_
    refine z_get hC hI hinX12_prefixed_r1_X120 0 (wM_e0 ad cy σ) rfl 10 (by decide) (List.mem_cons_of_mem _ zw9_7) rfl dX12_prefixed_265 ?_
    refine lv_bipush (v := 20) hx hb dX12_prefixed_268 (by decide) ?_
    refine lv_aload_n hx hb dX12_prefixed_270 rfl (lv_at hl 1 rfl) ?_
    refine z_get hC hI hinX12_prefixed_r1_X120 0 (wM_e0 ad cy σ) rfl 10 (by decide) (List.mem_cons_of_mem _ zw9_7) rfl dX12_prefixed_271 ?_
    refine lv_iload_n hx hb dX12_prefixed_274 rfl (lv_at hl 2 rfl) ?_
    obtain ⟨q, hf⟩ := zck_use hf
    refine z_iald hC hI 3 2 (wM_e3 ad cy σ) (tM_t3 cy) q dX12_prefixed_275 ?_
    refine lv_aload_n hx hb dX12_prefixed_276 rfl (lv_at hl 1 rfl) ?_
    obtain ⟨σ2, v3, g2, hf⟩ := zbi_use hf
    refine z_callVi (As := []) (rest := [.int (zgi σ 3 x1.toNatClampNeg), .int 20, .ref (ad 3)]) hC hI (cX12_next_met st l D ad cy σ  _ g2) (zgV zw50_2 zw50_3 zw50_4 zw1_5 zw50_5) rfl ⟨rfl, rfl⟩ 0 hdX12_next ⟨Nat.le_of_ble_eq_true rfl, Nat.le_of_ble_eq_true rfl⟩ rfl rfl (wM_e0 ad cy σ) rfl hl rfl (Nat.le_of_ble_eq_true rfl) dX12_prefixed_277 ⟨Nat.zero_le _, Nat.zero_le _⟩ (fun H locs hI => ?_)
    obtain ⟨σ4, v5, g4, hf⟩ := zbi_use hf
    refine z_callSi (As := [.int v3]) (rest := [.int (zgi σ 3 x1.toNatClampNeg), .int 20, .ref (ad 3)]) hC hI (cX12_signed_met st l D ad cy σ2 v3 _ g4) (zgS zw50_18 zw50_19 zw1_5 zw50_20) rfl ⟨rfl, rfl⟩ 1 hdX12_signed ⟨Nat.le_of_ble_eq_true rfl, Nat.le_of_ble_eq_true rfl⟩ rfl hl rfl (Nat.le_of_ble_eq_true rfl) dX12_prefixed_280 ⟨Nat.zero_le _, Nat.zero_le _⟩ (fun H locs hI => ?_)
    refine lv_iadd hx hb dX12_prefixed_283 ?_
    refine lv_ldc (v := 65535) hx hb hC.2.2.2.1 (hC.2.2.2.2.1 _ (List.mem_cons_of_mem _ zw16_11)) dX12_prefixed_284 ?_
    refine lv_iand hx hb dX12_prefixed_286 ?_
    obtain ⟨q, hf⟩ := zck_use hf
    obtain ⟨σ6, eσ6⟩ : ∃ z, z = zsi σ4 3 ((20 : Int32).toNatClampNeg) (((zgi σ 3 x1.toNatClampNeg) + v5) &&& 65535) := ⟨_, rfl⟩
    replace hf := zbv_use eσ6 hf
    refine z_iast hC hI 3 2 (wM_e3 ad cy σ4) (tM_t3 cy) q ((wM_s3 ad cy σ4 _ _).trans (congrArg (wM ad cy) eσ6.symm)) dX12_prefixed_287 (fun H locs hI => ?_)
    refine lv_aload_n hx hb dX12_prefixed_288 rfl (lv_at hl 1 rfl) ?_
    refine lv_iconst (v := 1) hx hb dX12_prefixed_289 (by decide) ?_
    obtain ⟨q, hf⟩ := zck_use hf
    obtain ⟨σ7, eσ7⟩ : ∃ z, z = zsi σ6 0 32 1 := ⟨_, rfl⟩
    replace hf := zbv_use eσ7 hf
    refine z_put hC hI hinX12_prefixed_r1_X120 tyX12_ok nmX12 0 (wM_e0 ad cy σ6) rfl 32 (by decide) (List.mem_cons_of_mem _ zw49_21) rfl (zbo_n q) (zbo_f q) (Nat.le_of_ble_eq_true rfl) ((wM_s0_32 ad cy σ6 1).trans (congrArg (wM ad cy) eσ7.symm)) dX12_prefixed_290 (fun H locs hI => ?_)
    refine lv_aload_n hx hb dX12_prefixed_293 rfl (lv_at hl 1 rfl) ?_
    refine lv_iload_n hx hb dX12_prefixed_294 rfl (lv_at hl 3 rfl) ?_
    cases hf
  replace hf := zif_t q hf
  refine lv_aload_n hx hb dX12_prefixed_251 rfl (lv_at hl 1 rfl) ?_
  refine lv_iload_n hx hb dX12_prefixed_252 rfl (lv_at hl 2 rfl) ?_
  obtain ⟨σ8, eσ8⟩ : ∃ z, z = zsi σ 0 31 x1 := ⟨_, rfl⟩
  replace hf := zbv_use eσ8 hf
  refine z_put hC hI hinX12_prefixed_r1_X120 tyX12_ok nmX12 0 (wM_e0 ad cy σ) rfl 31 (by decide) (List.mem_cons_of_mem _ zw49_20) rfl rfl rfl (Nat.le_of_ble_eq_true rfl) ((wM_s0_31 ad cy σ x1).trans (congrArg (wM ad cy) eσ8.symm)) dX12_prefixed_253 (fun H locs hI => ?_)
  refine lv_aload_n hx hb dX12_prefixed_256 rfl (lv_at hl 1 rfl) ?_
  refine lv_iload_n hx hb dX12_prefixed_257 rfl (lv_at hl 3 rfl) ?_
  cases hf
set_option maxRecDepth 20000 in
set_option maxHeartbeats 4000000 in
theorem bX12_prefixed_r1_243 {st : Nat → Nat} {p : Program} {l : Launch} {e : Env} {s : State} {m : MethodId} {args : Array Value} {below : List Frame} {meth : Method} {c : Code} {D : va_G} {A : Nat → Prop} {ad : Nat → Nat} {cy : Nat → ClassId} (hC : zC p m c cX12_prefixed 8 s args wzX12_prefixed RX12 meth (some .int))  {res : zSt × Int32} {H : Heap} {locs : List Loc} {σ : zSt} {ls : Array Slot} {x1 : Int32} {x3 : Int32} (hI : zI st D (tM cy) (wM ad cy σ) A s H locs) (hl : lv_has ls 8 [(0, .ref (ad 0)), (1, .int x1), (3, .int x3)]) (hf : fX12_prefixed_r1_243  σ x1 x3 = some res) : W p l e rmX12_prefixed_r1 s m args below meth c H locs 0 0 (zQi below args s D (tM cy) (wM ad cy) A res) (F0 m 243 ls []) := by
  have hx := hC.1
  have hb := hC.2.1
  unfold fX12_prefixed_r1_243 at hf
  refine lv_iconst (v := 0) hx hb dX12_prefixed_243 (by decide) ?_
  exact bX12_prefixed_r1_244 hC  hI hl hf
set_option maxRecDepth 20000 in
set_option maxHeartbeats 4000000 in
theorem bX12_prefixed_r1_239 {st : Nat → Nat} {p : Program} {l : Launch} {e : Env} {s : State} {m : MethodId} {args : Array Value} {below : List Frame} {meth : Method} {c : Code} {D : va_G} {A : Nat → Prop} {ad : Nat → Nat} {cy : Nat → ClassId} (hC : zC p m c cX12_prefixed 8 s args wzX12_prefixed RX12 meth (some .int))  {res : zSt × Int32} {H : Heap} {locs : List Loc} {σ : zSt} {ls : Array Slot} {x1 : Int32} {x3 : Int32} (hI : zI st D (tM cy) (wM ad cy σ) A s H locs) (hl : lv_has ls 8 [(0, .ref (ad 0)), (1, .int x1), (3, .int x3)]) (hf : fX12_prefixed_r1_239  σ x1 x3 = some res) : W p l e rmX12_prefixed_r1 s m args below meth c H locs 0 0 (zQi below args s D (tM cy) (wM ad cy) A res) (F0 m 239 ls []) := by
  have hx := hC.1
  have hb := hC.2.1
  unfold fX12_prefixed_r1_239 at hf
  refine lv_iconst (v := 1) hx hb dX12_prefixed_239 (by decide) ?_
  refine lv_goto (tgt := 244) hx hb dX12_prefixed_240 (by decide) ?_
  exact bX12_prefixed_r1_244 hC  hI hl hf
set_option maxRecDepth 20000 in
set_option maxHeartbeats 4000000 in
theorem bX12_prefixed_r1_226 {st : Nat → Nat} {p : Program} {l : Launch} {e : Env} {s : State} {m : MethodId} {args : Array Value} {below : List Frame} {meth : Method} {c : Code} {D : va_G} {A : Nat → Prop} {ad : Nat → Nat} {cy : Nat → ClassId} (hC : zC p m c cX12_prefixed 8 s args wzX12_prefixed RX12 meth (some .int))  {res : zSt × Int32} {H : Heap} {locs : List Loc} {σ : zSt} {ls : Array Slot} {x1 : Int32} {x3 : Int32} {x5 : Int32} {x6 : Int32} (hI : zI st D (tM cy) (wM ad cy σ) A s H locs) (hl : lv_has ls 8 [(0, .ref (ad 0)), (1, .int x1), (3, .int x3), (5, .int x5), (6, .int x6)]) (hf : fX12_prefixed_r1_226  σ x1 x3 x5 x6 = some res) : W p l e rmX12_prefixed_r1 s m args below meth c H locs 0 0 (zQi below args s D (tM cy) (wM ad cy) A res) (F0 m 226 ls []) := by
  have hx := hC.1
  have hb := hC.2.1
  unfold fX12_prefixed_r1_226 at hf
  refine lv_iload hx hb dX12_prefixed_226 (lv_at hl 4 rfl) ?_
  refine lv_iconst (v := 2) hx hb dX12_prefixed_228 (by decide) ?_
  refine lv_icmp_ne (tgt := 243) hx hb dX12_prefixed_229 (by decide) (fun q => ?_) (fun q => ?_)
  · replace hf := zif_f q hf
    exact bX12_prefixed_r1_243 hC  hI (lv_sub hl [0, 1, 2] rfl) hf
  replace hf := zif_t q hf
  refine lv_iload hx hb dX12_prefixed_232 (lv_at hl 3 rfl) ?_
  refine lv_bipush (v := 6) hx hb dX12_prefixed_234 (by decide) ?_
  refine lv_icmp_ne (tgt := 243) hx hb dX12_prefixed_236 (by decide) (fun q => ?_) (fun q => ?_)
  · replace hf := zif_f q hf
    exact bX12_prefixed_r1_243 hC  hI (lv_sub hl [0, 1, 2] rfl) hf
  replace hf := zif_t q hf
  exact bX12_prefixed_r1_239 hC  hI (lv_sub hl [0, 1, 2] rfl) hf
set_option maxRecDepth 20000 in
set_option maxHeartbeats 4000000 in
theorem bX12_prefixed_r1_220 {st : Nat → Nat} {p : Program} {l : Launch} {e : Env} {s : State} {m : MethodId} {args : Array Value} {below : List Frame} {meth : Method} {c : Code} {D : va_G} {A : Nat → Prop} {ad : Nat → Nat} {cy : Nat → ClassId} (hC : zC p m c cX12_prefixed 8 s args wzX12_prefixed RX12 meth (some .int))  {res : zSt × Int32} {H : Heap} {locs : List Loc} {σ : zSt} {ls : Array Slot} {x1 : Int32} {x3 : Int32} {x5 : Int32} {x6 : Int32} (hI : zI st D (tM cy) (wM ad cy σ) A s H locs) (hl : lv_has ls 8 [(0, .ref (ad 0)), (1, .int x1), (3, .int x3), (5, .int x5), (6, .int x6)]) (hf : fX12_prefixed_r1_220  σ x1 x3 x5 x6 = some res) : W p l e rmX12_prefixed_r1 s m args below meth c H locs 0 0 (zQi below args s D (tM cy) (wM ad cy) A res) (F0 m 220 ls []) := by
  have hx := hC.1
  have hb := hC.2.1
  unfold fX12_prefixed_r1_220 at hf
  refine lv_iload_n hx hb dX12_prefixed_220 rfl (lv_at hl 2 rfl) ?_
  refine lv_bipush (v := 118) hx hb dX12_prefixed_221 (by decide) ?_
  refine lv_icmp_ne (tgt := 239) hx hb dX12_prefixed_223 (by decide) (fun q => ?_) (fun q => ?_)
  · replace hf := zif_f q hf
    exact bX12_prefixed_r1_239 hC  hI (lv_sub hl [0, 1, 2] rfl) hf
  replace hf := zif_t q hf
  exact bX12_prefixed_r1_226 hC  hI hl hf
set_option maxRecDepth 20000 in
set_option maxHeartbeats 4000000 in
theorem bX12_prefixed_r1_200 {st : Nat → Nat} {p : Program} {l : Launch} {e : Env} {s : State} {m : MethodId} {args : Array Value} {below : List Frame} {meth : Method} {c : Code} {D : va_G} {A : Nat → Prop} {ad : Nat → Nat} {cy : Nat → ClassId} (hC : zC p m c cX12_prefixed 8 s args wzX12_prefixed RX12 meth (some .int))  {res : zSt × Int32} {H : Heap} {locs : List Loc} {σ : zSt} {ls : Array Slot} {x1 : Int32} {x3 : Int32} {x4 : Int32} {x5 : Int32} {x6 : Int32} (hI : zI st D (tM cy) (wM ad cy σ) A s H locs) (hl : lv_has ls 8 [(0, .ref (ad 0)), (1, .int x1), (3, .int x3), (4, .int x4), (5, .int x5), (6, .int x6)]) (hf : fX12_prefixed_r1_200  σ x1 x3 x4 x5 x6 = some res) : W p l e rmX12_prefixed_r1 s m args below meth c H locs 0 0 (zQi below args s D (tM cy) (wM ad cy) A res) (F0 m 200 ls []) := by
  have hx := hC.1
  have hb := hC.2.1
  unfold fX12_prefixed_r1_200 at hf
  refine lv_iload hx hb dX12_prefixed_200 (lv_at hl 5 rfl) ?_
  refine lv_iconst (v := 1) hx hb dX12_prefixed_202 (by decide) ?_
  refine lv_icmp_ne (tgt := 226) hx hb dX12_prefixed_203 (by decide) (fun q => ?_) (fun q => ?_)
  · replace hf := zif_f q hf
    exact bX12_prefixed_r1_226 hC  hI (lv_sub hl [0, 1, 2, 4, 5] rfl) hf
  replace hf := zif_t q hf
  refine lv_iload hx hb dX12_prefixed_206 (lv_at hl 3 rfl) ?_
  refine lv_bipush (v := 6) hx hb dX12_prefixed_208 (by decide) ?_
  refine lv_icmp_eq (tgt := 220) hx hb dX12_prefixed_210 (by decide) (fun q => ?_) (fun q => ?_)
  · replace hf := zif_t q hf
    exact bX12_prefixed_r1_220 hC  hI (lv_sub hl [0, 1, 2, 4, 5] rfl) hf
  replace hf := zif_f q hf
  refine lv_iload hx hb dX12_prefixed_213 (lv_at hl 4 rfl) ?_
  refine lv_bipush (v := 6) hx hb dX12_prefixed_215 (by decide) ?_
  refine lv_icmp_ne (tgt := 226) hx hb dX12_prefixed_217 (by decide) (fun q => ?_) (fun q => ?_)
  · replace hf := zif_f q hf
    exact bX12_prefixed_r1_226 hC  hI (lv_sub hl [0, 1, 2, 4, 5] rfl) hf
  replace hf := zif_t q hf
  exact bX12_prefixed_r1_220 hC  hI (lv_sub hl [0, 1, 2, 4, 5] rfl) hf
set_option maxRecDepth 20000 in
set_option maxHeartbeats 4000000 in
theorem bX12_prefixed_r1 {st : Nat → Nat} {p : Program} {l : Launch} {e : Env} {s : State} {m : MethodId} {args : Array Value} {below : List Frame} {meth : Method} {c : Code} {D : va_G} {A : Nat → Prop} {ad : Nat → Nat} {cy : Nat → ClassId} (hC : zC p m c cX12_prefixed 8 s args wzX12_prefixed RX12 meth (some .int))  {res : zSt × Int32} {H : Heap} {locs : List Loc} {σ : zSt} {ls : Array Slot} {x1 : Int32} (hI : zI st D (tM cy) (wM ad cy σ) A s H locs) (hl : lv_has ls 8 [(0, .ref (ad 0)), (1, .int x1)]) (hf : fX12_prefixed_r1  σ x1 = some res) : W p l e rmX12_prefixed_r1 s m args below meth c H locs 0 0 (zQi below args s D (tM cy) (wM ad cy) A res) (F0 m 0 ls []) := by
  have hx := hC.1
  have hb := hC.2.1
  unfold fX12_prefixed_r1 at hf
  refine lv_aload_n hx hb dX12_prefixed_0 rfl (lv_at hl 0 rfl) ?_
  refine lv_aload_n hx hb dX12_prefixed_1 rfl (lv_at hl 0 rfl) ?_
  refine z_get hC hI hinX12_prefixed_r1_X120 0 (wM_e0 ad cy σ) rfl 10 (by decide) (List.mem_cons_of_mem _ zw9_7) rfl dX12_prefixed_2 ?_
  refine lv_bipush (v := 19) hx hb dX12_prefixed_5 (by decide) ?_
  obtain ⟨q, hf⟩ := zck_use hf
  refine z_iald hC hI 3 2 (wM_e3 ad cy σ) (tM_t3 cy) q dX12_prefixed_7 ?_
  obtain ⟨σ9, v10, g9, hf⟩ := zbi_use hf
  refine z_callVi (As := [.int (zgi σ 3 (19 : Int32).toNatClampNeg)]) (rest := []) hC hI (cX12_read_met st l D ad cy σ (zgi σ 3 (19 : Int32).toNatClampNeg) _ g9) (zgV zw49_8 zw49_9 zw49_10 zw1_5 zw49_11) rfl ⟨rfl, rfl⟩ 1 hdX12_read ⟨Nat.le_of_ble_eq_true rfl, Nat.le_of_ble_eq_true rfl⟩ rfl rfl (wM_e0 ad cy σ) rfl hl rfl (Nat.le_of_ble_eq_true rfl) dX12_prefixed_8 ⟨Nat.zero_le _, Nat.zero_le _⟩ (fun H locs hI => ?_)
  refine lv_istore_n (lv' := [(2, .int v10), (0, .ref (ad 0)), (1, .int x1)]) hx hb dX12_prefixed_11 rfl hl (by decide) rfl (fun ls hl => ?_)
  refine lv_iload_n hx hb dX12_prefixed_12 rfl (lv_at hl 0 rfl) ?_
  refine lv_sipush (v := 221) hx hb dX12_prefixed_13 (by decide) ?_
  refine lv_icmp_eq (tgt := 33) hx hb dX12_prefixed_16 (by decide) (fun q => ?_) (fun q => ?_)
  · replace hf := zif_t q hf
    exact bX12_prefixed_r1_33 hC  hI (lv_sub hl [1] rfl) hf
  replace hf := zif_f q hf
  refine lv_iload_n hx hb dX12_prefixed_19 rfl (lv_at hl 0 rfl) ?_
  refine lv_sipush (v := 237) hx hb dX12_prefixed_20 (by decide) ?_
  refine lv_icmp_eq (tgt := 33) hx hb dX12_prefixed_23 (by decide) (fun q => ?_) (fun q => ?_)
  · replace hf := zif_t q hf
    exact bX12_prefixed_r1_33 hC  hI (lv_sub hl [1] rfl) hf
  replace hf := zif_f q hf
  refine lv_iload_n hx hb dX12_prefixed_26 rfl (lv_at hl 0 rfl) ?_
  refine lv_sipush (v := 253) hx hb dX12_prefixed_27 (by decide) ?_
  refine lv_icmp_ne (tgt := 43) hx hb dX12_prefixed_30 (by decide) (fun q => ?_) (fun q => ?_)
  · replace hf := zif_f q hf
    refine lv_aload_n hx hb dX12_prefixed_43 rfl (lv_at hl 1 rfl) ?_
    obtain ⟨σ11, v12, g11, hf⟩ := zbi_use hf
    refine z_callVi (As := []) (rest := []) hC hI (cX12_fetch_met st l D ad cy σ9  _ g11) (zgV zw49_22 zw49_23 zw50_0 zw1_5 zw50_1) rfl ⟨rfl, rfl⟩ 0 hdX12_fetch ⟨Nat.le_of_ble_eq_true rfl, Nat.le_of_ble_eq_true rfl⟩ rfl rfl (wM_e0 ad cy σ9) rfl hl rfl (Nat.le_of_ble_eq_true rfl) dX12_prefixed_44 ⟨Nat.zero_le _, Nat.zero_le _⟩ (fun H locs hI => ?_)
    refine lv_istore_n (lv' := [(3, .int v12), (2, .int v10), (0, .ref (ad 0)), (1, .int x1)]) hx hb dX12_prefixed_47 rfl hl (by decide) rfl (fun ls hl => ?_)
    refine lv_iload_n hx hb dX12_prefixed_48 rfl (lv_at hl 0 rfl) ?_
    refine lv_sipush (v := 203) hx hb dX12_prefixed_49 (by decide) ?_
    refine lv_icmp_ne (tgt := 155) hx hb dX12_prefixed_52 (by decide) (fun q => ?_) (fun q => ?_)
    · replace hf := zif_f q hf
      refine lv_iload_n hx hb dX12_prefixed_155 rfl (lv_at hl 0 rfl) ?_
      refine lv_iconst (v := 3) hx hb dX12_prefixed_156 (by decide) ?_
      refine lv_ishr hx hb dX12_prefixed_157 ?_
      refine lv_bipush (v := 7) hx hb dX12_prefixed_158 (by decide) ?_
      refine lv_iand hx hb dX12_prefixed_160 ?_
      refine lv_topi (fun v13 ev13 => ?_)
      replace hf := zbv_use ev13 hf
      refine lv_istore (lv' := [(4, .int v13), (3, .int v12), (2, .int v10), (0, .ref (ad 0)), (1, .int x1)]) hx hb dX12_prefixed_161 hl (by decide) rfl (fun ls hl => ?_)
      refine lv_iload_n hx hb dX12_prefixed_163 rfl (lv_at hl 1 rfl) ?_
      refine lv_bipush (v := 7) hx hb dX12_prefixed_164 (by decide) ?_
      refine lv_iand hx hb dX12_prefixed_166 ?_
      refine lv_topi (fun v14 ev14 => ?_)
      replace hf := zbv_use ev14 hf
      refine lv_istore (lv' := [(5, .int v14), (4, .int v13), (3, .int v12), (2, .int v10), (0, .ref (ad 0)), (1, .int x1)]) hx hb dX12_prefixed_167 hl (by decide) rfl (fun ls hl => ?_)
      refine lv_iload_n hx hb dX12_prefixed_169 rfl (lv_at hl 2 rfl) ?_
      refine lv_bipush (v := 6) hx hb dX12_prefixed_170 (by decide) ?_
      refine lv_ishr hx hb dX12_prefixed_172 ?_
      refine lv_topi (fun v15 ev15 => ?_)
      replace hf := zbv_use ev15 hf
      refine lv_istore (lv' := [(6, .int v15), (5, .int v14), (4, .int v13), (3, .int v12), (2, .int v10), (0, .ref (ad 0)), (1, .int x1)]) hx hb dX12_prefixed_173 hl (by decide) rfl (fun ls hl => ?_)
      refine lv_iload hx hb dX12_prefixed_175 (lv_at hl 0 rfl) ?_
      refine lv_if_ne (tgt := 200) hx hb dX12_prefixed_177 (by decide) (fun q => ?_) (fun q => ?_)
      · replace hf := zif_f q hf
        exact bX12_prefixed_r1_200 hC  hI (lv_sub hl [5, 6, 3, 2, 1, 0] rfl) hf
      replace hf := zif_t q hf
      refine lv_iload hx hb dX12_prefixed_180 (lv_at hl 1 rfl) ?_
      refine lv_iconst (v := 3) hx hb dX12_prefixed_182 (by decide) ?_
      refine lv_icmp_le (tgt := 200) hx hb dX12_prefixed_183 (by decide) (fun q => ?_) (fun q => ?_)
      · replace hf := zif_t q hf
        exact bX12_prefixed_r1_200 hC  hI (lv_sub hl [5, 6, 3, 2, 1, 0] rfl) hf
      replace hf := zif_f q hf
      refine lv_iload hx hb dX12_prefixed_186 (lv_at hl 1 rfl) ?_
      refine lv_bipush (v := 7) hx hb dX12_prefixed_188 (by decide) ?_
      refine lv_icmp_ge (tgt := 200) hx hb dX12_prefixed_190 (by decide) (fun q => ?_) (fun q => ?_)
      · replace hf := zif_t q hf
        exact bX12_prefixed_r1_200 hC  hI (lv_sub hl [5, 6, 3, 2, 1, 0] rfl) hf
      replace hf := zif_f q hf
      refine lv_iload hx hb dX12_prefixed_193 (lv_at hl 2 rfl) ?_
      refine lv_bipush (v := 6) hx hb dX12_prefixed_195 (by decide) ?_
      refine lv_icmp_eq (tgt := 239) hx hb dX12_prefixed_197 (by decide) (fun q => ?_) (fun q => ?_)
      · replace hf := zif_t q hf
        exact bX12_prefixed_r1_239 hC  hI (lv_sub hl [5, 6, 3] rfl) hf
      replace hf := zif_f q hf
      exact bX12_prefixed_r1_200 hC  hI (lv_sub hl [5, 6, 3, 2, 1, 0] rfl) hf
    replace hf := zif_t q hf
    refine lv_aload_n hx hb dX12_prefixed_55 rfl (lv_at hl 2 rfl) ?_
    refine z_get hC hI hinX12_prefixed_r1_X120 0 (wM_e0 ad cy σ11) rfl 10 (by decide) (List.mem_cons_of_mem _ zw9_7) rfl dX12_prefixed_56 ?_
    refine lv_bipush (v := 20) hx hb dX12_prefixed_59 (by decide) ?_
    refine lv_aload_n hx hb dX12_prefixed_61 rfl (lv_at hl 2 rfl) ?_
    refine z_get hC hI hinX12_prefixed_r1_X120 0 (wM_e0 ad cy σ11) rfl 10 (by decide) (List.mem_cons_of_mem _ zw9_7) rfl dX12_prefixed_62 ?_
    refine lv_iload_n hx hb dX12_prefixed_65 rfl (lv_at hl 3 rfl) ?_
    obtain ⟨q, hf⟩ := zck_use hf
    refine z_iald hC hI 3 2 (wM_e3 ad cy σ11) (tM_t3 cy) q dX12_prefixed_66 ?_
    refine lv_aload_n hx hb dX12_prefixed_67 rfl (lv_at hl 2 rfl) ?_
    obtain ⟨σ16, v17, g16, hf⟩ := zbi_use hf
    refine z_callVi (As := []) (rest := [.int (zgi σ11 3 x1.toNatClampNeg), .int 20, .ref (ad 3)]) hC hI (cX12_next_met st l D ad cy σ11  _ g16) (zgV zw50_2 zw50_3 zw50_4 zw1_5 zw50_5) rfl ⟨rfl, rfl⟩ 0 hdX12_next ⟨Nat.le_of_ble_eq_true rfl, Nat.le_of_ble_eq_true rfl⟩ rfl rfl (wM_e0 ad cy σ11) rfl hl rfl (Nat.le_of_ble_eq_true rfl) dX12_prefixed_68 ⟨Nat.zero_le _, Nat.zero_le _⟩ (fun H locs hI => ?_)
    obtain ⟨σ18, v19, g18, hf⟩ := zbi_use hf
    refine z_callSi (As := [.int v17]) (rest := [.int (zgi σ11 3 x1.toNatClampNeg), .int 20, .ref (ad 3)]) hC hI (cX12_signed_met st l D ad cy σ16 v17 _ g18) (zgS zw50_18 zw50_19 zw1_5 zw50_20) rfl ⟨rfl, rfl⟩ 1 hdX12_signed ⟨Nat.le_of_ble_eq_true rfl, Nat.le_of_ble_eq_true rfl⟩ rfl hl rfl (Nat.le_of_ble_eq_true rfl) dX12_prefixed_71 ⟨Nat.zero_le _, Nat.zero_le _⟩ (fun H locs hI => ?_)
    refine lv_iadd hx hb dX12_prefixed_74 ?_
    refine lv_ldc (v := 65535) hx hb hC.2.2.2.1 (hC.2.2.2.2.1 _ (List.mem_cons_of_mem _ zw16_11)) dX12_prefixed_75 ?_
    refine lv_iand hx hb dX12_prefixed_77 ?_
    obtain ⟨q, hf⟩ := zck_use hf
    obtain ⟨σ20, eσ20⟩ : ∃ z, z = zsi σ18 3 ((20 : Int32).toNatClampNeg) (((zgi σ11 3 x1.toNatClampNeg) + v19) &&& 65535) := ⟨_, rfl⟩
    replace hf := zbv_use eσ20 hf
    refine z_iast hC hI 3 2 (wM_e3 ad cy σ18) (tM_t3 cy) q ((wM_s3 ad cy σ18 _ _).trans (congrArg (wM ad cy) eσ20.symm)) dX12_prefixed_78 (fun H locs hI => ?_)
    refine lv_aload_n hx hb dX12_prefixed_79 rfl (lv_at hl 2 rfl) ?_
    refine lv_iconst (v := 1) hx hb dX12_prefixed_80 (by decide) ?_
    obtain ⟨q, hf⟩ := zck_use hf
    obtain ⟨σ21, eσ21⟩ : ∃ z, z = zsi σ20 0 32 1 := ⟨_, rfl⟩
    replace hf := zbv_use eσ21 hf
    refine z_put hC hI hinX12_prefixed_r1_X120 tyX12_ok nmX12 0 (wM_e0 ad cy σ20) rfl 32 (by decide) (List.mem_cons_of_mem _ zw49_21) rfl (zbo_n q) (zbo_f q) (Nat.le_of_ble_eq_true rfl) ((wM_s0_32 ad cy σ20 1).trans (congrArg (wM ad cy) eσ21.symm)) dX12_prefixed_81 (fun H locs hI => ?_)
    refine lv_aload_n hx hb dX12_prefixed_84 rfl (lv_at hl 2 rfl) ?_
    obtain ⟨σ22, v23, g22, hf⟩ := zbi_use hf
    refine z_callVi (As := []) (rest := []) hC hI (cX12_next_met st l D ad cy σ21  _ g22) (zgV zw50_2 zw50_3 zw50_4 zw1_5 zw50_5) rfl ⟨rfl, rfl⟩ 0 hdX12_next ⟨Nat.le_of_ble_eq_true rfl, Nat.le_of_ble_eq_true rfl⟩ rfl rfl (wM_e0 ad cy σ21) rfl hl rfl (Nat.le_of_ble_eq_true rfl) dX12_prefixed_85 ⟨Nat.zero_le _, Nat.zero_le _⟩ (fun H locs hI => ?_)
    refine lv_istore (lv' := [(4, .int v23), (3, .int v12), (2, .int v10), (0, .ref (ad 0)), (1, .int x1)]) hx hb dX12_prefixed_88 hl (by decide) rfl (fun ls hl => ?_)
    refine lv_aload_n hx hb dX12_prefixed_90 rfl (lv_at hl 3 rfl) ?_
    refine lv_iload hx hb dX12_prefixed_91 (lv_at hl 0 rfl) ?_
    obtain ⟨σ24, v25, g24, hf⟩ := zbi_use hf
    refine z_callVi (As := [.int v23]) (rest := []) hC hI (cX12_turn_met st l D ad cy σ22 v23 _ g24) (zgV zw55_5 zw55_6 zw55_7 zw1_5 zw55_8) rfl ⟨rfl, rfl⟩ 1 hdX12_turn ⟨Nat.le_of_ble_eq_true rfl, Nat.le_of_ble_eq_true rfl⟩ rfl rfl (wM_e0 ad cy σ22) rfl hl rfl (Nat.le_of_ble_eq_true rfl) dX12_prefixed_93 ⟨Nat.zero_le _, Nat.zero_le _⟩ (fun H locs hI => ?_)
    refine lv_istore (lv' := [(5, .int v25), (4, .int v23), (3, .int v12), (2, .int v10), (0, .ref (ad 0)), (1, .int x1)]) hx hb dX12_prefixed_96 hl (by decide) rfl (fun ls hl => ?_)
    refine lv_iload hx hb dX12_prefixed_98 (lv_at hl 1 rfl) ?_
    refine lv_bipush (v := 6) hx hb dX12_prefixed_100 (by decide) ?_
    refine lv_ishr hx hb dX12_prefixed_102 ?_
    refine lv_iconst (v := 1) hx hb dX12_prefixed_103 (by decide) ?_
    refine lv_icmp_eq (tgt := 135) hx hb dX12_prefixed_104 (by decide) (fun q => ?_) (fun q => ?_)
    · replace hf := zif_t q hf
      exact bX12_prefixed_r1_135 hC  hI (lv_sub hl [1, 0] rfl) hf
    replace hf := zif_f q hf
    refine lv_iload hx hb dX12_prefixed_107 (lv_at hl 1 rfl) ?_
    refine lv_bipush (v := 7) hx hb dX12_prefixed_109 (by decide) ?_
    refine lv_iand hx hb dX12_prefixed_111 ?_
    refine lv_bipush (v := 6) hx hb dX12_prefixed_112 (by decide) ?_
    refine lv_icmp_eq (tgt := 135) hx hb dX12_prefixed_114 (by decide) (fun q => ?_) (fun q => ?_)
    · replace hf := zif_t q hf
      exact bX12_prefixed_r1_135 hC  hI (lv_sub hl [1, 0] rfl) hf
    replace hf := zif_f q hf
    refine lv_aload_n hx hb dX12_prefixed_117 rfl (lv_at hl 4 rfl) ?_
    refine lv_iconst (v := 0) hx hb dX12_prefixed_118 (by decide) ?_
    obtain ⟨q, hf⟩ := zck_use hf
    obtain ⟨σ26, eσ26⟩ : ∃ z, z = zsi σ24 0 32 0 := ⟨_, rfl⟩
    replace hf := zbv_use eσ26 hf
    refine z_put hC hI hinX12_prefixed_r1_X120 tyX12_ok nmX12 0 (wM_e0 ad cy σ24) rfl 32 (by decide) (List.mem_cons_of_mem _ zw49_21) rfl (zbo_n q) (zbo_f q) (Nat.le_of_ble_eq_true rfl) ((wM_s0_32 ad cy σ24 0).trans (congrArg (wM ad cy) eσ26.symm)) dX12_prefixed_119 (fun H locs hI => ?_)
    refine lv_aload_n hx hb dX12_prefixed_122 rfl (lv_at hl 4 rfl) ?_
    refine lv_iload hx hb dX12_prefixed_123 (lv_at hl 1 rfl) ?_
    refine lv_bipush (v := 7) hx hb dX12_prefixed_125 (by decide) ?_
    refine lv_iand hx hb dX12_prefixed_127 ?_
    refine lv_aload_n hx hb dX12_prefixed_128 rfl (lv_at hl 4 rfl) ?_
    refine z_get hC hI hinX12_prefixed_r1_X120 0 (wM_e0 ad cy σ26) rfl 33 (by decide) (List.mem_cons_of_mem _ zw55_9) rfl dX12_prefixed_129 ?_
    obtain ⟨σ27, g27, hf⟩ := zbu_use hf
    refine z_callVu (As := [.int (v23 &&& 7), .int (zgi σ26 0 33)]) (rest := []) hC hI (cX12_rTo_met st l D ad cy σ26 (v23 &&& 7) (zgi σ26 0 33) _ g27) (zgV zw53_9 zw53_10 zw53_11 zw1_5 zw53_12) rfl ⟨rfl, rfl⟩ 2 hdX12_rTo ⟨Nat.le_of_ble_eq_true rfl, Nat.le_of_ble_eq_true rfl⟩ rfl rfl (wM_e0 ad cy σ26) rfl hl rfl (Nat.le_of_ble_eq_true rfl) dX12_prefixed_132 ⟨Nat.zero_le _, Nat.zero_le _⟩ (fun H locs hI => ?_)
    exact bX12_prefixed_r1_135 hC  hI (lv_sub hl [1, 0] rfl) hf
  replace hf := zif_t q hf
  exact bX12_prefixed_r1_33 hC  hI (lv_sub hl [1] rfl) hf
set_option maxRecDepth 20000 in
theorem cX12_prefixed_r1_met (st : Nat → Nat) (l : Launch) (D : va_G) (ad : Nat → Nat) (cy : Nat → ClassId) (σ : zSt) (x1 : Int32) (res : zSt × Int32) (hf : fX12_prefixed_r1 σ x1 = some res) (sz : Nat) : zMi st l yX12_prefixed wzX12_prefixed rmX12_prefixed_r1 [.ref (ad 0), .int x1] D (tM cy) (wM ad cy) sz σ res :=
  zMi.of (cc := cX12_prefixed) (maxL := 8) (ret := (some .int)) (by decide) rfl (Nat.le_of_ble_eq_true rfl) (fun p e s m args below meth c hC A hI ls hl => bX12_prefixed_r1 hC hI hl hf)
theorem hdX12_prefixed_r1 : yX12_prefixed.cls = RX12 ∧ yX12_prefixed.cls ≠ "java/lang/invoke/MethodHandle" ∧ yX12_prefixed.cls ≠ "java/lang/invoke/VarHandle" ∧ (parseMethodDescriptor yX12_prefixed.desc).map (fun d => d.parameters.length) = some 1 := by decide +kernel
def rmX12_more3_r1 : Room := { frames := 7, cells := 0, slots := 0, locals := 163 }
def wzX12_more3 : List Cond := .code yX12_more3 cX12_more3 4 (some .int) :: wsL_law
theorem hinX12_more3_r1_X120 : ∀ w ∈ wsX120, w ∈ wzX12_more3 := fun w h => List.mem_cons_of_mem _ (inlX12 w h)
def fX12_more3_r1_119  (σ : zSt) (s0 : Int32) : Option (zSt × Int32) :=
  zbu (fX12_push σ s0) (fun σ1 =>
  some (σ1, 11))
def fX12_more3_r1_200  (σ : zSt) (s0 : Int32) : Option (zSt × Int32) :=
  some (σ, s0)
def fX12_more3_r1_197  (σ : zSt) (s0 : Int32) : Option (zSt × Int32) :=
  zbi (fX12_prefixed_r1 σ s0) (fun σ2 v3 =>
  fX12_more3_r1_200 σ2 v3)
def fX12_more3_r1  (σ : zSt) (x1 : Int32) (x2 : Int32) : Option (zSt × Int32) :=
  zbv (x1 >>> ((1 : Int32) &&& 31)) (fun v4 =>
  if x2 = 4 then zbi (fX12_nextWord σ ) (fun σ22 v23 =>
  zck (zin 20 1048) (zbv (zsi σ22 3 ((20 : Int32).toNatClampNeg) v23) (fun σ24 =>
  zbi (fX12_cc σ24 x1) (fun σ25 v26 =>
  if v26 = 0 then some (σ25, 10) else
  zck (zin 19 1048) (
  zbu (fX12_push σ25 (zgi σ25 3 (19 : Int32).toNatClampNeg)) (fun σ27 =>
  zck (zin 20 1048) (
  zck (zin 19 1048) (zbv (zsi σ27 3 ((19 : Int32).toNatClampNeg) (zgi σ27 3 (20 : Int32).toNatClampNeg)) (fun σ28 =>
  some (σ28, 17)))))))))) else
  if x2 = 6 then zbi (fX12_next σ ) (fun σ19 v20 =>
  zbu (fX12_does σ19 x1 v20) (fun σ21 =>
  some (σ21, 7))) else
  if x2 = 7 then zbu (fX12_call σ (8 * x1)) (fun σ18 =>
  some (σ18, 11)) else
  zck (decide (¬ 2 = 0)) (
  if (zrem x1 2) = 0 then if v4 = 3 then zbi (fX12_pair σ 0) (fun σ16 v17 =>
  fX12_more3_r1_119 σ16 v17) else
  zbi (fX12_rp σ v4) (fun σ14 v15 =>
  fX12_more3_r1_119 σ14 v15) else
  if v4 = 0 then zbi (fX12_nextWord σ ) (fun σ9 v10 =>
  zck (zin 20 1048) (zbv (zsi σ9 3 ((20 : Int32).toNatClampNeg) v10) (fun σ11 =>
  zck (zin 19 1048) (
  zbu (fX12_push σ11 (zgi σ11 3 (19 : Int32).toNatClampNeg)) (fun σ12 =>
  zck (zin 20 1048) (
  zck (zin 19 1048) (zbv (zsi σ12 3 ((19 : Int32).toNatClampNeg) (zgi σ12 3 (20 : Int32).toNatClampNeg)) (fun σ13 =>
  some (σ13, 17))))))))) else
  if v4 = 2 then zbi (fX12_fetch σ ) (fun σ5 v6 =>
  zbi (fX12_more σ5 v6) (fun σ7 v8 =>
  fX12_more3_r1_200 σ7 v8)) else
  if v4 = 1 then fX12_more3_r1_197 σ 16 else
  fX12_more3_r1_197 σ 17))
set_option maxRecDepth 20000 in
set_option maxHeartbeats 4000000 in
theorem bX12_more3_r1_119 {st : Nat → Nat} {p : Program} {l : Launch} {e : Env} {s : State} {m : MethodId} {args : Array Value} {below : List Frame} {meth : Method} {c : Code} {D : va_G} {A : Nat → Prop} {ad : Nat → Nat} {cy : Nat → ClassId} (hC : zC p m c cX12_more3 4 s args wzX12_more3 RX12 meth (some .int))  {res : zSt × Int32} {H : Heap} {locs : List Loc} {σ : zSt} {ls : Array Slot} {s0 : Int32} (hI : zI st D (tM cy) (wM ad cy σ) A s H locs) (hl : lv_has ls 4 []) (hf : fX12_more3_r1_119  σ s0 = some res) : W p l e rmX12_more3_r1 s m args below meth c H locs 0 0 (zQi below args s D (tM cy) (wM ad cy) A res) (F0 m 119 ls [.int s0, .ref (ad 0)]) := by
  have hx := hC.1
  have hb := hC.2.1
  unfold fX12_more3_r1_119 at hf
  obtain ⟨σ1, g1, hf⟩ := zbu_use hf
  refine z_callVu (As := [.int s0]) (rest := []) hC hI (cX12_push_met st l D ad cy σ s0 _ g1) (zgV zw48_1 zw48_2 zw48_3 zw1_5 zw48_4) rfl ⟨rfl, rfl⟩ 1 hdX12_push ⟨Nat.le_of_ble_eq_true rfl, Nat.le_of_ble_eq_true rfl⟩ rfl rfl (wM_e0 ad cy σ) rfl hl rfl (Nat.le_of_ble_eq_true rfl) dX12_more3_119 ⟨Nat.zero_le _, Nat.zero_le _⟩ (fun H locs hI => ?_)
  refine lv_bipush (v := 11) hx hb dX12_more3_122 (by decide) ?_
  exact z_ireturn hC hI hf dX12_more3_124
set_option maxRecDepth 20000 in
set_option maxHeartbeats 4000000 in
theorem bX12_more3_r1_200 {st : Nat → Nat} {p : Program} {l : Launch} {e : Env} {s : State} {m : MethodId} {args : Array Value} {below : List Frame} {meth : Method} {c : Code} {D : va_G} {A : Nat → Prop} {ad : Nat → Nat} {cy : Nat → ClassId} (hC : zC p m c cX12_more3 4 s args wzX12_more3 RX12 meth (some .int))  {res : zSt × Int32} {H : Heap} {locs : List Loc} {σ : zSt} {ls : Array Slot} {s0 : Int32} (hI : zI st D (tM cy) (wM ad cy σ) A s H locs) (hl : lv_has ls 4 []) (hf : fX12_more3_r1_200  σ s0 = some res) : W p l e rmX12_more3_r1 s m args below meth c H locs 0 0 (zQi below args s D (tM cy) (wM ad cy) A res) (F0 m 200 ls [.int s0]) := by
  have hx := hC.1
  have hb := hC.2.1
  unfold fX12_more3_r1_200 at hf
  exact z_ireturn hC hI hf dX12_more3_200
set_option maxRecDepth 20000 in
set_option maxHeartbeats 4000000 in
theorem bX12_more3_r1_197 {st : Nat → Nat} {p : Program} {l : Launch} {e : Env} {s : State} {m : MethodId} {args : Array Value} {below : List Frame} {meth : Method} {c : Code} {D : va_G} {A : Nat → Prop} {ad : Nat → Nat} {cy : Nat → ClassId} (hC : zC p m c cX12_more3 4 s args wzX12_more3 RX12 meth (some .int))  {res : zSt × Int32} {H : Heap} {locs : List Loc} {σ : zSt} {ls : Array Slot} {s0 : Int32} (hI : zI st D (tM cy) (wM ad cy σ) A s H locs) (hl : lv_has ls 4 []) (hf : fX12_more3_r1_197  σ s0 = some res) : W p l e rmX12_more3_r1 s m args below meth c H locs 0 0 (zQi below args s D (tM cy) (wM ad cy) A res) (F0 m 197 ls [.int s0, .ref (ad 0)]) := by
  have hx := hC.1
  have hb := hC.2.1
  unfold fX12_more3_r1_197 at hf
  obtain ⟨σ2, v3, g2, hf⟩ := zbi_use hf
  refine z_callVi (As := [.int s0]) (rest := []) hC hI (cX12_prefixed_r1_met st l D ad cy σ s0 _ g2) (zgV zw58_18 zw58_19 zw58_20 zw1_5 zw58_21) rfl ⟨rfl, rfl⟩ 1 hdX12_prefixed_r1 ⟨Nat.le_of_ble_eq_true rfl, Nat.le_of_ble_eq_true rfl⟩ rfl rfl (wM_e0 ad cy σ) rfl hl rfl (Nat.le_of_ble_eq_true rfl) dX12_more3_197 ⟨Nat.zero_le _, Nat.zero_le _⟩ (fun H locs hI => ?_)
  exact bX12_more3_r1_200 hC  hI hl hf
set_option maxRecDepth 20000 in
set_option maxHeartbeats 4000000 in
theorem bX12_more3_r1 {st : Nat → Nat} {p : Program} {l : Launch} {e : Env} {s : State} {m : MethodId} {args : Array Value} {below : List Frame} {meth : Method} {c : Code} {D : va_G} {A : Nat → Prop} {ad : Nat → Nat} {cy : Nat → ClassId} (hC : zC p m c cX12_more3 4 s args wzX12_more3 RX12 meth (some .int))  {res : zSt × Int32} {H : Heap} {locs : List Loc} {σ : zSt} {ls : Array Slot} {x1 : Int32} {x2 : Int32} (hI : zI st D (tM cy) (wM ad cy σ) A s H locs) (hl : lv_has ls 4 [(0, .ref (ad 0)), (1, .int x1), (2, .int x2)]) (hf : fX12_more3_r1  σ x1 x2 = some res) : W p l e rmX12_more3_r1 s m args below meth c H locs 0 0 (zQi below args s D (tM cy) (wM ad cy) A res) (F0 m 0 ls []) := by
  have hx := hC.1
  have hb := hC.2.1
  unfold fX12_more3_r1 at hf
  refine lv_iload_n hx hb dX12_more3_0 rfl (lv_at hl 1 rfl) ?_
  refine lv_iconst (v := 1) hx hb dX12_more3_1 (by decide) ?_
  refine lv_ishr hx hb dX12_more3_2 ?_
  refine lv_topi (fun v4 ev4 => ?_)
  replace hf := zbv_use ev4 hf
  refine lv_istore_n (lv' := [(3, .int v4), (0, .ref (ad 0)), (1, .int x1), (2, .int x2)]) hx hb dX12_more3_3 rfl hl (by decide) rfl (fun ls hl => ?_)
  refine lv_iload_n hx hb dX12_more3_4 rfl (lv_at hl 3 rfl) ?_
  refine lv_iconst (v := 4) hx hb dX12_more3_5 (by decide) ?_
  refine lv_icmp_ne (tgt := 59) hx hb dX12_more3_6 (by decide) (fun q => ?_) (fun q => ?_)
  · replace hf := zif_f q hf
    refine lv_iload_n hx hb dX12_more3_59 rfl (lv_at hl 3 rfl) ?_
    refine lv_bipush (v := 6) hx hb dX12_more3_60 (by decide) ?_
    refine lv_icmp_ne (tgt := 77) hx hb dX12_more3_62 (by decide) (fun q => ?_) (fun q => ?_)
    · replace hf := zif_f q hf
      refine lv_iload_n hx hb dX12_more3_77 rfl (lv_at hl 3 rfl) ?_
      refine lv_bipush (v := 7) hx hb dX12_more3_78 (by decide) ?_
      refine lv_icmp_ne (tgt := 94) hx hb dX12_more3_80 (by decide) (fun q => ?_) (fun q => ?_)
      · replace hf := zif_f q hf
        refine lv_iload_n hx hb dX12_more3_94 rfl (lv_at hl 2 rfl) ?_
        refine lv_iconst (v := 2) hx hb dX12_more3_95 (by decide) ?_
        obtain ⟨q, hf⟩ := zck_use hf
        refine z_irem hx hb dX12_more3_96 (of_decide_eq_true q) ?_
        refine lv_if_ne (tgt := 125) hx hb dX12_more3_97 (by decide) (fun q => ?_) (fun q => ?_)
        · replace hf := zif_f q hf
          refine lv_iload_n hx hb dX12_more3_125 rfl (lv_at hl 0 rfl) ?_
          refine lv_if_ne (tgt := 168) hx hb dX12_more3_126 (by decide) (fun q => ?_) (fun q => ?_)
          · replace hf := zif_f q hf
            refine lv_iload_n hx hb dX12_more3_168 rfl (lv_at hl 0 rfl) ?_
            refine lv_iconst (v := 2) hx hb dX12_more3_169 (by decide) ?_
            refine lv_icmp_ne (tgt := 184) hx hb dX12_more3_170 (by decide) (fun q => ?_) (fun q => ?_)
            · replace hf := zif_f q hf
              refine lv_aload_n hx hb dX12_more3_184 rfl (lv_at hl 1 rfl) ?_
              refine lv_iload_n hx hb dX12_more3_185 rfl (lv_at hl 0 rfl) ?_
              refine lv_iconst (v := 1) hx hb dX12_more3_186 (by decide) ?_
              refine lv_icmp_ne (tgt := 195) hx hb dX12_more3_187 (by decide) (fun q => ?_) (fun q => ?_)
              · replace hf := zif_f q hf
                refine lv_bipush (v := 17) hx hb dX12_more3_195 (by decide) ?_
                exact bX12_more3_r1_197 hC  hI (lv_sub hl [] rfl) hf
              replace hf := zif_t q hf
              refine lv_bipush (v := 16) hx hb dX12_more3_190 (by decide) ?_
              refine lv_goto (tgt := 197) hx hb dX12_more3_192 (by decide) ?_
              exact bX12_more3_r1_197 hC  hI (lv_sub hl [] rfl) hf
            replace hf := zif_t q hf
            refine lv_aload_n hx hb dX12_more3_173 rfl (lv_at hl 1 rfl) ?_
            refine lv_aload_n hx hb dX12_more3_174 rfl (lv_at hl 1 rfl) ?_
            obtain ⟨σ5, v6, g5, hf⟩ := zbi_use hf
            refine z_callVi (As := []) (rest := [.ref (ad 0)]) hC hI (cX12_fetch_met st l D ad cy σ  _ g5) (zgV zw49_22 zw49_23 zw50_0 zw1_5 zw50_1) rfl ⟨rfl, rfl⟩ 0 hdX12_fetch ⟨Nat.le_of_ble_eq_true rfl, Nat.le_of_ble_eq_true rfl⟩ rfl rfl (wM_e0 ad cy σ) rfl hl rfl (Nat.le_of_ble_eq_true rfl) dX12_more3_175 ⟨Nat.zero_le _, Nat.zero_le _⟩ (fun H locs hI => ?_)
            obtain ⟨σ7, v8, g7, hf⟩ := zbi_use hf
            refine z_callVi (As := [.int v6]) (rest := []) hC hI (cX12_more_met st l D ad cy σ5 v6 _ g7) (zgV zw58_2 zw58_3 zw58_4 zw1_5 zw58_5) rfl ⟨rfl, rfl⟩ 1 hdX12_more ⟨Nat.le_of_ble_eq_true rfl, Nat.le_of_ble_eq_true rfl⟩ rfl rfl (wM_e0 ad cy σ5) rfl hl rfl (Nat.le_of_ble_eq_true rfl) dX12_more3_178 ⟨Nat.zero_le _, Nat.zero_le _⟩ (fun H locs hI => ?_)
            refine lv_goto (tgt := 200) hx hb dX12_more3_181 (by decide) ?_
            exact bX12_more3_r1_200 hC  hI (lv_sub hl [] rfl) hf
          replace hf := zif_t q hf
          refine lv_aload_n hx hb dX12_more3_129 rfl (lv_at hl 1 rfl) ?_
          refine z_get hC hI hinX12_more3_r1_X120 0 (wM_e0 ad cy σ) rfl 10 (by decide) (List.mem_cons_of_mem _ zw9_7) rfl dX12_more3_130 ?_
          refine lv_bipush (v := 20) hx hb dX12_more3_133 (by decide) ?_
          refine lv_aload_n hx hb dX12_more3_135 rfl (lv_at hl 1 rfl) ?_
          obtain ⟨σ9, v10, g9, hf⟩ := zbi_use hf
          refine z_callVi (As := []) (rest := [.int 20, .ref (ad 3)]) hC hI (cX12_nextWord_met st l D ad cy σ  _ g9) (zgV zw51_9 zw51_10 zw51_11 zw1_5 zw51_12) rfl ⟨rfl, rfl⟩ 0 hdX12_nextWord ⟨Nat.le_of_ble_eq_true rfl, Nat.le_of_ble_eq_true rfl⟩ rfl rfl (wM_e0 ad cy σ) rfl hl rfl (Nat.le_of_ble_eq_true rfl) dX12_more3_136 ⟨Nat.zero_le _, Nat.zero_le _⟩ (fun H locs hI => ?_)
          obtain ⟨q, hf⟩ := zck_use hf
          obtain ⟨σ11, eσ11⟩ : ∃ z, z = zsi σ9 3 ((20 : Int32).toNatClampNeg) v10 := ⟨_, rfl⟩
          replace hf := zbv_use eσ11 hf
          refine z_iast hC hI 3 2 (wM_e3 ad cy σ9) (tM_t3 cy) q ((wM_s3 ad cy σ9 _ _).trans (congrArg (wM ad cy) eσ11.symm)) dX12_more3_139 (fun H locs hI => ?_)
          refine lv_aload_n hx hb dX12_more3_140 rfl (lv_at hl 1 rfl) ?_
          refine lv_aload_n hx hb dX12_more3_141 rfl (lv_at hl 1 rfl) ?_
          refine z_get hC hI hinX12_more3_r1_X120 0 (wM_e0 ad cy σ11) rfl 10 (by decide) (List.mem_cons_of_mem _ zw9_7) rfl dX12_more3_142 ?_
          refine lv_bipush (v := 19) hx hb dX12_more3_145 (by decide) ?_
          obtain ⟨q, hf⟩ := zck_use hf
          refine z_iald hC hI 3 2 (wM_e3 ad cy σ11) (tM_t3 cy) q dX12_more3_147 ?_
          obtain ⟨σ12, g12, hf⟩ := zbu_use hf
          refine z_callVu (As := [.int (zgi σ11 3 (19 : Int32).toNatClampNeg)]) (rest := []) hC hI (cX12_push_met st l D ad cy σ11 (zgi σ11 3 (19 : Int32).toNatClampNeg) _ g12) (zgV zw48_1 zw48_2 zw48_3 zw1_5 zw48_4) rfl ⟨rfl, rfl⟩ 1 hdX12_push ⟨Nat.le_of_ble_eq_true rfl, Nat.le_of_ble_eq_true rfl⟩ rfl rfl (wM_e0 ad cy σ11) rfl hl rfl (Nat.le_of_ble_eq_true rfl) dX12_more3_148 ⟨Nat.zero_le _, Nat.zero_le _⟩ (fun H locs hI => ?_)
          refine lv_aload_n hx hb dX12_more3_151 rfl (lv_at hl 1 rfl) ?_
          refine z_get hC hI hinX12_more3_r1_X120 0 (wM_e0 ad cy σ12) rfl 10 (by decide) (List.mem_cons_of_mem _ zw9_7) rfl dX12_more3_152 ?_
          refine lv_bipush (v := 19) hx hb dX12_more3_155 (by decide) ?_
          refine lv_aload_n hx hb dX12_more3_157 rfl (lv_at hl 1 rfl) ?_
          refine z_get hC hI hinX12_more3_r1_X120 0 (wM_e0 ad cy σ12) rfl 10 (by decide) (List.mem_cons_of_mem _ zw9_7) rfl dX12_more3_158 ?_
          refine lv_bipush (v := 20) hx hb dX12_more3_161 (by decide) ?_
          obtain ⟨q, hf⟩ := zck_use hf
          refine z_iald hC hI 3 2 (wM_e3 ad cy σ12) (tM_t3 cy) q dX12_more3_163 ?_
          obtain ⟨q, hf⟩ := zck_use hf
          obtain ⟨σ13, eσ13⟩ : ∃ z, z = zsi σ12 3 ((19 : Int32).toNatClampNeg) (zgi σ12 3 (20 : Int32).toNatClampNeg) := ⟨_, rfl⟩
          replace hf := zbv_use eσ13 hf
          refine z_iast hC hI 3 2 (wM_e3 ad cy σ12) (tM_t3 cy) q ((wM_s3 ad cy σ12 _ _).trans (congrArg (wM ad cy) eσ13.symm)) dX12_more3_164 (fun H locs hI => ?_)
          refine lv_bipush (v := 17) hx hb dX12_more3_165 (by decide) ?_
          exact z_ireturn hC hI hf dX12_more3_167
        replace hf := zif_t q hf
        refine lv_aload_n hx hb dX12_more3_100 rfl (lv_at hl 1 rfl) ?_
        refine lv_iload_n hx hb dX12_more3_101 rfl (lv_at hl 0 rfl) ?_
        refine lv_iconst (v := 3) hx hb dX12_more3_102 (by decide) ?_
        refine lv_icmp_ne (tgt := 114) hx hb dX12_more3_103 (by decide) (fun q => ?_) (fun q => ?_)
        · replace hf := zif_f q hf
          refine lv_aload_n hx hb dX12_more3_114 rfl (lv_at hl 1 rfl) ?_
          refine lv_iload_n hx hb dX12_more3_115 rfl (lv_at hl 0 rfl) ?_
          obtain ⟨σ14, v15, g14, hf⟩ := zbi_use hf
          refine z_callVi (As := [.int v4]) (rest := [.ref (ad 0)]) hC hI (cX12_rp_met st l D ad cy σ v4 _ g14) (zgV zw52_9 zw52_10 zw52_11 zw1_5 zw52_12) rfl ⟨rfl, rfl⟩ 1 hdX12_rp ⟨Nat.le_of_ble_eq_true rfl, Nat.le_of_ble_eq_true rfl⟩ rfl rfl (wM_e0 ad cy σ) rfl hl rfl (Nat.le_of_ble_eq_true rfl) dX12_more3_116 ⟨Nat.zero_le _, Nat.zero_le _⟩ (fun H locs hI => ?_)
          exact bX12_more3_r1_119 hC  hI (lv_sub hl [] rfl) hf
        replace hf := zif_t q hf
        refine lv_aload_n hx hb dX12_more3_106 rfl (lv_at hl 1 rfl) ?_
        refine lv_iconst (v := 0) hx hb dX12_more3_107 (by decide) ?_
        obtain ⟨σ16, v17, g16, hf⟩ := zbi_use hf
        refine z_callVi (As := [.int 0]) (rest := [.ref (ad 0)]) hC hI (cX12_pair_met st l D ad cy σ 0 _ g16) (zgV zw52_5 zw52_6 zw52_7 zw1_5 zw52_8) rfl ⟨rfl, rfl⟩ 1 hdX12_pair ⟨Nat.le_of_ble_eq_true rfl, Nat.le_of_ble_eq_true rfl⟩ rfl rfl (wM_e0 ad cy σ) rfl hl rfl (Nat.le_of_ble_eq_true rfl) dX12_more3_108 ⟨Nat.zero_le _, Nat.zero_le _⟩ (fun H locs hI => ?_)
        refine lv_goto (tgt := 119) hx hb dX12_more3_111 (by decide) ?_
        exact bX12_more3_r1_119 hC  hI (lv_sub hl [] rfl) hf
      replace hf := zif_t q hf
      refine lv_aload_n hx hb dX12_more3_83 rfl (lv_at hl 1 rfl) ?_
      refine lv_bipush (v := 8) hx hb dX12_more3_84 (by decide) ?_
      refine lv_iload_n hx hb dX12_more3_86 rfl (lv_at hl 2 rfl) ?_
      refine lv_imul hx hb dX12_more3_87 ?_
      obtain ⟨σ18, g18, hf⟩ := zbu_use hf
      refine z_callVu (As := [.int (8 * x1)]) (rest := []) hC hI (cX12_call_met st l D ad cy σ (8 * x1) _ g18) (zgV zw47_21 zw47_22 zw47_23 zw1_5 zw48_0) rfl ⟨rfl, rfl⟩ 1 hdX12_call ⟨Nat.le_of_ble_eq_true rfl, Nat.le_of_ble_eq_true rfl⟩ rfl rfl (wM_e0 ad cy σ) rfl hl rfl (Nat.le_of_ble_eq_true rfl) dX12_more3_88 ⟨Nat.zero_le _, Nat.zero_le _⟩ (fun H locs hI => ?_)
      refine lv_bipush (v := 11) hx hb dX12_more3_91 (by decide) ?_
      exact z_ireturn hC hI hf dX12_more3_93
    replace hf := zif_t q hf
    refine lv_aload_n hx hb dX12_more3_65 rfl (lv_at hl 1 rfl) ?_
    refine lv_iload_n hx hb dX12_more3_66 rfl (lv_at hl 2 rfl) ?_
    refine lv_aload_n hx hb dX12_more3_67 rfl (lv_at hl 1 rfl) ?_
    obtain ⟨σ19, v20, g19, hf⟩ := zbi_use hf
    refine z_callVi (As := []) (rest := [.int x1, .ref (ad 0)]) hC hI (cX12_next_met st l D ad cy σ  _ g19) (zgV zw50_2 zw50_3 zw50_4 zw1_5 zw50_5) rfl ⟨rfl, rfl⟩ 0 hdX12_next ⟨Nat.le_of_ble_eq_true rfl, Nat.le_of_ble_eq_true rfl⟩ rfl rfl (wM_e0 ad cy σ) rfl hl rfl (Nat.le_of_ble_eq_true rfl) dX12_more3_68 ⟨Nat.zero_le _, Nat.zero_le _⟩ (fun H locs hI => ?_)
    obtain ⟨σ21, g21, hf⟩ := zbu_use hf
    refine z_callVu (As := [.int x1, .int v20]) (rest := []) hC hI (cX12_does_met st l D ad cy σ19 x1 v20 _ g21) (zgV zw54_13 zw54_14 zw54_15 zw1_5 zw54_16) rfl ⟨rfl, rfl⟩ 2 hdX12_does ⟨Nat.le_of_ble_eq_true rfl, Nat.le_of_ble_eq_true rfl⟩ rfl rfl (wM_e0 ad cy σ19) rfl hl rfl (Nat.le_of_ble_eq_true rfl) dX12_more3_71 ⟨Nat.zero_le _, Nat.zero_le _⟩ (fun H locs hI => ?_)
    refine lv_bipush (v := 7) hx hb dX12_more3_74 (by decide) ?_
    exact z_ireturn hC hI hf dX12_more3_76
  replace hf := zif_t q hf
  refine lv_aload_n hx hb dX12_more3_9 rfl (lv_at hl 1 rfl) ?_
  refine z_get hC hI hinX12_more3_r1_X120 0 (wM_e0 ad cy σ) rfl 10 (by decide) (List.mem_cons_of_mem _ zw9_7) rfl dX12_more3_10 ?_
  refine lv_bipush (v := 20) hx hb dX12_more3_13 (by decide) ?_
  refine lv_aload_n hx hb dX12_more3_15 rfl (lv_at hl 1 rfl) ?_
  obtain ⟨σ22, v23, g22, hf⟩ := zbi_use hf
  refine z_callVi (As := []) (rest := [.int 20, .ref (ad 3)]) hC hI (cX12_nextWord_met st l D ad cy σ  _ g22) (zgV zw51_9 zw51_10 zw51_11 zw1_5 zw51_12) rfl ⟨rfl, rfl⟩ 0 hdX12_nextWord ⟨Nat.le_of_ble_eq_true rfl, Nat.le_of_ble_eq_true rfl⟩ rfl rfl (wM_e0 ad cy σ) rfl hl rfl (Nat.le_of_ble_eq_true rfl) dX12_more3_16 ⟨Nat.zero_le _, Nat.zero_le _⟩ (fun H locs hI => ?_)
  obtain ⟨q, hf⟩ := zck_use hf
  obtain ⟨σ24, eσ24⟩ : ∃ z, z = zsi σ22 3 ((20 : Int32).toNatClampNeg) v23 := ⟨_, rfl⟩
  replace hf := zbv_use eσ24 hf
  refine z_iast hC hI 3 2 (wM_e3 ad cy σ22) (tM_t3 cy) q ((wM_s3 ad cy σ22 _ _).trans (congrArg (wM ad cy) eσ24.symm)) dX12_more3_19 (fun H locs hI => ?_)
  refine lv_aload_n hx hb dX12_more3_20 rfl (lv_at hl 1 rfl) ?_
  refine lv_iload_n hx hb dX12_more3_21 rfl (lv_at hl 2 rfl) ?_
  obtain ⟨σ25, v26, g25, hf⟩ := zbi_use hf
  refine z_callVi (As := [.int x1]) (rest := []) hC hI (cX12_cc_met st l D ad cy σ24 x1 _ g25) (zgV zw50_21 zw50_22 zw50_23 zw1_5 zw51_0) rfl ⟨rfl, rfl⟩ 1 hdX12_cc ⟨Nat.le_of_ble_eq_true rfl, Nat.le_of_ble_eq_true rfl⟩ rfl rfl (wM_e0 ad cy σ24) rfl hl rfl (Nat.le_of_ble_eq_true rfl) dX12_more3_22 ⟨Nat.zero_le _, Nat.zero_le _⟩ (fun H locs hI => ?_)
  refine lv_if_ne (tgt := 31) hx hb dX12_more3_25 (by decide) (fun q => ?_) (fun q => ?_)
  · replace hf := zif_f q hf
    refine lv_aload_n hx hb dX12_more3_31 rfl (lv_at hl 1 rfl) ?_
    refine lv_aload_n hx hb dX12_more3_32 rfl (lv_at hl 1 rfl) ?_
    refine z_get hC hI hinX12_more3_r1_X120 0 (wM_e0 ad cy σ25) rfl 10 (by decide) (List.mem_cons_of_mem _ zw9_7) rfl dX12_more3_33 ?_
    refine lv_bipush (v := 19) hx hb dX12_more3_36 (by decide) ?_
    obtain ⟨q, hf⟩ := zck_use hf
    refine z_iald hC hI 3 2 (wM_e3 ad cy σ25) (tM_t3 cy) q dX12_more3_38 ?_
    obtain ⟨σ27, g27, hf⟩ := zbu_use hf
    refine z_callVu (As := [.int (zgi σ25 3 (19 : Int32).toNatClampNeg)]) (rest := []) hC hI (cX12_push_met st l D ad cy σ25 (zgi σ25 3 (19 : Int32).toNatClampNeg) _ g27) (zgV zw48_1 zw48_2 zw48_3 zw1_5 zw48_4) rfl ⟨rfl, rfl⟩ 1 hdX12_push ⟨Nat.le_of_ble_eq_true rfl, Nat.le_of_ble_eq_true rfl⟩ rfl rfl (wM_e0 ad cy σ25) rfl hl rfl (Nat.le_of_ble_eq_true rfl) dX12_more3_39 ⟨Nat.zero_le _, Nat.zero_le _⟩ (fun H locs hI => ?_)
    refine lv_aload_n hx hb dX12_more3_42 rfl (lv_at hl 1 rfl) ?_
    refine z_get hC hI hinX12_more3_r1_X120 0 (wM_e0 ad cy σ27) rfl 10 (by decide) (List.mem_cons_of_mem _ zw9_7) rfl dX12_more3_43 ?_
    refine lv_bipush (v := 19) hx hb dX12_more3_46 (by decide) ?_
    refine lv_aload_n hx hb dX12_more3_48 rfl (lv_at hl 1 rfl) ?_
    refine z_get hC hI hinX12_more3_r1_X120 0 (wM_e0 ad cy σ27) rfl 10 (by decide) (List.mem_cons_of_mem _ zw9_7) rfl dX12_more3_49 ?_
    refine lv_bipush (v := 20) hx hb dX12_more3_52 (by decide) ?_
    obtain ⟨q, hf⟩ := zck_use hf
    refine z_iald hC hI 3 2 (wM_e3 ad cy σ27) (tM_t3 cy) q dX12_more3_54 ?_
    obtain ⟨q, hf⟩ := zck_use hf
    obtain ⟨σ28, eσ28⟩ : ∃ z, z = zsi σ27 3 ((19 : Int32).toNatClampNeg) (zgi σ27 3 (20 : Int32).toNatClampNeg) := ⟨_, rfl⟩
    replace hf := zbv_use eσ28 hf
    refine z_iast hC hI 3 2 (wM_e3 ad cy σ27) (tM_t3 cy) q ((wM_s3 ad cy σ27 _ _).trans (congrArg (wM ad cy) eσ28.symm)) dX12_more3_55 (fun H locs hI => ?_)
    refine lv_bipush (v := 17) hx hb dX12_more3_56 (by decide) ?_
    exact z_ireturn hC hI hf dX12_more3_58
  replace hf := zif_t q hf
  refine lv_bipush (v := 10) hx hb dX12_more3_28 (by decide) ?_
  exact z_ireturn hC hI hf dX12_more3_30
set_option maxRecDepth 20000 in
theorem cX12_more3_r1_met (st : Nat → Nat) (l : Launch) (D : va_G) (ad : Nat → Nat) (cy : Nat → ClassId) (σ : zSt) (x1 : Int32) (x2 : Int32) (res : zSt × Int32) (hf : fX12_more3_r1 σ x1 x2 = some res) (sz : Nat) : zMi st l yX12_more3 wzX12_more3 rmX12_more3_r1 [.ref (ad 0), .int x1, .int x2] D (tM cy) (wM ad cy) sz σ res :=
  zMi.of (cc := cX12_more3) (maxL := 4) (ret := (some .int)) (by decide) rfl (Nat.le_of_ble_eq_true rfl) (fun p e s m args below meth c hC A hI ls hl => bX12_more3_r1 hC hI hl hf)
theorem hdX12_more3_r1 : yX12_more3.cls = RX12 ∧ yX12_more3.cls ≠ "java/lang/invoke/MethodHandle" ∧ yX12_more3.cls ≠ "java/lang/invoke/VarHandle" ∧ (parseMethodDescriptor yX12_more3.desc).map (fun d => d.parameters.length) = some 2 := by decide +kernel
def rmX12_jump : Room := { frames := 0, cells := 0, slots := 0, locals := 0 }
def wzX12_jump : List Cond := .code yX12_jump cX12_jump 2 none :: wsL_law
theorem hinX12_jump_X120 : ∀ w ∈ wsX120, w ∈ wzX12_jump := fun w h => List.mem_cons_of_mem _ (inlX12 w h)
def fX12_jump  (σ : zSt) (x1 : Int32) : Option (zSt) :=
  zck (zin 19 1048) (
  zck (zin 19 1048) (zbv (zsi σ 3 ((19 : Int32).toNatClampNeg) (((zgi σ 3 (19 : Int32).toNatClampNeg) + x1) &&& 65535)) (fun σ1 =>
  zck (zin 19 1048) (
  zck (zin 20 1048) (zbv (zsi σ1 3 ((20 : Int32).toNatClampNeg) (zgi σ1 3 (19 : Int32).toNatClampNeg)) (fun σ2 =>
  some σ2))))))
set_option maxRecDepth 20000 in
set_option maxHeartbeats 4000000 in
theorem bX12_jump {st : Nat → Nat} {p : Program} {l : Launch} {e : Env} {s : State} {m : MethodId} {args : Array Value} {below : List Frame} {meth : Method} {c : Code} {D : va_G} {A : Nat → Prop} {ad : Nat → Nat} {cy : Nat → ClassId} (hC : zC p m c cX12_jump 2 s args wzX12_jump RX12 meth none)  {res : zSt} {H : Heap} {locs : List Loc} {σ : zSt} {ls : Array Slot} {x1 : Int32} (hI : zI st D (tM cy) (wM ad cy σ) A s H locs) (hl : lv_has ls 2 [(0, .ref (ad 0)), (1, .int x1)]) (hf : fX12_jump  σ x1 = some res) : W p l e rmX12_jump s m args below meth c H locs 0 0 (zQu below args s D (tM cy) (wM ad cy) A res) (F0 m 0 ls []) := by
  have hx := hC.1
  have hb := hC.2.1
  unfold fX12_jump at hf
  refine lv_aload_n hx hb dX12_jump_0 rfl (lv_at hl 0 rfl) ?_
  refine z_get hC hI hinX12_jump_X120 0 (wM_e0 ad cy σ) rfl 10 (by decide) (List.mem_cons_of_mem _ zw9_7) rfl dX12_jump_1 ?_
  refine lv_bipush (v := 19) hx hb dX12_jump_4 (by decide) ?_
  refine lv_aload_n hx hb dX12_jump_6 rfl (lv_at hl 0 rfl) ?_
  refine z_get hC hI hinX12_jump_X120 0 (wM_e0 ad cy σ) rfl 10 (by decide) (List.mem_cons_of_mem _ zw9_7) rfl dX12_jump_7 ?_
  refine lv_bipush (v := 19) hx hb dX12_jump_10 (by decide) ?_
  obtain ⟨q, hf⟩ := zck_use hf
  refine z_iald hC hI 3 2 (wM_e3 ad cy σ) (tM_t3 cy) q dX12_jump_12 ?_
  refine lv_iload_n hx hb dX12_jump_13 rfl (lv_at hl 1 rfl) ?_
  refine lv_iadd hx hb dX12_jump_14 ?_
  refine lv_ldc (v := 65535) hx hb hC.2.2.2.1 (hC.2.2.2.2.1 _ (List.mem_cons_of_mem _ zw16_11)) dX12_jump_15 ?_
  refine lv_iand hx hb dX12_jump_17 ?_
  obtain ⟨q, hf⟩ := zck_use hf
  obtain ⟨σ1, eσ1⟩ : ∃ z, z = zsi σ 3 ((19 : Int32).toNatClampNeg) (((zgi σ 3 (19 : Int32).toNatClampNeg) + x1) &&& 65535) := ⟨_, rfl⟩
  replace hf := zbv_use eσ1 hf
  refine z_iast hC hI 3 2 (wM_e3 ad cy σ) (tM_t3 cy) q ((wM_s3 ad cy σ _ _).trans (congrArg (wM ad cy) eσ1.symm)) dX12_jump_18 (fun H locs hI => ?_)
  refine lv_aload_n hx hb dX12_jump_19 rfl (lv_at hl 0 rfl) ?_
  refine z_get hC hI hinX12_jump_X120 0 (wM_e0 ad cy σ1) rfl 10 (by decide) (List.mem_cons_of_mem _ zw9_7) rfl dX12_jump_20 ?_
  refine lv_bipush (v := 20) hx hb dX12_jump_23 (by decide) ?_
  refine lv_aload_n hx hb dX12_jump_25 rfl (lv_at hl 0 rfl) ?_
  refine z_get hC hI hinX12_jump_X120 0 (wM_e0 ad cy σ1) rfl 10 (by decide) (List.mem_cons_of_mem _ zw9_7) rfl dX12_jump_26 ?_
  refine lv_bipush (v := 19) hx hb dX12_jump_29 (by decide) ?_
  obtain ⟨q, hf⟩ := zck_use hf
  refine z_iald hC hI 3 2 (wM_e3 ad cy σ1) (tM_t3 cy) q dX12_jump_31 ?_
  obtain ⟨q, hf⟩ := zck_use hf
  obtain ⟨σ2, eσ2⟩ : ∃ z, z = zsi σ1 3 ((20 : Int32).toNatClampNeg) (zgi σ1 3 (19 : Int32).toNatClampNeg) := ⟨_, rfl⟩
  replace hf := zbv_use eσ2 hf
  refine z_iast hC hI 3 2 (wM_e3 ad cy σ1) (tM_t3 cy) q ((wM_s3 ad cy σ1 _ _).trans (congrArg (wM ad cy) eσ2.symm)) dX12_jump_32 (fun H locs hI => ?_)
  exact z_return hC hI hf dX12_jump_33
set_option maxRecDepth 20000 in
theorem cX12_jump_met (st : Nat → Nat) (l : Launch) (D : va_G) (ad : Nat → Nat) (cy : Nat → ClassId) (σ : zSt) (x1 : Int32) (res : zSt) (hf : fX12_jump σ x1 = some res) (sz : Nat) : zMu st l yX12_jump wzX12_jump rmX12_jump [.ref (ad 0), .int x1] D (tM cy) (wM ad cy) sz σ res :=
  zMu.of (cc := cX12_jump) (maxL := 2) (ret := none) (by decide) rfl (Nat.le_of_ble_eq_true rfl) (fun p e s m args below meth c hC A hI ls hl => bX12_jump hC hI hl hf)
theorem hdX12_jump : yX12_jump.cls = RX12 ∧ yX12_jump.cls ≠ "java/lang/invoke/MethodHandle" ∧ yX12_jump.cls ≠ "java/lang/invoke/VarHandle" ∧ (parseMethodDescriptor yX12_jump.desc).map (fun d => d.parameters.length) = some 1 := by decide +kernel
def rmX12_moves : Room := { frames := 4, cells := 0, slots := 0, locals := 86 }
def wzX12_moves : List Cond := .code yX12_moves cX12_moves 4 (some .int) :: wsL_law
theorem hinX12_moves_X120 : ∀ w ∈ wsX120, w ∈ wzX12_moves := fun w h => List.mem_cons_of_mem _ (inlX12 w h)
def fX12_moves_85  (σ : zSt)  : Option (zSt × Int32) :=
  some (σ, 7)
def fX12_moves_15  (σ : zSt) (x2 : Int32) (s0 : Int32) : Option (zSt × Int32) :=
  zbi (fX12_pair σ s0) (fun σ1 v2 =>
  if x2 = 0 then zck (zin 0 1048) (
  zbu (fX12_write σ1 v2 (zgi σ1 3 (0 : Int32).toNatClampNeg)) (fun σ3 =>
  zck (zin 0 1048) (
  zck (zin 20 1048) (zbv (zsi σ3 3 ((20 : Int32).toNatClampNeg) (((zgi σ3 3 (0 : Int32).toNatClampNeg) <<< ((8 : Int32) &&& 31)) ||| ((v2 + 1) &&& 255))) (fun σ4 =>
  fX12_moves_85 σ4))))) else
  zbi (fX12_read σ1 v2) (fun σ5 v6 =>
  zck (zin 0 1048) (zbv (zsi σ5 3 ((0 : Int32).toNatClampNeg) v6) (fun σ7 =>
  zck (zin 20 1048) (zbv (zsi σ7 3 ((20 : Int32).toNatClampNeg) ((v2 + 1) &&& 65535)) (fun σ8 =>
  fX12_moves_85 σ8))))))
def fX12_moves_214  (σ : zSt) (s0 : Int32) : Option (zSt × Int32) :=
  some (σ, s0)
def fX12_moves_201  (σ : zSt) (x1 : Int32) (s0 : Int32) (s1 : Int32) : Option (zSt × Int32) :=
  zck (zin s1 1048) (zbv (zsi σ 3 (s1.toNatClampNeg) s0) (fun σ9 =>
  if x1 = 2 then fX12_moves_214 σ9 16 else
  fX12_moves_214 σ9 13))
def fX12_moves_195  (σ : zSt) (x1 : Int32) (x3 : Int32) (s0 : Int32) : Option (zSt × Int32) :=
  fX12_moves_201 σ x1 ((x3 + 1) &&& 65535) s0
def fX12_moves_160  (σ : zSt) (x1 : Int32) (x2 : Int32) (x3 : Int32) : Option (zSt × Int32) :=
  if x1 = 3 then if x2 = 0 then zck (zin 0 1048) (
  fX12_moves_201 σ x1 (((zgi σ 3 (0 : Int32).toNatClampNeg) <<< ((8 : Int32) &&& 31)) ||| ((x3 + 1) &&& 255)) 20) else
  fX12_moves_195 σ x1 x3 20 else
  fX12_moves_195 σ x1 x3 20
def fX12_moves_114  (σ : zSt) (x1 : Int32) (x2 : Int32) (x3 : Int32) : Option (zSt × Int32) :=
  if x1 = 2 then zbi (fX12_hl σ ) (fun σ14 v15 =>
  zbu (fX12_wordTo σ14 x3 v15) (fun σ16 =>
  fX12_moves_160 σ16 x1 x2 x3)) else
  if x2 = 0 then zck (zin 0 1048) (
  zbu (fX12_write σ x3 (zgi σ 3 (0 : Int32).toNatClampNeg)) (fun σ10 =>
  fX12_moves_160 σ10 x1 x2 x3)) else
  zbi (fX12_read σ x3) (fun σ11 v12 =>
  zck (zin 0 1048) (zbv (zsi σ11 3 ((0 : Int32).toNatClampNeg) v12) (fun σ13 =>
  fX12_moves_160 σ13 x1 x2 x3)))
def fX12_moves  (σ : zSt) (x1 : Int32) (x2 : Int32) : Option (zSt × Int32) :=
  if 2 ≤ x1 then zbi (fX12_nextWord σ ) (fun σ17 v18 =>
  if x1 = 2 then if x2 = 0 then fX12_moves_114 σ17 x1 x2 v18 else
  zbi (fX12_word σ17 v18) (fun σ19 v20 =>
  zbu (fX12_hlTo σ19 v20) (fun σ21 =>
  fX12_moves_160 σ21 x1 x2 v18)) else
  fX12_moves_114 σ17 x1 x2 v18) else
  if x1 = 0 then fX12_moves_15 σ x2 2 else
  fX12_moves_15 σ x2 4
set_option maxRecDepth 20000 in
set_option maxHeartbeats 4000000 in
theorem bX12_moves_85 {st : Nat → Nat} {p : Program} {l : Launch} {e : Env} {s : State} {m : MethodId} {args : Array Value} {below : List Frame} {meth : Method} {c : Code} {D : va_G} {A : Nat → Prop} {ad : Nat → Nat} {cy : Nat → ClassId} (hC : zC p m c cX12_moves 4 s args wzX12_moves RX12 meth (some .int))  {res : zSt × Int32} {H : Heap} {locs : List Loc} {σ : zSt} {ls : Array Slot}  (hI : zI st D (tM cy) (wM ad cy σ) A s H locs) (hl : lv_has ls 4 []) (hf : fX12_moves_85  σ  = some res) : W p l e rmX12_moves s m args below meth c H locs 0 0 (zQi below args s D (tM cy) (wM ad cy) A res) (F0 m 85 ls []) := by
  have hx := hC.1
  have hb := hC.2.1
  unfold fX12_moves_85 at hf
  refine lv_bipush (v := 7) hx hb dX12_moves_85 (by decide) ?_
  exact z_ireturn hC hI hf dX12_moves_87
set_option maxRecDepth 20000 in
set_option maxHeartbeats 4000000 in
theorem bX12_moves_15 {st : Nat → Nat} {p : Program} {l : Launch} {e : Env} {s : State} {m : MethodId} {args : Array Value} {below : List Frame} {meth : Method} {c : Code} {D : va_G} {A : Nat → Prop} {ad : Nat → Nat} {cy : Nat → ClassId} (hC : zC p m c cX12_moves 4 s args wzX12_moves RX12 meth (some .int))  {res : zSt × Int32} {H : Heap} {locs : List Loc} {σ : zSt} {ls : Array Slot} {x2 : Int32} {s0 : Int32} (hI : zI st D (tM cy) (wM ad cy σ) A s H locs) (hl : lv_has ls 4 [(0, .ref (ad 0)), (2, .int x2)]) (hf : fX12_moves_15  σ x2 s0 = some res) : W p l e rmX12_moves s m args below meth c H locs 0 0 (zQi below args s D (tM cy) (wM ad cy) A res) (F0 m 15 ls [.int s0, .ref (ad 0)]) := by
  have hx := hC.1
  have hb := hC.2.1
  unfold fX12_moves_15 at hf
  obtain ⟨σ1, v2, g1, hf⟩ := zbi_use hf
  refine z_callVi (As := [.int s0]) (rest := []) hC hI (cX12_pair_met st l D ad cy σ s0 _ g1) (zgV zw52_5 zw52_6 zw52_7 zw1_5 zw52_8) rfl ⟨rfl, rfl⟩ 1 hdX12_pair ⟨Nat.le_of_ble_eq_true rfl, Nat.le_of_ble_eq_true rfl⟩ rfl rfl (wM_e0 ad cy σ) rfl hl rfl (Nat.le_of_ble_eq_true rfl) dX12_moves_15 ⟨Nat.zero_le _, Nat.zero_le _⟩ (fun H locs hI => ?_)
  refine lv_istore_n (lv' := [(3, .int v2), (0, .ref (ad 0)), (2, .int x2)]) hx hb dX12_moves_18 rfl hl (by decide) rfl (fun ls hl => ?_)
  refine lv_iload_n hx hb dX12_moves_19 rfl (lv_at hl 2 rfl) ?_
  refine lv_if_eq (tgt := 50) hx hb dX12_moves_20 (by decide) (fun q => ?_) (fun q => ?_)
  · replace hf := zif_t q hf
    refine lv_aload_n hx hb dX12_moves_50 rfl (lv_at hl 1 rfl) ?_
    refine lv_iload_n hx hb dX12_moves_51 rfl (lv_at hl 0 rfl) ?_
    refine lv_aload_n hx hb dX12_moves_52 rfl (lv_at hl 1 rfl) ?_
    refine z_get hC hI hinX12_moves_X120 0 (wM_e0 ad cy σ1) rfl 10 (by decide) (List.mem_cons_of_mem _ zw9_7) rfl dX12_moves_53 ?_
    refine lv_iconst (v := 0) hx hb dX12_moves_56 (by decide) ?_
    obtain ⟨q, hf⟩ := zck_use hf
    refine z_iald hC hI 3 2 (wM_e3 ad cy σ1) (tM_t3 cy) q dX12_moves_57 ?_
    obtain ⟨σ3, g3, hf⟩ := zbu_use hf
    refine z_callVu (As := [.int v2, .int (zgi σ1 3 (0 : Int32).toNatClampNeg)]) (rest := []) hC hI (cX12_write_met st l D ad cy σ1 v2 (zgi σ1 3 (0 : Int32).toNatClampNeg) _ g3) (zgV zw48_5 zw48_6 zw48_7 zw1_5 zw48_8) rfl ⟨rfl, rfl⟩ 2 hdX12_write ⟨Nat.le_of_ble_eq_true rfl, Nat.le_of_ble_eq_true rfl⟩ rfl rfl (wM_e0 ad cy σ1) rfl hl rfl (Nat.le_of_ble_eq_true rfl) dX12_moves_58 ⟨Nat.zero_le _, Nat.zero_le _⟩ (fun H locs hI => ?_)
    refine lv_aload_n hx hb dX12_moves_61 rfl (lv_at hl 1 rfl) ?_
    refine z_get hC hI hinX12_moves_X120 0 (wM_e0 ad cy σ3) rfl 10 (by decide) (List.mem_cons_of_mem _ zw9_7) rfl dX12_moves_62 ?_
    refine lv_bipush (v := 20) hx hb dX12_moves_65 (by decide) ?_
    refine lv_aload_n hx hb dX12_moves_67 rfl (lv_at hl 1 rfl) ?_
    refine z_get hC hI hinX12_moves_X120 0 (wM_e0 ad cy σ3) rfl 10 (by decide) (List.mem_cons_of_mem _ zw9_7) rfl dX12_moves_68 ?_
    refine lv_iconst (v := 0) hx hb dX12_moves_71 (by decide) ?_
    obtain ⟨q, hf⟩ := zck_use hf
    refine z_iald hC hI 3 2 (wM_e3 ad cy σ3) (tM_t3 cy) q dX12_moves_72 ?_
    refine lv_bipush (v := 8) hx hb dX12_moves_73 (by decide) ?_
    refine lv_ishl hx hb dX12_moves_75 ?_
    refine lv_iload_n hx hb dX12_moves_76 rfl (lv_at hl 0 rfl) ?_
    refine lv_iconst (v := 1) hx hb dX12_moves_77 (by decide) ?_
    refine lv_iadd hx hb dX12_moves_78 ?_
    refine lv_sipush (v := 255) hx hb dX12_moves_79 (by decide) ?_
    refine lv_iand hx hb dX12_moves_82 ?_
    refine lv_ior hx hb dX12_moves_83 ?_
    obtain ⟨q, hf⟩ := zck_use hf
    obtain ⟨σ4, eσ4⟩ : ∃ z, z = zsi σ3 3 ((20 : Int32).toNatClampNeg) (((zgi σ3 3 (0 : Int32).toNatClampNeg) <<< ((8 : Int32) &&& 31)) ||| ((v2 + 1) &&& 255)) := ⟨_, rfl⟩
    replace hf := zbv_use eσ4 hf
    refine z_iast hC hI 3 2 (wM_e3 ad cy σ3) (tM_t3 cy) q ((wM_s3 ad cy σ3 _ _).trans (congrArg (wM ad cy) eσ4.symm)) dX12_moves_84 (fun H locs hI => ?_)
    exact bX12_moves_85 hC  hI (lv_sub hl [] rfl) hf
  replace hf := zif_f q hf
  refine lv_aload_n hx hb dX12_moves_23 rfl (lv_at hl 1 rfl) ?_
  refine z_get hC hI hinX12_moves_X120 0 (wM_e0 ad cy σ1) rfl 10 (by decide) (List.mem_cons_of_mem _ zw9_7) rfl dX12_moves_24 ?_
  refine lv_iconst (v := 0) hx hb dX12_moves_27 (by decide) ?_
  refine lv_aload_n hx hb dX12_moves_28 rfl (lv_at hl 1 rfl) ?_
  refine lv_iload_n hx hb dX12_moves_29 rfl (lv_at hl 0 rfl) ?_
  obtain ⟨σ5, v6, g5, hf⟩ := zbi_use hf
  refine z_callVi (As := [.int v2]) (rest := [.int 0, .ref (ad 3)]) hC hI (cX12_read_met st l D ad cy σ1 v2 _ g5) (zgV zw49_8 zw49_9 zw49_10 zw1_5 zw49_11) rfl ⟨rfl, rfl⟩ 1 hdX12_read ⟨Nat.le_of_ble_eq_true rfl, Nat.le_of_ble_eq_true rfl⟩ rfl rfl (wM_e0 ad cy σ1) rfl hl rfl (Nat.le_of_ble_eq_true rfl) dX12_moves_30 ⟨Nat.zero_le _, Nat.zero_le _⟩ (fun H locs hI => ?_)
  obtain ⟨q, hf⟩ := zck_use hf
  obtain ⟨σ7, eσ7⟩ : ∃ z, z = zsi σ5 3 ((0 : Int32).toNatClampNeg) v6 := ⟨_, rfl⟩
  replace hf := zbv_use eσ7 hf
  refine z_iast hC hI 3 2 (wM_e3 ad cy σ5) (tM_t3 cy) q ((wM_s3 ad cy σ5 _ _).trans (congrArg (wM ad cy) eσ7.symm)) dX12_moves_33 (fun H locs hI => ?_)
  refine lv_aload_n hx hb dX12_moves_34 rfl (lv_at hl 1 rfl) ?_
  refine z_get hC hI hinX12_moves_X120 0 (wM_e0 ad cy σ7) rfl 10 (by decide) (List.mem_cons_of_mem _ zw9_7) rfl dX12_moves_35 ?_
  refine lv_bipush (v := 20) hx hb dX12_moves_38 (by decide) ?_
  refine lv_iload_n hx hb dX12_moves_40 rfl (lv_at hl 0 rfl) ?_
  refine lv_iconst (v := 1) hx hb dX12_moves_41 (by decide) ?_
  refine lv_iadd hx hb dX12_moves_42 ?_
  refine lv_ldc (v := 65535) hx hb hC.2.2.2.1 (hC.2.2.2.2.1 _ (List.mem_cons_of_mem _ zw16_11)) dX12_moves_43 ?_
  refine lv_iand hx hb dX12_moves_45 ?_
  obtain ⟨q, hf⟩ := zck_use hf
  obtain ⟨σ8, eσ8⟩ : ∃ z, z = zsi σ7 3 ((20 : Int32).toNatClampNeg) ((v2 + 1) &&& 65535) := ⟨_, rfl⟩
  replace hf := zbv_use eσ8 hf
  refine z_iast hC hI 3 2 (wM_e3 ad cy σ7) (tM_t3 cy) q ((wM_s3 ad cy σ7 _ _).trans (congrArg (wM ad cy) eσ8.symm)) dX12_moves_46 (fun H locs hI => ?_)
  refine lv_goto (tgt := 85) hx hb dX12_moves_47 (by decide) ?_
  exact bX12_moves_85 hC  hI (lv_sub hl [] rfl) hf
set_option maxRecDepth 20000 in
set_option maxHeartbeats 4000000 in
theorem bX12_moves_214 {st : Nat → Nat} {p : Program} {l : Launch} {e : Env} {s : State} {m : MethodId} {args : Array Value} {below : List Frame} {meth : Method} {c : Code} {D : va_G} {A : Nat → Prop} {ad : Nat → Nat} {cy : Nat → ClassId} (hC : zC p m c cX12_moves 4 s args wzX12_moves RX12 meth (some .int))  {res : zSt × Int32} {H : Heap} {locs : List Loc} {σ : zSt} {ls : Array Slot} {s0 : Int32} (hI : zI st D (tM cy) (wM ad cy σ) A s H locs) (hl : lv_has ls 4 []) (hf : fX12_moves_214  σ s0 = some res) : W p l e rmX12_moves s m args below meth c H locs 0 0 (zQi below args s D (tM cy) (wM ad cy) A res) (F0 m 214 ls [.int s0]) := by
  have hx := hC.1
  have hb := hC.2.1
  unfold fX12_moves_214 at hf
  exact z_ireturn hC hI hf dX12_moves_214
set_option maxRecDepth 20000 in
set_option maxHeartbeats 4000000 in
theorem bX12_moves_201 {st : Nat → Nat} {p : Program} {l : Launch} {e : Env} {s : State} {m : MethodId} {args : Array Value} {below : List Frame} {meth : Method} {c : Code} {D : va_G} {A : Nat → Prop} {ad : Nat → Nat} {cy : Nat → ClassId} (hC : zC p m c cX12_moves 4 s args wzX12_moves RX12 meth (some .int))  {res : zSt × Int32} {H : Heap} {locs : List Loc} {σ : zSt} {ls : Array Slot} {x1 : Int32} {s0 : Int32} {s1 : Int32} (hI : zI st D (tM cy) (wM ad cy σ) A s H locs) (hl : lv_has ls 4 [(1, .int x1)]) (hf : fX12_moves_201  σ x1 s0 s1 = some res) : W p l e rmX12_moves s m args below meth c H locs 0 0 (zQi below args s D (tM cy) (wM ad cy) A res) (F0 m 201 ls [.int s0, .int s1, .ref (ad 3)]) := by
  have hx := hC.1
  have hb := hC.2.1
  unfold fX12_moves_201 at hf
  obtain ⟨q, hf⟩ := zck_use hf
  obtain ⟨σ9, eσ9⟩ : ∃ z, z = zsi σ 3 (s1.toNatClampNeg) s0 := ⟨_, rfl⟩
  replace hf := zbv_use eσ9 hf
  refine z_iast hC hI 3 2 (wM_e3 ad cy σ) (tM_t3 cy) q ((wM_s3 ad cy σ _ _).trans (congrArg (wM ad cy) eσ9.symm)) dX12_moves_201 (fun H locs hI => ?_)
  refine lv_iload_n hx hb dX12_moves_202 rfl (lv_at hl 0 rfl) ?_
  refine lv_iconst (v := 2) hx hb dX12_moves_203 (by decide) ?_
  refine lv_icmp_ne (tgt := 212) hx hb dX12_moves_204 (by decide) (fun q => ?_) (fun q => ?_)
  · replace hf := zif_f q hf
    refine lv_bipush (v := 13) hx hb dX12_moves_212 (by decide) ?_
    exact bX12_moves_214 hC  hI (lv_sub hl [] rfl) hf
  replace hf := zif_t q hf
  refine lv_bipush (v := 16) hx hb dX12_moves_207 (by decide) ?_
  refine lv_goto (tgt := 214) hx hb dX12_moves_209 (by decide) ?_
  exact bX12_moves_214 hC  hI (lv_sub hl [] rfl) hf
set_option maxRecDepth 20000 in
set_option maxHeartbeats 4000000 in
theorem bX12_moves_195 {st : Nat → Nat} {p : Program} {l : Launch} {e : Env} {s : State} {m : MethodId} {args : Array Value} {below : List Frame} {meth : Method} {c : Code} {D : va_G} {A : Nat → Prop} {ad : Nat → Nat} {cy : Nat → ClassId} (hC : zC p m c cX12_moves 4 s args wzX12_moves RX12 meth (some .int))  {res : zSt × Int32} {H : Heap} {locs : List Loc} {σ : zSt} {ls : Array Slot} {x1 : Int32} {x3 : Int32} {s0 : Int32} (hI : zI st D (tM cy) (wM ad cy σ) A s H locs) (hl : lv_has ls 4 [(1, .int x1), (3, .int x3)]) (hf : fX12_moves_195  σ x1 x3 s0 = some res) : W p l e rmX12_moves s m args below meth c H locs 0 0 (zQi below args s D (tM cy) (wM ad cy) A res) (F0 m 195 ls [.int s0, .ref (ad 3)]) := by
  have hx := hC.1
  have hb := hC.2.1
  unfold fX12_moves_195 at hf
  refine lv_iload_n hx hb dX12_moves_195 rfl (lv_at hl 1 rfl) ?_
  refine lv_iconst (v := 1) hx hb dX12_moves_196 (by decide) ?_
  refine lv_iadd hx hb dX12_moves_197 ?_
  refine lv_ldc (v := 65535) hx hb hC.2.2.2.1 (hC.2.2.2.2.1 _ (List.mem_cons_of_mem _ zw16_11)) dX12_moves_198 ?_
  refine lv_iand hx hb dX12_moves_200 ?_
  exact bX12_moves_201 hC  hI (lv_sub hl [0] rfl) hf
set_option maxRecDepth 20000 in
set_option maxHeartbeats 4000000 in
theorem bX12_moves_160 {st : Nat → Nat} {p : Program} {l : Launch} {e : Env} {s : State} {m : MethodId} {args : Array Value} {below : List Frame} {meth : Method} {c : Code} {D : va_G} {A : Nat → Prop} {ad : Nat → Nat} {cy : Nat → ClassId} (hC : zC p m c cX12_moves 4 s args wzX12_moves RX12 meth (some .int))  {res : zSt × Int32} {H : Heap} {locs : List Loc} {σ : zSt} {ls : Array Slot} {x1 : Int32} {x2 : Int32} {x3 : Int32} (hI : zI st D (tM cy) (wM ad cy σ) A s H locs) (hl : lv_has ls 4 [(0, .ref (ad 0)), (1, .int x1), (2, .int x2), (3, .int x3)]) (hf : fX12_moves_160  σ x1 x2 x3 = some res) : W p l e rmX12_moves s m args below meth c H locs 0 0 (zQi below args s D (tM cy) (wM ad cy) A res) (F0 m 160 ls []) := by
  have hx := hC.1
  have hb := hC.2.1
  unfold fX12_moves_160 at hf
  refine lv_aload_n hx hb dX12_moves_160 rfl (lv_at hl 0 rfl) ?_
  refine z_get hC hI hinX12_moves_X120 0 (wM_e0 ad cy σ) rfl 10 (by decide) (List.mem_cons_of_mem _ zw9_7) rfl dX12_moves_161 ?_
  refine lv_bipush (v := 20) hx hb dX12_moves_164 (by decide) ?_
  refine lv_iload_n hx hb dX12_moves_166 rfl (lv_at hl 1 rfl) ?_
  refine lv_iconst (v := 3) hx hb dX12_moves_167 (by decide) ?_
  refine lv_icmp_ne (tgt := 195) hx hb dX12_moves_168 (by decide) (fun q => ?_) (fun q => ?_)
  · replace hf := zif_f q hf
    exact bX12_moves_195 hC  hI (lv_sub hl [1, 3] rfl) hf
  replace hf := zif_t q hf
  refine lv_iload_n hx hb dX12_moves_171 rfl (lv_at hl 2 rfl) ?_
  refine lv_if_ne (tgt := 195) hx hb dX12_moves_172 (by decide) (fun q => ?_) (fun q => ?_)
  · replace hf := zif_f q hf
    exact bX12_moves_195 hC  hI (lv_sub hl [1, 3] rfl) hf
  replace hf := zif_t q hf
  refine lv_aload_n hx hb dX12_moves_175 rfl (lv_at hl 0 rfl) ?_
  refine z_get hC hI hinX12_moves_X120 0 (wM_e0 ad cy σ) rfl 10 (by decide) (List.mem_cons_of_mem _ zw9_7) rfl dX12_moves_176 ?_
  refine lv_iconst (v := 0) hx hb dX12_moves_179 (by decide) ?_
  obtain ⟨q, hf⟩ := zck_use hf
  refine z_iald hC hI 3 2 (wM_e3 ad cy σ) (tM_t3 cy) q dX12_moves_180 ?_
  refine lv_bipush (v := 8) hx hb dX12_moves_181 (by decide) ?_
  refine lv_ishl hx hb dX12_moves_183 ?_
  refine lv_iload_n hx hb dX12_moves_184 rfl (lv_at hl 3 rfl) ?_
  refine lv_iconst (v := 1) hx hb dX12_moves_185 (by decide) ?_
  refine lv_iadd hx hb dX12_moves_186 ?_
  refine lv_sipush (v := 255) hx hb dX12_moves_187 (by decide) ?_
  refine lv_iand hx hb dX12_moves_190 ?_
  refine lv_ior hx hb dX12_moves_191 ?_
  refine lv_goto (tgt := 201) hx hb dX12_moves_192 (by decide) ?_
  exact bX12_moves_201 hC  hI (lv_sub hl [1] rfl) hf
set_option maxRecDepth 20000 in
set_option maxHeartbeats 4000000 in
theorem bX12_moves_114 {st : Nat → Nat} {p : Program} {l : Launch} {e : Env} {s : State} {m : MethodId} {args : Array Value} {below : List Frame} {meth : Method} {c : Code} {D : va_G} {A : Nat → Prop} {ad : Nat → Nat} {cy : Nat → ClassId} (hC : zC p m c cX12_moves 4 s args wzX12_moves RX12 meth (some .int))  {res : zSt × Int32} {H : Heap} {locs : List Loc} {σ : zSt} {ls : Array Slot} {x1 : Int32} {x2 : Int32} {x3 : Int32} (hI : zI st D (tM cy) (wM ad cy σ) A s H locs) (hl : lv_has ls 4 [(0, .ref (ad 0)), (1, .int x1), (2, .int x2), (3, .int x3)]) (hf : fX12_moves_114  σ x1 x2 x3 = some res) : W p l e rmX12_moves s m args below meth c H locs 0 0 (zQi below args s D (tM cy) (wM ad cy) A res) (F0 m 114 ls []) := by
  have hx := hC.1
  have hb := hC.2.1
  unfold fX12_moves_114 at hf
  refine lv_iload_n hx hb dX12_moves_114 rfl (lv_at hl 1 rfl) ?_
  refine lv_iconst (v := 2) hx hb dX12_moves_115 (by decide) ?_
  refine lv_icmp_ne (tgt := 131) hx hb dX12_moves_116 (by decide) (fun q => ?_) (fun q => ?_)
  · replace hf := zif_f q hf
    refine lv_iload_n hx hb dX12_moves_131 rfl (lv_at hl 2 rfl) ?_
    refine lv_if_eq (tgt := 149) hx hb dX12_moves_132 (by decide) (fun q => ?_) (fun q => ?_)
    · replace hf := zif_t q hf
      refine lv_aload_n hx hb dX12_moves_149 rfl (lv_at hl 0 rfl) ?_
      refine lv_iload_n hx hb dX12_moves_150 rfl (lv_at hl 3 rfl) ?_
      refine lv_aload_n hx hb dX12_moves_151 rfl (lv_at hl 0 rfl) ?_
      refine z_get hC hI hinX12_moves_X120 0 (wM_e0 ad cy σ) rfl 10 (by decide) (List.mem_cons_of_mem _ zw9_7) rfl dX12_moves_152 ?_
      refine lv_iconst (v := 0) hx hb dX12_moves_155 (by decide) ?_
      obtain ⟨q, hf⟩ := zck_use hf
      refine z_iald hC hI 3 2 (wM_e3 ad cy σ) (tM_t3 cy) q dX12_moves_156 ?_
      obtain ⟨σ10, g10, hf⟩ := zbu_use hf
      refine z_callVu (As := [.int x3, .int (zgi σ 3 (0 : Int32).toNatClampNeg)]) (rest := []) hC hI (cX12_write_met st l D ad cy σ x3 (zgi σ 3 (0 : Int32).toNatClampNeg) _ g10) (zgV zw48_5 zw48_6 zw48_7 zw1_5 zw48_8) rfl ⟨rfl, rfl⟩ 2 hdX12_write ⟨Nat.le_of_ble_eq_true rfl, Nat.le_of_ble_eq_true rfl⟩ rfl rfl (wM_e0 ad cy σ) rfl hl rfl (Nat.le_of_ble_eq_true rfl) dX12_moves_157 ⟨Nat.zero_le _, Nat.zero_le _⟩ (fun H locs hI => ?_)
      exact bX12_moves_160 hC  hI hl hf
    replace hf := zif_f q hf
    refine lv_aload_n hx hb dX12_moves_135 rfl (lv_at hl 0 rfl) ?_
    refine z_get hC hI hinX12_moves_X120 0 (wM_e0 ad cy σ) rfl 10 (by decide) (List.mem_cons_of_mem _ zw9_7) rfl dX12_moves_136 ?_
    refine lv_iconst (v := 0) hx hb dX12_moves_139 (by decide) ?_
    refine lv_aload_n hx hb dX12_moves_140 rfl (lv_at hl 0 rfl) ?_
    refine lv_iload_n hx hb dX12_moves_141 rfl (lv_at hl 3 rfl) ?_
    obtain ⟨σ11, v12, g11, hf⟩ := zbi_use hf
    refine z_callVi (As := [.int x3]) (rest := [.int 0, .ref (ad 3)]) hC hI (cX12_read_met st l D ad cy σ x3 _ g11) (zgV zw49_8 zw49_9 zw49_10 zw1_5 zw49_11) rfl ⟨rfl, rfl⟩ 1 hdX12_read ⟨Nat.le_of_ble_eq_true rfl, Nat.le_of_ble_eq_true rfl⟩ rfl rfl (wM_e0 ad cy σ) rfl hl rfl (Nat.le_of_ble_eq_true rfl) dX12_moves_142 ⟨Nat.zero_le _, Nat.zero_le _⟩ (fun H locs hI => ?_)
    obtain ⟨q, hf⟩ := zck_use hf
    obtain ⟨σ13, eσ13⟩ : ∃ z, z = zsi σ11 3 ((0 : Int32).toNatClampNeg) v12 := ⟨_, rfl⟩
    replace hf := zbv_use eσ13 hf
    refine z_iast hC hI 3 2 (wM_e3 ad cy σ11) (tM_t3 cy) q ((wM_s3 ad cy σ11 _ _).trans (congrArg (wM ad cy) eσ13.symm)) dX12_moves_145 (fun H locs hI => ?_)
    refine lv_goto (tgt := 160) hx hb dX12_moves_146 (by decide) ?_
    exact bX12_moves_160 hC  hI hl hf
  replace hf := zif_t q hf
  refine lv_aload_n hx hb dX12_moves_119 rfl (lv_at hl 0 rfl) ?_
  refine lv_iload_n hx hb dX12_moves_120 rfl (lv_at hl 3 rfl) ?_
  refine lv_aload_n hx hb dX12_moves_121 rfl (lv_at hl 0 rfl) ?_
  obtain ⟨σ14, v15, g14, hf⟩ := zbi_use hf
  refine z_callVi (As := []) (rest := [.int x3, .ref (ad 0)]) hC hI (cX12_hl_met st l D ad cy σ  _ g14) (zgV zw52_1 zw52_2 zw52_3 zw1_5 zw52_4) rfl ⟨rfl, rfl⟩ 0 hdX12_hl ⟨Nat.le_of_ble_eq_true rfl, Nat.le_of_ble_eq_true rfl⟩ rfl rfl (wM_e0 ad cy σ) rfl hl rfl (Nat.le_of_ble_eq_true rfl) dX12_moves_122 ⟨Nat.zero_le _, Nat.zero_le _⟩ (fun H locs hI => ?_)
  obtain ⟨σ16, g16, hf⟩ := zbu_use hf
  refine z_callVu (As := [.int x3, .int v15]) (rest := []) hC hI (cX12_wordTo_met st l D ad cy σ14 x3 v15 _ g16) (zgV zw53_1 zw53_2 zw53_3 zw1_5 zw53_4) rfl ⟨rfl, rfl⟩ 2 hdX12_wordTo ⟨Nat.le_of_ble_eq_true rfl, Nat.le_of_ble_eq_true rfl⟩ rfl rfl (wM_e0 ad cy σ14) rfl hl rfl (Nat.le_of_ble_eq_true rfl) dX12_moves_125 ⟨Nat.zero_le _, Nat.zero_le _⟩ (fun H locs hI => ?_)
  refine lv_goto (tgt := 160) hx hb dX12_moves_128 (by decide) ?_
  exact bX12_moves_160 hC  hI hl hf
set_option maxRecDepth 20000 in
set_option maxHeartbeats 4000000 in
theorem bX12_moves {st : Nat → Nat} {p : Program} {l : Launch} {e : Env} {s : State} {m : MethodId} {args : Array Value} {below : List Frame} {meth : Method} {c : Code} {D : va_G} {A : Nat → Prop} {ad : Nat → Nat} {cy : Nat → ClassId} (hC : zC p m c cX12_moves 4 s args wzX12_moves RX12 meth (some .int))  {res : zSt × Int32} {H : Heap} {locs : List Loc} {σ : zSt} {ls : Array Slot} {x1 : Int32} {x2 : Int32} (hI : zI st D (tM cy) (wM ad cy σ) A s H locs) (hl : lv_has ls 4 [(0, .ref (ad 0)), (1, .int x1), (2, .int x2)]) (hf : fX12_moves  σ x1 x2 = some res) : W p l e rmX12_moves s m args below meth c H locs 0 0 (zQi below args s D (tM cy) (wM ad cy) A res) (F0 m 0 ls []) := by
  have hx := hC.1
  have hb := hC.2.1
  unfold fX12_moves at hf
  refine lv_iload_n hx hb dX12_moves_0 rfl (lv_at hl 1 rfl) ?_
  refine lv_iconst (v := 2) hx hb dX12_moves_1 (by decide) ?_
  refine lv_icmp_ge (tgt := 88) hx hb dX12_moves_2 (by decide) (fun q => ?_) (fun q => ?_)
  · replace hf := zif_t q hf
    refine lv_aload_n hx hb dX12_moves_88 rfl (lv_at hl 0 rfl) ?_
    obtain ⟨σ17, v18, g17, hf⟩ := zbi_use hf
    refine z_callVi (As := []) (rest := []) hC hI (cX12_nextWord_met st l D ad cy σ  _ g17) (zgV zw51_9 zw51_10 zw51_11 zw1_5 zw51_12) rfl ⟨rfl, rfl⟩ 0 hdX12_nextWord ⟨Nat.le_of_ble_eq_true rfl, Nat.le_of_ble_eq_true rfl⟩ rfl rfl (wM_e0 ad cy σ) rfl hl rfl (Nat.le_of_ble_eq_true rfl) dX12_moves_89 ⟨Nat.zero_le _, Nat.zero_le _⟩ (fun H locs hI => ?_)
    refine lv_istore_n (lv' := [(3, .int v18), (0, .ref (ad 0)), (1, .int x1), (2, .int x2)]) hx hb dX12_moves_92 rfl hl (by decide) rfl (fun ls hl => ?_)
    refine lv_iload_n hx hb dX12_moves_93 rfl (lv_at hl 2 rfl) ?_
    refine lv_iconst (v := 2) hx hb dX12_moves_94 (by decide) ?_
    refine lv_icmp_ne (tgt := 114) hx hb dX12_moves_95 (by decide) (fun q => ?_) (fun q => ?_)
    · replace hf := zif_f q hf
      exact bX12_moves_114 hC  hI (lv_sub hl [1, 2, 3, 0] rfl) hf
    replace hf := zif_t q hf
    refine lv_iload_n hx hb dX12_moves_98 rfl (lv_at hl 3 rfl) ?_
    refine lv_if_eq (tgt := 114) hx hb dX12_moves_99 (by decide) (fun q => ?_) (fun q => ?_)
    · replace hf := zif_t q hf
      exact bX12_moves_114 hC  hI (lv_sub hl [1, 2, 3, 0] rfl) hf
    replace hf := zif_f q hf
    refine lv_aload_n hx hb dX12_moves_102 rfl (lv_at hl 1 rfl) ?_
    refine lv_aload_n hx hb dX12_moves_103 rfl (lv_at hl 1 rfl) ?_
    refine lv_iload_n hx hb dX12_moves_104 rfl (lv_at hl 0 rfl) ?_
    obtain ⟨σ19, v20, g19, hf⟩ := zbi_use hf
    refine z_callVi (As := [.int v18]) (rest := [.ref (ad 0)]) hC hI (cX12_word_met st l D ad cy σ17 v18 _ g19) (zgV zw49_4 zw49_5 zw49_6 zw1_5 zw49_7) rfl ⟨rfl, rfl⟩ 1 hdX12_word ⟨Nat.le_of_ble_eq_true rfl, Nat.le_of_ble_eq_true rfl⟩ rfl rfl (wM_e0 ad cy σ17) rfl hl rfl (Nat.le_of_ble_eq_true rfl) dX12_moves_105 ⟨Nat.zero_le _, Nat.zero_le _⟩ (fun H locs hI => ?_)
    obtain ⟨σ21, g21, hf⟩ := zbu_use hf
    refine z_callVu (As := [.int v20]) (rest := []) hC hI (cX12_hlTo_met st l D ad cy σ19 v20 _ g21) (zgV zw51_21 zw51_22 zw51_23 zw1_5 zw52_0) rfl ⟨rfl, rfl⟩ 1 hdX12_hlTo ⟨Nat.le_of_ble_eq_true rfl, Nat.le_of_ble_eq_true rfl⟩ rfl rfl (wM_e0 ad cy σ19) rfl hl rfl (Nat.le_of_ble_eq_true rfl) dX12_moves_108 ⟨Nat.zero_le _, Nat.zero_le _⟩ (fun H locs hI => ?_)
    refine lv_goto (tgt := 160) hx hb dX12_moves_111 (by decide) ?_
    exact bX12_moves_160 hC  hI (lv_sub hl [1, 2, 3, 0] rfl) hf
  replace hf := zif_f q hf
  refine lv_aload_n hx hb dX12_moves_5 rfl (lv_at hl 0 rfl) ?_
  refine lv_iload_n hx hb dX12_moves_6 rfl (lv_at hl 1 rfl) ?_
  refine lv_if_ne (tgt := 14) hx hb dX12_moves_7 (by decide) (fun q => ?_) (fun q => ?_)
  · replace hf := zif_f q hf
    refine lv_iconst (v := 4) hx hb dX12_moves_14 (by decide) ?_
    exact bX12_moves_15 hC  hI (lv_sub hl [0, 2] rfl) hf
  replace hf := zif_t q hf
  refine lv_iconst (v := 2) hx hb dX12_moves_10 (by decide) ?_
  refine lv_goto (tgt := 15) hx hb dX12_moves_11 (by decide) ?_
  exact bX12_moves_15 hC  hI (lv_sub hl [0, 2] rfl) hf
set_option maxRecDepth 20000 in
theorem cX12_moves_met (st : Nat → Nat) (l : Launch) (D : va_G) (ad : Nat → Nat) (cy : Nat → ClassId) (σ : zSt) (x1 : Int32) (x2 : Int32) (res : zSt × Int32) (hf : fX12_moves σ x1 x2 = some res) (sz : Nat) : zMi st l yX12_moves wzX12_moves rmX12_moves [.ref (ad 0), .int x1, .int x2] D (tM cy) (wM ad cy) sz σ res :=
  zMi.of (cc := cX12_moves) (maxL := 4) (ret := (some .int)) (by decide) rfl (Nat.le_of_ble_eq_true rfl) (fun p e s m args below meth c hC A hI ls hl => bX12_moves hC hI hl hf)
theorem hdX12_moves : yX12_moves.cls = RX12 ∧ yX12_moves.cls ≠ "java/lang/invoke/MethodHandle" ∧ yX12_moves.cls ≠ "java/lang/invoke/VarHandle" ∧ (parseMethodDescriptor yX12_moves.desc).map (fun d => d.parameters.length) = some 2 := by decide +kernel
def rmX12_zero : Room := { frames := 5, cells := 0, slots := 0, locals := 109 }
def wzX12_zero : List Cond := .code yX12_zero cX12_zero 7 (some .int) :: wsL_law
theorem hinX12_zero_X120 : ∀ w ∈ wsX120, w ∈ wzX12_zero := fun w h => List.mem_cons_of_mem _ (inlX12 w h)
def fX12_zero_154  (σ : zSt) (s0 : Int32) : Option (zSt × Int32) :=
  some (σ, s0)
def fX12_zero_122  (σ : zSt) (x1 : Int32) (x5 : Int32) : Option (zSt × Int32) :=
  if x1 = 2 then if x5 = 0 then fX12_zero_154 σ 8 else
  fX12_zero_154 σ 13 else
  if x5 = 0 then fX12_zero_154 σ 7 else
  fX12_zero_154 σ 12
def fX12_zero_109  (σ : zSt) (x1 : Int32) (x4 : Int32) (s0 : Int32) : Option (zSt × Int32) :=
  if s0 = 0 then fX12_zero_122 σ x1 s0 else
  zbu (fX12_jump σ x4) (fun σ1 =>
  fX12_zero_122 σ1 x1 s0)
def fX12_zero_104  (σ : zSt) (x1 : Int32) (x4 : Int32) : Option (zSt × Int32) :=
  fX12_zero_109 σ x1 x4 1
def fX12_zero_67  (σ : zSt) (x1 : Int32) (x4 : Int32) : Option (zSt × Int32) :=
  if x1 = 2 then zck (zin 2 1048) (
  if (zgi σ 3 (2 : Int32).toNatClampNeg) = 0 then fX12_zero_109 σ x1 x4 0 else
  fX12_zero_109 σ x1 x4 1) else
  if x1 = 3 then fX12_zero_104 σ x1 x4 else
  zbi (fX12_cc σ (x1 - 4)) (fun σ2 v3 =>
  if v3 = 0 then fX12_zero_109 σ2 x1 x4 0 else
  fX12_zero_104 σ2 x1 x4)
def fX12_zero_266  (σ : zSt) (x6 : Int32) (s0 : Int32) (s1 : Int32) : Option (zSt × Int32) :=
  zbu (fX12_put σ s1 s0) (fun σ4 =>
  zbu (fX12_put σ4 1 0) (fun σ5 =>
  zbu (fX12_xy σ5 (x6 >>> ((8 : Int32) &&& 31))) (fun σ6 =>
  some (σ6, 11))))
def fX12_zero_249  (σ : zSt) (x6 : Int32) (s0 : Int32) (s1 : Int32) : Option (zSt × Int32) :=
  zbu (fX12_put σ s1 s0) (fun σ7 =>
  if x6 ≤ 65535 then fX12_zero_266 σ7 x6 0 0 else
  fX12_zero_266 σ7 x6 1 0)
def fX12_zero_306  (σ : zSt) (s0 : Int32) (s1 : Int32) : Option (zSt × Int32) :=
  zbi (fX12_moves σ s1 s0) (fun σ8 v9 =>
  some (σ8, v9))
def fX12_zero_328  (σ : zSt) (s0 : Int32) (s1 : Int32) (s2 : Int32) : Option (zSt × Int32) :=
  zbu (fX12_rpTo σ s2 (s1 + s0)) (fun σ10 =>
  some (σ10, 6))
def fX12_zero_178  (σ : zSt) (x1 : Int32) (x2 : Int32) (x3 : Int32) : Option (zSt × Int32) :=
  if x2 = 1 then zbi (fX12_hl σ ) (fun σ13 v14 =>
  zbi (fX12_rp σ13 x3) (fun σ15 v16 =>
  zck (zin 20 1048) (zbv (zsi σ15 3 ((20 : Int32).toNatClampNeg) ((v14 + 1) &&& 65535)) (fun σ17 =>
  zbv (v14 + v16) (fun v18 =>
  zbu (fX12_hlTo σ17 v18) (fun σ19 =>
  if ((v14 &&& 4095) + (v16 &&& 4095)) ≤ 4095 then fX12_zero_249 σ19 v18 0 4 else
  fX12_zero_249 σ19 v18 1 4)))))) else
  if x2 = 2 then zck (decide (¬ 2 = 0)) (
  if (zrem x1 2) = 1 then fX12_zero_306 σ 1 x3 else
  fX12_zero_306 σ 0 x3) else
  zbi (fX12_rp σ x3) (fun σ11 v12 =>
  zck (decide (¬ 2 = 0)) (
  if (zrem x1 2) = 0 then fX12_zero_328 σ11 1 v12 x3 else
  fX12_zero_328 σ11 (-1) v12 x3))
def fX12_zero  (σ : zSt) (x1 : Int32) (x2 : Int32) : Option (zSt × Int32) :=
  zbv (x1 >>> ((1 : Int32) &&& 31)) (fun v20 =>
  if x2 = 0 then if x1 = 0 then some (σ, 4) else
  if x1 = 1 then zbu (fX12_change σ 0 8) (fun σ29 =>
  zbu (fX12_change σ29 1 9) (fun σ30 =>
  some (σ30, 4))) else
  zbi (fX12_next σ ) (fun σ24 v25 =>
  zbi (fX12_signed σ24 v25) (fun σ26 v27 =>
  if x1 = 2 then zck (zin 2 1048) (
  zck (zin 2 1048) (zbv (zsi σ26 3 ((2 : Int32).toNatClampNeg) (((zgi σ26 3 (2 : Int32).toNatClampNeg) - 1) &&& 255)) (fun σ28 =>
  fX12_zero_67 σ28 x1 v27))) else
  fX12_zero_67 σ26 x1 v27)) else
  if x2 = 1 then zck (decide (¬ 2 = 0)) (
  if (zrem x1 2) = 0 then zbi (fX12_nextWord σ ) (fun σ21 v22 =>
  zbu (fX12_rpTo σ21 v20 v22) (fun σ23 =>
  some (σ23, 10))) else
  fX12_zero_178 σ x1 x2 v20) else
  fX12_zero_178 σ x1 x2 v20)
set_option maxRecDepth 20000 in
set_option maxHeartbeats 4000000 in
theorem bX12_zero_154 {st : Nat → Nat} {p : Program} {l : Launch} {e : Env} {s : State} {m : MethodId} {args : Array Value} {below : List Frame} {meth : Method} {c : Code} {D : va_G} {A : Nat → Prop} {ad : Nat → Nat} {cy : Nat → ClassId} (hC : zC p m c cX12_zero 7 s args wzX12_zero RX12 meth (some .int))  {res : zSt × Int32} {H : Heap} {locs : List Loc} {σ : zSt} {ls : Array Slot} {s0 : Int32} (hI : zI st D (tM cy) (wM ad cy σ) A s H locs) (hl : lv_has ls 7 []) (hf : fX12_zero_154  σ s0 = some res) : W p l e rmX12_zero s m args below meth c H locs 0 0 (zQi below args s D (tM cy) (wM ad cy) A res) (F0 m 154 ls [.int s0]) := by
  have hx := hC.1
  have hb := hC.2.1
  unfold fX12_zero_154 at hf
  exact z_ireturn hC hI hf dX12_zero_154
set_option maxRecDepth 20000 in
set_option maxHeartbeats 4000000 in
theorem bX12_zero_122 {st : Nat → Nat} {p : Program} {l : Launch} {e : Env} {s : State} {m : MethodId} {args : Array Value} {below : List Frame} {meth : Method} {c : Code} {D : va_G} {A : Nat → Prop} {ad : Nat → Nat} {cy : Nat → ClassId} (hC : zC p m c cX12_zero 7 s args wzX12_zero RX12 meth (some .int))  {res : zSt × Int32} {H : Heap} {locs : List Loc} {σ : zSt} {ls : Array Slot} {x1 : Int32} {x5 : Int32} (hI : zI st D (tM cy) (wM ad cy σ) A s H locs) (hl : lv_has ls 7 [(1, .int x1), (5, .int x5)]) (hf : fX12_zero_122  σ x1 x5 = some res) : W p l e rmX12_zero s m args below meth c H locs 0 0 (zQi below args s D (tM cy) (wM ad cy) A res) (F0 m 122 ls []) := by
  have hx := hC.1
  have hb := hC.2.1
  unfold fX12_zero_122 at hf
  refine lv_iload_n hx hb dX12_zero_122 rfl (lv_at hl 0 rfl) ?_
  refine lv_iconst (v := 2) hx hb dX12_zero_123 (by decide) ?_
  refine lv_icmp_ne (tgt := 142) hx hb dX12_zero_124 (by decide) (fun q => ?_) (fun q => ?_)
  · replace hf := zif_f q hf
    refine lv_iload hx hb dX12_zero_142 (lv_at hl 1 rfl) ?_
    refine lv_if_eq (tgt := 152) hx hb dX12_zero_144 (by decide) (fun q => ?_) (fun q => ?_)
    · replace hf := zif_t q hf
      refine lv_bipush (v := 7) hx hb dX12_zero_152 (by decide) ?_
      exact bX12_zero_154 hC  hI (lv_sub hl [] rfl) hf
    replace hf := zif_f q hf
    refine lv_bipush (v := 12) hx hb dX12_zero_147 (by decide) ?_
    refine lv_goto (tgt := 154) hx hb dX12_zero_149 (by decide) ?_
    exact bX12_zero_154 hC  hI (lv_sub hl [] rfl) hf
  replace hf := zif_t q hf
  refine lv_iload hx hb dX12_zero_127 (lv_at hl 1 rfl) ?_
  refine lv_if_eq (tgt := 137) hx hb dX12_zero_129 (by decide) (fun q => ?_) (fun q => ?_)
  · replace hf := zif_t q hf
    refine lv_bipush (v := 8) hx hb dX12_zero_137 (by decide) ?_
    refine lv_goto (tgt := 154) hx hb dX12_zero_139 (by decide) ?_
    exact bX12_zero_154 hC  hI (lv_sub hl [] rfl) hf
  replace hf := zif_f q hf
  refine lv_bipush (v := 13) hx hb dX12_zero_132 (by decide) ?_
  refine lv_goto (tgt := 154) hx hb dX12_zero_134 (by decide) ?_
  exact bX12_zero_154 hC  hI (lv_sub hl [] rfl) hf
set_option maxRecDepth 20000 in
set_option maxHeartbeats 4000000 in
theorem bX12_zero_109 {st : Nat → Nat} {p : Program} {l : Launch} {e : Env} {s : State} {m : MethodId} {args : Array Value} {below : List Frame} {meth : Method} {c : Code} {D : va_G} {A : Nat → Prop} {ad : Nat → Nat} {cy : Nat → ClassId} (hC : zC p m c cX12_zero 7 s args wzX12_zero RX12 meth (some .int))  {res : zSt × Int32} {H : Heap} {locs : List Loc} {σ : zSt} {ls : Array Slot} {x1 : Int32} {x4 : Int32} {s0 : Int32} (hI : zI st D (tM cy) (wM ad cy σ) A s H locs) (hl : lv_has ls 7 [(0, .ref (ad 0)), (1, .int x1), (4, .int x4)]) (hf : fX12_zero_109  σ x1 x4 s0 = some res) : W p l e rmX12_zero s m args below meth c H locs 0 0 (zQi below args s D (tM cy) (wM ad cy) A res) (F0 m 109 ls [.int s0]) := by
  have hx := hC.1
  have hb := hC.2.1
  unfold fX12_zero_109 at hf
  refine lv_istore (lv' := [(5, .int s0), (0, .ref (ad 0)), (1, .int x1), (4, .int x4)]) hx hb dX12_zero_109 hl (by decide) rfl (fun ls hl => ?_)
  refine lv_iload hx hb dX12_zero_111 (lv_at hl 0 rfl) ?_
  refine lv_if_eq (tgt := 122) hx hb dX12_zero_113 (by decide) (fun q => ?_) (fun q => ?_)
  · replace hf := zif_t q hf
    exact bX12_zero_122 hC  hI (lv_sub hl [2, 0] rfl) hf
  replace hf := zif_f q hf
  refine lv_aload_n hx hb dX12_zero_116 rfl (lv_at hl 1 rfl) ?_
  refine lv_iload hx hb dX12_zero_117 (lv_at hl 3 rfl) ?_
  obtain ⟨σ1, g1, hf⟩ := zbu_use hf
  refine z_callVu (As := [.int x4]) (rest := []) hC hI (cX12_jump_met st l D ad cy σ x4 _ g1) (zgV zw51_5 zw51_6 zw51_7 zw1_5 zw51_8) rfl ⟨rfl, rfl⟩ 1 hdX12_jump ⟨Nat.le_of_ble_eq_true rfl, Nat.le_of_ble_eq_true rfl⟩ rfl rfl (wM_e0 ad cy σ) rfl hl rfl (Nat.le_of_ble_eq_true rfl) dX12_zero_119 ⟨Nat.zero_le _, Nat.zero_le _⟩ (fun H locs hI => ?_)
  exact bX12_zero_122 hC  hI (lv_sub hl [2, 0] rfl) hf
set_option maxRecDepth 20000 in
set_option maxHeartbeats 4000000 in
theorem bX12_zero_104 {st : Nat → Nat} {p : Program} {l : Launch} {e : Env} {s : State} {m : MethodId} {args : Array Value} {below : List Frame} {meth : Method} {c : Code} {D : va_G} {A : Nat → Prop} {ad : Nat → Nat} {cy : Nat → ClassId} (hC : zC p m c cX12_zero 7 s args wzX12_zero RX12 meth (some .int))  {res : zSt × Int32} {H : Heap} {locs : List Loc} {σ : zSt} {ls : Array Slot} {x1 : Int32} {x4 : Int32} (hI : zI st D (tM cy) (wM ad cy σ) A s H locs) (hl : lv_has ls 7 [(0, .ref (ad 0)), (1, .int x1), (4, .int x4)]) (hf : fX12_zero_104  σ x1 x4 = some res) : W p l e rmX12_zero s m args below meth c H locs 0 0 (zQi below args s D (tM cy) (wM ad cy) A res) (F0 m 104 ls []) := by
  have hx := hC.1
  have hb := hC.2.1
  unfold fX12_zero_104 at hf
  refine lv_iconst (v := 1) hx hb dX12_zero_104 (by decide) ?_
  refine lv_goto (tgt := 109) hx hb dX12_zero_105 (by decide) ?_
  exact bX12_zero_109 hC  hI hl hf
set_option maxRecDepth 20000 in
set_option maxHeartbeats 4000000 in
theorem bX12_zero_67 {st : Nat → Nat} {p : Program} {l : Launch} {e : Env} {s : State} {m : MethodId} {args : Array Value} {below : List Frame} {meth : Method} {c : Code} {D : va_G} {A : Nat → Prop} {ad : Nat → Nat} {cy : Nat → ClassId} (hC : zC p m c cX12_zero 7 s args wzX12_zero RX12 meth (some .int))  {res : zSt × Int32} {H : Heap} {locs : List Loc} {σ : zSt} {ls : Array Slot} {x1 : Int32} {x4 : Int32} (hI : zI st D (tM cy) (wM ad cy σ) A s H locs) (hl : lv_has ls 7 [(0, .ref (ad 0)), (1, .int x1), (4, .int x4)]) (hf : fX12_zero_67  σ x1 x4 = some res) : W p l e rmX12_zero s m args below meth c H locs 0 0 (zQi below args s D (tM cy) (wM ad cy) A res) (F0 m 67 ls []) := by
  have hx := hC.1
  have hb := hC.2.1
  unfold fX12_zero_67 at hf
  refine lv_iload_n hx hb dX12_zero_67 rfl (lv_at hl 1 rfl) ?_
  refine lv_iconst (v := 2) hx hb dX12_zero_68 (by decide) ?_
  refine lv_icmp_ne (tgt := 89) hx hb dX12_zero_69 (by decide) (fun q => ?_) (fun q => ?_)
  · replace hf := zif_f q hf
    refine lv_iload_n hx hb dX12_zero_89 rfl (lv_at hl 1 rfl) ?_
    refine lv_iconst (v := 3) hx hb dX12_zero_90 (by decide) ?_
    refine lv_icmp_eq (tgt := 104) hx hb dX12_zero_91 (by decide) (fun q => ?_) (fun q => ?_)
    · replace hf := zif_t q hf
      exact bX12_zero_104 hC  hI hl hf
    replace hf := zif_f q hf
    refine lv_aload_n hx hb dX12_zero_94 rfl (lv_at hl 0 rfl) ?_
    refine lv_iload_n hx hb dX12_zero_95 rfl (lv_at hl 1 rfl) ?_
    refine lv_iconst (v := 4) hx hb dX12_zero_96 (by decide) ?_
    refine lv_isub hx hb dX12_zero_97 ?_
    obtain ⟨σ2, v3, g2, hf⟩ := zbi_use hf
    refine z_callVi (As := [.int (x1 - 4)]) (rest := []) hC hI (cX12_cc_met st l D ad cy σ (x1 - 4) _ g2) (zgV zw50_21 zw50_22 zw50_23 zw1_5 zw51_0) rfl ⟨rfl, rfl⟩ 1 hdX12_cc ⟨Nat.le_of_ble_eq_true rfl, Nat.le_of_ble_eq_true rfl⟩ rfl rfl (wM_e0 ad cy σ) rfl hl rfl (Nat.le_of_ble_eq_true rfl) dX12_zero_98 ⟨Nat.zero_le _, Nat.zero_le _⟩ (fun H locs hI => ?_)
    refine lv_if_eq (tgt := 108) hx hb dX12_zero_101 (by decide) (fun q => ?_) (fun q => ?_)
    · replace hf := zif_t q hf
      refine lv_iconst (v := 0) hx hb dX12_zero_108 (by decide) ?_
      exact bX12_zero_109 hC  hI hl hf
    replace hf := zif_f q hf
    exact bX12_zero_104 hC  hI hl hf
  replace hf := zif_t q hf
  refine lv_aload_n hx hb dX12_zero_72 rfl (lv_at hl 0 rfl) ?_
  refine z_get hC hI hinX12_zero_X120 0 (wM_e0 ad cy σ) rfl 10 (by decide) (List.mem_cons_of_mem _ zw9_7) rfl dX12_zero_73 ?_
  refine lv_iconst (v := 2) hx hb dX12_zero_76 (by decide) ?_
  obtain ⟨q, hf⟩ := zck_use hf
  refine z_iald hC hI 3 2 (wM_e3 ad cy σ) (tM_t3 cy) q dX12_zero_77 ?_
  refine lv_if_eq (tgt := 85) hx hb dX12_zero_78 (by decide) (fun q => ?_) (fun q => ?_)
  · replace hf := zif_t q hf
    refine lv_iconst (v := 0) hx hb dX12_zero_85 (by decide) ?_
    refine lv_goto (tgt := 109) hx hb dX12_zero_86 (by decide) ?_
    exact bX12_zero_109 hC  hI hl hf
  replace hf := zif_f q hf
  refine lv_iconst (v := 1) hx hb dX12_zero_81 (by decide) ?_
  refine lv_goto (tgt := 109) hx hb dX12_zero_82 (by decide) ?_
  exact bX12_zero_109 hC  hI hl hf
set_option maxRecDepth 20000 in
set_option maxHeartbeats 4000000 in
theorem bX12_zero_266 {st : Nat → Nat} {p : Program} {l : Launch} {e : Env} {s : State} {m : MethodId} {args : Array Value} {below : List Frame} {meth : Method} {c : Code} {D : va_G} {A : Nat → Prop} {ad : Nat → Nat} {cy : Nat → ClassId} (hC : zC p m c cX12_zero 7 s args wzX12_zero RX12 meth (some .int))  {res : zSt × Int32} {H : Heap} {locs : List Loc} {σ : zSt} {ls : Array Slot} {x6 : Int32} {s0 : Int32} {s1 : Int32} (hI : zI st D (tM cy) (wM ad cy σ) A s H locs) (hl : lv_has ls 7 [(0, .ref (ad 0)), (6, .int x6)]) (hf : fX12_zero_266  σ x6 s0 s1 = some res) : W p l e rmX12_zero s m args below meth c H locs 0 0 (zQi below args s D (tM cy) (wM ad cy) A res) (F0 m 266 ls [.int s0, .int s1, .ref (ad 0)]) := by
  have hx := hC.1
  have hb := hC.2.1
  unfold fX12_zero_266 at hf
  obtain ⟨σ4, g4, hf⟩ := zbu_use hf
  refine z_callVu (As := [.int s1, .int s0]) (rest := []) hC hI (cX12_put_met st l D ad cy σ s1 s0 _ g4) (zgV zw52_13 zw52_14 zw52_15 zw1_5 zw52_16) rfl ⟨rfl, rfl⟩ 2 hdX12_put ⟨Nat.le_of_ble_eq_true rfl, Nat.le_of_ble_eq_true rfl⟩ rfl rfl (wM_e0 ad cy σ) rfl hl rfl (Nat.le_of_ble_eq_true rfl) dX12_zero_266 ⟨Nat.zero_le _, Nat.zero_le _⟩ (fun H locs hI => ?_)
  refine lv_aload_n hx hb dX12_zero_269 rfl (lv_at hl 0 rfl) ?_
  refine lv_iconst (v := 1) hx hb dX12_zero_270 (by decide) ?_
  refine lv_iconst (v := 0) hx hb dX12_zero_271 (by decide) ?_
  obtain ⟨σ5, g5, hf⟩ := zbu_use hf
  refine z_callVu (As := [.int 1, .int 0]) (rest := []) hC hI (cX12_put_met st l D ad cy σ4 1 0 _ g5) (zgV zw52_13 zw52_14 zw52_15 zw1_5 zw52_16) rfl ⟨rfl, rfl⟩ 2 hdX12_put ⟨Nat.le_of_ble_eq_true rfl, Nat.le_of_ble_eq_true rfl⟩ rfl rfl (wM_e0 ad cy σ4) rfl hl rfl (Nat.le_of_ble_eq_true rfl) dX12_zero_272 ⟨Nat.zero_le _, Nat.zero_le _⟩ (fun H locs hI => ?_)
  refine lv_aload_n hx hb dX12_zero_275 rfl (lv_at hl 0 rfl) ?_
  refine lv_iload hx hb dX12_zero_276 (lv_at hl 1 rfl) ?_
  refine lv_bipush (v := 8) hx hb dX12_zero_278 (by decide) ?_
  refine lv_ishr hx hb dX12_zero_280 ?_
  obtain ⟨σ6, g6, hf⟩ := zbu_use hf
  refine z_callVu (As := [.int (x6 >>> ((8 : Int32) &&& 31))]) (rest := []) hC hI (cX12_xy_met st l D ad cy σ5 (x6 >>> ((8 : Int32) &&& 31)) _ g6) (zgV zw52_17 zw52_18 zw52_19 zw1_5 zw52_20) rfl ⟨rfl, rfl⟩ 1 hdX12_xy ⟨Nat.le_of_ble_eq_true rfl, Nat.le_of_ble_eq_true rfl⟩ rfl rfl (wM_e0 ad cy σ5) rfl hl rfl (Nat.le_of_ble_eq_true rfl) dX12_zero_281 ⟨Nat.zero_le _, Nat.zero_le _⟩ (fun H locs hI => ?_)
  refine lv_bipush (v := 11) hx hb dX12_zero_284 (by decide) ?_
  exact z_ireturn hC hI hf dX12_zero_286
set_option maxRecDepth 20000 in
set_option maxHeartbeats 4000000 in
theorem bX12_zero_249 {st : Nat → Nat} {p : Program} {l : Launch} {e : Env} {s : State} {m : MethodId} {args : Array Value} {below : List Frame} {meth : Method} {c : Code} {D : va_G} {A : Nat → Prop} {ad : Nat → Nat} {cy : Nat → ClassId} (hC : zC p m c cX12_zero 7 s args wzX12_zero RX12 meth (some .int))  {res : zSt × Int32} {H : Heap} {locs : List Loc} {σ : zSt} {ls : Array Slot} {x6 : Int32} {s0 : Int32} {s1 : Int32} (hI : zI st D (tM cy) (wM ad cy σ) A s H locs) (hl : lv_has ls 7 [(0, .ref (ad 0)), (6, .int x6)]) (hf : fX12_zero_249  σ x6 s0 s1 = some res) : W p l e rmX12_zero s m args below meth c H locs 0 0 (zQi below args s D (tM cy) (wM ad cy) A res) (F0 m 249 ls [.int s0, .int s1, .ref (ad 0)]) := by
  have hx := hC.1
  have hb := hC.2.1
  unfold fX12_zero_249 at hf
  obtain ⟨σ7, g7, hf⟩ := zbu_use hf
  refine z_callVu (As := [.int s1, .int s0]) (rest := []) hC hI (cX12_put_met st l D ad cy σ s1 s0 _ g7) (zgV zw52_13 zw52_14 zw52_15 zw1_5 zw52_16) rfl ⟨rfl, rfl⟩ 2 hdX12_put ⟨Nat.le_of_ble_eq_true rfl, Nat.le_of_ble_eq_true rfl⟩ rfl rfl (wM_e0 ad cy σ) rfl hl rfl (Nat.le_of_ble_eq_true rfl) dX12_zero_249 ⟨Nat.zero_le _, Nat.zero_le _⟩ (fun H locs hI => ?_)
  refine lv_aload_n hx hb dX12_zero_252 rfl (lv_at hl 0 rfl) ?_
  refine lv_iconst (v := 0) hx hb dX12_zero_253 (by decide) ?_
  refine lv_iload hx hb dX12_zero_254 (lv_at hl 1 rfl) ?_
  refine lv_ldc (v := 65535) hx hb hC.2.2.2.1 (hC.2.2.2.2.1 _ (List.mem_cons_of_mem _ zw16_11)) dX12_zero_256 ?_
  refine lv_icmp_le (tgt := 265) hx hb dX12_zero_258 (by decide) (fun q => ?_) (fun q => ?_)
  · replace hf := zif_t q hf
    refine lv_iconst (v := 0) hx hb dX12_zero_265 (by decide) ?_
    exact bX12_zero_266 hC  hI hl hf
  replace hf := zif_f q hf
  refine lv_iconst (v := 1) hx hb dX12_zero_261 (by decide) ?_
  refine lv_goto (tgt := 266) hx hb dX12_zero_262 (by decide) ?_
  exact bX12_zero_266 hC  hI hl hf
set_option maxRecDepth 20000 in
set_option maxHeartbeats 4000000 in
theorem bX12_zero_306 {st : Nat → Nat} {p : Program} {l : Launch} {e : Env} {s : State} {m : MethodId} {args : Array Value} {below : List Frame} {meth : Method} {c : Code} {D : va_G} {A : Nat → Prop} {ad : Nat → Nat} {cy : Nat → ClassId} (hC : zC p m c cX12_zero 7 s args wzX12_zero RX12 meth (some .int))  {res : zSt × Int32} {H : Heap} {locs : List Loc} {σ : zSt} {ls : Array Slot} {s0 : Int32} {s1 : Int32} (hI : zI st D (tM cy) (wM ad cy σ) A s H locs) (hl : lv_has ls 7 []) (hf : fX12_zero_306  σ s0 s1 = some res) : W p l e rmX12_zero s m args below meth c H locs 0 0 (zQi below args s D (tM cy) (wM ad cy) A res) (F0 m 306 ls [.int s0, .int s1, .ref (ad 0)]) := by
  have hx := hC.1
  have hb := hC.2.1
  unfold fX12_zero_306 at hf
  obtain ⟨σ8, v9, g8, hf⟩ := zbi_use hf
  refine z_callVi (As := [.int s1, .int s0]) (rest := []) hC hI (cX12_moves_met st l D ad cy σ s1 s0 _ g8) (zgV zw52_21 zw52_22 zw52_23 zw1_5 zw53_0) rfl ⟨rfl, rfl⟩ 2 hdX12_moves ⟨Nat.le_of_ble_eq_true rfl, Nat.le_of_ble_eq_true rfl⟩ rfl rfl (wM_e0 ad cy σ) rfl hl rfl (Nat.le_of_ble_eq_true rfl) dX12_zero_306 ⟨Nat.zero_le _, Nat.zero_le _⟩ (fun H locs hI => ?_)
  exact z_ireturn hC hI hf dX12_zero_309
set_option maxRecDepth 20000 in
set_option maxHeartbeats 4000000 in
theorem bX12_zero_328 {st : Nat → Nat} {p : Program} {l : Launch} {e : Env} {s : State} {m : MethodId} {args : Array Value} {below : List Frame} {meth : Method} {c : Code} {D : va_G} {A : Nat → Prop} {ad : Nat → Nat} {cy : Nat → ClassId} (hC : zC p m c cX12_zero 7 s args wzX12_zero RX12 meth (some .int))  {res : zSt × Int32} {H : Heap} {locs : List Loc} {σ : zSt} {ls : Array Slot} {s0 : Int32} {s1 : Int32} {s2 : Int32} (hI : zI st D (tM cy) (wM ad cy σ) A s H locs) (hl : lv_has ls 7 []) (hf : fX12_zero_328  σ s0 s1 s2 = some res) : W p l e rmX12_zero s m args below meth c H locs 0 0 (zQi below args s D (tM cy) (wM ad cy) A res) (F0 m 328 ls [.int s0, .int s1, .int s2, .ref (ad 0)]) := by
  have hx := hC.1
  have hb := hC.2.1
  unfold fX12_zero_328 at hf
  refine lv_iadd hx hb dX12_zero_328 ?_
  obtain ⟨σ10, g10, hf⟩ := zbu_use hf
  refine z_callVu (As := [.int s2, .int (s1 + s0)]) (rest := []) hC hI (cX12_rpTo_met st l D ad cy σ s2 (s1 + s0) _ g10) (zgV zw51_13 zw51_14 zw51_15 zw1_5 zw51_16) rfl ⟨rfl, rfl⟩ 2 hdX12_rpTo ⟨Nat.le_of_ble_eq_true rfl, Nat.le_of_ble_eq_true rfl⟩ rfl rfl (wM_e0 ad cy σ) rfl hl rfl (Nat.le_of_ble_eq_true rfl) dX12_zero_329 ⟨Nat.zero_le _, Nat.zero_le _⟩ (fun H locs hI => ?_)
  refine lv_bipush (v := 6) hx hb dX12_zero_332 (by decide) ?_
  exact z_ireturn hC hI hf dX12_zero_334
set_option maxRecDepth 20000 in
set_option maxHeartbeats 4000000 in
theorem bX12_zero_178 {st : Nat → Nat} {p : Program} {l : Launch} {e : Env} {s : State} {m : MethodId} {args : Array Value} {below : List Frame} {meth : Method} {c : Code} {D : va_G} {A : Nat → Prop} {ad : Nat → Nat} {cy : Nat → ClassId} (hC : zC p m c cX12_zero 7 s args wzX12_zero RX12 meth (some .int))  {res : zSt × Int32} {H : Heap} {locs : List Loc} {σ : zSt} {ls : Array Slot} {x1 : Int32} {x2 : Int32} {x3 : Int32} (hI : zI st D (tM cy) (wM ad cy σ) A s H locs) (hl : lv_has ls 7 [(0, .ref (ad 0)), (1, .int x1), (2, .int x2), (3, .int x3)]) (hf : fX12_zero_178  σ x1 x2 x3 = some res) : W p l e rmX12_zero s m args below meth c H locs 0 0 (zQi below args s D (tM cy) (wM ad cy) A res) (F0 m 178 ls []) := by
  have hx := hC.1
  have hb := hC.2.1
  unfold fX12_zero_178 at hf
  refine lv_iload_n hx hb dX12_zero_178 rfl (lv_at hl 2 rfl) ?_
  refine lv_iconst (v := 1) hx hb dX12_zero_179 (by decide) ?_
  refine lv_icmp_ne (tgt := 287) hx hb dX12_zero_180 (by decide) (fun q => ?_) (fun q => ?_)
  · replace hf := zif_f q hf
    refine lv_iload_n hx hb dX12_zero_287 rfl (lv_at hl 2 rfl) ?_
    refine lv_iconst (v := 2) hx hb dX12_zero_288 (by decide) ?_
    refine lv_icmp_ne (tgt := 310) hx hb dX12_zero_289 (by decide) (fun q => ?_) (fun q => ?_)
    · replace hf := zif_f q hf
      refine lv_aload_n hx hb dX12_zero_310 rfl (lv_at hl 0 rfl) ?_
      refine lv_iload_n hx hb dX12_zero_311 rfl (lv_at hl 3 rfl) ?_
      refine lv_aload_n hx hb dX12_zero_312 rfl (lv_at hl 0 rfl) ?_
      refine lv_iload_n hx hb dX12_zero_313 rfl (lv_at hl 3 rfl) ?_
      obtain ⟨σ11, v12, g11, hf⟩ := zbi_use hf
      refine z_callVi (As := [.int x3]) (rest := [.int x3, .ref (ad 0)]) hC hI (cX12_rp_met st l D ad cy σ x3 _ g11) (zgV zw52_9 zw52_10 zw52_11 zw1_5 zw52_12) rfl ⟨rfl, rfl⟩ 1 hdX12_rp ⟨Nat.le_of_ble_eq_true rfl, Nat.le_of_ble_eq_true rfl⟩ rfl rfl (wM_e0 ad cy σ) rfl hl rfl (Nat.le_of_ble_eq_true rfl) dX12_zero_314 ⟨Nat.zero_le _, Nat.zero_le _⟩ (fun H locs hI => ?_)
      refine lv_iload_n hx hb dX12_zero_317 rfl (lv_at hl 1 rfl) ?_
      refine lv_iconst (v := 2) hx hb dX12_zero_318 (by decide) ?_
      obtain ⟨q, hf⟩ := zck_use hf
      refine z_irem hx hb dX12_zero_319 (of_decide_eq_true q) ?_
      refine lv_if_ne (tgt := 327) hx hb dX12_zero_320 (by decide) (fun q => ?_) (fun q => ?_)
      · replace hf := zif_f q hf
        refine lv_iconst (v := (-1)) hx hb dX12_zero_327 (by decide) ?_
        exact bX12_zero_328 hC  hI (lv_sub hl [] rfl) hf
      replace hf := zif_t q hf
      refine lv_iconst (v := 1) hx hb dX12_zero_323 (by decide) ?_
      refine lv_goto (tgt := 328) hx hb dX12_zero_324 (by decide) ?_
      exact bX12_zero_328 hC  hI (lv_sub hl [] rfl) hf
    replace hf := zif_t q hf
    refine lv_aload_n hx hb dX12_zero_292 rfl (lv_at hl 0 rfl) ?_
    refine lv_iload_n hx hb dX12_zero_293 rfl (lv_at hl 3 rfl) ?_
    refine lv_iload_n hx hb dX12_zero_294 rfl (lv_at hl 1 rfl) ?_
    refine lv_iconst (v := 2) hx hb dX12_zero_295 (by decide) ?_
    obtain ⟨q, hf⟩ := zck_use hf
    refine z_irem hx hb dX12_zero_296 (of_decide_eq_true q) ?_
    refine lv_iconst (v := 1) hx hb dX12_zero_297 (by decide) ?_
    refine lv_icmp_ne (tgt := 305) hx hb dX12_zero_298 (by decide) (fun q => ?_) (fun q => ?_)
    · replace hf := zif_f q hf
      refine lv_iconst (v := 0) hx hb dX12_zero_305 (by decide) ?_
      exact bX12_zero_306 hC  hI (lv_sub hl [] rfl) hf
    replace hf := zif_t q hf
    refine lv_iconst (v := 1) hx hb dX12_zero_301 (by decide) ?_
    refine lv_goto (tgt := 306) hx hb dX12_zero_302 (by decide) ?_
    exact bX12_zero_306 hC  hI (lv_sub hl [] rfl) hf
  replace hf := zif_t q hf
  refine lv_aload_n hx hb dX12_zero_183 rfl (lv_at hl 0 rfl) ?_
  obtain ⟨σ13, v14, g13, hf⟩ := zbi_use hf
  refine z_callVi (As := []) (rest := []) hC hI (cX12_hl_met st l D ad cy σ  _ g13) (zgV zw52_1 zw52_2 zw52_3 zw1_5 zw52_4) rfl ⟨rfl, rfl⟩ 0 hdX12_hl ⟨Nat.le_of_ble_eq_true rfl, Nat.le_of_ble_eq_true rfl⟩ rfl rfl (wM_e0 ad cy σ) rfl hl rfl (Nat.le_of_ble_eq_true rfl) dX12_zero_184 ⟨Nat.zero_le _, Nat.zero_le _⟩ (fun H locs hI => ?_)
  refine lv_istore (lv' := [(4, .int v14), (0, .ref (ad 0)), (1, .int x1), (2, .int x2), (3, .int x3)]) hx hb dX12_zero_187 hl (by decide) rfl (fun ls hl => ?_)
  refine lv_aload_n hx hb dX12_zero_189 rfl (lv_at hl 1 rfl) ?_
  refine lv_iload_n hx hb dX12_zero_190 rfl (lv_at hl 4 rfl) ?_
  obtain ⟨σ15, v16, g15, hf⟩ := zbi_use hf
  refine z_callVi (As := [.int x3]) (rest := []) hC hI (cX12_rp_met st l D ad cy σ13 x3 _ g15) (zgV zw52_9 zw52_10 zw52_11 zw1_5 zw52_12) rfl ⟨rfl, rfl⟩ 1 hdX12_rp ⟨Nat.le_of_ble_eq_true rfl, Nat.le_of_ble_eq_true rfl⟩ rfl rfl (wM_e0 ad cy σ13) rfl hl rfl (Nat.le_of_ble_eq_true rfl) dX12_zero_191 ⟨Nat.zero_le _, Nat.zero_le _⟩ (fun H locs hI => ?_)
  refine lv_istore (lv' := [(5, .int v16), (4, .int v14), (0, .ref (ad 0)), (1, .int x1), (2, .int x2), (3, .int x3)]) hx hb dX12_zero_194 hl (by decide) rfl (fun ls hl => ?_)
  refine lv_aload_n hx hb dX12_zero_196 rfl (lv_at hl 2 rfl) ?_
  refine z_get hC hI hinX12_zero_X120 0 (wM_e0 ad cy σ15) rfl 10 (by decide) (List.mem_cons_of_mem _ zw9_7) rfl dX12_zero_197 ?_
  refine lv_bipush (v := 20) hx hb dX12_zero_200 (by decide) ?_
  refine lv_iload hx hb dX12_zero_202 (lv_at hl 1 rfl) ?_
  refine lv_iconst (v := 1) hx hb dX12_zero_204 (by decide) ?_
  refine lv_iadd hx hb dX12_zero_205 ?_
  refine lv_ldc (v := 65535) hx hb hC.2.2.2.1 (hC.2.2.2.2.1 _ (List.mem_cons_of_mem _ zw16_11)) dX12_zero_206 ?_
  refine lv_iand hx hb dX12_zero_208 ?_
  obtain ⟨q, hf⟩ := zck_use hf
  obtain ⟨σ17, eσ17⟩ : ∃ z, z = zsi σ15 3 ((20 : Int32).toNatClampNeg) ((v14 + 1) &&& 65535) := ⟨_, rfl⟩
  replace hf := zbv_use eσ17 hf
  refine z_iast hC hI 3 2 (wM_e3 ad cy σ15) (tM_t3 cy) q ((wM_s3 ad cy σ15 _ _).trans (congrArg (wM ad cy) eσ17.symm)) dX12_zero_209 (fun H locs hI => ?_)
  refine lv_iload hx hb dX12_zero_210 (lv_at hl 1 rfl) ?_
  refine lv_iload hx hb dX12_zero_212 (lv_at hl 0 rfl) ?_
  refine lv_iadd hx hb dX12_zero_214 ?_
  refine lv_topi (fun v18 ev18 => ?_)
  replace hf := zbv_use ev18 hf
  refine lv_istore (lv' := [(6, .int v18), (5, .int v16), (4, .int v14), (0, .ref (ad 0)), (1, .int x1), (2, .int x2), (3, .int x3)]) hx hb dX12_zero_215 hl (by decide) rfl (fun ls hl => ?_)
  refine lv_aload_n hx hb dX12_zero_217 rfl (lv_at hl 3 rfl) ?_
  refine lv_iload hx hb dX12_zero_218 (lv_at hl 0 rfl) ?_
  obtain ⟨σ19, g19, hf⟩ := zbu_use hf
  refine z_callVu (As := [.int v18]) (rest := []) hC hI (cX12_hlTo_met st l D ad cy σ17 v18 _ g19) (zgV zw51_21 zw51_22 zw51_23 zw1_5 zw52_0) rfl ⟨rfl, rfl⟩ 1 hdX12_hlTo ⟨Nat.le_of_ble_eq_true rfl, Nat.le_of_ble_eq_true rfl⟩ rfl rfl (wM_e0 ad cy σ17) rfl hl rfl (Nat.le_of_ble_eq_true rfl) dX12_zero_220 ⟨Nat.zero_le _, Nat.zero_le _⟩ (fun H locs hI => ?_)
  refine lv_aload_n hx hb dX12_zero_223 rfl (lv_at hl 3 rfl) ?_
  refine lv_iconst (v := 4) hx hb dX12_zero_224 (by decide) ?_
  refine lv_iload hx hb dX12_zero_225 (lv_at hl 2 rfl) ?_
  refine lv_sipush (v := 4095) hx hb dX12_zero_227 (by decide) ?_
  refine lv_iand hx hb dX12_zero_230 ?_
  refine lv_iload hx hb dX12_zero_231 (lv_at hl 1 rfl) ?_
  refine lv_sipush (v := 4095) hx hb dX12_zero_233 (by decide) ?_
  refine lv_iand hx hb dX12_zero_236 ?_
  refine lv_iadd hx hb dX12_zero_237 ?_
  refine lv_sipush (v := 4095) hx hb dX12_zero_238 (by decide) ?_
  refine lv_icmp_le (tgt := 248) hx hb dX12_zero_241 (by decide) (fun q => ?_) (fun q => ?_)
  · replace hf := zif_t q hf
    refine lv_iconst (v := 0) hx hb dX12_zero_248 (by decide) ?_
    exact bX12_zero_249 hC  hI (lv_sub hl [3, 0] rfl) hf
  replace hf := zif_f q hf
  refine lv_iconst (v := 1) hx hb dX12_zero_244 (by decide) ?_
  refine lv_goto (tgt := 249) hx hb dX12_zero_245 (by decide) ?_
  exact bX12_zero_249 hC  hI (lv_sub hl [3, 0] rfl) hf
set_option maxRecDepth 20000 in
set_option maxHeartbeats 4000000 in
theorem bX12_zero {st : Nat → Nat} {p : Program} {l : Launch} {e : Env} {s : State} {m : MethodId} {args : Array Value} {below : List Frame} {meth : Method} {c : Code} {D : va_G} {A : Nat → Prop} {ad : Nat → Nat} {cy : Nat → ClassId} (hC : zC p m c cX12_zero 7 s args wzX12_zero RX12 meth (some .int))  {res : zSt × Int32} {H : Heap} {locs : List Loc} {σ : zSt} {ls : Array Slot} {x1 : Int32} {x2 : Int32} (hI : zI st D (tM cy) (wM ad cy σ) A s H locs) (hl : lv_has ls 7 [(0, .ref (ad 0)), (1, .int x1), (2, .int x2)]) (hf : fX12_zero  σ x1 x2 = some res) : W p l e rmX12_zero s m args below meth c H locs 0 0 (zQi below args s D (tM cy) (wM ad cy) A res) (F0 m 0 ls []) := by
  have hx := hC.1
  have hb := hC.2.1
  unfold fX12_zero at hf
  refine lv_iload_n hx hb dX12_zero_0 rfl (lv_at hl 1 rfl) ?_
  refine lv_iconst (v := 1) hx hb dX12_zero_1 (by decide) ?_
  refine lv_ishr hx hb dX12_zero_2 ?_
  refine lv_topi (fun v20 ev20 => ?_)
  replace hf := zbv_use ev20 hf
  refine lv_istore_n (lv' := [(3, .int v20), (0, .ref (ad 0)), (1, .int x1), (2, .int x2)]) hx hb dX12_zero_3 rfl hl (by decide) rfl (fun ls hl => ?_)
  refine lv_iload_n hx hb dX12_zero_4 rfl (lv_at hl 3 rfl) ?_
  refine lv_if_ne (tgt := 155) hx hb dX12_zero_5 (by decide) (fun q => ?_) (fun q => ?_)
  · replace hf := zif_f q hf
    refine lv_iload_n hx hb dX12_zero_155 rfl (lv_at hl 3 rfl) ?_
    refine lv_iconst (v := 1) hx hb dX12_zero_156 (by decide) ?_
    refine lv_icmp_ne (tgt := 178) hx hb dX12_zero_157 (by decide) (fun q => ?_) (fun q => ?_)
    · replace hf := zif_f q hf
      exact bX12_zero_178 hC  hI (lv_sub hl [1, 2, 3, 0] rfl) hf
    replace hf := zif_t q hf
    refine lv_iload_n hx hb dX12_zero_160 rfl (lv_at hl 2 rfl) ?_
    refine lv_iconst (v := 2) hx hb dX12_zero_161 (by decide) ?_
    obtain ⟨q, hf⟩ := zck_use hf
    refine z_irem hx hb dX12_zero_162 (of_decide_eq_true q) ?_
    refine lv_if_ne (tgt := 178) hx hb dX12_zero_163 (by decide) (fun q => ?_) (fun q => ?_)
    · replace hf := zif_f q hf
      exact bX12_zero_178 hC  hI (lv_sub hl [1, 2, 3, 0] rfl) hf
    replace hf := zif_t q hf
    refine lv_aload_n hx hb dX12_zero_166 rfl (lv_at hl 1 rfl) ?_
    refine lv_iload_n hx hb dX12_zero_167 rfl (lv_at hl 0 rfl) ?_
    refine lv_aload_n hx hb dX12_zero_168 rfl (lv_at hl 1 rfl) ?_
    obtain ⟨σ21, v22, g21, hf⟩ := zbi_use hf
    refine z_callVi (As := []) (rest := [.int v20, .ref (ad 0)]) hC hI (cX12_nextWord_met st l D ad cy σ  _ g21) (zgV zw51_9 zw51_10 zw51_11 zw1_5 zw51_12) rfl ⟨rfl, rfl⟩ 0 hdX12_nextWord ⟨Nat.le_of_ble_eq_true rfl, Nat.le_of_ble_eq_true rfl⟩ rfl rfl (wM_e0 ad cy σ) rfl hl rfl (Nat.le_of_ble_eq_true rfl) dX12_zero_169 ⟨Nat.zero_le _, Nat.zero_le _⟩ (fun H locs hI => ?_)
    obtain ⟨σ23, g23, hf⟩ := zbu_use hf
    refine z_callVu (As := [.int v20, .int v22]) (rest := []) hC hI (cX12_rpTo_met st l D ad cy σ21 v20 v22 _ g23) (zgV zw51_13 zw51_14 zw51_15 zw1_5 zw51_16) rfl ⟨rfl, rfl⟩ 2 hdX12_rpTo ⟨Nat.le_of_ble_eq_true rfl, Nat.le_of_ble_eq_true rfl⟩ rfl rfl (wM_e0 ad cy σ21) rfl hl rfl (Nat.le_of_ble_eq_true rfl) dX12_zero_172 ⟨Nat.zero_le _, Nat.zero_le _⟩ (fun H locs hI => ?_)
    refine lv_bipush (v := 10) hx hb dX12_zero_175 (by decide) ?_
    exact z_ireturn hC hI hf dX12_zero_177
  replace hf := zif_t q hf
  refine lv_iload_n hx hb dX12_zero_8 rfl (lv_at hl 2 rfl) ?_
  refine lv_if_ne (tgt := 14) hx hb dX12_zero_9 (by decide) (fun q => ?_) (fun q => ?_)
  · replace hf := zif_f q hf
    refine lv_iload_n hx hb dX12_zero_14 rfl (lv_at hl 2 rfl) ?_
    refine lv_iconst (v := 1) hx hb dX12_zero_15 (by decide) ?_
    refine lv_icmp_ne (tgt := 35) hx hb dX12_zero_16 (by decide) (fun q => ?_) (fun q => ?_)
    · replace hf := zif_f q hf
      refine lv_aload_n hx hb dX12_zero_35 rfl (lv_at hl 1 rfl) ?_
      obtain ⟨σ24, v25, g24, hf⟩ := zbi_use hf
      refine z_callVi (As := []) (rest := []) hC hI (cX12_next_met st l D ad cy σ  _ g24) (zgV zw50_2 zw50_3 zw50_4 zw1_5 zw50_5) rfl ⟨rfl, rfl⟩ 0 hdX12_next ⟨Nat.le_of_ble_eq_true rfl, Nat.le_of_ble_eq_true rfl⟩ rfl rfl (wM_e0 ad cy σ) rfl hl rfl (Nat.le_of_ble_eq_true rfl) dX12_zero_36 ⟨Nat.zero_le _, Nat.zero_le _⟩ (fun H locs hI => ?_)
      obtain ⟨σ26, v27, g26, hf⟩ := zbi_use hf
      refine z_callSi (As := [.int v25]) (rest := []) hC hI (cX12_signed_met st l D ad cy σ24 v25 _ g26) (zgS zw50_18 zw50_19 zw1_5 zw50_20) rfl ⟨rfl, rfl⟩ 1 hdX12_signed ⟨Nat.le_of_ble_eq_true rfl, Nat.le_of_ble_eq_true rfl⟩ rfl hl rfl (Nat.le_of_ble_eq_true rfl) dX12_zero_39 ⟨Nat.zero_le _, Nat.zero_le _⟩ (fun H locs hI => ?_)
      refine lv_istore (lv' := [(4, .int v27), (3, .int v20), (0, .ref (ad 0)), (1, .int x1), (2, .int x2)]) hx hb dX12_zero_42 hl (by decide) rfl (fun ls hl => ?_)
      refine lv_iload_n hx hb dX12_zero_44 rfl (lv_at hl 3 rfl) ?_
      refine lv_iconst (v := 2) hx hb dX12_zero_45 (by decide) ?_
      refine lv_icmp_ne (tgt := 67) hx hb dX12_zero_46 (by decide) (fun q => ?_) (fun q => ?_)
      · replace hf := zif_f q hf
        exact bX12_zero_67 hC  hI (lv_sub hl [2, 3, 0] rfl) hf
      replace hf := zif_t q hf
      refine lv_aload_n hx hb dX12_zero_49 rfl (lv_at hl 2 rfl) ?_
      refine z_get hC hI hinX12_zero_X120 0 (wM_e0 ad cy σ26) rfl 10 (by decide) (List.mem_cons_of_mem _ zw9_7) rfl dX12_zero_50 ?_
      refine lv_iconst (v := 2) hx hb dX12_zero_53 (by decide) ?_
      refine lv_aload_n hx hb dX12_zero_54 rfl (lv_at hl 2 rfl) ?_
      refine z_get hC hI hinX12_zero_X120 0 (wM_e0 ad cy σ26) rfl 10 (by decide) (List.mem_cons_of_mem _ zw9_7) rfl dX12_zero_55 ?_
      refine lv_iconst (v := 2) hx hb dX12_zero_58 (by decide) ?_
      obtain ⟨q, hf⟩ := zck_use hf
      refine z_iald hC hI 3 2 (wM_e3 ad cy σ26) (tM_t3 cy) q dX12_zero_59 ?_
      refine lv_iconst (v := 1) hx hb dX12_zero_60 (by decide) ?_
      refine lv_isub hx hb dX12_zero_61 ?_
      refine lv_sipush (v := 255) hx hb dX12_zero_62 (by decide) ?_
      refine lv_iand hx hb dX12_zero_65 ?_
      obtain ⟨q, hf⟩ := zck_use hf
      obtain ⟨σ28, eσ28⟩ : ∃ z, z = zsi σ26 3 ((2 : Int32).toNatClampNeg) (((zgi σ26 3 (2 : Int32).toNatClampNeg) - 1) &&& 255) := ⟨_, rfl⟩
      replace hf := zbv_use eσ28 hf
      refine z_iast hC hI 3 2 (wM_e3 ad cy σ26) (tM_t3 cy) q ((wM_s3 ad cy σ26 _ _).trans (congrArg (wM ad cy) eσ28.symm)) dX12_zero_66 (fun H locs hI => ?_)
      exact bX12_zero_67 hC  hI (lv_sub hl [2, 3, 0] rfl) hf
    replace hf := zif_t q hf
    refine lv_aload_n hx hb dX12_zero_19 rfl (lv_at hl 1 rfl) ?_
    refine lv_iconst (v := 0) hx hb dX12_zero_20 (by decide) ?_
    refine lv_bipush (v := 8) hx hb dX12_zero_21 (by decide) ?_
    obtain ⟨σ29, g29, hf⟩ := zbu_use hf
    refine z_callVu (As := [.int 0, .int 8]) (rest := []) hC hI (cX12_change_met st l D ad cy σ 0 8 _ g29) (zgV zw50_14 zw50_15 zw50_16 zw1_5 zw50_17) rfl ⟨rfl, rfl⟩ 2 hdX12_change ⟨Nat.le_of_ble_eq_true rfl, Nat.le_of_ble_eq_true rfl⟩ rfl rfl (wM_e0 ad cy σ) rfl hl rfl (Nat.le_of_ble_eq_true rfl) dX12_zero_23 ⟨Nat.zero_le _, Nat.zero_le _⟩ (fun H locs hI => ?_)
    refine lv_aload_n hx hb dX12_zero_26 rfl (lv_at hl 1 rfl) ?_
    refine lv_iconst (v := 1) hx hb dX12_zero_27 (by decide) ?_
    refine lv_bipush (v := 9) hx hb dX12_zero_28 (by decide) ?_
    obtain ⟨σ30, g30, hf⟩ := zbu_use hf
    refine z_callVu (As := [.int 1, .int 9]) (rest := []) hC hI (cX12_change_met st l D ad cy σ29 1 9 _ g30) (zgV zw50_14 zw50_15 zw50_16 zw1_5 zw50_17) rfl ⟨rfl, rfl⟩ 2 hdX12_change ⟨Nat.le_of_ble_eq_true rfl, Nat.le_of_ble_eq_true rfl⟩ rfl rfl (wM_e0 ad cy σ29) rfl hl rfl (Nat.le_of_ble_eq_true rfl) dX12_zero_30 ⟨Nat.zero_le _, Nat.zero_le _⟩ (fun H locs hI => ?_)
    refine lv_iconst (v := 4) hx hb dX12_zero_33 (by decide) ?_
    exact z_ireturn hC hI hf dX12_zero_34
  replace hf := zif_t q hf
  refine lv_iconst (v := 4) hx hb dX12_zero_12 (by decide) ?_
  exact z_ireturn hC hI hf dX12_zero_13
set_option maxRecDepth 20000 in
theorem cX12_zero_met (st : Nat → Nat) (l : Launch) (D : va_G) (ad : Nat → Nat) (cy : Nat → ClassId) (σ : zSt) (x1 : Int32) (x2 : Int32) (res : zSt × Int32) (hf : fX12_zero σ x1 x2 = some res) (sz : Nat) : zMi st l yX12_zero wzX12_zero rmX12_zero [.ref (ad 0), .int x1, .int x2] D (tM cy) (wM ad cy) sz σ res :=
  zMi.of (cc := cX12_zero) (maxL := 7) (ret := (some .int)) (by decide) rfl (Nat.le_of_ble_eq_true rfl) (fun p e s m args below meth c hC A hI ls hl => bX12_zero hC hI hl hf)
theorem hdX12_zero : yX12_zero.cls = RX12 ∧ yX12_zero.cls ≠ "java/lang/invoke/MethodHandle" ∧ yX12_zero.cls ≠ "java/lang/invoke/VarHandle" ∧ (parseMethodDescriptor yX12_zero.desc).map (fun d => d.parameters.length) = some 2 := by decide +kernel
