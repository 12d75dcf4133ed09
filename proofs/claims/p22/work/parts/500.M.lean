def kn_cX12_fails : Nat := 0xac1b6900b5030400a71c0700991b2a
theorem zk_cX12_fails : zkd cX12_fails.data.toList kn_cX12_fails = true := by decide +kernel
theorem zn_cX12_fails : cX12_fails.data.toList.length = 15 := by decide +kernel
theorem dX12_fails_0 : decode cX12_fails 0 = .ok (.aload_n 0, 1) := zo_42 (zkb zk_cX12_fails zn_cX12_fails (by decide +kernel))
theorem dX12_fails_1 : decode cX12_fails 1 = .ok (.iload_n 1, 1) := zo_27 (zkb zk_cX12_fails zn_cX12_fails (by decide +kernel))
theorem dX12_fails_2 : decode cX12_fails 2 = .ok (.ifCond .eq 7, 3) := zo_153 (b1 := 0) (b2 := 7) (zkb3 zk_cX12_fails zn_cX12_fails (by decide +kernel)) rfl
theorem dX12_fails_5 : decode cX12_fails 5 = .ok (.iload_n 2, 1) := zo_28 (zkb zk_cX12_fails zn_cX12_fails (by decide +kernel))
theorem dX12_fails_6 : decode cX12_fails 6 = .ok (.goto 4, 3) := zo_167 (b1 := 0) (b2 := 4) (zkb3 zk_cX12_fails zn_cX12_fails (by decide +kernel)) rfl
theorem dX12_fails_9 : decode cX12_fails 9 = .ok (.iconst 0, 1) := zo_3 (zkb zk_cX12_fails zn_cX12_fails (by decide +kernel))
theorem dX12_fails_10 : decode cX12_fails 10 = .ok (.putfield 105, 3) := zo_181 (b1 := 0) (b2 := 105) (zkb3 zk_cX12_fails zn_cX12_fails (by decide +kernel)) rfl
theorem dX12_fails_13 : decode cX12_fails 13 = .ok (.iload_n 1, 1) := zo_27 (zkb zk_cX12_fails zn_cX12_fails (by decide +kernel))
theorem dX12_fails_14 : decode cX12_fails 14 = .ok (.ireturn, 1) := zo_172 (zkb zk_cX12_fails zn_cX12_fails (by decide +kernel))
def kn_cX12_within : Nat := 0xac030400a70407009d9404161e0e009b94201e
theorem zk_cX12_within : zkd cX12_within.data.toList kn_cX12_within = true := by decide +kernel
theorem zn_cX12_within : cX12_within.data.toList.length = 19 := by decide +kernel
theorem dX12_within_0 : decode cX12_within 0 = .ok (.lload_n 0, 1) := zo_30 (zkb zk_cX12_within zn_cX12_within (by decide +kernel))
theorem dX12_within_1 : decode cX12_within 1 = .ok (.lload_n 2, 1) := zo_32 (zkb zk_cX12_within zn_cX12_within (by decide +kernel))
theorem dX12_within_2 : decode cX12_within 2 = .ok (.lcmp, 1) := zo_148 (zkb zk_cX12_within zn_cX12_within (by decide +kernel))
theorem dX12_within_3 : decode cX12_within 3 = .ok (.ifCond .lt 14, 3) := zo_155 (b1 := 0) (b2 := 14) (zkb3 zk_cX12_within zn_cX12_within (by decide +kernel)) rfl
theorem dX12_within_6 : decode cX12_within 6 = .ok (.lload_n 0, 1) := zo_30 (zkb zk_cX12_within zn_cX12_within (by decide +kernel))
theorem dX12_within_7 : decode cX12_within 7 = .ok (.lload 4, 2) := zo_22 (b1 := 4) (zkb2 zk_cX12_within zn_cX12_within (by decide +kernel))
theorem dX12_within_9 : decode cX12_within 9 = .ok (.lcmp, 1) := zo_148 (zkb zk_cX12_within zn_cX12_within (by decide +kernel))
theorem dX12_within_10 : decode cX12_within 10 = .ok (.ifCond .gt 7, 3) := zo_157 (b1 := 0) (b2 := 7) (zkb3 zk_cX12_within zn_cX12_within (by decide +kernel)) rfl
theorem dX12_within_13 : decode cX12_within 13 = .ok (.iconst 1, 1) := zo_4 (zkb zk_cX12_within zn_cX12_within (by decide +kernel))
theorem dX12_within_14 : decode cX12_within 14 = .ok (.goto 4, 3) := zo_167 (b1 := 0) (b2 := 4) (zkb3 zk_cX12_within zn_cX12_within (by decide +kernel)) rfl
theorem dX12_within_17 : decode cX12_within 17 = .ok (.iconst 0, 1) := zo_3 (zkb zk_cX12_within zn_cX12_within (by decide +kernel))
theorem dX12_within_18 : decode cX12_within 18 = .ok (.ireturn, 1) := zo_172 (zkb zk_cX12_within zn_cX12_within (by decide +kernel))
def kn_cX12_feed : Nat := 0xac7600b42ac0ffa70108847600b560047600b4592a5491887b687008100815081006160500a704160800a2101008151100a7200700a2081008157600b42a0a00b42a4000a21b0815083603ac030500997200b605030400a7040700a40912601b7600b42a2a1b009a7200b604030400a70407009a6e00b86c00140a851b2a
theorem zk_cX12_feed : zkd cX12_feed.data.toList kn_cX12_feed = true := by decide +kernel
theorem zn_cX12_feed : cX12_feed.data.toList.length = 126 := by decide +kernel
theorem dX12_feed_0 : decode cX12_feed 0 = .ok (.aload_n 0, 1) := zo_42 (zkb zk_cX12_feed zn_cX12_feed (by decide +kernel))
theorem dX12_feed_1 : decode cX12_feed 1 = .ok (.iload_n 1, 1) := zo_27 (zkb zk_cX12_feed zn_cX12_feed (by decide +kernel))
theorem dX12_feed_2 : decode cX12_feed 2 = .ok (.i2l, 1) := zo_133 (zkb zk_cX12_feed zn_cX12_feed (by decide +kernel))
theorem dX12_feed_3 : decode cX12_feed 3 = .ok (.lconst 1, 1) := zo_10 (zkb zk_cX12_feed zn_cX12_feed (by decide +kernel))
theorem dX12_feed_4 : decode cX12_feed 4 = .ok (.ldc2_w 108, 3) := by decide +kernel
theorem dX12_feed_7 : decode cX12_feed 7 = .ok (.invokestatic 110, 3) := zo_184 (b1 := 0) (b2 := 110) (zkb3 zk_cX12_feed zn_cX12_feed (by decide +kernel)) rfl
theorem dX12_feed_10 : decode cX12_feed 10 = .ok (.ifCond .ne 7, 3) := zo_154 (b1 := 0) (b2 := 7) (zkb3 zk_cX12_feed zn_cX12_feed (by decide +kernel)) rfl
theorem dX12_feed_13 : decode cX12_feed 13 = .ok (.iconst 1, 1) := zo_4 (zkb zk_cX12_feed zn_cX12_feed (by decide +kernel))
theorem dX12_feed_14 : decode cX12_feed 14 = .ok (.goto 4, 3) := zo_167 (b1 := 0) (b2 := 4) (zkb3 zk_cX12_feed zn_cX12_feed (by decide +kernel)) rfl
theorem dX12_feed_17 : decode cX12_feed 17 = .ok (.iconst 0, 1) := zo_3 (zkb zk_cX12_feed zn_cX12_feed (by decide +kernel))
theorem dX12_feed_18 : decode cX12_feed 18 = .ok (.iconst 1, 1) := zo_4 (zkb zk_cX12_feed zn_cX12_feed (by decide +kernel))
theorem dX12_feed_19 : decode cX12_feed 19 = .ok (.invokevirtual 114, 3) := zo_182 (b1 := 0) (b2 := 114) (zkb3 zk_cX12_feed zn_cX12_feed (by decide +kernel)) rfl
theorem dX12_feed_22 : decode cX12_feed 22 = .ok (.ifCond .ne 27, 3) := zo_154 (b1 := 0) (b2 := 27) (zkb3 zk_cX12_feed zn_cX12_feed (by decide +kernel)) rfl
theorem dX12_feed_25 : decode cX12_feed 25 = .ok (.aload_n 0, 1) := zo_42 (zkb zk_cX12_feed zn_cX12_feed (by decide +kernel))
theorem dX12_feed_26 : decode cX12_feed 26 = .ok (.aload_n 0, 1) := zo_42 (zkb zk_cX12_feed zn_cX12_feed (by decide +kernel))
theorem dX12_feed_27 : decode cX12_feed 27 = .ok (.getfield 118, 3) := zo_180 (b1 := 0) (b2 := 118) (zkb3 zk_cX12_feed zn_cX12_feed (by decide +kernel)) rfl
theorem dX12_feed_30 : decode cX12_feed 30 = .ok (.iload_n 1, 1) := zo_27 (zkb zk_cX12_feed zn_cX12_feed (by decide +kernel))
theorem dX12_feed_31 : decode cX12_feed 31 = .ok (.iadd, 1) := zo_96 (zkb zk_cX12_feed zn_cX12_feed (by decide +kernel))
theorem dX12_feed_32 : decode cX12_feed 32 = .ok (.ldc 9, 2) := zo_18 (b1 := 9) (zkb2 zk_cX12_feed zn_cX12_feed (by decide +kernel))
theorem dX12_feed_34 : decode cX12_feed 34 = .ok (.if_icmp .le 7, 3) := zo_164 (b1 := 0) (b2 := 7) (zkb3 zk_cX12_feed zn_cX12_feed (by decide +kernel)) rfl
theorem dX12_feed_37 : decode cX12_feed 37 = .ok (.iconst 1, 1) := zo_4 (zkb zk_cX12_feed zn_cX12_feed (by decide +kernel))
theorem dX12_feed_38 : decode cX12_feed 38 = .ok (.goto 4, 3) := zo_167 (b1 := 0) (b2 := 4) (zkb3 zk_cX12_feed zn_cX12_feed (by decide +kernel)) rfl
theorem dX12_feed_41 : decode cX12_feed 41 = .ok (.iconst 0, 1) := zo_3 (zkb zk_cX12_feed zn_cX12_feed (by decide +kernel))
theorem dX12_feed_42 : decode cX12_feed 42 = .ok (.iconst 2, 1) := zo_5 (zkb zk_cX12_feed zn_cX12_feed (by decide +kernel))
theorem dX12_feed_43 : decode cX12_feed 43 = .ok (.invokevirtual 114, 3) := zo_182 (b1 := 0) (b2 := 114) (zkb3 zk_cX12_feed zn_cX12_feed (by decide +kernel)) rfl
theorem dX12_feed_46 : decode cX12_feed 46 = .ok (.ifCond .eq 5, 3) := zo_153 (b1 := 0) (b2 := 5) (zkb3 zk_cX12_feed zn_cX12_feed (by decide +kernel)) rfl
theorem dX12_feed_49 : decode cX12_feed 49 = .ok (.iconst 0, 1) := zo_3 (zkb zk_cX12_feed zn_cX12_feed (by decide +kernel))
theorem dX12_feed_50 : decode cX12_feed 50 = .ok (.ireturn, 1) := zo_172 (zkb zk_cX12_feed zn_cX12_feed (by decide +kernel))
theorem dX12_feed_51 : decode cX12_feed 51 = .ok (.iconst 0, 1) := zo_3 (zkb zk_cX12_feed zn_cX12_feed (by decide +kernel))
theorem dX12_feed_52 : decode cX12_feed 52 = .ok (.istore 8, 2) := zo_54 (b1 := 8) (zkb2 zk_cX12_feed zn_cX12_feed (by decide +kernel))
theorem dX12_feed_54 : decode cX12_feed 54 = .ok (.iload 8, 2) := zo_21 (b1 := 8) (zkb2 zk_cX12_feed zn_cX12_feed (by decide +kernel))
theorem dX12_feed_56 : decode cX12_feed 56 = .ok (.iload_n 1, 1) := zo_27 (zkb zk_cX12_feed zn_cX12_feed (by decide +kernel))
theorem dX12_feed_57 : decode cX12_feed 57 = .ok (.if_icmp .ge 64, 3) := zo_162 (b1 := 0) (b2 := 64) (zkb3 zk_cX12_feed zn_cX12_feed (by decide +kernel)) rfl
theorem dX12_feed_60 : decode cX12_feed 60 = .ok (.aload_n 0, 1) := zo_42 (zkb zk_cX12_feed zn_cX12_feed (by decide +kernel))
theorem dX12_feed_61 : decode cX12_feed 61 = .ok (.getfield 10, 3) := zo_180 (b1 := 0) (b2 := 10) (zkb3 zk_cX12_feed zn_cX12_feed (by decide +kernel)) rfl
theorem dX12_feed_64 : decode cX12_feed 64 = .ok (.aload_n 0, 1) := zo_42 (zkb zk_cX12_feed zn_cX12_feed (by decide +kernel))
theorem dX12_feed_65 : decode cX12_feed 65 = .ok (.getfield 118, 3) := zo_180 (b1 := 0) (b2 := 118) (zkb3 zk_cX12_feed zn_cX12_feed (by decide +kernel)) rfl
theorem dX12_feed_68 : decode cX12_feed 68 = .ok (.iload 8, 2) := zo_21 (b1 := 8) (zkb2 zk_cX12_feed zn_cX12_feed (by decide +kernel))
theorem dX12_feed_70 : decode cX12_feed 70 = .ok (.bipush 8, 2) := zo_16 (b1 := 8) (zkb2 zk_cX12_feed zn_cX12_feed (by decide +kernel)) rfl
theorem dX12_feed_72 : decode cX12_feed 72 = .ok (.if_icmp .ge 7, 3) := zo_162 (b1 := 0) (b2 := 7) (zkb3 zk_cX12_feed zn_cX12_feed (by decide +kernel)) rfl
theorem dX12_feed_75 : decode cX12_feed 75 = .ok (.lload_n 2, 1) := zo_32 (zkb zk_cX12_feed zn_cX12_feed (by decide +kernel))
theorem dX12_feed_76 : decode cX12_feed 76 = .ok (.goto 17, 3) := zo_167 (b1 := 0) (b2 := 17) (zkb3 zk_cX12_feed zn_cX12_feed (by decide +kernel)) rfl
theorem dX12_feed_79 : decode cX12_feed 79 = .ok (.iload 8, 2) := zo_21 (b1 := 8) (zkb2 zk_cX12_feed zn_cX12_feed (by decide +kernel))
theorem dX12_feed_81 : decode cX12_feed 81 = .ok (.bipush 16, 2) := zo_16 (b1 := 16) (zkb2 zk_cX12_feed zn_cX12_feed (by decide +kernel)) rfl
theorem dX12_feed_83 : decode cX12_feed 83 = .ok (.if_icmp .ge 8, 3) := zo_162 (b1 := 0) (b2 := 8) (zkb3 zk_cX12_feed zn_cX12_feed (by decide +kernel)) rfl
theorem dX12_feed_86 : decode cX12_feed 86 = .ok (.lload 4, 2) := zo_22 (b1 := 4) (zkb2 zk_cX12_feed zn_cX12_feed (by decide +kernel))
theorem dX12_feed_88 : decode cX12_feed 88 = .ok (.goto 5, 3) := zo_167 (b1 := 0) (b2 := 5) (zkb3 zk_cX12_feed zn_cX12_feed (by decide +kernel)) rfl
theorem dX12_feed_91 : decode cX12_feed 91 = .ok (.lload 6, 2) := zo_22 (b1 := 6) (zkb2 zk_cX12_feed zn_cX12_feed (by decide +kernel))
theorem dX12_feed_93 : decode cX12_feed 93 = .ok (.bipush 8, 2) := zo_16 (b1 := 8) (zkb2 zk_cX12_feed zn_cX12_feed (by decide +kernel)) rfl
theorem dX12_feed_95 : decode cX12_feed 95 = .ok (.iload 8, 2) := zo_21 (b1 := 8) (zkb2 zk_cX12_feed zn_cX12_feed (by decide +kernel))
theorem dX12_feed_97 : decode cX12_feed 97 = .ok (.bipush 8, 2) := zo_16 (b1 := 8) (zkb2 zk_cX12_feed zn_cX12_feed (by decide +kernel)) rfl
theorem dX12_feed_99 : decode cX12_feed 99 = .ok (.irem, 1) := zo_112 (zkb zk_cX12_feed zn_cX12_feed (by decide +kernel))
theorem dX12_feed_100 : decode cX12_feed 100 = .ok (.imul, 1) := zo_104 (zkb zk_cX12_feed zn_cX12_feed (by decide +kernel))
theorem dX12_feed_101 : decode cX12_feed 101 = .ok (.lshr, 1) := zo_123 (zkb zk_cX12_feed zn_cX12_feed (by decide +kernel))
theorem dX12_feed_102 : decode cX12_feed 102 = .ok (.l2i, 1) := zo_136 (zkb zk_cX12_feed zn_cX12_feed (by decide +kernel))
theorem dX12_feed_103 : decode cX12_feed 103 = .ok (.i2b, 1) := zo_145 (zkb zk_cX12_feed zn_cX12_feed (by decide +kernel))
theorem dX12_feed_104 : decode cX12_feed 104 = .ok (.bastore, 1) := zo_84 (zkb zk_cX12_feed zn_cX12_feed (by decide +kernel))
theorem dX12_feed_105 : decode cX12_feed 105 = .ok (.aload_n 0, 1) := zo_42 (zkb zk_cX12_feed zn_cX12_feed (by decide +kernel))
theorem dX12_feed_106 : decode cX12_feed 106 = .ok (.dup, 1) := zo_89 (zkb zk_cX12_feed zn_cX12_feed (by decide +kernel))
theorem dX12_feed_107 : decode cX12_feed 107 = .ok (.getfield 118, 3) := zo_180 (b1 := 0) (b2 := 118) (zkb3 zk_cX12_feed zn_cX12_feed (by decide +kernel)) rfl
theorem dX12_feed_110 : decode cX12_feed 110 = .ok (.iconst 1, 1) := zo_4 (zkb zk_cX12_feed zn_cX12_feed (by decide +kernel))
theorem dX12_feed_111 : decode cX12_feed 111 = .ok (.iadd, 1) := zo_96 (zkb zk_cX12_feed zn_cX12_feed (by decide +kernel))
theorem dX12_feed_112 : decode cX12_feed 112 = .ok (.putfield 118, 3) := zo_181 (b1 := 0) (b2 := 118) (zkb3 zk_cX12_feed zn_cX12_feed (by decide +kernel)) rfl
theorem dX12_feed_115 : decode cX12_feed 115 = .ok (.iinc 8 1, 3) := zo_132 (b1 := 8) (b2 := 1) (zkb3 zk_cX12_feed zn_cX12_feed (by decide +kernel)) rfl
theorem dX12_feed_118 : decode cX12_feed 118 = .ok (.goto (-64), 3) := zo_167 (b1 := 255) (b2 := 192) (zkb3 zk_cX12_feed zn_cX12_feed (by decide +kernel)) rfl
theorem dX12_feed_121 : decode cX12_feed 121 = .ok (.aload_n 0, 1) := zo_42 (zkb zk_cX12_feed zn_cX12_feed (by decide +kernel))
theorem dX12_feed_122 : decode cX12_feed 122 = .ok (.getfield 118, 3) := zo_180 (b1 := 0) (b2 := 118) (zkb3 zk_cX12_feed zn_cX12_feed (by decide +kernel)) rfl
theorem dX12_feed_125 : decode cX12_feed 125 = .ok (.ireturn, 1) := zo_172 (zkb zk_cX12_feed zn_cX12_feed (by decide +kernel))
def kn_cX12_grow : Nat := 0xac1cdaffa77600b560047600b4592a5433701c7600b42a0a00b42a7600b42a0a00b42a2400a21b7600b42a3d7600b42aac030500997200b605030400a70407009a7600b42a2a17009a7200b604030400a7040700a409121b0900a17600b42a1b2a
theorem zk_cX12_grow : zkd cX12_grow.data.toList kn_cX12_grow = true := by decide +kernel
theorem zn_cX12_grow : cX12_grow.data.toList.length = 97 := by decide +kernel
theorem dX12_grow_0 : decode cX12_grow 0 = .ok (.aload_n 0, 1) := zo_42 (zkb zk_cX12_grow zn_cX12_grow (by decide +kernel))
theorem dX12_grow_1 : decode cX12_grow 1 = .ok (.iload_n 1, 1) := zo_27 (zkb zk_cX12_grow zn_cX12_grow (by decide +kernel))
theorem dX12_grow_2 : decode cX12_grow 2 = .ok (.aload_n 0, 1) := zo_42 (zkb zk_cX12_grow zn_cX12_grow (by decide +kernel))
theorem dX12_grow_3 : decode cX12_grow 3 = .ok (.getfield 118, 3) := zo_180 (b1 := 0) (b2 := 118) (zkb3 zk_cX12_grow zn_cX12_grow (by decide +kernel)) rfl
theorem dX12_grow_6 : decode cX12_grow 6 = .ok (.if_icmp .lt 9, 3) := zo_161 (b1 := 0) (b2 := 9) (zkb3 zk_cX12_grow zn_cX12_grow (by decide +kernel)) rfl
theorem dX12_grow_9 : decode cX12_grow 9 = .ok (.iload_n 1, 1) := zo_27 (zkb zk_cX12_grow zn_cX12_grow (by decide +kernel))
theorem dX12_grow_10 : decode cX12_grow 10 = .ok (.ldc 9, 2) := zo_18 (b1 := 9) (zkb2 zk_cX12_grow zn_cX12_grow (by decide +kernel))
theorem dX12_grow_12 : decode cX12_grow 12 = .ok (.if_icmp .le 7, 3) := zo_164 (b1 := 0) (b2 := 7) (zkb3 zk_cX12_grow zn_cX12_grow (by decide +kernel)) rfl
theorem dX12_grow_15 : decode cX12_grow 15 = .ok (.iconst 1, 1) := zo_4 (zkb zk_cX12_grow zn_cX12_grow (by decide +kernel))
theorem dX12_grow_16 : decode cX12_grow 16 = .ok (.goto 4, 3) := zo_167 (b1 := 0) (b2 := 4) (zkb3 zk_cX12_grow zn_cX12_grow (by decide +kernel)) rfl
theorem dX12_grow_19 : decode cX12_grow 19 = .ok (.iconst 0, 1) := zo_3 (zkb zk_cX12_grow zn_cX12_grow (by decide +kernel))
theorem dX12_grow_20 : decode cX12_grow 20 = .ok (.iconst 1, 1) := zo_4 (zkb zk_cX12_grow zn_cX12_grow (by decide +kernel))
theorem dX12_grow_21 : decode cX12_grow 21 = .ok (.invokevirtual 114, 3) := zo_182 (b1 := 0) (b2 := 114) (zkb3 zk_cX12_grow zn_cX12_grow (by decide +kernel)) rfl
theorem dX12_grow_24 : decode cX12_grow 24 = .ok (.ifCond .ne 23, 3) := zo_154 (b1 := 0) (b2 := 23) (zkb3 zk_cX12_grow zn_cX12_grow (by decide +kernel)) rfl
theorem dX12_grow_27 : decode cX12_grow 27 = .ok (.aload_n 0, 1) := zo_42 (zkb zk_cX12_grow zn_cX12_grow (by decide +kernel))
theorem dX12_grow_28 : decode cX12_grow 28 = .ok (.aload_n 0, 1) := zo_42 (zkb zk_cX12_grow zn_cX12_grow (by decide +kernel))
theorem dX12_grow_29 : decode cX12_grow 29 = .ok (.getfield 118, 3) := zo_180 (b1 := 0) (b2 := 118) (zkb3 zk_cX12_grow zn_cX12_grow (by decide +kernel)) rfl
theorem dX12_grow_32 : decode cX12_grow 32 = .ok (.ifCond .ne 7, 3) := zo_154 (b1 := 0) (b2 := 7) (zkb3 zk_cX12_grow zn_cX12_grow (by decide +kernel)) rfl
theorem dX12_grow_35 : decode cX12_grow 35 = .ok (.iconst 1, 1) := zo_4 (zkb zk_cX12_grow zn_cX12_grow (by decide +kernel))
theorem dX12_grow_36 : decode cX12_grow 36 = .ok (.goto 4, 3) := zo_167 (b1 := 0) (b2 := 4) (zkb3 zk_cX12_grow zn_cX12_grow (by decide +kernel)) rfl
theorem dX12_grow_39 : decode cX12_grow 39 = .ok (.iconst 0, 1) := zo_3 (zkb zk_cX12_grow zn_cX12_grow (by decide +kernel))
theorem dX12_grow_40 : decode cX12_grow 40 = .ok (.iconst 2, 1) := zo_5 (zkb zk_cX12_grow zn_cX12_grow (by decide +kernel))
theorem dX12_grow_41 : decode cX12_grow 41 = .ok (.invokevirtual 114, 3) := zo_182 (b1 := 0) (b2 := 114) (zkb3 zk_cX12_grow zn_cX12_grow (by decide +kernel)) rfl
theorem dX12_grow_44 : decode cX12_grow 44 = .ok (.ifCond .eq 5, 3) := zo_153 (b1 := 0) (b2 := 5) (zkb3 zk_cX12_grow zn_cX12_grow (by decide +kernel)) rfl
theorem dX12_grow_47 : decode cX12_grow 47 = .ok (.iconst 0, 1) := zo_3 (zkb zk_cX12_grow zn_cX12_grow (by decide +kernel))
theorem dX12_grow_48 : decode cX12_grow 48 = .ok (.ireturn, 1) := zo_172 (zkb zk_cX12_grow zn_cX12_grow (by decide +kernel))
theorem dX12_grow_49 : decode cX12_grow 49 = .ok (.aload_n 0, 1) := zo_42 (zkb zk_cX12_grow zn_cX12_grow (by decide +kernel))
theorem dX12_grow_50 : decode cX12_grow 50 = .ok (.getfield 118, 3) := zo_180 (b1 := 0) (b2 := 118) (zkb3 zk_cX12_grow zn_cX12_grow (by decide +kernel)) rfl
theorem dX12_grow_53 : decode cX12_grow 53 = .ok (.istore_n 2, 1) := zo_61 (zkb zk_cX12_grow zn_cX12_grow (by decide +kernel))
theorem dX12_grow_54 : decode cX12_grow 54 = .ok (.aload_n 0, 1) := zo_42 (zkb zk_cX12_grow zn_cX12_grow (by decide +kernel))
theorem dX12_grow_55 : decode cX12_grow 55 = .ok (.getfield 118, 3) := zo_180 (b1 := 0) (b2 := 118) (zkb3 zk_cX12_grow zn_cX12_grow (by decide +kernel)) rfl
theorem dX12_grow_58 : decode cX12_grow 58 = .ok (.iload_n 1, 1) := zo_27 (zkb zk_cX12_grow zn_cX12_grow (by decide +kernel))
theorem dX12_grow_59 : decode cX12_grow 59 = .ok (.if_icmp .ge 36, 3) := zo_162 (b1 := 0) (b2 := 36) (zkb3 zk_cX12_grow zn_cX12_grow (by decide +kernel)) rfl
theorem dX12_grow_62 : decode cX12_grow 62 = .ok (.aload_n 0, 1) := zo_42 (zkb zk_cX12_grow zn_cX12_grow (by decide +kernel))
theorem dX12_grow_63 : decode cX12_grow 63 = .ok (.getfield 10, 3) := zo_180 (b1 := 0) (b2 := 10) (zkb3 zk_cX12_grow zn_cX12_grow (by decide +kernel)) rfl
theorem dX12_grow_66 : decode cX12_grow 66 = .ok (.aload_n 0, 1) := zo_42 (zkb zk_cX12_grow zn_cX12_grow (by decide +kernel))
theorem dX12_grow_67 : decode cX12_grow 67 = .ok (.getfield 118, 3) := zo_180 (b1 := 0) (b2 := 118) (zkb3 zk_cX12_grow zn_cX12_grow (by decide +kernel)) rfl
theorem dX12_grow_70 : decode cX12_grow 70 = .ok (.aload_n 0, 1) := zo_42 (zkb zk_cX12_grow zn_cX12_grow (by decide +kernel))
theorem dX12_grow_71 : decode cX12_grow 71 = .ok (.getfield 10, 3) := zo_180 (b1 := 0) (b2 := 10) (zkb3 zk_cX12_grow zn_cX12_grow (by decide +kernel)) rfl
theorem dX12_grow_74 : decode cX12_grow 74 = .ok (.aload_n 0, 1) := zo_42 (zkb zk_cX12_grow zn_cX12_grow (by decide +kernel))
theorem dX12_grow_75 : decode cX12_grow 75 = .ok (.getfield 118, 3) := zo_180 (b1 := 0) (b2 := 118) (zkb3 zk_cX12_grow zn_cX12_grow (by decide +kernel)) rfl
theorem dX12_grow_78 : decode cX12_grow 78 = .ok (.iload_n 2, 1) := zo_28 (zkb zk_cX12_grow zn_cX12_grow (by decide +kernel))
theorem dX12_grow_79 : decode cX12_grow 79 = .ok (.irem, 1) := zo_112 (zkb zk_cX12_grow zn_cX12_grow (by decide +kernel))
theorem dX12_grow_80 : decode cX12_grow 80 = .ok (.baload, 1) := zo_51 (zkb zk_cX12_grow zn_cX12_grow (by decide +kernel))
theorem dX12_grow_81 : decode cX12_grow 81 = .ok (.bastore, 1) := zo_84 (zkb zk_cX12_grow zn_cX12_grow (by decide +kernel))
theorem dX12_grow_82 : decode cX12_grow 82 = .ok (.aload_n 0, 1) := zo_42 (zkb zk_cX12_grow zn_cX12_grow (by decide +kernel))
theorem dX12_grow_83 : decode cX12_grow 83 = .ok (.dup, 1) := zo_89 (zkb zk_cX12_grow zn_cX12_grow (by decide +kernel))
theorem dX12_grow_84 : decode cX12_grow 84 = .ok (.getfield 118, 3) := zo_180 (b1 := 0) (b2 := 118) (zkb3 zk_cX12_grow zn_cX12_grow (by decide +kernel)) rfl
theorem dX12_grow_87 : decode cX12_grow 87 = .ok (.iconst 1, 1) := zo_4 (zkb zk_cX12_grow zn_cX12_grow (by decide +kernel))
theorem dX12_grow_88 : decode cX12_grow 88 = .ok (.iadd, 1) := zo_96 (zkb zk_cX12_grow zn_cX12_grow (by decide +kernel))
theorem dX12_grow_89 : decode cX12_grow 89 = .ok (.putfield 118, 3) := zo_181 (b1 := 0) (b2 := 118) (zkb3 zk_cX12_grow zn_cX12_grow (by decide +kernel)) rfl
theorem dX12_grow_92 : decode cX12_grow 92 = .ok (.goto (-38), 3) := zo_167 (b1 := 255) (b2 := 218) (zkb3 zk_cX12_grow zn_cX12_grow (by decide +kernel)) rfl
theorem dX12_grow_95 : decode cX12_grow 95 = .ok (.iload_n 2, 1) := zo_28 (zkb zk_cX12_grow zn_cX12_grow (by decide +kernel))
theorem dX12_grow_96 : decode cX12_grow 96 = .ok (.ireturn, 1) := zo_172 (zkb zk_cX12_grow zn_cX12_grow (by decide +kernel))
def kn_cX12_patch : Nat := 0xb1e4ffa70104845491887b6804150810206004151b0a00b42a1b00a208100415043603b10400997200b604030400a7040700a46408107600b42a1b0e009b1b2a
theorem zk_cX12_patch : zkd cX12_patch.data.toList kn_cX12_patch = true := by decide +kernel
theorem zn_cX12_patch : cX12_patch.data.toList.length = 64 := by decide +kernel
theorem dX12_patch_0 : decode cX12_patch 0 = .ok (.aload_n 0, 1) := zo_42 (zkb zk_cX12_patch zn_cX12_patch (by decide +kernel))
theorem dX12_patch_1 : decode cX12_patch 1 = .ok (.iload_n 1, 1) := zo_27 (zkb zk_cX12_patch zn_cX12_patch (by decide +kernel))
theorem dX12_patch_2 : decode cX12_patch 2 = .ok (.ifCond .lt 14, 3) := zo_155 (b1 := 0) (b2 := 14) (zkb3 zk_cX12_patch zn_cX12_patch (by decide +kernel)) rfl
theorem dX12_patch_5 : decode cX12_patch 5 = .ok (.iload_n 1, 1) := zo_27 (zkb zk_cX12_patch zn_cX12_patch (by decide +kernel))
theorem dX12_patch_6 : decode cX12_patch 6 = .ok (.aload_n 0, 1) := zo_42 (zkb zk_cX12_patch zn_cX12_patch (by decide +kernel))
theorem dX12_patch_7 : decode cX12_patch 7 = .ok (.getfield 118, 3) := zo_180 (b1 := 0) (b2 := 118) (zkb3 zk_cX12_patch zn_cX12_patch (by decide +kernel)) rfl
theorem dX12_patch_10 : decode cX12_patch 10 = .ok (.bipush 8, 2) := zo_16 (b1 := 8) (zkb2 zk_cX12_patch zn_cX12_patch (by decide +kernel)) rfl
theorem dX12_patch_12 : decode cX12_patch 12 = .ok (.isub, 1) := zo_100 (zkb zk_cX12_patch zn_cX12_patch (by decide +kernel))
theorem dX12_patch_13 : decode cX12_patch 13 = .ok (.if_icmp .le 7, 3) := zo_164 (b1 := 0) (b2 := 7) (zkb3 zk_cX12_patch zn_cX12_patch (by decide +kernel)) rfl
theorem dX12_patch_16 : decode cX12_patch 16 = .ok (.iconst 1, 1) := zo_4 (zkb zk_cX12_patch zn_cX12_patch (by decide +kernel))
theorem dX12_patch_17 : decode cX12_patch 17 = .ok (.goto 4, 3) := zo_167 (b1 := 0) (b2 := 4) (zkb3 zk_cX12_patch zn_cX12_patch (by decide +kernel)) rfl
theorem dX12_patch_20 : decode cX12_patch 20 = .ok (.iconst 0, 1) := zo_3 (zkb zk_cX12_patch zn_cX12_patch (by decide +kernel))
theorem dX12_patch_21 : decode cX12_patch 21 = .ok (.iconst 1, 1) := zo_4 (zkb zk_cX12_patch zn_cX12_patch (by decide +kernel))
theorem dX12_patch_22 : decode cX12_patch 22 = .ok (.invokevirtual 114, 3) := zo_182 (b1 := 0) (b2 := 114) (zkb3 zk_cX12_patch zn_cX12_patch (by decide +kernel)) rfl
theorem dX12_patch_25 : decode cX12_patch 25 = .ok (.ifCond .eq 4, 3) := zo_153 (b1 := 0) (b2 := 4) (zkb3 zk_cX12_patch zn_cX12_patch (by decide +kernel)) rfl
theorem dX12_patch_28 : decode cX12_patch 28 = .ok (.return_, 1) := zo_177 (zkb zk_cX12_patch zn_cX12_patch (by decide +kernel))
theorem dX12_patch_29 : decode cX12_patch 29 = .ok (.iconst 0, 1) := zo_3 (zkb zk_cX12_patch zn_cX12_patch (by decide +kernel))
theorem dX12_patch_30 : decode cX12_patch 30 = .ok (.istore 4, 2) := zo_54 (b1 := 4) (zkb2 zk_cX12_patch zn_cX12_patch (by decide +kernel))
theorem dX12_patch_32 : decode cX12_patch 32 = .ok (.iload 4, 2) := zo_21 (b1 := 4) (zkb2 zk_cX12_patch zn_cX12_patch (by decide +kernel))
theorem dX12_patch_34 : decode cX12_patch 34 = .ok (.bipush 8, 2) := zo_16 (b1 := 8) (zkb2 zk_cX12_patch zn_cX12_patch (by decide +kernel)) rfl
theorem dX12_patch_36 : decode cX12_patch 36 = .ok (.if_icmp .ge 27, 3) := zo_162 (b1 := 0) (b2 := 27) (zkb3 zk_cX12_patch zn_cX12_patch (by decide +kernel)) rfl
theorem dX12_patch_39 : decode cX12_patch 39 = .ok (.aload_n 0, 1) := zo_42 (zkb zk_cX12_patch zn_cX12_patch (by decide +kernel))
theorem dX12_patch_40 : decode cX12_patch 40 = .ok (.getfield 10, 3) := zo_180 (b1 := 0) (b2 := 10) (zkb3 zk_cX12_patch zn_cX12_patch (by decide +kernel)) rfl
theorem dX12_patch_43 : decode cX12_patch 43 = .ok (.iload_n 1, 1) := zo_27 (zkb zk_cX12_patch zn_cX12_patch (by decide +kernel))
theorem dX12_patch_44 : decode cX12_patch 44 = .ok (.iload 4, 2) := zo_21 (b1 := 4) (zkb2 zk_cX12_patch zn_cX12_patch (by decide +kernel))
theorem dX12_patch_46 : decode cX12_patch 46 = .ok (.iadd, 1) := zo_96 (zkb zk_cX12_patch zn_cX12_patch (by decide +kernel))
theorem dX12_patch_47 : decode cX12_patch 47 = .ok (.lload_n 2, 1) := zo_32 (zkb zk_cX12_patch zn_cX12_patch (by decide +kernel))
theorem dX12_patch_48 : decode cX12_patch 48 = .ok (.bipush 8, 2) := zo_16 (b1 := 8) (zkb2 zk_cX12_patch zn_cX12_patch (by decide +kernel)) rfl
theorem dX12_patch_50 : decode cX12_patch 50 = .ok (.iload 4, 2) := zo_21 (b1 := 4) (zkb2 zk_cX12_patch zn_cX12_patch (by decide +kernel))
theorem dX12_patch_52 : decode cX12_patch 52 = .ok (.imul, 1) := zo_104 (zkb zk_cX12_patch zn_cX12_patch (by decide +kernel))
theorem dX12_patch_53 : decode cX12_patch 53 = .ok (.lshr, 1) := zo_123 (zkb zk_cX12_patch zn_cX12_patch (by decide +kernel))
theorem dX12_patch_54 : decode cX12_patch 54 = .ok (.l2i, 1) := zo_136 (zkb zk_cX12_patch zn_cX12_patch (by decide +kernel))
theorem dX12_patch_55 : decode cX12_patch 55 = .ok (.i2b, 1) := zo_145 (zkb zk_cX12_patch zn_cX12_patch (by decide +kernel))
theorem dX12_patch_56 : decode cX12_patch 56 = .ok (.bastore, 1) := zo_84 (zkb zk_cX12_patch zn_cX12_patch (by decide +kernel))
theorem dX12_patch_57 : decode cX12_patch 57 = .ok (.iinc 4 1, 3) := zo_132 (b1 := 4) (b2 := 1) (zkb3 zk_cX12_patch zn_cX12_patch (by decide +kernel)) rfl
theorem dX12_patch_60 : decode cX12_patch 60 = .ok (.goto (-28), 3) := zo_167 (b1 := 255) (b2 := 228) (zkb3 zk_cX12_patch zn_cX12_patch (by decide +kernel)) rfl
theorem dX12_patch_63 : decode cX12_patch 63 = .ok (.return_, 1) := zo_177 (zkb zk_cX12_patch zn_cX12_patch (by decide +kernel))
def kn_cX12_bytesAt : Nat := 0xac1de5ffa7ff04843e807eff0011336004151b0f00b42a7808101d1c009b0415043664041c3e03
theorem zk_cX12_bytesAt : zkd cX12_bytesAt.data.toList kn_cX12_bytesAt = true := by decide +kernel
theorem zn_cX12_bytesAt : cX12_bytesAt.data.toList.length = 39 := by decide +kernel
theorem dX12_bytesAt_0 : decode cX12_bytesAt 0 = .ok (.iconst 0, 1) := zo_3 (zkb zk_cX12_bytesAt zn_cX12_bytesAt (by decide +kernel))
theorem dX12_bytesAt_1 : decode cX12_bytesAt 1 = .ok (.istore_n 3, 1) := zo_62 (zkb zk_cX12_bytesAt zn_cX12_bytesAt (by decide +kernel))
theorem dX12_bytesAt_2 : decode cX12_bytesAt 2 = .ok (.iload_n 2, 1) := zo_28 (zkb zk_cX12_bytesAt zn_cX12_bytesAt (by decide +kernel))
theorem dX12_bytesAt_3 : decode cX12_bytesAt 3 = .ok (.iconst 1, 1) := zo_4 (zkb zk_cX12_bytesAt zn_cX12_bytesAt (by decide +kernel))
theorem dX12_bytesAt_4 : decode cX12_bytesAt 4 = .ok (.isub, 1) := zo_100 (zkb zk_cX12_bytesAt zn_cX12_bytesAt (by decide +kernel))
theorem dX12_bytesAt_5 : decode cX12_bytesAt 5 = .ok (.istore 4, 2) := zo_54 (b1 := 4) (zkb2 zk_cX12_bytesAt zn_cX12_bytesAt (by decide +kernel))
theorem dX12_bytesAt_7 : decode cX12_bytesAt 7 = .ok (.iload 4, 2) := zo_21 (b1 := 4) (zkb2 zk_cX12_bytesAt zn_cX12_bytesAt (by decide +kernel))
theorem dX12_bytesAt_9 : decode cX12_bytesAt 9 = .ok (.ifCond .lt 28, 3) := zo_155 (b1 := 0) (b2 := 28) (zkb3 zk_cX12_bytesAt zn_cX12_bytesAt (by decide +kernel)) rfl
theorem dX12_bytesAt_12 : decode cX12_bytesAt 12 = .ok (.iload_n 3, 1) := zo_29 (zkb zk_cX12_bytesAt zn_cX12_bytesAt (by decide +kernel))
theorem dX12_bytesAt_13 : decode cX12_bytesAt 13 = .ok (.bipush 8, 2) := zo_16 (b1 := 8) (zkb2 zk_cX12_bytesAt zn_cX12_bytesAt (by decide +kernel)) rfl
theorem dX12_bytesAt_15 : decode cX12_bytesAt 15 = .ok (.ishl, 1) := zo_120 (zkb zk_cX12_bytesAt zn_cX12_bytesAt (by decide +kernel))
theorem dX12_bytesAt_16 : decode cX12_bytesAt 16 = .ok (.aload_n 0, 1) := zo_42 (zkb zk_cX12_bytesAt zn_cX12_bytesAt (by decide +kernel))
theorem dX12_bytesAt_17 : decode cX12_bytesAt 17 = .ok (.getfield 15, 3) := zo_180 (b1 := 0) (b2 := 15) (zkb3 zk_cX12_bytesAt zn_cX12_bytesAt (by decide +kernel)) rfl
theorem dX12_bytesAt_20 : decode cX12_bytesAt 20 = .ok (.iload_n 1, 1) := zo_27 (zkb zk_cX12_bytesAt zn_cX12_bytesAt (by decide +kernel))
theorem dX12_bytesAt_21 : decode cX12_bytesAt 21 = .ok (.iload 4, 2) := zo_21 (b1 := 4) (zkb2 zk_cX12_bytesAt zn_cX12_bytesAt (by decide +kernel))
theorem dX12_bytesAt_23 : decode cX12_bytesAt 23 = .ok (.iadd, 1) := zo_96 (zkb zk_cX12_bytesAt zn_cX12_bytesAt (by decide +kernel))
theorem dX12_bytesAt_24 : decode cX12_bytesAt 24 = .ok (.baload, 1) := zo_51 (zkb zk_cX12_bytesAt zn_cX12_bytesAt (by decide +kernel))
theorem dX12_bytesAt_25 : decode cX12_bytesAt 25 = .ok (.sipush 255, 3) := zo_17 (b1 := 0) (b2 := 255) (zkb3 zk_cX12_bytesAt zn_cX12_bytesAt (by decide +kernel)) rfl
theorem dX12_bytesAt_28 : decode cX12_bytesAt 28 = .ok (.iand, 1) := zo_126 (zkb zk_cX12_bytesAt zn_cX12_bytesAt (by decide +kernel))
theorem dX12_bytesAt_29 : decode cX12_bytesAt 29 = .ok (.ior, 1) := zo_128 (zkb zk_cX12_bytesAt zn_cX12_bytesAt (by decide +kernel))
theorem dX12_bytesAt_30 : decode cX12_bytesAt 30 = .ok (.istore_n 3, 1) := zo_62 (zkb zk_cX12_bytesAt zn_cX12_bytesAt (by decide +kernel))
theorem dX12_bytesAt_31 : decode cX12_bytesAt 31 = .ok (.iinc 4 (-1), 3) := zo_132 (b1 := 4) (b2 := 255) (zkb3 zk_cX12_bytesAt zn_cX12_bytesAt (by decide +kernel)) rfl
theorem dX12_bytesAt_34 : decode cX12_bytesAt 34 = .ok (.goto (-27), 3) := zo_167 (b1 := 255) (b2 := 229) (zkb3 zk_cX12_bytesAt zn_cX12_bytesAt (by decide +kernel)) rfl
theorem dX12_bytesAt_37 : decode cX12_bytesAt 37 = .ok (.iload_n 3, 1) := zo_29 (zkb zk_cX12_bytesAt zn_cX12_bytesAt (by decide +kernel))
theorem dX12_bytesAt_38 : decode cX12_bytesAt 38 = .ok (.ireturn, 1) := zo_172 (zkb zk_cX12_bytesAt zn_cX12_bytesAt (by decide +kernel))
def kn_cX12_load : Nat := 0xac039000b5032aedffa7010684540306151e00b42a1100a200201106150636036600b62a8c00b57e8f128c00b42a0a00a70307009c1200b42a2ad3ffa70106848c00b5607eff00113306150f00b42a8c00b4592a1d00a20605150900a30d1005152a00a27900b42a061506362112e0ffa70106848c00b5607eff00113306150f00b42a8c00b4592a1d00a21200b42a061506360305367e0f1033600f101200b42a0f00b42a1200a70607009c1200b42a8c00b5032a8900b5040400a70607009c1200b42a0f00a7050700a088126004151d10009e1d2000a7030700a383127900b42a2a0436030400a78400b605e87f112a0e00a483127900b42a3e030400a78400b605e67f112a0e00a483127900b42ae6ffa73e601010681d051200b51d2a0800997f00b61d2a1a00a221121d3ef01f111200b5022ad7ffa701038454020400a733601d1b0a00b42a0e00a27900b42a1d1d0f00b42a2300a2687c00b42a0040111d3e037c00b56c00401160ff3f117900b42a2a7900b51c2aac060500a40e121cac05050099700020111cac040500a20020111c7600b5032a3d641b7600b42a3c030400a70002110900a0000211700040117600b42a6900b5032a
theorem zk_cX12_load : zkd cX12_load.data.toList kn_cX12_load = true := by decide +kernel
theorem zn_cX12_load : cX12_load.data.toList.length = 443 := by decide +kernel
theorem dX12_load_0 : decode cX12_load 0 = .ok (.aload_n 0, 1) := zo_42 (zkb zk_cX12_load zn_cX12_load (by decide +kernel))
theorem dX12_load_1 : decode cX12_load 1 = .ok (.iconst 0, 1) := zo_3 (zkb zk_cX12_load zn_cX12_load (by decide +kernel))
theorem dX12_load_2 : decode cX12_load 2 = .ok (.putfield 105, 3) := zo_181 (b1 := 0) (b2 := 105) (zkb3 zk_cX12_load zn_cX12_load (by decide +kernel)) rfl
theorem dX12_load_5 : decode cX12_load 5 = .ok (.aload_n 0, 1) := zo_42 (zkb zk_cX12_load zn_cX12_load (by decide +kernel))
theorem dX12_load_6 : decode cX12_load 6 = .ok (.getfield 118, 3) := zo_180 (b1 := 0) (b2 := 118) (zkb3 zk_cX12_load zn_cX12_load (by decide +kernel)) rfl
theorem dX12_load_9 : decode cX12_load 9 = .ok (.sipush 16384, 3) := zo_17 (b1 := 64) (b2 := 0) (zkb3 zk_cX12_load zn_cX12_load (by decide +kernel)) rfl
theorem dX12_load_12 : decode cX12_load 12 = .ok (.irem, 1) := zo_112 (zkb zk_cX12_load zn_cX12_load (by decide +kernel))
theorem dX12_load_13 : decode cX12_load 13 = .ok (.sipush 512, 3) := zo_17 (b1 := 2) (b2 := 0) (zkb3 zk_cX12_load zn_cX12_load (by decide +kernel)) rfl
theorem dX12_load_16 : decode cX12_load 16 = .ok (.if_icmp .ne 9, 3) := zo_160 (b1 := 0) (b2 := 9) (zkb3 zk_cX12_load zn_cX12_load (by decide +kernel)) rfl
theorem dX12_load_19 : decode cX12_load 19 = .ok (.sipush 512, 3) := zo_17 (b1 := 2) (b2 := 0) (zkb3 zk_cX12_load zn_cX12_load (by decide +kernel)) rfl
theorem dX12_load_22 : decode cX12_load 22 = .ok (.goto 4, 3) := zo_167 (b1 := 0) (b2 := 4) (zkb3 zk_cX12_load zn_cX12_load (by decide +kernel)) rfl
theorem dX12_load_25 : decode cX12_load 25 = .ok (.iconst 0, 1) := zo_3 (zkb zk_cX12_load zn_cX12_load (by decide +kernel))
theorem dX12_load_26 : decode cX12_load 26 = .ok (.istore_n 1, 1) := zo_60 (zkb zk_cX12_load zn_cX12_load (by decide +kernel))
theorem dX12_load_27 : decode cX12_load 27 = .ok (.aload_n 0, 1) := zo_42 (zkb zk_cX12_load zn_cX12_load (by decide +kernel))
theorem dX12_load_28 : decode cX12_load 28 = .ok (.getfield 118, 3) := zo_180 (b1 := 0) (b2 := 118) (zkb3 zk_cX12_load zn_cX12_load (by decide +kernel)) rfl
theorem dX12_load_31 : decode cX12_load 31 = .ok (.iload_n 1, 1) := zo_27 (zkb zk_cX12_load zn_cX12_load (by decide +kernel))
theorem dX12_load_32 : decode cX12_load 32 = .ok (.isub, 1) := zo_100 (zkb zk_cX12_load zn_cX12_load (by decide +kernel))
theorem dX12_load_33 : decode cX12_load 33 = .ok (.istore_n 2, 1) := zo_61 (zkb zk_cX12_load zn_cX12_load (by decide +kernel))
theorem dX12_load_34 : decode cX12_load 34 = .ok (.aload_n 0, 1) := zo_42 (zkb zk_cX12_load zn_cX12_load (by decide +kernel))
theorem dX12_load_35 : decode cX12_load 35 = .ok (.iconst 0, 1) := zo_3 (zkb zk_cX12_load zn_cX12_load (by decide +kernel))
theorem dX12_load_36 : decode cX12_load 36 = .ok (.putfield 118, 3) := zo_181 (b1 := 0) (b2 := 118) (zkb3 zk_cX12_load zn_cX12_load (by decide +kernel)) rfl
theorem dX12_load_39 : decode cX12_load 39 = .ok (.iload_n 2, 1) := zo_28 (zkb zk_cX12_load zn_cX12_load (by decide +kernel))
theorem dX12_load_40 : decode cX12_load 40 = .ok (.sipush 8192, 3) := zo_17 (b1 := 32) (b2 := 0) (zkb3 zk_cX12_load zn_cX12_load (by decide +kernel)) rfl
theorem dX12_load_43 : decode cX12_load 43 = .ok (.if_icmp .ge 5, 3) := zo_162 (b1 := 0) (b2 := 5) (zkb3 zk_cX12_load zn_cX12_load (by decide +kernel)) rfl
theorem dX12_load_46 : decode cX12_load 46 = .ok (.iconst 1, 1) := zo_4 (zkb zk_cX12_load zn_cX12_load (by decide +kernel))
theorem dX12_load_47 : decode cX12_load 47 = .ok (.ireturn, 1) := zo_172 (zkb zk_cX12_load zn_cX12_load (by decide +kernel))
theorem dX12_load_48 : decode cX12_load 48 = .ok (.iload_n 2, 1) := zo_28 (zkb zk_cX12_load zn_cX12_load (by decide +kernel))
theorem dX12_load_49 : decode cX12_load 49 = .ok (.sipush 8192, 3) := zo_17 (b1 := 32) (b2 := 0) (zkb3 zk_cX12_load zn_cX12_load (by decide +kernel)) rfl
theorem dX12_load_52 : decode cX12_load 52 = .ok (.irem, 1) := zo_112 (zkb zk_cX12_load zn_cX12_load (by decide +kernel))
theorem dX12_load_53 : decode cX12_load 53 = .ok (.ifCond .eq 5, 3) := zo_153 (b1 := 0) (b2 := 5) (zkb3 zk_cX12_load zn_cX12_load (by decide +kernel)) rfl
theorem dX12_load_56 : decode cX12_load 56 = .ok (.iconst 2, 1) := zo_5 (zkb zk_cX12_load zn_cX12_load (by decide +kernel))
theorem dX12_load_57 : decode cX12_load 57 = .ok (.ireturn, 1) := zo_172 (zkb zk_cX12_load zn_cX12_load (by decide +kernel))
theorem dX12_load_58 : decode cX12_load 58 = .ok (.iload_n 2, 1) := zo_28 (zkb zk_cX12_load zn_cX12_load (by decide +kernel))
theorem dX12_load_59 : decode cX12_load 59 = .ok (.ldc 14, 2) := zo_18 (b1 := 14) (zkb2 zk_cX12_load zn_cX12_load (by decide +kernel))
theorem dX12_load_61 : decode cX12_load 61 = .ok (.if_icmp .le 5, 3) := zo_164 (b1 := 0) (b2 := 5) (zkb3 zk_cX12_load zn_cX12_load (by decide +kernel)) rfl
theorem dX12_load_64 : decode cX12_load 64 = .ok (.iconst 3, 1) := zo_6 (zkb zk_cX12_load zn_cX12_load (by decide +kernel))
theorem dX12_load_65 : decode cX12_load 65 = .ok (.ireturn, 1) := zo_172 (zkb zk_cX12_load zn_cX12_load (by decide +kernel))
theorem dX12_load_66 : decode cX12_load 66 = .ok (.aload_n 0, 1) := zo_42 (zkb zk_cX12_load zn_cX12_load (by decide +kernel))
theorem dX12_load_67 : decode cX12_load 67 = .ok (.iload_n 2, 1) := zo_28 (zkb zk_cX12_load zn_cX12_load (by decide +kernel))
theorem dX12_load_68 : decode cX12_load 68 = .ok (.putfield 121, 3) := zo_181 (b1 := 0) (b2 := 121) (zkb3 zk_cX12_load zn_cX12_load (by decide +kernel)) rfl
theorem dX12_load_71 : decode cX12_load 71 = .ok (.aload_n 0, 1) := zo_42 (zkb zk_cX12_load zn_cX12_load (by decide +kernel))
theorem dX12_load_72 : decode cX12_load 72 = .ok (.aload_n 0, 1) := zo_42 (zkb zk_cX12_load zn_cX12_load (by decide +kernel))
theorem dX12_load_73 : decode cX12_load 73 = .ok (.getfield 121, 3) := zo_180 (b1 := 0) (b2 := 121) (zkb3 zk_cX12_load zn_cX12_load (by decide +kernel)) rfl
theorem dX12_load_76 : decode cX12_load 76 = .ok (.sipush 16383, 3) := zo_17 (b1 := 63) (b2 := 255) (zkb3 zk_cX12_load zn_cX12_load (by decide +kernel)) rfl
theorem dX12_load_79 : decode cX12_load 79 = .ok (.iadd, 1) := zo_96 (zkb zk_cX12_load zn_cX12_load (by decide +kernel))
theorem dX12_load_80 : decode cX12_load 80 = .ok (.sipush 16384, 3) := zo_17 (b1 := 64) (b2 := 0) (zkb3 zk_cX12_load zn_cX12_load (by decide +kernel)) rfl
theorem dX12_load_83 : decode cX12_load 83 = .ok (.idiv, 1) := zo_108 (zkb zk_cX12_load zn_cX12_load (by decide +kernel))
theorem dX12_load_84 : decode cX12_load 84 = .ok (.putfield 124, 3) := zo_181 (b1 := 0) (b2 := 124) (zkb3 zk_cX12_load zn_cX12_load (by decide +kernel)) rfl
theorem dX12_load_87 : decode cX12_load 87 = .ok (.iconst 0, 1) := zo_3 (zkb zk_cX12_load zn_cX12_load (by decide +kernel))
theorem dX12_load_88 : decode cX12_load 88 = .ok (.istore_n 3, 1) := zo_62 (zkb zk_cX12_load zn_cX12_load (by decide +kernel))
theorem dX12_load_89 : decode cX12_load 89 = .ok (.iload_n 3, 1) := zo_29 (zkb zk_cX12_load zn_cX12_load (by decide +kernel))
theorem dX12_load_90 : decode cX12_load 90 = .ok (.sipush 16384, 3) := zo_17 (b1 := 64) (b2 := 0) (zkb3 zk_cX12_load zn_cX12_load (by decide +kernel)) rfl
theorem dX12_load_93 : decode cX12_load 93 = .ok (.aload_n 0, 1) := zo_42 (zkb zk_cX12_load zn_cX12_load (by decide +kernel))
theorem dX12_load_94 : decode cX12_load 94 = .ok (.getfield 124, 3) := zo_180 (b1 := 0) (b2 := 124) (zkb3 zk_cX12_load zn_cX12_load (by decide +kernel)) rfl
theorem dX12_load_97 : decode cX12_load 97 = .ok (.imul, 1) := zo_104 (zkb zk_cX12_load zn_cX12_load (by decide +kernel))
theorem dX12_load_98 : decode cX12_load 98 = .ok (.if_icmp .ge 35, 3) := zo_162 (b1 := 0) (b2 := 35) (zkb3 zk_cX12_load zn_cX12_load (by decide +kernel)) rfl
theorem dX12_load_101 : decode cX12_load 101 = .ok (.aload_n 0, 1) := zo_42 (zkb zk_cX12_load zn_cX12_load (by decide +kernel))
theorem dX12_load_102 : decode cX12_load 102 = .ok (.getfield 15, 3) := zo_180 (b1 := 0) (b2 := 15) (zkb3 zk_cX12_load zn_cX12_load (by decide +kernel)) rfl
theorem dX12_load_105 : decode cX12_load 105 = .ok (.iload_n 3, 1) := zo_29 (zkb zk_cX12_load zn_cX12_load (by decide +kernel))
theorem dX12_load_106 : decode cX12_load 106 = .ok (.iload_n 3, 1) := zo_29 (zkb zk_cX12_load zn_cX12_load (by decide +kernel))
theorem dX12_load_107 : decode cX12_load 107 = .ok (.aload_n 0, 1) := zo_42 (zkb zk_cX12_load zn_cX12_load (by decide +kernel))
theorem dX12_load_108 : decode cX12_load 108 = .ok (.getfield 121, 3) := zo_180 (b1 := 0) (b2 := 121) (zkb3 zk_cX12_load zn_cX12_load (by decide +kernel)) rfl
theorem dX12_load_111 : decode cX12_load 111 = .ok (.if_icmp .ge 14, 3) := zo_162 (b1 := 0) (b2 := 14) (zkb3 zk_cX12_load zn_cX12_load (by decide +kernel)) rfl
theorem dX12_load_114 : decode cX12_load 114 = .ok (.aload_n 0, 1) := zo_42 (zkb zk_cX12_load zn_cX12_load (by decide +kernel))
theorem dX12_load_115 : decode cX12_load 115 = .ok (.getfield 10, 3) := zo_180 (b1 := 0) (b2 := 10) (zkb3 zk_cX12_load zn_cX12_load (by decide +kernel)) rfl
theorem dX12_load_118 : decode cX12_load 118 = .ok (.iload_n 1, 1) := zo_27 (zkb zk_cX12_load zn_cX12_load (by decide +kernel))
theorem dX12_load_119 : decode cX12_load 119 = .ok (.iload_n 3, 1) := zo_29 (zkb zk_cX12_load zn_cX12_load (by decide +kernel))
theorem dX12_load_120 : decode cX12_load 120 = .ok (.iadd, 1) := zo_96 (zkb zk_cX12_load zn_cX12_load (by decide +kernel))
theorem dX12_load_121 : decode cX12_load 121 = .ok (.baload, 1) := zo_51 (zkb zk_cX12_load zn_cX12_load (by decide +kernel))
theorem dX12_load_122 : decode cX12_load 122 = .ok (.goto 4, 3) := zo_167 (b1 := 0) (b2 := 4) (zkb3 zk_cX12_load zn_cX12_load (by decide +kernel)) rfl
theorem dX12_load_125 : decode cX12_load 125 = .ok (.iconst (-1), 1) := zo_2 (zkb zk_cX12_load zn_cX12_load (by decide +kernel))
theorem dX12_load_126 : decode cX12_load 126 = .ok (.bastore, 1) := zo_84 (zkb zk_cX12_load zn_cX12_load (by decide +kernel))
theorem dX12_load_127 : decode cX12_load 127 = .ok (.iinc 3 1, 3) := zo_132 (b1 := 3) (b2 := 1) (zkb3 zk_cX12_load zn_cX12_load (by decide +kernel)) rfl
theorem dX12_load_130 : decode cX12_load 130 = .ok (.goto (-41), 3) := zo_167 (b1 := 255) (b2 := 215) (zkb3 zk_cX12_load zn_cX12_load (by decide +kernel)) rfl
theorem dX12_load_133 : decode cX12_load 133 = .ok (.aload_n 0, 1) := zo_42 (zkb zk_cX12_load zn_cX12_load (by decide +kernel))
theorem dX12_load_134 : decode cX12_load 134 = .ok (.iconst (-1), 1) := zo_2 (zkb zk_cX12_load zn_cX12_load (by decide +kernel))
theorem dX12_load_135 : decode cX12_load 135 = .ok (.putfield 18, 3) := zo_181 (b1 := 0) (b2 := 18) (zkb3 zk_cX12_load zn_cX12_load (by decide +kernel)) rfl
theorem dX12_load_138 : decode cX12_load 138 = .ok (.sipush 8176, 3) := zo_17 (b1 := 31) (b2 := 240) (zkb3 zk_cX12_load zn_cX12_load (by decide +kernel)) rfl
theorem dX12_load_141 : decode cX12_load 141 = .ok (.istore_n 3, 1) := zo_62 (zkb zk_cX12_load zn_cX12_load (by decide +kernel))
theorem dX12_load_142 : decode cX12_load 142 = .ok (.iload_n 3, 1) := zo_29 (zkb zk_cX12_load zn_cX12_load (by decide +kernel))
theorem dX12_load_143 : decode cX12_load 143 = .ok (.ldc 33, 2) := zo_18 (b1 := 33) (zkb2 zk_cX12_load zn_cX12_load (by decide +kernel))
theorem dX12_load_145 : decode cX12_load 145 = .ok (.if_icmp .ge 26, 3) := zo_162 (b1 := 0) (b2 := 26) (zkb3 zk_cX12_load zn_cX12_load (by decide +kernel)) rfl
theorem dX12_load_148 : decode cX12_load 148 = .ok (.aload_n 0, 1) := zo_42 (zkb zk_cX12_load zn_cX12_load (by decide +kernel))
theorem dX12_load_149 : decode cX12_load 149 = .ok (.iload_n 3, 1) := zo_29 (zkb zk_cX12_load zn_cX12_load (by decide +kernel))
theorem dX12_load_150 : decode cX12_load 150 = .ok (.invokevirtual 127, 3) := zo_182 (b1 := 0) (b2 := 127) (zkb3 zk_cX12_load zn_cX12_load (by decide +kernel)) rfl
theorem dX12_load_153 : decode cX12_load 153 = .ok (.ifCond .eq 8, 3) := zo_153 (b1 := 0) (b2 := 8) (zkb3 zk_cX12_load zn_cX12_load (by decide +kernel)) rfl
theorem dX12_load_156 : decode cX12_load 156 = .ok (.aload_n 0, 1) := zo_42 (zkb zk_cX12_load zn_cX12_load (by decide +kernel))
theorem dX12_load_157 : decode cX12_load 157 = .ok (.iload_n 3, 1) := zo_29 (zkb zk_cX12_load zn_cX12_load (by decide +kernel))
theorem dX12_load_158 : decode cX12_load 158 = .ok (.putfield 18, 3) := zo_181 (b1 := 0) (b2 := 18) (zkb3 zk_cX12_load zn_cX12_load (by decide +kernel)) rfl
theorem dX12_load_161 : decode cX12_load 161 = .ok (.iconst 2, 1) := zo_5 (zkb zk_cX12_load zn_cX12_load (by decide +kernel))
theorem dX12_load_162 : decode cX12_load 162 = .ok (.iload_n 3, 1) := zo_29 (zkb zk_cX12_load zn_cX12_load (by decide +kernel))
theorem dX12_load_163 : decode cX12_load 163 = .ok (.imul, 1) := zo_104 (zkb zk_cX12_load zn_cX12_load (by decide +kernel))
theorem dX12_load_164 : decode cX12_load 164 = .ok (.bipush 16, 2) := zo_16 (b1 := 16) (zkb2 zk_cX12_load zn_cX12_load (by decide +kernel)) rfl
theorem dX12_load_166 : decode cX12_load 166 = .ok (.iadd, 1) := zo_96 (zkb zk_cX12_load zn_cX12_load (by decide +kernel))
theorem dX12_load_167 : decode cX12_load 167 = .ok (.istore_n 3, 1) := zo_62 (zkb zk_cX12_load zn_cX12_load (by decide +kernel))
theorem dX12_load_168 : decode cX12_load 168 = .ok (.goto (-26), 3) := zo_167 (b1 := 255) (b2 := 230) (zkb3 zk_cX12_load zn_cX12_load (by decide +kernel)) rfl
theorem dX12_load_171 : decode cX12_load 171 = .ok (.aload_n 0, 1) := zo_42 (zkb zk_cX12_load zn_cX12_load (by decide +kernel))
theorem dX12_load_172 : decode cX12_load 172 = .ok (.getfield 121, 3) := zo_180 (b1 := 0) (b2 := 121) (zkb3 zk_cX12_load zn_cX12_load (by decide +kernel)) rfl
theorem dX12_load_175 : decode cX12_load 175 = .ok (.ldc 131, 2) := zo_18 (b1 := 131) (zkb2 zk_cX12_load zn_cX12_load (by decide +kernel))
theorem dX12_load_177 : decode cX12_load 177 = .ok (.if_icmp .le 14, 3) := zo_164 (b1 := 0) (b2 := 14) (zkb3 zk_cX12_load zn_cX12_load (by decide +kernel)) rfl
theorem dX12_load_180 : decode cX12_load 180 = .ok (.aload_n 0, 1) := zo_42 (zkb zk_cX12_load zn_cX12_load (by decide +kernel))
theorem dX12_load_181 : decode cX12_load 181 = .ok (.sipush 32742, 3) := zo_17 (b1 := 127) (b2 := 230) (zkb3 zk_cX12_load zn_cX12_load (by decide +kernel)) rfl
theorem dX12_load_184 : decode cX12_load 184 = .ok (.iconst 2, 1) := zo_5 (zkb zk_cX12_load zn_cX12_load (by decide +kernel))
theorem dX12_load_185 : decode cX12_load 185 = .ok (.invokevirtual 132, 3) := zo_182 (b1 := 0) (b2 := 132) (zkb3 zk_cX12_load zn_cX12_load (by decide +kernel)) rfl
theorem dX12_load_188 : decode cX12_load 188 = .ok (.goto 4, 3) := zo_167 (b1 := 0) (b2 := 4) (zkb3 zk_cX12_load zn_cX12_load (by decide +kernel)) rfl
theorem dX12_load_191 : decode cX12_load 191 = .ok (.iconst 0, 1) := zo_3 (zkb zk_cX12_load zn_cX12_load (by decide +kernel))
theorem dX12_load_192 : decode cX12_load 192 = .ok (.istore_n 3, 1) := zo_62 (zkb zk_cX12_load zn_cX12_load (by decide +kernel))
theorem dX12_load_193 : decode cX12_load 193 = .ok (.aload_n 0, 1) := zo_42 (zkb zk_cX12_load zn_cX12_load (by decide +kernel))
theorem dX12_load_194 : decode cX12_load 194 = .ok (.getfield 121, 3) := zo_180 (b1 := 0) (b2 := 121) (zkb3 zk_cX12_load zn_cX12_load (by decide +kernel)) rfl
theorem dX12_load_197 : decode cX12_load 197 = .ok (.ldc 131, 2) := zo_18 (b1 := 131) (zkb2 zk_cX12_load zn_cX12_load (by decide +kernel))
theorem dX12_load_199 : decode cX12_load 199 = .ok (.if_icmp .le 14, 3) := zo_164 (b1 := 0) (b2 := 14) (zkb3 zk_cX12_load zn_cX12_load (by decide +kernel)) rfl
theorem dX12_load_202 : decode cX12_load 202 = .ok (.aload_n 0, 1) := zo_42 (zkb zk_cX12_load zn_cX12_load (by decide +kernel))
theorem dX12_load_203 : decode cX12_load 203 = .ok (.sipush 32744, 3) := zo_17 (b1 := 127) (b2 := 232) (zkb3 zk_cX12_load zn_cX12_load (by decide +kernel)) rfl
theorem dX12_load_206 : decode cX12_load 206 = .ok (.iconst 2, 1) := zo_5 (zkb zk_cX12_load zn_cX12_load (by decide +kernel))
theorem dX12_load_207 : decode cX12_load 207 = .ok (.invokevirtual 132, 3) := zo_182 (b1 := 0) (b2 := 132) (zkb3 zk_cX12_load zn_cX12_load (by decide +kernel)) rfl
theorem dX12_load_210 : decode cX12_load 210 = .ok (.goto 4, 3) := zo_167 (b1 := 0) (b2 := 4) (zkb3 zk_cX12_load zn_cX12_load (by decide +kernel)) rfl
theorem dX12_load_213 : decode cX12_load 213 = .ok (.iconst 0, 1) := zo_3 (zkb zk_cX12_load zn_cX12_load (by decide +kernel))
theorem dX12_load_214 : decode cX12_load 214 = .ok (.istore 4, 2) := zo_54 (b1 := 4) (zkb2 zk_cX12_load zn_cX12_load (by decide +kernel))
theorem dX12_load_216 : decode cX12_load 216 = .ok (.aload_n 0, 1) := zo_42 (zkb zk_cX12_load zn_cX12_load (by decide +kernel))
theorem dX12_load_217 : decode cX12_load 217 = .ok (.aload_n 0, 1) := zo_42 (zkb zk_cX12_load zn_cX12_load (by decide +kernel))
theorem dX12_load_218 : decode cX12_load 218 = .ok (.getfield 121, 3) := zo_180 (b1 := 0) (b2 := 121) (zkb3 zk_cX12_load zn_cX12_load (by decide +kernel)) rfl
theorem dX12_load_221 : decode cX12_load 221 = .ok (.ldc 131, 2) := zo_18 (b1 := 131) (zkb2 zk_cX12_load zn_cX12_load (by decide +kernel))
theorem dX12_load_223 : decode cX12_load 223 = .ok (.if_icmp .gt 7, 3) := zo_163 (b1 := 0) (b2 := 7) (zkb3 zk_cX12_load zn_cX12_load (by decide +kernel)) rfl
theorem dX12_load_226 : decode cX12_load 226 = .ok (.iconst 0, 1) := zo_3 (zkb zk_cX12_load zn_cX12_load (by decide +kernel))
theorem dX12_load_227 : decode cX12_load 227 = .ok (.goto 32, 3) := zo_167 (b1 := 0) (b2 := 32) (zkb3 zk_cX12_load zn_cX12_load (by decide +kernel)) rfl
theorem dX12_load_230 : decode cX12_load 230 = .ok (.iload_n 3, 1) := zo_29 (zkb zk_cX12_load zn_cX12_load (by decide +kernel))
theorem dX12_load_231 : decode cX12_load 231 = .ok (.ifCond .le 16, 3) := zo_158 (b1 := 0) (b2 := 16) (zkb3 zk_cX12_load zn_cX12_load (by decide +kernel)) rfl
theorem dX12_load_234 : decode cX12_load 234 = .ok (.iload_n 3, 1) := zo_29 (zkb zk_cX12_load zn_cX12_load (by decide +kernel))
theorem dX12_load_235 : decode cX12_load 235 = .ok (.iload 4, 2) := zo_21 (b1 := 4) (zkb2 zk_cX12_load zn_cX12_load (by decide +kernel))
theorem dX12_load_237 : decode cX12_load 237 = .ok (.iadd, 1) := zo_96 (zkb zk_cX12_load zn_cX12_load (by decide +kernel))
theorem dX12_load_238 : decode cX12_load 238 = .ok (.ldc 136, 2) := zo_18 (b1 := 136) (zkb2 zk_cX12_load zn_cX12_load (by decide +kernel))
theorem dX12_load_240 : decode cX12_load 240 = .ok (.if_icmp .ne 7, 3) := zo_160 (b1 := 0) (b2 := 7) (zkb3 zk_cX12_load zn_cX12_load (by decide +kernel)) rfl
theorem dX12_load_243 : decode cX12_load 243 = .ok (.iconst 2, 1) := zo_5 (zkb zk_cX12_load zn_cX12_load (by decide +kernel))
theorem dX12_load_244 : decode cX12_load 244 = .ok (.goto 15, 3) := zo_167 (b1 := 0) (b2 := 15) (zkb3 zk_cX12_load zn_cX12_load (by decide +kernel)) rfl
theorem dX12_load_247 : decode cX12_load 247 = .ok (.aload_n 0, 1) := zo_42 (zkb zk_cX12_load zn_cX12_load (by decide +kernel))
theorem dX12_load_248 : decode cX12_load 248 = .ok (.getfield 18, 3) := zo_180 (b1 := 0) (b2 := 18) (zkb3 zk_cX12_load zn_cX12_load (by decide +kernel)) rfl
theorem dX12_load_251 : decode cX12_load 251 = .ok (.ifCond .ge 7, 3) := zo_156 (b1 := 0) (b2 := 7) (zkb3 zk_cX12_load zn_cX12_load (by decide +kernel)) rfl
theorem dX12_load_254 : decode cX12_load 254 = .ok (.iconst 3, 1) := zo_6 (zkb zk_cX12_load zn_cX12_load (by decide +kernel))
theorem dX12_load_255 : decode cX12_load 255 = .ok (.goto 4, 3) := zo_167 (b1 := 0) (b2 := 4) (zkb3 zk_cX12_load zn_cX12_load (by decide +kernel)) rfl
theorem dX12_load_258 : decode cX12_load 258 = .ok (.iconst 1, 1) := zo_4 (zkb zk_cX12_load zn_cX12_load (by decide +kernel))
theorem dX12_load_259 : decode cX12_load 259 = .ok (.putfield 137, 3) := zo_181 (b1 := 0) (b2 := 137) (zkb3 zk_cX12_load zn_cX12_load (by decide +kernel)) rfl
theorem dX12_load_262 : decode cX12_load 262 = .ok (.aload_n 0, 1) := zo_42 (zkb zk_cX12_load zn_cX12_load (by decide +kernel))
theorem dX12_load_263 : decode cX12_load 263 = .ok (.iconst 0, 1) := zo_3 (zkb zk_cX12_load zn_cX12_load (by decide +kernel))
theorem dX12_load_264 : decode cX12_load 264 = .ok (.putfield 140, 3) := zo_181 (b1 := 0) (b2 := 140) (zkb3 zk_cX12_load zn_cX12_load (by decide +kernel)) rfl
theorem dX12_load_267 : decode cX12_load 267 = .ok (.aload_n 0, 1) := zo_42 (zkb zk_cX12_load zn_cX12_load (by decide +kernel))
theorem dX12_load_268 : decode cX12_load 268 = .ok (.getfield 18, 3) := zo_180 (b1 := 0) (b2 := 18) (zkb3 zk_cX12_load zn_cX12_load (by decide +kernel)) rfl
theorem dX12_load_271 : decode cX12_load 271 = .ok (.ifCond .ge 7, 3) := zo_156 (b1 := 0) (b2 := 7) (zkb3 zk_cX12_load zn_cX12_load (by decide +kernel)) rfl
theorem dX12_load_274 : decode cX12_load 274 = .ok (.iconst 3, 1) := zo_6 (zkb zk_cX12_load zn_cX12_load (by decide +kernel))
theorem dX12_load_275 : decode cX12_load 275 = .ok (.goto 18, 3) := zo_167 (b1 := 0) (b2 := 18) (zkb3 zk_cX12_load zn_cX12_load (by decide +kernel)) rfl
theorem dX12_load_278 : decode cX12_load 278 = .ok (.aload_n 0, 1) := zo_42 (zkb zk_cX12_load zn_cX12_load (by decide +kernel))
theorem dX12_load_279 : decode cX12_load 279 = .ok (.getfield 15, 3) := zo_180 (b1 := 0) (b2 := 15) (zkb3 zk_cX12_load zn_cX12_load (by decide +kernel)) rfl
theorem dX12_load_282 : decode cX12_load 282 = .ok (.aload_n 0, 1) := zo_42 (zkb zk_cX12_load zn_cX12_load (by decide +kernel))
theorem dX12_load_283 : decode cX12_load 283 = .ok (.getfield 18, 3) := zo_180 (b1 := 0) (b2 := 18) (zkb3 zk_cX12_load zn_cX12_load (by decide +kernel)) rfl
theorem dX12_load_286 : decode cX12_load 286 = .ok (.bipush 15, 2) := zo_16 (b1 := 15) (zkb2 zk_cX12_load zn_cX12_load (by decide +kernel)) rfl
theorem dX12_load_288 : decode cX12_load 288 = .ok (.iadd, 1) := zo_96 (zkb zk_cX12_load zn_cX12_load (by decide +kernel))
theorem dX12_load_289 : decode cX12_load 289 = .ok (.baload, 1) := zo_51 (zkb zk_cX12_load zn_cX12_load (by decide +kernel))
theorem dX12_load_290 : decode cX12_load 290 = .ok (.bipush 15, 2) := zo_16 (b1 := 15) (zkb2 zk_cX12_load zn_cX12_load (by decide +kernel)) rfl
theorem dX12_load_292 : decode cX12_load 292 = .ok (.iand, 1) := zo_126 (zkb zk_cX12_load zn_cX12_load (by decide +kernel))
theorem dX12_load_293 : decode cX12_load 293 = .ok (.istore 5, 2) := zo_54 (b1 := 5) (zkb2 zk_cX12_load zn_cX12_load (by decide +kernel))
theorem dX12_load_295 : decode cX12_load 295 = .ok (.iconst 0, 1) := zo_3 (zkb zk_cX12_load zn_cX12_load (by decide +kernel))
theorem dX12_load_296 : decode cX12_load 296 = .ok (.istore 6, 2) := zo_54 (b1 := 6) (zkb2 zk_cX12_load zn_cX12_load (by decide +kernel))
theorem dX12_load_298 : decode cX12_load 298 = .ok (.iload 6, 2) := zo_21 (b1 := 6) (zkb2 zk_cX12_load zn_cX12_load (by decide +kernel))
theorem dX12_load_300 : decode cX12_load 300 = .ok (.aload_n 0, 1) := zo_42 (zkb zk_cX12_load zn_cX12_load (by decide +kernel))
theorem dX12_load_301 : decode cX12_load 301 = .ok (.getfield 18, 3) := zo_180 (b1 := 0) (b2 := 18) (zkb3 zk_cX12_load zn_cX12_load (by decide +kernel)) rfl
theorem dX12_load_304 : decode cX12_load 304 = .ok (.if_icmp .ge 29, 3) := zo_162 (b1 := 0) (b2 := 29) (zkb3 zk_cX12_load zn_cX12_load (by decide +kernel)) rfl
theorem dX12_load_307 : decode cX12_load 307 = .ok (.aload_n 0, 1) := zo_42 (zkb zk_cX12_load zn_cX12_load (by decide +kernel))
theorem dX12_load_308 : decode cX12_load 308 = .ok (.dup, 1) := zo_89 (zkb zk_cX12_load zn_cX12_load (by decide +kernel))
theorem dX12_load_309 : decode cX12_load 309 = .ok (.getfield 140, 3) := zo_180 (b1 := 0) (b2 := 140) (zkb3 zk_cX12_load zn_cX12_load (by decide +kernel)) rfl
theorem dX12_load_312 : decode cX12_load 312 = .ok (.aload_n 0, 1) := zo_42 (zkb zk_cX12_load zn_cX12_load (by decide +kernel))
theorem dX12_load_313 : decode cX12_load 313 = .ok (.getfield 15, 3) := zo_180 (b1 := 0) (b2 := 15) (zkb3 zk_cX12_load zn_cX12_load (by decide +kernel)) rfl
theorem dX12_load_316 : decode cX12_load 316 = .ok (.iload 6, 2) := zo_21 (b1 := 6) (zkb2 zk_cX12_load zn_cX12_load (by decide +kernel))
theorem dX12_load_318 : decode cX12_load 318 = .ok (.baload, 1) := zo_51 (zkb zk_cX12_load zn_cX12_load (by decide +kernel))
theorem dX12_load_319 : decode cX12_load 319 = .ok (.sipush 255, 3) := zo_17 (b1 := 0) (b2 := 255) (zkb3 zk_cX12_load zn_cX12_load (by decide +kernel)) rfl
theorem dX12_load_322 : decode cX12_load 322 = .ok (.iand, 1) := zo_126 (zkb zk_cX12_load zn_cX12_load (by decide +kernel))
theorem dX12_load_323 : decode cX12_load 323 = .ok (.iadd, 1) := zo_96 (zkb zk_cX12_load zn_cX12_load (by decide +kernel))
theorem dX12_load_324 : decode cX12_load 324 = .ok (.putfield 140, 3) := zo_181 (b1 := 0) (b2 := 140) (zkb3 zk_cX12_load zn_cX12_load (by decide +kernel)) rfl
theorem dX12_load_327 : decode cX12_load 327 = .ok (.iinc 6 1, 3) := zo_132 (b1 := 6) (b2 := 1) (zkb3 zk_cX12_load zn_cX12_load (by decide +kernel)) rfl
theorem dX12_load_330 : decode cX12_load 330 = .ok (.goto (-32), 3) := zo_167 (b1 := 255) (b2 := 224) (zkb3 zk_cX12_load zn_cX12_load (by decide +kernel)) rfl
theorem dX12_load_333 : decode cX12_load 333 = .ok (.ldc 33, 2) := zo_18 (b1 := 33) (zkb2 zk_cX12_load zn_cX12_load (by decide +kernel))
theorem dX12_load_335 : decode cX12_load 335 = .ok (.istore 6, 2) := zo_54 (b1 := 6) (zkb2 zk_cX12_load zn_cX12_load (by decide +kernel))
theorem dX12_load_337 : decode cX12_load 337 = .ok (.iload 6, 2) := zo_21 (b1 := 6) (zkb2 zk_cX12_load zn_cX12_load (by decide +kernel))
theorem dX12_load_339 : decode cX12_load 339 = .ok (.aload_n 0, 1) := zo_42 (zkb zk_cX12_load zn_cX12_load (by decide +kernel))
theorem dX12_load_340 : decode cX12_load 340 = .ok (.getfield 121, 3) := zo_180 (b1 := 0) (b2 := 121) (zkb3 zk_cX12_load zn_cX12_load (by decide +kernel)) rfl
theorem dX12_load_343 : decode cX12_load 343 = .ok (.if_icmp .ge 42, 3) := zo_162 (b1 := 0) (b2 := 42) (zkb3 zk_cX12_load zn_cX12_load (by decide +kernel)) rfl
theorem dX12_load_346 : decode cX12_load 346 = .ok (.iload 5, 2) := zo_21 (b1 := 5) (zkb2 zk_cX12_load zn_cX12_load (by decide +kernel))
theorem dX12_load_348 : decode cX12_load 348 = .ok (.bipush 13, 2) := zo_16 (b1 := 13) (zkb2 zk_cX12_load zn_cX12_load (by decide +kernel)) rfl
theorem dX12_load_350 : decode cX12_load 350 = .ok (.if_icmp .gt 9, 3) := zo_163 (b1 := 0) (b2 := 9) (zkb3 zk_cX12_load zn_cX12_load (by decide +kernel)) rfl
theorem dX12_load_353 : decode cX12_load 353 = .ok (.iload 5, 2) := zo_21 (b1 := 5) (zkb2 zk_cX12_load zn_cX12_load (by decide +kernel))
theorem dX12_load_355 : decode cX12_load 355 = .ok (.iconst 3, 1) := zo_6 (zkb zk_cX12_load zn_cX12_load (by decide +kernel))
theorem dX12_load_356 : decode cX12_load 356 = .ok (.if_icmp .ge 29, 3) := zo_162 (b1 := 0) (b2 := 29) (zkb3 zk_cX12_load zn_cX12_load (by decide +kernel)) rfl
theorem dX12_load_359 : decode cX12_load 359 = .ok (.aload_n 0, 1) := zo_42 (zkb zk_cX12_load zn_cX12_load (by decide +kernel))
theorem dX12_load_360 : decode cX12_load 360 = .ok (.dup, 1) := zo_89 (zkb zk_cX12_load zn_cX12_load (by decide +kernel))
theorem dX12_load_361 : decode cX12_load 361 = .ok (.getfield 140, 3) := zo_180 (b1 := 0) (b2 := 140) (zkb3 zk_cX12_load zn_cX12_load (by decide +kernel)) rfl
theorem dX12_load_364 : decode cX12_load 364 = .ok (.aload_n 0, 1) := zo_42 (zkb zk_cX12_load zn_cX12_load (by decide +kernel))
theorem dX12_load_365 : decode cX12_load 365 = .ok (.getfield 15, 3) := zo_180 (b1 := 0) (b2 := 15) (zkb3 zk_cX12_load zn_cX12_load (by decide +kernel)) rfl
theorem dX12_load_368 : decode cX12_load 368 = .ok (.iload 6, 2) := zo_21 (b1 := 6) (zkb2 zk_cX12_load zn_cX12_load (by decide +kernel))
theorem dX12_load_370 : decode cX12_load 370 = .ok (.baload, 1) := zo_51 (zkb zk_cX12_load zn_cX12_load (by decide +kernel))
theorem dX12_load_371 : decode cX12_load 371 = .ok (.sipush 255, 3) := zo_17 (b1 := 0) (b2 := 255) (zkb3 zk_cX12_load zn_cX12_load (by decide +kernel)) rfl
theorem dX12_load_374 : decode cX12_load 374 = .ok (.iand, 1) := zo_126 (zkb zk_cX12_load zn_cX12_load (by decide +kernel))
theorem dX12_load_375 : decode cX12_load 375 = .ok (.iadd, 1) := zo_96 (zkb zk_cX12_load zn_cX12_load (by decide +kernel))
theorem dX12_load_376 : decode cX12_load 376 = .ok (.putfield 140, 3) := zo_181 (b1 := 0) (b2 := 140) (zkb3 zk_cX12_load zn_cX12_load (by decide +kernel)) rfl
theorem dX12_load_379 : decode cX12_load 379 = .ok (.iinc 6 1, 3) := zo_132 (b1 := 6) (b2 := 1) (zkb3 zk_cX12_load zn_cX12_load (by decide +kernel)) rfl
theorem dX12_load_382 : decode cX12_load 382 = .ok (.goto (-45), 3) := zo_167 (b1 := 255) (b2 := 211) (zkb3 zk_cX12_load zn_cX12_load (by decide +kernel)) rfl
theorem dX12_load_385 : decode cX12_load 385 = .ok (.aload_n 0, 1) := zo_42 (zkb zk_cX12_load zn_cX12_load (by decide +kernel))
theorem dX12_load_386 : decode cX12_load 386 = .ok (.aload_n 0, 1) := zo_42 (zkb zk_cX12_load zn_cX12_load (by decide +kernel))
theorem dX12_load_387 : decode cX12_load 387 = .ok (.getfield 18, 3) := zo_180 (b1 := 0) (b2 := 18) (zkb3 zk_cX12_load zn_cX12_load (by decide +kernel)) rfl
theorem dX12_load_390 : decode cX12_load 390 = .ok (.ifCond .ge 7, 3) := zo_156 (b1 := 0) (b2 := 7) (zkb3 zk_cX12_load zn_cX12_load (by decide +kernel)) rfl
theorem dX12_load_393 : decode cX12_load 393 = .ok (.iconst 0, 1) := zo_3 (zkb zk_cX12_load zn_cX12_load (by decide +kernel))
theorem dX12_load_394 : decode cX12_load 394 = .ok (.goto 10, 3) := zo_167 (b1 := 0) (b2 := 10) (zkb3 zk_cX12_load zn_cX12_load (by decide +kernel)) rfl
theorem dX12_load_397 : decode cX12_load 397 = .ok (.aload_n 0, 1) := zo_42 (zkb zk_cX12_load zn_cX12_load (by decide +kernel))
theorem dX12_load_398 : decode cX12_load 398 = .ok (.getfield 140, 3) := zo_180 (b1 := 0) (b2 := 140) (zkb3 zk_cX12_load zn_cX12_load (by decide +kernel)) rfl
theorem dX12_load_401 : decode cX12_load 401 = .ok (.ldc 143, 2) := zo_18 (b1 := 143) (zkb2 zk_cX12_load zn_cX12_load (by decide +kernel))
theorem dX12_load_403 : decode cX12_load 403 = .ok (.iand, 1) := zo_126 (zkb zk_cX12_load zn_cX12_load (by decide +kernel))
theorem dX12_load_404 : decode cX12_load 404 = .ok (.putfield 140, 3) := zo_181 (b1 := 0) (b2 := 140) (zkb3 zk_cX12_load zn_cX12_load (by decide +kernel)) rfl
theorem dX12_load_407 : decode cX12_load 407 = .ok (.aload_n 0, 1) := zo_42 (zkb zk_cX12_load zn_cX12_load (by decide +kernel))
theorem dX12_load_408 : decode cX12_load 408 = .ok (.invokevirtual 102, 3) := zo_182 (b1 := 0) (b2 := 102) (zkb3 zk_cX12_load zn_cX12_load (by decide +kernel)) rfl
theorem dX12_load_411 : decode cX12_load 411 = .ok (.iconst 0, 1) := zo_3 (zkb zk_cX12_load zn_cX12_load (by decide +kernel))
theorem dX12_load_412 : decode cX12_load 412 = .ok (.istore 6, 2) := zo_54 (b1 := 6) (zkb2 zk_cX12_load zn_cX12_load (by decide +kernel))
theorem dX12_load_414 : decode cX12_load 414 = .ok (.iload 6, 2) := zo_21 (b1 := 6) (zkb2 zk_cX12_load zn_cX12_load (by decide +kernel))
theorem dX12_load_416 : decode cX12_load 416 = .ok (.sipush 8192, 3) := zo_17 (b1 := 32) (b2 := 0) (zkb3 zk_cX12_load zn_cX12_load (by decide +kernel)) rfl
theorem dX12_load_419 : decode cX12_load 419 = .ok (.if_icmp .ge 17, 3) := zo_162 (b1 := 0) (b2 := 17) (zkb3 zk_cX12_load zn_cX12_load (by decide +kernel)) rfl
theorem dX12_load_422 : decode cX12_load 422 = .ok (.aload_n 0, 1) := zo_42 (zkb zk_cX12_load zn_cX12_load (by decide +kernel))
theorem dX12_load_423 : decode cX12_load 423 = .ok (.getfield 30, 3) := zo_180 (b1 := 0) (b2 := 30) (zkb3 zk_cX12_load zn_cX12_load (by decide +kernel)) rfl
theorem dX12_load_426 : decode cX12_load 426 = .ok (.iload 6, 2) := zo_21 (b1 := 6) (zkb2 zk_cX12_load zn_cX12_load (by decide +kernel))
theorem dX12_load_428 : decode cX12_load 428 = .ok (.iconst 0, 1) := zo_3 (zkb zk_cX12_load zn_cX12_load (by decide +kernel))
theorem dX12_load_429 : decode cX12_load 429 = .ok (.bastore, 1) := zo_84 (zkb zk_cX12_load zn_cX12_load (by decide +kernel))
theorem dX12_load_430 : decode cX12_load 430 = .ok (.iinc 6 1, 3) := zo_132 (b1 := 6) (b2 := 1) (zkb3 zk_cX12_load zn_cX12_load (by decide +kernel)) rfl
theorem dX12_load_433 : decode cX12_load 433 = .ok (.goto (-19), 3) := zo_167 (b1 := 255) (b2 := 237) (zkb3 zk_cX12_load zn_cX12_load (by decide +kernel)) rfl
theorem dX12_load_436 : decode cX12_load 436 = .ok (.aload_n 0, 1) := zo_42 (zkb zk_cX12_load zn_cX12_load (by decide +kernel))
theorem dX12_load_437 : decode cX12_load 437 = .ok (.iconst 0, 1) := zo_3 (zkb zk_cX12_load zn_cX12_load (by decide +kernel))
theorem dX12_load_438 : decode cX12_load 438 = .ok (.putfield 144, 3) := zo_181 (b1 := 0) (b2 := 144) (zkb3 zk_cX12_load zn_cX12_load (by decide +kernel)) rfl
theorem dX12_load_441 : decode cX12_load 441 = .ok (.iconst 0, 1) := zo_3 (zkb zk_cX12_load zn_cX12_load (by decide +kernel))
theorem dX12_load_442 : decode cX12_load 442 = .ok (.ireturn, 1) := zo_172 (zkb zk_cX12_load zn_cX12_load (by decide +kernel))
def kn_cX12_isHeader : Nat := 0xac030400a7040700a008101ca0ffa70102840900a041100500a747100800a006101c1000a745100800a0081c1a00a753100800a0071c2400a720100800a0061c2e00a752100800a0051c3800a74d100800a0041c4200a7541008009a1c7eff001133601c1b0f00b42a6000a208101c3d03ac030500a47900b42a6010101b
theorem zk_cX12_isHeader : zkd cX12_isHeader.data.toList kn_cX12_isHeader = true := by decide +kernel
theorem zn_cX12_isHeader : cX12_isHeader.data.toList.length = 126 := by decide +kernel
theorem dX12_isHeader_0 : decode cX12_isHeader 0 = .ok (.iload_n 1, 1) := zo_27 (zkb zk_cX12_isHeader zn_cX12_isHeader (by decide +kernel))
theorem dX12_isHeader_1 : decode cX12_isHeader 1 = .ok (.bipush 16, 2) := zo_16 (b1 := 16) (zkb2 zk_cX12_isHeader zn_cX12_isHeader (by decide +kernel)) rfl
theorem dX12_isHeader_3 : decode cX12_isHeader 3 = .ok (.iadd, 1) := zo_96 (zkb zk_cX12_isHeader zn_cX12_isHeader (by decide +kernel))
theorem dX12_isHeader_4 : decode cX12_isHeader 4 = .ok (.aload_n 0, 1) := zo_42 (zkb zk_cX12_isHeader zn_cX12_isHeader (by decide +kernel))
theorem dX12_isHeader_5 : decode cX12_isHeader 5 = .ok (.getfield 121, 3) := zo_180 (b1 := 0) (b2 := 121) (zkb3 zk_cX12_isHeader zn_cX12_isHeader (by decide +kernel)) rfl
theorem dX12_isHeader_8 : decode cX12_isHeader 8 = .ok (.if_icmp .le 5, 3) := zo_164 (b1 := 0) (b2 := 5) (zkb3 zk_cX12_isHeader zn_cX12_isHeader (by decide +kernel)) rfl
theorem dX12_isHeader_11 : decode cX12_isHeader 11 = .ok (.iconst 0, 1) := zo_3 (zkb zk_cX12_isHeader zn_cX12_isHeader (by decide +kernel))
theorem dX12_isHeader_12 : decode cX12_isHeader 12 = .ok (.ireturn, 1) := zo_172 (zkb zk_cX12_isHeader zn_cX12_isHeader (by decide +kernel))
theorem dX12_isHeader_13 : decode cX12_isHeader 13 = .ok (.iconst 0, 1) := zo_3 (zkb zk_cX12_isHeader zn_cX12_isHeader (by decide +kernel))
theorem dX12_isHeader_14 : decode cX12_isHeader 14 = .ok (.istore_n 2, 1) := zo_61 (zkb zk_cX12_isHeader zn_cX12_isHeader (by decide +kernel))
theorem dX12_isHeader_15 : decode cX12_isHeader 15 = .ok (.iload_n 2, 1) := zo_28 (zkb zk_cX12_isHeader zn_cX12_isHeader (by decide +kernel))
theorem dX12_isHeader_16 : decode cX12_isHeader 16 = .ok (.bipush 8, 2) := zo_16 (b1 := 8) (zkb2 zk_cX12_isHeader zn_cX12_isHeader (by decide +kernel)) rfl
theorem dX12_isHeader_18 : decode cX12_isHeader 18 = .ok (.if_icmp .ge 96, 3) := zo_162 (b1 := 0) (b2 := 96) (zkb3 zk_cX12_isHeader zn_cX12_isHeader (by decide +kernel)) rfl
theorem dX12_isHeader_21 : decode cX12_isHeader 21 = .ok (.aload_n 0, 1) := zo_42 (zkb zk_cX12_isHeader zn_cX12_isHeader (by decide +kernel))
theorem dX12_isHeader_22 : decode cX12_isHeader 22 = .ok (.getfield 15, 3) := zo_180 (b1 := 0) (b2 := 15) (zkb3 zk_cX12_isHeader zn_cX12_isHeader (by decide +kernel)) rfl
theorem dX12_isHeader_25 : decode cX12_isHeader 25 = .ok (.iload_n 1, 1) := zo_27 (zkb zk_cX12_isHeader zn_cX12_isHeader (by decide +kernel))
theorem dX12_isHeader_26 : decode cX12_isHeader 26 = .ok (.iload_n 2, 1) := zo_28 (zkb zk_cX12_isHeader zn_cX12_isHeader (by decide +kernel))
theorem dX12_isHeader_27 : decode cX12_isHeader 27 = .ok (.iadd, 1) := zo_96 (zkb zk_cX12_isHeader zn_cX12_isHeader (by decide +kernel))
theorem dX12_isHeader_28 : decode cX12_isHeader 28 = .ok (.baload, 1) := zo_51 (zkb zk_cX12_isHeader zn_cX12_isHeader (by decide +kernel))
theorem dX12_isHeader_29 : decode cX12_isHeader 29 = .ok (.sipush 255, 3) := zo_17 (b1 := 0) (b2 := 255) (zkb3 zk_cX12_isHeader zn_cX12_isHeader (by decide +kernel)) rfl
theorem dX12_isHeader_32 : decode cX12_isHeader 32 = .ok (.iand, 1) := zo_126 (zkb zk_cX12_isHeader zn_cX12_isHeader (by decide +kernel))
theorem dX12_isHeader_33 : decode cX12_isHeader 33 = .ok (.iload_n 2, 1) := zo_28 (zkb zk_cX12_isHeader zn_cX12_isHeader (by decide +kernel))
theorem dX12_isHeader_34 : decode cX12_isHeader 34 = .ok (.ifCond .ne 8, 3) := zo_154 (b1 := 0) (b2 := 8) (zkb3 zk_cX12_isHeader zn_cX12_isHeader (by decide +kernel)) rfl
theorem dX12_isHeader_37 : decode cX12_isHeader 37 = .ok (.bipush 84, 2) := zo_16 (b1 := 84) (zkb2 zk_cX12_isHeader zn_cX12_isHeader (by decide +kernel)) rfl
theorem dX12_isHeader_39 : decode cX12_isHeader 39 = .ok (.goto 66, 3) := zo_167 (b1 := 0) (b2 := 66) (zkb3 zk_cX12_isHeader zn_cX12_isHeader (by decide +kernel)) rfl
theorem dX12_isHeader_42 : decode cX12_isHeader 42 = .ok (.iload_n 2, 1) := zo_28 (zkb zk_cX12_isHeader zn_cX12_isHeader (by decide +kernel))
theorem dX12_isHeader_43 : decode cX12_isHeader 43 = .ok (.iconst 1, 1) := zo_4 (zkb zk_cX12_isHeader zn_cX12_isHeader (by decide +kernel))
theorem dX12_isHeader_44 : decode cX12_isHeader 44 = .ok (.if_icmp .ne 8, 3) := zo_160 (b1 := 0) (b2 := 8) (zkb3 zk_cX12_isHeader zn_cX12_isHeader (by decide +kernel)) rfl
theorem dX12_isHeader_47 : decode cX12_isHeader 47 = .ok (.bipush 77, 2) := zo_16 (b1 := 77) (zkb2 zk_cX12_isHeader zn_cX12_isHeader (by decide +kernel)) rfl
theorem dX12_isHeader_49 : decode cX12_isHeader 49 = .ok (.goto 56, 3) := zo_167 (b1 := 0) (b2 := 56) (zkb3 zk_cX12_isHeader zn_cX12_isHeader (by decide +kernel)) rfl
theorem dX12_isHeader_52 : decode cX12_isHeader 52 = .ok (.iload_n 2, 1) := zo_28 (zkb zk_cX12_isHeader zn_cX12_isHeader (by decide +kernel))
theorem dX12_isHeader_53 : decode cX12_isHeader 53 = .ok (.iconst 2, 1) := zo_5 (zkb zk_cX12_isHeader zn_cX12_isHeader (by decide +kernel))
theorem dX12_isHeader_54 : decode cX12_isHeader 54 = .ok (.if_icmp .ne 8, 3) := zo_160 (b1 := 0) (b2 := 8) (zkb3 zk_cX12_isHeader zn_cX12_isHeader (by decide +kernel)) rfl
theorem dX12_isHeader_57 : decode cX12_isHeader 57 = .ok (.bipush 82, 2) := zo_16 (b1 := 82) (zkb2 zk_cX12_isHeader zn_cX12_isHeader (by decide +kernel)) rfl
theorem dX12_isHeader_59 : decode cX12_isHeader 59 = .ok (.goto 46, 3) := zo_167 (b1 := 0) (b2 := 46) (zkb3 zk_cX12_isHeader zn_cX12_isHeader (by decide +kernel)) rfl
theorem dX12_isHeader_62 : decode cX12_isHeader 62 = .ok (.iload_n 2, 1) := zo_28 (zkb zk_cX12_isHeader zn_cX12_isHeader (by decide +kernel))
theorem dX12_isHeader_63 : decode cX12_isHeader 63 = .ok (.iconst 3, 1) := zo_6 (zkb zk_cX12_isHeader zn_cX12_isHeader (by decide +kernel))
theorem dX12_isHeader_64 : decode cX12_isHeader 64 = .ok (.if_icmp .ne 8, 3) := zo_160 (b1 := 0) (b2 := 8) (zkb3 zk_cX12_isHeader zn_cX12_isHeader (by decide +kernel)) rfl
theorem dX12_isHeader_67 : decode cX12_isHeader 67 = .ok (.bipush 32, 2) := zo_16 (b1 := 32) (zkb2 zk_cX12_isHeader zn_cX12_isHeader (by decide +kernel)) rfl
theorem dX12_isHeader_69 : decode cX12_isHeader 69 = .ok (.goto 36, 3) := zo_167 (b1 := 0) (b2 := 36) (zkb3 zk_cX12_isHeader zn_cX12_isHeader (by decide +kernel)) rfl
theorem dX12_isHeader_72 : decode cX12_isHeader 72 = .ok (.iload_n 2, 1) := zo_28 (zkb zk_cX12_isHeader zn_cX12_isHeader (by decide +kernel))
theorem dX12_isHeader_73 : decode cX12_isHeader 73 = .ok (.iconst 4, 1) := zo_7 (zkb zk_cX12_isHeader zn_cX12_isHeader (by decide +kernel))
theorem dX12_isHeader_74 : decode cX12_isHeader 74 = .ok (.if_icmp .ne 8, 3) := zo_160 (b1 := 0) (b2 := 8) (zkb3 zk_cX12_isHeader zn_cX12_isHeader (by decide +kernel)) rfl
theorem dX12_isHeader_77 : decode cX12_isHeader 77 = .ok (.bipush 83, 2) := zo_16 (b1 := 83) (zkb2 zk_cX12_isHeader zn_cX12_isHeader (by decide +kernel)) rfl
theorem dX12_isHeader_79 : decode cX12_isHeader 79 = .ok (.goto 26, 3) := zo_167 (b1 := 0) (b2 := 26) (zkb3 zk_cX12_isHeader zn_cX12_isHeader (by decide +kernel)) rfl
theorem dX12_isHeader_82 : decode cX12_isHeader 82 = .ok (.iload_n 2, 1) := zo_28 (zkb zk_cX12_isHeader zn_cX12_isHeader (by decide +kernel))
theorem dX12_isHeader_83 : decode cX12_isHeader 83 = .ok (.iconst 5, 1) := zo_8 (zkb zk_cX12_isHeader zn_cX12_isHeader (by decide +kernel))
theorem dX12_isHeader_84 : decode cX12_isHeader 84 = .ok (.if_icmp .ne 8, 3) := zo_160 (b1 := 0) (b2 := 8) (zkb3 zk_cX12_isHeader zn_cX12_isHeader (by decide +kernel)) rfl
theorem dX12_isHeader_87 : decode cX12_isHeader 87 = .ok (.bipush 69, 2) := zo_16 (b1 := 69) (zkb2 zk_cX12_isHeader zn_cX12_isHeader (by decide +kernel)) rfl
theorem dX12_isHeader_89 : decode cX12_isHeader 89 = .ok (.goto 16, 3) := zo_167 (b1 := 0) (b2 := 16) (zkb3 zk_cX12_isHeader zn_cX12_isHeader (by decide +kernel)) rfl
theorem dX12_isHeader_92 : decode cX12_isHeader 92 = .ok (.iload_n 2, 1) := zo_28 (zkb zk_cX12_isHeader zn_cX12_isHeader (by decide +kernel))
theorem dX12_isHeader_93 : decode cX12_isHeader 93 = .ok (.bipush 6, 2) := zo_16 (b1 := 6) (zkb2 zk_cX12_isHeader zn_cX12_isHeader (by decide +kernel)) rfl
theorem dX12_isHeader_95 : decode cX12_isHeader 95 = .ok (.if_icmp .ne 8, 3) := zo_160 (b1 := 0) (b2 := 8) (zkb3 zk_cX12_isHeader zn_cX12_isHeader (by decide +kernel)) rfl
theorem dX12_isHeader_98 : decode cX12_isHeader 98 = .ok (.bipush 71, 2) := zo_16 (b1 := 71) (zkb2 zk_cX12_isHeader zn_cX12_isHeader (by decide +kernel)) rfl
theorem dX12_isHeader_100 : decode cX12_isHeader 100 = .ok (.goto 5, 3) := zo_167 (b1 := 0) (b2 := 5) (zkb3 zk_cX12_isHeader zn_cX12_isHeader (by decide +kernel)) rfl
theorem dX12_isHeader_103 : decode cX12_isHeader 103 = .ok (.bipush 65, 2) := zo_16 (b1 := 65) (zkb2 zk_cX12_isHeader zn_cX12_isHeader (by decide +kernel)) rfl
theorem dX12_isHeader_105 : decode cX12_isHeader 105 = .ok (.if_icmp .ne 9, 3) := zo_160 (b1 := 0) (b2 := 9) (zkb3 zk_cX12_isHeader zn_cX12_isHeader (by decide +kernel)) rfl
theorem dX12_isHeader_108 : decode cX12_isHeader 108 = .ok (.iinc 2 1, 3) := zo_132 (b1 := 2) (b2 := 1) (zkb3 zk_cX12_isHeader zn_cX12_isHeader (by decide +kernel)) rfl
theorem dX12_isHeader_111 : decode cX12_isHeader 111 = .ok (.goto (-96), 3) := zo_167 (b1 := 255) (b2 := 160) (zkb3 zk_cX12_isHeader zn_cX12_isHeader (by decide +kernel)) rfl
theorem dX12_isHeader_114 : decode cX12_isHeader 114 = .ok (.iload_n 2, 1) := zo_28 (zkb zk_cX12_isHeader zn_cX12_isHeader (by decide +kernel))
theorem dX12_isHeader_115 : decode cX12_isHeader 115 = .ok (.bipush 8, 2) := zo_16 (b1 := 8) (zkb2 zk_cX12_isHeader zn_cX12_isHeader (by decide +kernel)) rfl
theorem dX12_isHeader_117 : decode cX12_isHeader 117 = .ok (.if_icmp .ne 7, 3) := zo_160 (b1 := 0) (b2 := 7) (zkb3 zk_cX12_isHeader zn_cX12_isHeader (by decide +kernel)) rfl
theorem dX12_isHeader_120 : decode cX12_isHeader 120 = .ok (.iconst 1, 1) := zo_4 (zkb zk_cX12_isHeader zn_cX12_isHeader (by decide +kernel))
theorem dX12_isHeader_121 : decode cX12_isHeader 121 = .ok (.goto 4, 3) := zo_167 (b1 := 0) (b2 := 4) (zkb3 zk_cX12_isHeader zn_cX12_isHeader (by decide +kernel)) rfl
theorem dX12_isHeader_124 : decode cX12_isHeader 124 = .ok (.iconst 0, 1) := zo_3 (zkb zk_cX12_isHeader zn_cX12_isHeader (by decide +kernel))
theorem dX12_isHeader_125 : decode cX12_isHeader 125 = .ok (.ireturn, 1) := zo_172 (zkb zk_cX12_isHeader zn_cX12_isHeader (by decide +kernel))
def kn_cX12_tens : Nat := 0xac607e0f10331b0f00b42a687e0f107a07331b0f00b42a0a10
theorem zk_cX12_tens : zkd cX12_tens.data.toList kn_cX12_tens = true := by decide +kernel
theorem zn_cX12_tens : cX12_tens.data.toList.length = 25 := by decide +kernel
theorem dX12_tens_0 : decode cX12_tens 0 = .ok (.bipush 10, 2) := zo_16 (b1 := 10) (zkb2 zk_cX12_tens zn_cX12_tens (by decide +kernel)) rfl
theorem dX12_tens_2 : decode cX12_tens 2 = .ok (.aload_n 0, 1) := zo_42 (zkb zk_cX12_tens zn_cX12_tens (by decide +kernel))
theorem dX12_tens_3 : decode cX12_tens 3 = .ok (.getfield 15, 3) := zo_180 (b1 := 0) (b2 := 15) (zkb3 zk_cX12_tens zn_cX12_tens (by decide +kernel)) rfl
theorem dX12_tens_6 : decode cX12_tens 6 = .ok (.iload_n 1, 1) := zo_27 (zkb zk_cX12_tens zn_cX12_tens (by decide +kernel))
theorem dX12_tens_7 : decode cX12_tens 7 = .ok (.baload, 1) := zo_51 (zkb zk_cX12_tens zn_cX12_tens (by decide +kernel))
theorem dX12_tens_8 : decode cX12_tens 8 = .ok (.iconst 4, 1) := zo_7 (zkb zk_cX12_tens zn_cX12_tens (by decide +kernel))
theorem dX12_tens_9 : decode cX12_tens 9 = .ok (.ishr, 1) := zo_122 (zkb zk_cX12_tens zn_cX12_tens (by decide +kernel))
theorem dX12_tens_10 : decode cX12_tens 10 = .ok (.bipush 15, 2) := zo_16 (b1 := 15) (zkb2 zk_cX12_tens zn_cX12_tens (by decide +kernel)) rfl
theorem dX12_tens_12 : decode cX12_tens 12 = .ok (.iand, 1) := zo_126 (zkb zk_cX12_tens zn_cX12_tens (by decide +kernel))
theorem dX12_tens_13 : decode cX12_tens 13 = .ok (.imul, 1) := zo_104 (zkb zk_cX12_tens zn_cX12_tens (by decide +kernel))
theorem dX12_tens_14 : decode cX12_tens 14 = .ok (.aload_n 0, 1) := zo_42 (zkb zk_cX12_tens zn_cX12_tens (by decide +kernel))
theorem dX12_tens_15 : decode cX12_tens 15 = .ok (.getfield 15, 3) := zo_180 (b1 := 0) (b2 := 15) (zkb3 zk_cX12_tens zn_cX12_tens (by decide +kernel)) rfl
theorem dX12_tens_18 : decode cX12_tens 18 = .ok (.iload_n 1, 1) := zo_27 (zkb zk_cX12_tens zn_cX12_tens (by decide +kernel))
theorem dX12_tens_19 : decode cX12_tens 19 = .ok (.baload, 1) := zo_51 (zkb zk_cX12_tens zn_cX12_tens (by decide +kernel))
theorem dX12_tens_20 : decode cX12_tens 20 = .ok (.bipush 15, 2) := zo_16 (b1 := 15) (zkb2 zk_cX12_tens zn_cX12_tens (by decide +kernel)) rfl
theorem dX12_tens_22 : decode cX12_tens 22 = .ok (.iand, 1) := zo_126 (zkb zk_cX12_tens zn_cX12_tens (by decide +kernel))
theorem dX12_tens_23 : decode cX12_tens 23 = .ok (.iadd, 1) := zo_96 (zkb zk_cX12_tens zn_cX12_tens (by decide +kernel))
theorem dX12_tens_24 : decode cX12_tens 24 = .ok (.ireturn, 1) := zo_172 (zkb zk_cX12_tens zn_cX12_tens (by decide +kernel))
def kn_cX12_card : Nat := 0xac8c00b42aac8400b605600a101200b42a2aac7e0f1033600f101200b42a0f00b42aac7e0f107a0733600f101200b42a0f00b42aac60687e0f107a0733600e101200b42a0f00b42a10271160689600b6600d101200b42a2a64109600b6600c101200b42a2a71000000610000004f0000001e00000006000000030000007e00000000aa1bac0305009c1200b42aac1200b42a0700a77c00b42a0a00a0041b1300a78900b42a0a009a1b1f00a2061bac030500997200b604030400a70407009a6e00b894001409851b2a
theorem zk_cX12_card : zkd cX12_card.data.toList kn_cX12_card = true := by decide +kernel
theorem zn_cX12_card : cX12_card.data.toList.length = 201 := by decide +kernel
theorem dX12_card_0 : decode cX12_card 0 = .ok (.aload_n 0, 1) := zo_42 (zkb zk_cX12_card zn_cX12_card (by decide +kernel))
theorem dX12_card_1 : decode cX12_card 1 = .ok (.iload_n 1, 1) := zo_27 (zkb zk_cX12_card zn_cX12_card (by decide +kernel))
theorem dX12_card_2 : decode cX12_card 2 = .ok (.i2l, 1) := zo_133 (zkb zk_cX12_card zn_cX12_card (by decide +kernel))
theorem dX12_card_3 : decode cX12_card 3 = .ok (.lconst 0, 1) := zo_9 (zkb zk_cX12_card zn_cX12_card (by decide +kernel))
theorem dX12_card_4 : decode cX12_card 4 = .ok (.ldc2_w 148, 3) := by decide +kernel
theorem dX12_card_7 : decode cX12_card 7 = .ok (.invokestatic 110, 3) := zo_184 (b1 := 0) (b2 := 110) (zkb3 zk_cX12_card zn_cX12_card (by decide +kernel)) rfl
theorem dX12_card_10 : decode cX12_card 10 = .ok (.ifCond .ne 7, 3) := zo_154 (b1 := 0) (b2 := 7) (zkb3 zk_cX12_card zn_cX12_card (by decide +kernel)) rfl
theorem dX12_card_13 : decode cX12_card 13 = .ok (.iconst 1, 1) := zo_4 (zkb zk_cX12_card zn_cX12_card (by decide +kernel))
theorem dX12_card_14 : decode cX12_card 14 = .ok (.goto 4, 3) := zo_167 (b1 := 0) (b2 := 4) (zkb3 zk_cX12_card zn_cX12_card (by decide +kernel)) rfl
theorem dX12_card_17 : decode cX12_card 17 = .ok (.iconst 0, 1) := zo_3 (zkb zk_cX12_card zn_cX12_card (by decide +kernel))
theorem dX12_card_18 : decode cX12_card 18 = .ok (.iconst 1, 1) := zo_4 (zkb zk_cX12_card zn_cX12_card (by decide +kernel))
theorem dX12_card_19 : decode cX12_card 19 = .ok (.invokevirtual 114, 3) := zo_182 (b1 := 0) (b2 := 114) (zkb3 zk_cX12_card zn_cX12_card (by decide +kernel)) rfl
theorem dX12_card_22 : decode cX12_card 22 = .ok (.ifCond .eq 5, 3) := zo_153 (b1 := 0) (b2 := 5) (zkb3 zk_cX12_card zn_cX12_card (by decide +kernel)) rfl
theorem dX12_card_25 : decode cX12_card 25 = .ok (.iconst 0, 1) := zo_3 (zkb zk_cX12_card zn_cX12_card (by decide +kernel))
theorem dX12_card_26 : decode cX12_card 26 = .ok (.ireturn, 1) := zo_172 (zkb zk_cX12_card zn_cX12_card (by decide +kernel))
theorem dX12_card_27 : decode cX12_card 27 = .ok (.iload_n 1, 1) := zo_27 (zkb zk_cX12_card zn_cX12_card (by decide +kernel))
theorem dX12_card_28 : decode cX12_card 28 = .ok (.iconst 3, 1) := zo_6 (zkb zk_cX12_card zn_cX12_card (by decide +kernel))
theorem dX12_card_29 : decode cX12_card 29 = .ok (.if_icmp .ge 31, 3) := zo_162 (b1 := 0) (b2 := 31) (zkb3 zk_cX12_card zn_cX12_card (by decide +kernel)) rfl
theorem dX12_card_32 : decode cX12_card 32 = .ok (.iload_n 1, 1) := zo_27 (zkb zk_cX12_card zn_cX12_card (by decide +kernel))
theorem dX12_card_33 : decode cX12_card 33 = .ok (.ifCond .ne 10, 3) := zo_154 (b1 := 0) (b2 := 10) (zkb3 zk_cX12_card zn_cX12_card (by decide +kernel)) rfl
theorem dX12_card_36 : decode cX12_card 36 = .ok (.aload_n 0, 1) := zo_42 (zkb zk_cX12_card zn_cX12_card (by decide +kernel))
theorem dX12_card_37 : decode cX12_card 37 = .ok (.getfield 137, 3) := zo_180 (b1 := 0) (b2 := 137) (zkb3 zk_cX12_card zn_cX12_card (by decide +kernel)) rfl
theorem dX12_card_40 : decode cX12_card 40 = .ok (.goto 19, 3) := zo_167 (b1 := 0) (b2 := 19) (zkb3 zk_cX12_card zn_cX12_card (by decide +kernel)) rfl
theorem dX12_card_43 : decode cX12_card 43 = .ok (.iload_n 1, 1) := zo_27 (zkb zk_cX12_card zn_cX12_card (by decide +kernel))
theorem dX12_card_44 : decode cX12_card 44 = .ok (.iconst 1, 1) := zo_4 (zkb zk_cX12_card zn_cX12_card (by decide +kernel))
theorem dX12_card_45 : decode cX12_card 45 = .ok (.if_icmp .ne 10, 3) := zo_160 (b1 := 0) (b2 := 10) (zkb3 zk_cX12_card zn_cX12_card (by decide +kernel)) rfl
theorem dX12_card_48 : decode cX12_card 48 = .ok (.aload_n 0, 1) := zo_42 (zkb zk_cX12_card zn_cX12_card (by decide +kernel))
theorem dX12_card_49 : decode cX12_card 49 = .ok (.getfield 124, 3) := zo_180 (b1 := 0) (b2 := 124) (zkb3 zk_cX12_card zn_cX12_card (by decide +kernel)) rfl
theorem dX12_card_52 : decode cX12_card 52 = .ok (.goto 7, 3) := zo_167 (b1 := 0) (b2 := 7) (zkb3 zk_cX12_card zn_cX12_card (by decide +kernel)) rfl
theorem dX12_card_55 : decode cX12_card 55 = .ok (.aload_n 0, 1) := zo_42 (zkb zk_cX12_card zn_cX12_card (by decide +kernel))
theorem dX12_card_56 : decode cX12_card 56 = .ok (.getfield 18, 3) := zo_180 (b1 := 0) (b2 := 18) (zkb3 zk_cX12_card zn_cX12_card (by decide +kernel)) rfl
theorem dX12_card_59 : decode cX12_card 59 = .ok (.ireturn, 1) := zo_172 (zkb zk_cX12_card zn_cX12_card (by decide +kernel))
theorem dX12_card_60 : decode cX12_card 60 = .ok (.aload_n 0, 1) := zo_42 (zkb zk_cX12_card zn_cX12_card (by decide +kernel))
theorem dX12_card_61 : decode cX12_card 61 = .ok (.getfield 18, 3) := zo_180 (b1 := 0) (b2 := 18) (zkb3 zk_cX12_card zn_cX12_card (by decide +kernel)) rfl
theorem dX12_card_64 : decode cX12_card 64 = .ok (.ifCond .ge 5, 3) := zo_156 (b1 := 0) (b2 := 5) (zkb3 zk_cX12_card zn_cX12_card (by decide +kernel)) rfl
theorem dX12_card_67 : decode cX12_card 67 = .ok (.iconst 0, 1) := zo_3 (zkb zk_cX12_card zn_cX12_card (by decide +kernel))
theorem dX12_card_68 : decode cX12_card 68 = .ok (.ireturn, 1) := zo_172 (zkb zk_cX12_card zn_cX12_card (by decide +kernel))
theorem dX12_card_69 : decode cX12_card 69 = .ok (.iload_n 1, 1) := zo_27 (zkb zk_cX12_card zn_cX12_card (by decide +kernel))
theorem dX12_card_70 : decode cX12_card 70 = .ok (.tableswitch 126 3 6 #[30, 79, 97, 113], 30) := by decide +kernel
theorem dX12_card_100 : decode cX12_card 100 = .ok (.aload_n 0, 1) := zo_42 (zkb zk_cX12_card zn_cX12_card (by decide +kernel))
theorem dX12_card_101 : decode cX12_card 101 = .ok (.aload_n 0, 1) := zo_42 (zkb zk_cX12_card zn_cX12_card (by decide +kernel))
theorem dX12_card_102 : decode cX12_card 102 = .ok (.getfield 18, 3) := zo_180 (b1 := 0) (b2 := 18) (zkb3 zk_cX12_card zn_cX12_card (by decide +kernel)) rfl
theorem dX12_card_105 : decode cX12_card 105 = .ok (.bipush 12, 2) := zo_16 (b1 := 12) (zkb2 zk_cX12_card zn_cX12_card (by decide +kernel)) rfl
theorem dX12_card_107 : decode cX12_card 107 = .ok (.iadd, 1) := zo_96 (zkb zk_cX12_card zn_cX12_card (by decide +kernel))
theorem dX12_card_108 : decode cX12_card 108 = .ok (.invokevirtual 150, 3) := zo_182 (b1 := 0) (b2 := 150) (zkb3 zk_cX12_card zn_cX12_card (by decide +kernel)) rfl
theorem dX12_card_111 : decode cX12_card 111 = .ok (.bipush 100, 2) := zo_16 (b1 := 100) (zkb2 zk_cX12_card zn_cX12_card (by decide +kernel)) rfl
theorem dX12_card_113 : decode cX12_card 113 = .ok (.aload_n 0, 1) := zo_42 (zkb zk_cX12_card zn_cX12_card (by decide +kernel))
theorem dX12_card_114 : decode cX12_card 114 = .ok (.aload_n 0, 1) := zo_42 (zkb zk_cX12_card zn_cX12_card (by decide +kernel))
theorem dX12_card_115 : decode cX12_card 115 = .ok (.getfield 18, 3) := zo_180 (b1 := 0) (b2 := 18) (zkb3 zk_cX12_card zn_cX12_card (by decide +kernel)) rfl
theorem dX12_card_118 : decode cX12_card 118 = .ok (.bipush 13, 2) := zo_16 (b1 := 13) (zkb2 zk_cX12_card zn_cX12_card (by decide +kernel)) rfl
theorem dX12_card_120 : decode cX12_card 120 = .ok (.iadd, 1) := zo_96 (zkb zk_cX12_card zn_cX12_card (by decide +kernel))
theorem dX12_card_121 : decode cX12_card 121 = .ok (.invokevirtual 150, 3) := zo_182 (b1 := 0) (b2 := 150) (zkb3 zk_cX12_card zn_cX12_card (by decide +kernel)) rfl
theorem dX12_card_124 : decode cX12_card 124 = .ok (.imul, 1) := zo_104 (zkb zk_cX12_card zn_cX12_card (by decide +kernel))
theorem dX12_card_125 : decode cX12_card 125 = .ok (.iadd, 1) := zo_96 (zkb zk_cX12_card zn_cX12_card (by decide +kernel))
theorem dX12_card_126 : decode cX12_card 126 = .ok (.sipush 10000, 3) := zo_17 (b1 := 39) (b2 := 16) (zkb3 zk_cX12_card zn_cX12_card (by decide +kernel)) rfl
theorem dX12_card_129 : decode cX12_card 129 = .ok (.aload_n 0, 1) := zo_42 (zkb zk_cX12_card zn_cX12_card (by decide +kernel))
theorem dX12_card_130 : decode cX12_card 130 = .ok (.getfield 15, 3) := zo_180 (b1 := 0) (b2 := 15) (zkb3 zk_cX12_card zn_cX12_card (by decide +kernel)) rfl
theorem dX12_card_133 : decode cX12_card 133 = .ok (.aload_n 0, 1) := zo_42 (zkb zk_cX12_card zn_cX12_card (by decide +kernel))
theorem dX12_card_134 : decode cX12_card 134 = .ok (.getfield 18, 3) := zo_180 (b1 := 0) (b2 := 18) (zkb3 zk_cX12_card zn_cX12_card (by decide +kernel)) rfl
theorem dX12_card_137 : decode cX12_card 137 = .ok (.bipush 14, 2) := zo_16 (b1 := 14) (zkb2 zk_cX12_card zn_cX12_card (by decide +kernel)) rfl
theorem dX12_card_139 : decode cX12_card 139 = .ok (.iadd, 1) := zo_96 (zkb zk_cX12_card zn_cX12_card (by decide +kernel))
theorem dX12_card_140 : decode cX12_card 140 = .ok (.baload, 1) := zo_51 (zkb zk_cX12_card zn_cX12_card (by decide +kernel))
theorem dX12_card_141 : decode cX12_card 141 = .ok (.iconst 4, 1) := zo_7 (zkb zk_cX12_card zn_cX12_card (by decide +kernel))
theorem dX12_card_142 : decode cX12_card 142 = .ok (.ishr, 1) := zo_122 (zkb zk_cX12_card zn_cX12_card (by decide +kernel))
theorem dX12_card_143 : decode cX12_card 143 = .ok (.bipush 15, 2) := zo_16 (b1 := 15) (zkb2 zk_cX12_card zn_cX12_card (by decide +kernel)) rfl
theorem dX12_card_145 : decode cX12_card 145 = .ok (.iand, 1) := zo_126 (zkb zk_cX12_card zn_cX12_card (by decide +kernel))
theorem dX12_card_146 : decode cX12_card 146 = .ok (.imul, 1) := zo_104 (zkb zk_cX12_card zn_cX12_card (by decide +kernel))
theorem dX12_card_147 : decode cX12_card 147 = .ok (.iadd, 1) := zo_96 (zkb zk_cX12_card zn_cX12_card (by decide +kernel))
theorem dX12_card_148 : decode cX12_card 148 = .ok (.ireturn, 1) := zo_172 (zkb zk_cX12_card zn_cX12_card (by decide +kernel))
theorem dX12_card_149 : decode cX12_card 149 = .ok (.aload_n 0, 1) := zo_42 (zkb zk_cX12_card zn_cX12_card (by decide +kernel))
theorem dX12_card_150 : decode cX12_card 150 = .ok (.getfield 15, 3) := zo_180 (b1 := 0) (b2 := 15) (zkb3 zk_cX12_card zn_cX12_card (by decide +kernel)) rfl
theorem dX12_card_153 : decode cX12_card 153 = .ok (.aload_n 0, 1) := zo_42 (zkb zk_cX12_card zn_cX12_card (by decide +kernel))
theorem dX12_card_154 : decode cX12_card 154 = .ok (.getfield 18, 3) := zo_180 (b1 := 0) (b2 := 18) (zkb3 zk_cX12_card zn_cX12_card (by decide +kernel)) rfl
theorem dX12_card_157 : decode cX12_card 157 = .ok (.bipush 15, 2) := zo_16 (b1 := 15) (zkb2 zk_cX12_card zn_cX12_card (by decide +kernel)) rfl
theorem dX12_card_159 : decode cX12_card 159 = .ok (.iadd, 1) := zo_96 (zkb zk_cX12_card zn_cX12_card (by decide +kernel))
theorem dX12_card_160 : decode cX12_card 160 = .ok (.baload, 1) := zo_51 (zkb zk_cX12_card zn_cX12_card (by decide +kernel))
theorem dX12_card_161 : decode cX12_card 161 = .ok (.iconst 4, 1) := zo_7 (zkb zk_cX12_card zn_cX12_card (by decide +kernel))
theorem dX12_card_162 : decode cX12_card 162 = .ok (.ishr, 1) := zo_122 (zkb zk_cX12_card zn_cX12_card (by decide +kernel))
theorem dX12_card_163 : decode cX12_card 163 = .ok (.bipush 15, 2) := zo_16 (b1 := 15) (zkb2 zk_cX12_card zn_cX12_card (by decide +kernel)) rfl
theorem dX12_card_165 : decode cX12_card 165 = .ok (.iand, 1) := zo_126 (zkb zk_cX12_card zn_cX12_card (by decide +kernel))
theorem dX12_card_166 : decode cX12_card 166 = .ok (.ireturn, 1) := zo_172 (zkb zk_cX12_card zn_cX12_card (by decide +kernel))
theorem dX12_card_167 : decode cX12_card 167 = .ok (.aload_n 0, 1) := zo_42 (zkb zk_cX12_card zn_cX12_card (by decide +kernel))
theorem dX12_card_168 : decode cX12_card 168 = .ok (.getfield 15, 3) := zo_180 (b1 := 0) (b2 := 15) (zkb3 zk_cX12_card zn_cX12_card (by decide +kernel)) rfl
theorem dX12_card_171 : decode cX12_card 171 = .ok (.aload_n 0, 1) := zo_42 (zkb zk_cX12_card zn_cX12_card (by decide +kernel))
theorem dX12_card_172 : decode cX12_card 172 = .ok (.getfield 18, 3) := zo_180 (b1 := 0) (b2 := 18) (zkb3 zk_cX12_card zn_cX12_card (by decide +kernel)) rfl
theorem dX12_card_175 : decode cX12_card 175 = .ok (.bipush 15, 2) := zo_16 (b1 := 15) (zkb2 zk_cX12_card zn_cX12_card (by decide +kernel)) rfl
theorem dX12_card_177 : decode cX12_card 177 = .ok (.iadd, 1) := zo_96 (zkb zk_cX12_card zn_cX12_card (by decide +kernel))
theorem dX12_card_178 : decode cX12_card 178 = .ok (.baload, 1) := zo_51 (zkb zk_cX12_card zn_cX12_card (by decide +kernel))
theorem dX12_card_179 : decode cX12_card 179 = .ok (.bipush 15, 2) := zo_16 (b1 := 15) (zkb2 zk_cX12_card zn_cX12_card (by decide +kernel)) rfl
theorem dX12_card_181 : decode cX12_card 181 = .ok (.iand, 1) := zo_126 (zkb zk_cX12_card zn_cX12_card (by decide +kernel))
theorem dX12_card_182 : decode cX12_card 182 = .ok (.ireturn, 1) := zo_172 (zkb zk_cX12_card zn_cX12_card (by decide +kernel))
theorem dX12_card_183 : decode cX12_card 183 = .ok (.aload_n 0, 1) := zo_42 (zkb zk_cX12_card zn_cX12_card (by decide +kernel))
theorem dX12_card_184 : decode cX12_card 184 = .ok (.aload_n 0, 1) := zo_42 (zkb zk_cX12_card zn_cX12_card (by decide +kernel))
theorem dX12_card_185 : decode cX12_card 185 = .ok (.getfield 18, 3) := zo_180 (b1 := 0) (b2 := 18) (zkb3 zk_cX12_card zn_cX12_card (by decide +kernel)) rfl
theorem dX12_card_188 : decode cX12_card 188 = .ok (.bipush 10, 2) := zo_16 (b1 := 10) (zkb2 zk_cX12_card zn_cX12_card (by decide +kernel)) rfl
theorem dX12_card_190 : decode cX12_card 190 = .ok (.iadd, 1) := zo_96 (zkb zk_cX12_card zn_cX12_card (by decide +kernel))
theorem dX12_card_191 : decode cX12_card 191 = .ok (.iconst 2, 1) := zo_5 (zkb zk_cX12_card zn_cX12_card (by decide +kernel))
theorem dX12_card_192 : decode cX12_card 192 = .ok (.invokevirtual 132, 3) := zo_182 (b1 := 0) (b2 := 132) (zkb3 zk_cX12_card zn_cX12_card (by decide +kernel)) rfl
theorem dX12_card_195 : decode cX12_card 195 = .ok (.ireturn, 1) := zo_172 (zkb zk_cX12_card zn_cX12_card (by decide +kernel))
theorem dX12_card_196 : decode cX12_card 196 = .ok (.aload_n 0, 1) := zo_42 (zkb zk_cX12_card zn_cX12_card (by decide +kernel))
theorem dX12_card_197 : decode cX12_card 197 = .ok (.getfield 140, 3) := zo_180 (b1 := 0) (b2 := 140) (zkb3 zk_cX12_card zn_cX12_card (by decide +kernel)) rfl
theorem dX12_card_200 : decode cX12_card 200 = .ok (.ireturn, 1) := zo_172 (zkb zk_cX12_card zn_cX12_card (by decide +kernel))
def kn_cX12_ofBank : Nat := 0xac7eff00113360700040111c68707c00b42a1b0040110f00b42a
theorem zk_cX12_ofBank : zkd cX12_ofBank.data.toList kn_cX12_ofBank = true := by decide +kernel
theorem zn_cX12_ofBank : cX12_ofBank.data.toList.length = 26 := by decide +kernel
theorem dX12_ofBank_0 : decode cX12_ofBank 0 = .ok (.aload_n 0, 1) := zo_42 (zkb zk_cX12_ofBank zn_cX12_ofBank (by decide +kernel))
theorem dX12_ofBank_1 : decode cX12_ofBank 1 = .ok (.getfield 15, 3) := zo_180 (b1 := 0) (b2 := 15) (zkb3 zk_cX12_ofBank zn_cX12_ofBank (by decide +kernel)) rfl
theorem dX12_ofBank_4 : decode cX12_ofBank 4 = .ok (.sipush 16384, 3) := zo_17 (b1 := 64) (b2 := 0) (zkb3 zk_cX12_ofBank zn_cX12_ofBank (by decide +kernel)) rfl
theorem dX12_ofBank_7 : decode cX12_ofBank 7 = .ok (.iload_n 1, 1) := zo_27 (zkb zk_cX12_ofBank zn_cX12_ofBank (by decide +kernel))
theorem dX12_ofBank_8 : decode cX12_ofBank 8 = .ok (.aload_n 0, 1) := zo_42 (zkb zk_cX12_ofBank zn_cX12_ofBank (by decide +kernel))
theorem dX12_ofBank_9 : decode cX12_ofBank 9 = .ok (.getfield 124, 3) := zo_180 (b1 := 0) (b2 := 124) (zkb3 zk_cX12_ofBank zn_cX12_ofBank (by decide +kernel)) rfl
theorem dX12_ofBank_12 : decode cX12_ofBank 12 = .ok (.irem, 1) := zo_112 (zkb zk_cX12_ofBank zn_cX12_ofBank (by decide +kernel))
theorem dX12_ofBank_13 : decode cX12_ofBank 13 = .ok (.imul, 1) := zo_104 (zkb zk_cX12_ofBank zn_cX12_ofBank (by decide +kernel))
theorem dX12_ofBank_14 : decode cX12_ofBank 14 = .ok (.iload_n 2, 1) := zo_28 (zkb zk_cX12_ofBank zn_cX12_ofBank (by decide +kernel))
theorem dX12_ofBank_15 : decode cX12_ofBank 15 = .ok (.sipush 16384, 3) := zo_17 (b1 := 64) (b2 := 0) (zkb3 zk_cX12_ofBank zn_cX12_ofBank (by decide +kernel)) rfl
theorem dX12_ofBank_18 : decode cX12_ofBank 18 = .ok (.irem, 1) := zo_112 (zkb zk_cX12_ofBank zn_cX12_ofBank (by decide +kernel))
theorem dX12_ofBank_19 : decode cX12_ofBank 19 = .ok (.iadd, 1) := zo_96 (zkb zk_cX12_ofBank zn_cX12_ofBank (by decide +kernel))
theorem dX12_ofBank_20 : decode cX12_ofBank 20 = .ok (.baload, 1) := zo_51 (zkb zk_cX12_ofBank zn_cX12_ofBank (by decide +kernel))
theorem dX12_ofBank_21 : decode cX12_ofBank 21 = .ok (.sipush 255, 3) := zo_17 (b1 := 0) (b2 := 255) (zkb3 zk_cX12_ofBank zn_cX12_ofBank (by decide +kernel)) rfl
theorem dX12_ofBank_24 : decode cX12_ofBank 24 = .ok (.iand, 1) := zo_126 (zkb zk_cX12_ofBank zn_cX12_ofBank (by decide +kernel))
theorem dX12_ofBank_25 : decode cX12_ofBank 25 = .ok (.ireturn, 1) := zo_172 (zkb zk_cX12_ofBank zn_cX12_ofBank (by decide +kernel))
def kn_cX12_isBattery : Nat := 0xac030400a7040700a283121b0d00a121121b1300997e08102e20101600b42a2000a0048900b42a
theorem zk_cX12_isBattery : zkd cX12_isBattery.data.toList kn_cX12_isBattery = true := by decide +kernel
theorem zn_cX12_isBattery : cX12_isBattery.data.toList.length = 39 := by decide +kernel
theorem dX12_isBattery_0 : decode cX12_isBattery 0 = .ok (.aload_n 0, 1) := zo_42 (zkb zk_cX12_isBattery zn_cX12_isBattery (by decide +kernel))
theorem dX12_isBattery_1 : decode cX12_isBattery 1 = .ok (.getfield 137, 3) := zo_180 (b1 := 0) (b2 := 137) (zkb3 zk_cX12_isBattery zn_cX12_isBattery (by decide +kernel)) rfl
theorem dX12_isBattery_4 : decode cX12_isBattery 4 = .ok (.iconst 1, 1) := zo_4 (zkb zk_cX12_isBattery zn_cX12_isBattery (by decide +kernel))
theorem dX12_isBattery_5 : decode cX12_isBattery 5 = .ok (.if_icmp .ne 32, 3) := zo_160 (b1 := 0) (b2 := 32) (zkb3 zk_cX12_isBattery zn_cX12_isBattery (by decide +kernel)) rfl
theorem dX12_isBattery_8 : decode cX12_isBattery 8 = .ok (.aload_n 0, 1) := zo_42 (zkb zk_cX12_isBattery zn_cX12_isBattery (by decide +kernel))
theorem dX12_isBattery_9 : decode cX12_isBattery 9 = .ok (.getfield 22, 3) := zo_180 (b1 := 0) (b2 := 22) (zkb3 zk_cX12_isBattery zn_cX12_isBattery (by decide +kernel)) rfl
theorem dX12_isBattery_12 : decode cX12_isBattery 12 = .ok (.bipush 32, 2) := zo_16 (b1 := 32) (zkb2 zk_cX12_isBattery zn_cX12_isBattery (by decide +kernel)) rfl
theorem dX12_isBattery_14 : decode cX12_isBattery 14 = .ok (.iaload, 1) := zo_46 (zkb zk_cX12_isBattery zn_cX12_isBattery (by decide +kernel))
theorem dX12_isBattery_15 : decode cX12_isBattery 15 = .ok (.bipush 8, 2) := zo_16 (b1 := 8) (zkb2 zk_cX12_isBattery zn_cX12_isBattery (by decide +kernel)) rfl
theorem dX12_isBattery_17 : decode cX12_isBattery 17 = .ok (.iand, 1) := zo_126 (zkb zk_cX12_isBattery zn_cX12_isBattery (by decide +kernel))
theorem dX12_isBattery_18 : decode cX12_isBattery 18 = .ok (.ifCond .eq 19, 3) := zo_153 (b1 := 0) (b2 := 19) (zkb3 zk_cX12_isBattery zn_cX12_isBattery (by decide +kernel)) rfl
theorem dX12_isBattery_21 : decode cX12_isBattery 21 = .ok (.iload_n 1, 1) := zo_27 (zkb zk_cX12_isBattery zn_cX12_isBattery (by decide +kernel))
theorem dX12_isBattery_22 : decode cX12_isBattery 22 = .ok (.ldc 33, 2) := zo_18 (b1 := 33) (zkb2 zk_cX12_isBattery zn_cX12_isBattery (by decide +kernel))
theorem dX12_isBattery_24 : decode cX12_isBattery 24 = .ok (.if_icmp .lt 13, 3) := zo_161 (b1 := 0) (b2 := 13) (zkb3 zk_cX12_isBattery zn_cX12_isBattery (by decide +kernel)) rfl
theorem dX12_isBattery_27 : decode cX12_isBattery 27 = .ok (.iload_n 1, 1) := zo_27 (zkb zk_cX12_isBattery zn_cX12_isBattery (by decide +kernel))
theorem dX12_isBattery_28 : decode cX12_isBattery 28 = .ok (.ldc 131, 2) := zo_18 (b1 := 131) (zkb2 zk_cX12_isBattery zn_cX12_isBattery (by decide +kernel))
theorem dX12_isBattery_30 : decode cX12_isBattery 30 = .ok (.if_icmp .ge 7, 3) := zo_162 (b1 := 0) (b2 := 7) (zkb3 zk_cX12_isBattery zn_cX12_isBattery (by decide +kernel)) rfl
theorem dX12_isBattery_33 : decode cX12_isBattery 33 = .ok (.iconst 1, 1) := zo_4 (zkb zk_cX12_isBattery zn_cX12_isBattery (by decide +kernel))
theorem dX12_isBattery_34 : decode cX12_isBattery 34 = .ok (.goto 4, 3) := zo_167 (b1 := 0) (b2 := 4) (zkb3 zk_cX12_isBattery zn_cX12_isBattery (by decide +kernel)) rfl
theorem dX12_isBattery_37 : decode cX12_isBattery 37 = .ok (.iconst 0, 1) := zo_3 (zkb zk_cX12_isBattery zn_cX12_isBattery (by decide +kernel))
theorem dX12_isBattery_38 : decode cX12_isBattery 38 = .ok (.ireturn, 1) := zo_172 (zkb zk_cX12_isBattery zn_cX12_isBattery (by decide +kernel))
def kn_cX12_batteryAt : Nat := 0xac60030400a70040110900997e072e20101600b42a6421121b
theorem zk_cX12_batteryAt : zkd cX12_batteryAt.data.toList kn_cX12_batteryAt = true := by decide +kernel
theorem zn_cX12_batteryAt : cX12_batteryAt.data.toList.length = 25 := by decide +kernel
theorem dX12_batteryAt_0 : decode cX12_batteryAt 0 = .ok (.iload_n 1, 1) := zo_27 (zkb zk_cX12_batteryAt zn_cX12_batteryAt (by decide +kernel))
theorem dX12_batteryAt_1 : decode cX12_batteryAt 1 = .ok (.ldc 33, 2) := zo_18 (b1 := 33) (zkb2 zk_cX12_batteryAt zn_cX12_batteryAt (by decide +kernel))
theorem dX12_batteryAt_3 : decode cX12_batteryAt 3 = .ok (.isub, 1) := zo_100 (zkb zk_cX12_batteryAt zn_cX12_batteryAt (by decide +kernel))
theorem dX12_batteryAt_4 : decode cX12_batteryAt 4 = .ok (.aload_n 0, 1) := zo_42 (zkb zk_cX12_batteryAt zn_cX12_batteryAt (by decide +kernel))
theorem dX12_batteryAt_5 : decode cX12_batteryAt 5 = .ok (.getfield 22, 3) := zo_180 (b1 := 0) (b2 := 22) (zkb3 zk_cX12_batteryAt zn_cX12_batteryAt (by decide +kernel)) rfl
theorem dX12_batteryAt_8 : decode cX12_batteryAt 8 = .ok (.bipush 32, 2) := zo_16 (b1 := 32) (zkb2 zk_cX12_batteryAt zn_cX12_batteryAt (by decide +kernel)) rfl
theorem dX12_batteryAt_10 : decode cX12_batteryAt 10 = .ok (.iaload, 1) := zo_46 (zkb zk_cX12_batteryAt zn_cX12_batteryAt (by decide +kernel))
theorem dX12_batteryAt_11 : decode cX12_batteryAt 11 = .ok (.iconst 4, 1) := zo_7 (zkb zk_cX12_batteryAt zn_cX12_batteryAt (by decide +kernel))
theorem dX12_batteryAt_12 : decode cX12_batteryAt 12 = .ok (.iand, 1) := zo_126 (zkb zk_cX12_batteryAt zn_cX12_batteryAt (by decide +kernel))
theorem dX12_batteryAt_13 : decode cX12_batteryAt 13 = .ok (.ifCond .eq 9, 3) := zo_153 (b1 := 0) (b2 := 9) (zkb3 zk_cX12_batteryAt zn_cX12_batteryAt (by decide +kernel)) rfl
theorem dX12_batteryAt_16 : decode cX12_batteryAt 16 = .ok (.sipush 16384, 3) := zo_17 (b1 := 64) (b2 := 0) (zkb3 zk_cX12_batteryAt zn_cX12_batteryAt (by decide +kernel)) rfl
theorem dX12_batteryAt_19 : decode cX12_batteryAt 19 = .ok (.goto 4, 3) := zo_167 (b1 := 0) (b2 := 4) (zkb3 zk_cX12_batteryAt zn_cX12_batteryAt (by decide +kernel)) rfl
theorem dX12_batteryAt_22 : decode cX12_batteryAt 22 = .ok (.iconst 0, 1) := zo_3 (zkb zk_cX12_batteryAt zn_cX12_batteryAt (by decide +kernel))
theorem dX12_batteryAt_23 : decode cX12_batteryAt 23 = .ok (.iadd, 1) := zo_96 (zkb zk_cX12_batteryAt zn_cX12_batteryAt (by decide +kernel))
theorem dX12_batteryAt_24 : decode cX12_batteryAt 24 = .ok (.ireturn, 1) := zo_172 (zkb zk_cX12_batteryAt zn_cX12_batteryAt (by decide +kernel))
def kn_cX12_read : Nat := 0xaca000b61c2e606c0040111c1d101600b42a2aaca000b61c032a0a00a20004111c1100a0048900b42aaca000b61c2e1f101600b42a0a00a76c0040111c0b00a221121c2a1e00a0068900b42aacff00110600a77eff0011331c0f00b42a1000a27900b42a1c1c009a8900b42aac7eff0011339d00b61c2a2200b42a1200999a00b61c2aac7eff001133700020111c1e00b42a1200a183121c3d7e8f121b
theorem zk_cX12_read : zkd cX12_read.data.toList kn_cX12_read = true := by decide +kernel
theorem zn_cX12_read : cX12_read.data.toList.length = 157 := by decide +kernel
theorem dX12_read_0 : decode cX12_read 0 = .ok (.iload_n 1, 1) := zo_27 (zkb zk_cX12_read zn_cX12_read (by decide +kernel))
theorem dX12_read_1 : decode cX12_read 1 = .ok (.ldc 143, 2) := zo_18 (b1 := 143) (zkb2 zk_cX12_read zn_cX12_read (by decide +kernel))
theorem dX12_read_3 : decode cX12_read 3 = .ok (.iand, 1) := zo_126 (zkb zk_cX12_read zn_cX12_read (by decide +kernel))
theorem dX12_read_4 : decode cX12_read 4 = .ok (.istore_n 2, 1) := zo_61 (zkb zk_cX12_read zn_cX12_read (by decide +kernel))
theorem dX12_read_5 : decode cX12_read 5 = .ok (.iload_n 2, 1) := zo_28 (zkb zk_cX12_read zn_cX12_read (by decide +kernel))
theorem dX12_read_6 : decode cX12_read 6 = .ok (.ldc 131, 2) := zo_18 (b1 := 131) (zkb2 zk_cX12_read zn_cX12_read (by decide +kernel))
theorem dX12_read_8 : decode cX12_read 8 = .ok (.if_icmp .lt 18, 3) := zo_161 (b1 := 0) (b2 := 18) (zkb3 zk_cX12_read zn_cX12_read (by decide +kernel)) rfl
theorem dX12_read_11 : decode cX12_read 11 = .ok (.aload_n 0, 1) := zo_42 (zkb zk_cX12_read zn_cX12_read (by decide +kernel))
theorem dX12_read_12 : decode cX12_read 12 = .ok (.getfield 30, 3) := zo_180 (b1 := 0) (b2 := 30) (zkb3 zk_cX12_read zn_cX12_read (by decide +kernel)) rfl
theorem dX12_read_15 : decode cX12_read 15 = .ok (.iload_n 2, 1) := zo_28 (zkb zk_cX12_read zn_cX12_read (by decide +kernel))
theorem dX12_read_16 : decode cX12_read 16 = .ok (.sipush 8192, 3) := zo_17 (b1 := 32) (b2 := 0) (zkb3 zk_cX12_read zn_cX12_read (by decide +kernel)) rfl
theorem dX12_read_19 : decode cX12_read 19 = .ok (.irem, 1) := zo_112 (zkb zk_cX12_read zn_cX12_read (by decide +kernel))
theorem dX12_read_20 : decode cX12_read 20 = .ok (.baload, 1) := zo_51 (zkb zk_cX12_read zn_cX12_read (by decide +kernel))
theorem dX12_read_21 : decode cX12_read 21 = .ok (.sipush 255, 3) := zo_17 (b1 := 0) (b2 := 255) (zkb3 zk_cX12_read zn_cX12_read (by decide +kernel)) rfl
theorem dX12_read_24 : decode cX12_read 24 = .ok (.iand, 1) := zo_126 (zkb zk_cX12_read zn_cX12_read (by decide +kernel))
theorem dX12_read_25 : decode cX12_read 25 = .ok (.ireturn, 1) := zo_172 (zkb zk_cX12_read zn_cX12_read (by decide +kernel))
theorem dX12_read_26 : decode cX12_read 26 = .ok (.aload_n 0, 1) := zo_42 (zkb zk_cX12_read zn_cX12_read (by decide +kernel))
theorem dX12_read_27 : decode cX12_read 27 = .ok (.iload_n 2, 1) := zo_28 (zkb zk_cX12_read zn_cX12_read (by decide +kernel))
theorem dX12_read_28 : decode cX12_read 28 = .ok (.invokevirtual 154, 3) := zo_182 (b1 := 0) (b2 := 154) (zkb3 zk_cX12_read zn_cX12_read (by decide +kernel)) rfl
theorem dX12_read_31 : decode cX12_read 31 = .ok (.ifCond .eq 18, 3) := zo_153 (b1 := 0) (b2 := 18) (zkb3 zk_cX12_read zn_cX12_read (by decide +kernel)) rfl
theorem dX12_read_34 : decode cX12_read 34 = .ok (.aload_n 0, 1) := zo_42 (zkb zk_cX12_read zn_cX12_read (by decide +kernel))
theorem dX12_read_35 : decode cX12_read 35 = .ok (.getfield 34, 3) := zo_180 (b1 := 0) (b2 := 34) (zkb3 zk_cX12_read zn_cX12_read (by decide +kernel)) rfl
theorem dX12_read_38 : decode cX12_read 38 = .ok (.aload_n 0, 1) := zo_42 (zkb zk_cX12_read zn_cX12_read (by decide +kernel))
theorem dX12_read_39 : decode cX12_read 39 = .ok (.iload_n 2, 1) := zo_28 (zkb zk_cX12_read zn_cX12_read (by decide +kernel))
theorem dX12_read_40 : decode cX12_read 40 = .ok (.invokevirtual 157, 3) := zo_182 (b1 := 0) (b2 := 157) (zkb3 zk_cX12_read zn_cX12_read (by decide +kernel)) rfl
theorem dX12_read_43 : decode cX12_read 43 = .ok (.baload, 1) := zo_51 (zkb zk_cX12_read zn_cX12_read (by decide +kernel))
theorem dX12_read_44 : decode cX12_read 44 = .ok (.sipush 255, 3) := zo_17 (b1 := 0) (b2 := 255) (zkb3 zk_cX12_read zn_cX12_read (by decide +kernel)) rfl
theorem dX12_read_47 : decode cX12_read 47 = .ok (.iand, 1) := zo_126 (zkb zk_cX12_read zn_cX12_read (by decide +kernel))
theorem dX12_read_48 : decode cX12_read 48 = .ok (.ireturn, 1) := zo_172 (zkb zk_cX12_read zn_cX12_read (by decide +kernel))
theorem dX12_read_49 : decode cX12_read 49 = .ok (.aload_n 0, 1) := zo_42 (zkb zk_cX12_read zn_cX12_read (by decide +kernel))
theorem dX12_read_50 : decode cX12_read 50 = .ok (.getfield 137, 3) := zo_180 (b1 := 0) (b2 := 137) (zkb3 zk_cX12_read zn_cX12_read (by decide +kernel)) rfl
theorem dX12_read_53 : decode cX12_read 53 = .ok (.ifCond .ne 28, 3) := zo_154 (b1 := 0) (b2 := 28) (zkb3 zk_cX12_read zn_cX12_read (by decide +kernel)) rfl
theorem dX12_read_56 : decode cX12_read 56 = .ok (.iload_n 2, 1) := zo_28 (zkb zk_cX12_read zn_cX12_read (by decide +kernel))
theorem dX12_read_57 : decode cX12_read 57 = .ok (.aload_n 0, 1) := zo_42 (zkb zk_cX12_read zn_cX12_read (by decide +kernel))
theorem dX12_read_58 : decode cX12_read 58 = .ok (.getfield 121, 3) := zo_180 (b1 := 0) (b2 := 121) (zkb3 zk_cX12_read zn_cX12_read (by decide +kernel)) rfl
theorem dX12_read_61 : decode cX12_read 61 = .ok (.if_icmp .ge 16, 3) := zo_162 (b1 := 0) (b2 := 16) (zkb3 zk_cX12_read zn_cX12_read (by decide +kernel)) rfl
theorem dX12_read_64 : decode cX12_read 64 = .ok (.aload_n 0, 1) := zo_42 (zkb zk_cX12_read zn_cX12_read (by decide +kernel))
theorem dX12_read_65 : decode cX12_read 65 = .ok (.getfield 15, 3) := zo_180 (b1 := 0) (b2 := 15) (zkb3 zk_cX12_read zn_cX12_read (by decide +kernel)) rfl
theorem dX12_read_68 : decode cX12_read 68 = .ok (.iload_n 2, 1) := zo_28 (zkb zk_cX12_read zn_cX12_read (by decide +kernel))
theorem dX12_read_69 : decode cX12_read 69 = .ok (.baload, 1) := zo_51 (zkb zk_cX12_read zn_cX12_read (by decide +kernel))
theorem dX12_read_70 : decode cX12_read 70 = .ok (.sipush 255, 3) := zo_17 (b1 := 0) (b2 := 255) (zkb3 zk_cX12_read zn_cX12_read (by decide +kernel)) rfl
theorem dX12_read_73 : decode cX12_read 73 = .ok (.iand, 1) := zo_126 (zkb zk_cX12_read zn_cX12_read (by decide +kernel))
theorem dX12_read_74 : decode cX12_read 74 = .ok (.goto 6, 3) := zo_167 (b1 := 0) (b2 := 6) (zkb3 zk_cX12_read zn_cX12_read (by decide +kernel)) rfl
theorem dX12_read_77 : decode cX12_read 77 = .ok (.sipush 255, 3) := zo_17 (b1 := 0) (b2 := 255) (zkb3 zk_cX12_read zn_cX12_read (by decide +kernel)) rfl
theorem dX12_read_80 : decode cX12_read 80 = .ok (.ireturn, 1) := zo_172 (zkb zk_cX12_read zn_cX12_read (by decide +kernel))
theorem dX12_read_81 : decode cX12_read 81 = .ok (.aload_n 0, 1) := zo_42 (zkb zk_cX12_read zn_cX12_read (by decide +kernel))
theorem dX12_read_82 : decode cX12_read 82 = .ok (.getfield 137, 3) := zo_180 (b1 := 0) (b2 := 137) (zkb3 zk_cX12_read zn_cX12_read (by decide +kernel)) rfl
theorem dX12_read_85 : decode cX12_read 85 = .ok (.iconst 3, 1) := zo_6 (zkb zk_cX12_read zn_cX12_read (by decide +kernel))
theorem dX12_read_86 : decode cX12_read 86 = .ok (.if_icmp .ne 30, 3) := zo_160 (b1 := 0) (b2 := 30) (zkb3 zk_cX12_read zn_cX12_read (by decide +kernel)) rfl
theorem dX12_read_89 : decode cX12_read 89 = .ok (.aload_n 0, 1) := zo_42 (zkb zk_cX12_read zn_cX12_read (by decide +kernel))
theorem dX12_read_90 : decode cX12_read 90 = .ok (.iload_n 2, 1) := zo_28 (zkb zk_cX12_read zn_cX12_read (by decide +kernel))
theorem dX12_read_91 : decode cX12_read 91 = .ok (.ldc 33, 2) := zo_18 (b1 := 33) (zkb2 zk_cX12_read zn_cX12_read (by decide +kernel))
theorem dX12_read_93 : decode cX12_read 93 = .ok (.if_icmp .ge 11, 3) := zo_162 (b1 := 0) (b2 := 11) (zkb3 zk_cX12_read zn_cX12_read (by decide +kernel)) rfl
theorem dX12_read_96 : decode cX12_read 96 = .ok (.iload_n 2, 1) := zo_28 (zkb zk_cX12_read zn_cX12_read (by decide +kernel))
theorem dX12_read_97 : decode cX12_read 97 = .ok (.sipush 16384, 3) := zo_17 (b1 := 64) (b2 := 0) (zkb3 zk_cX12_read zn_cX12_read (by decide +kernel)) rfl
theorem dX12_read_100 : decode cX12_read 100 = .ok (.idiv, 1) := zo_108 (zkb zk_cX12_read zn_cX12_read (by decide +kernel))
theorem dX12_read_101 : decode cX12_read 101 = .ok (.goto 10, 3) := zo_167 (b1 := 0) (b2 := 10) (zkb3 zk_cX12_read zn_cX12_read (by decide +kernel)) rfl
theorem dX12_read_104 : decode cX12_read 104 = .ok (.aload_n 0, 1) := zo_42 (zkb zk_cX12_read zn_cX12_read (by decide +kernel))
theorem dX12_read_105 : decode cX12_read 105 = .ok (.getfield 22, 3) := zo_180 (b1 := 0) (b2 := 22) (zkb3 zk_cX12_read zn_cX12_read (by decide +kernel)) rfl
theorem dX12_read_108 : decode cX12_read 108 = .ok (.bipush 31, 2) := zo_16 (b1 := 31) (zkb2 zk_cX12_read zn_cX12_read (by decide +kernel)) rfl
theorem dX12_read_110 : decode cX12_read 110 = .ok (.iaload, 1) := zo_46 (zkb zk_cX12_read zn_cX12_read (by decide +kernel))
theorem dX12_read_111 : decode cX12_read 111 = .ok (.iload_n 2, 1) := zo_28 (zkb zk_cX12_read zn_cX12_read (by decide +kernel))
theorem dX12_read_112 : decode cX12_read 112 = .ok (.invokevirtual 160, 3) := zo_182 (b1 := 0) (b2 := 160) (zkb3 zk_cX12_read zn_cX12_read (by decide +kernel)) rfl
theorem dX12_read_115 : decode cX12_read 115 = .ok (.ireturn, 1) := zo_172 (zkb zk_cX12_read zn_cX12_read (by decide +kernel))
theorem dX12_read_116 : decode cX12_read 116 = .ok (.aload_n 0, 1) := zo_42 (zkb zk_cX12_read zn_cX12_read (by decide +kernel))
theorem dX12_read_117 : decode cX12_read 117 = .ok (.getfield 137, 3) := zo_180 (b1 := 0) (b2 := 137) (zkb3 zk_cX12_read zn_cX12_read (by decide +kernel)) rfl
theorem dX12_read_120 : decode cX12_read 120 = .ok (.iconst 1, 1) := zo_4 (zkb zk_cX12_read zn_cX12_read (by decide +kernel))
theorem dX12_read_121 : decode cX12_read 121 = .ok (.if_icmp .ne 17, 3) := zo_160 (b1 := 0) (b2 := 17) (zkb3 zk_cX12_read zn_cX12_read (by decide +kernel)) rfl
theorem dX12_read_124 : decode cX12_read 124 = .ok (.iload_n 2, 1) := zo_28 (zkb zk_cX12_read zn_cX12_read (by decide +kernel))
theorem dX12_read_125 : decode cX12_read 125 = .ok (.sipush 1024, 3) := zo_17 (b1 := 4) (b2 := 0) (zkb3 zk_cX12_read zn_cX12_read (by decide +kernel)) rfl
theorem dX12_read_128 : decode cX12_read 128 = .ok (.if_icmp .ge 10, 3) := zo_162 (b1 := 0) (b2 := 10) (zkb3 zk_cX12_read zn_cX12_read (by decide +kernel)) rfl
theorem dX12_read_131 : decode cX12_read 131 = .ok (.aload_n 0, 1) := zo_42 (zkb zk_cX12_read zn_cX12_read (by decide +kernel))
theorem dX12_read_132 : decode cX12_read 132 = .ok (.iconst 0, 1) := zo_3 (zkb zk_cX12_read zn_cX12_read (by decide +kernel))
theorem dX12_read_133 : decode cX12_read 133 = .ok (.iload_n 2, 1) := zo_28 (zkb zk_cX12_read zn_cX12_read (by decide +kernel))
theorem dX12_read_134 : decode cX12_read 134 = .ok (.invokevirtual 160, 3) := zo_182 (b1 := 0) (b2 := 160) (zkb3 zk_cX12_read zn_cX12_read (by decide +kernel)) rfl
theorem dX12_read_137 : decode cX12_read 137 = .ok (.ireturn, 1) := zo_172 (zkb zk_cX12_read zn_cX12_read (by decide +kernel))
theorem dX12_read_138 : decode cX12_read 138 = .ok (.aload_n 0, 1) := zo_42 (zkb zk_cX12_read zn_cX12_read (by decide +kernel))
theorem dX12_read_139 : decode cX12_read 139 = .ok (.aload_n 0, 1) := zo_42 (zkb zk_cX12_read zn_cX12_read (by decide +kernel))
theorem dX12_read_140 : decode cX12_read 140 = .ok (.getfield 22, 3) := zo_180 (b1 := 0) (b2 := 22) (zkb3 zk_cX12_read zn_cX12_read (by decide +kernel)) rfl
theorem dX12_read_143 : decode cX12_read 143 = .ok (.bipush 29, 2) := zo_16 (b1 := 29) (zkb2 zk_cX12_read zn_cX12_read (by decide +kernel)) rfl
theorem dX12_read_145 : decode cX12_read 145 = .ok (.iload_n 2, 1) := zo_28 (zkb zk_cX12_read zn_cX12_read (by decide +kernel))
theorem dX12_read_146 : decode cX12_read 146 = .ok (.sipush 16384, 3) := zo_17 (b1 := 64) (b2 := 0) (zkb3 zk_cX12_read zn_cX12_read (by decide +kernel)) rfl
theorem dX12_read_149 : decode cX12_read 149 = .ok (.idiv, 1) := zo_108 (zkb zk_cX12_read zn_cX12_read (by decide +kernel))
theorem dX12_read_150 : decode cX12_read 150 = .ok (.iadd, 1) := zo_96 (zkb zk_cX12_read zn_cX12_read (by decide +kernel))
theorem dX12_read_151 : decode cX12_read 151 = .ok (.iaload, 1) := zo_46 (zkb zk_cX12_read zn_cX12_read (by decide +kernel))
theorem dX12_read_152 : decode cX12_read 152 = .ok (.iload_n 2, 1) := zo_28 (zkb zk_cX12_read zn_cX12_read (by decide +kernel))
theorem dX12_read_153 : decode cX12_read 153 = .ok (.invokevirtual 160, 3) := zo_182 (b1 := 0) (b2 := 160) (zkb3 zk_cX12_read zn_cX12_read (by decide +kernel)) rfl
theorem dX12_read_156 : decode cX12_read 156 = .ok (.ireturn, 1) := zo_172 (zkb zk_cX12_read zn_cX12_read (by decide +kernel))
def kn_cX12_write : Nat := 0xb14f04151f101600b42a0c00a0a5121d1200a0068900b42a4f0415606c0040111d1d101600b42a12009a700040111d1a00a283121d2000a0058900b42a4f041564a412601d1d101600b42a1100a4a3121d1700a0048900b42a4f041520101600b42a0c00a0a3121d1200a0048900b42a549104159d00b61d2a2200b42a1000999a00b61d2a54910415700020111d1e00b42a1000a183121d04367eff00111c3e7e8f121b
theorem zk_cX12_write : zkd cX12_write.data.toList kn_cX12_write = true := by decide +kernel
theorem zn_cX12_write : cX12_write.data.toList.length = 164 := by decide +kernel
theorem dX12_write_0 : decode cX12_write 0 = .ok (.iload_n 1, 1) := zo_27 (zkb zk_cX12_write zn_cX12_write (by decide +kernel))
theorem dX12_write_1 : decode cX12_write 1 = .ok (.ldc 143, 2) := zo_18 (b1 := 143) (zkb2 zk_cX12_write zn_cX12_write (by decide +kernel))
theorem dX12_write_3 : decode cX12_write 3 = .ok (.iand, 1) := zo_126 (zkb zk_cX12_write zn_cX12_write (by decide +kernel))
theorem dX12_write_4 : decode cX12_write 4 = .ok (.istore_n 3, 1) := zo_62 (zkb zk_cX12_write zn_cX12_write (by decide +kernel))
theorem dX12_write_5 : decode cX12_write 5 = .ok (.iload_n 2, 1) := zo_28 (zkb zk_cX12_write zn_cX12_write (by decide +kernel))
theorem dX12_write_6 : decode cX12_write 6 = .ok (.sipush 255, 3) := zo_17 (b1 := 0) (b2 := 255) (zkb3 zk_cX12_write zn_cX12_write (by decide +kernel)) rfl
theorem dX12_write_9 : decode cX12_write 9 = .ok (.iand, 1) := zo_126 (zkb zk_cX12_write zn_cX12_write (by decide +kernel))
theorem dX12_write_10 : decode cX12_write 10 = .ok (.istore 4, 2) := zo_54 (b1 := 4) (zkb2 zk_cX12_write zn_cX12_write (by decide +kernel))
theorem dX12_write_12 : decode cX12_write 12 = .ok (.iload_n 3, 1) := zo_29 (zkb zk_cX12_write zn_cX12_write (by decide +kernel))
theorem dX12_write_13 : decode cX12_write 13 = .ok (.ldc 131, 2) := zo_18 (b1 := 131) (zkb2 zk_cX12_write zn_cX12_write (by decide +kernel))
theorem dX12_write_15 : decode cX12_write 15 = .ok (.if_icmp .lt 16, 3) := zo_161 (b1 := 0) (b2 := 16) (zkb3 zk_cX12_write zn_cX12_write (by decide +kernel)) rfl
theorem dX12_write_18 : decode cX12_write 18 = .ok (.aload_n 0, 1) := zo_42 (zkb zk_cX12_write zn_cX12_write (by decide +kernel))
theorem dX12_write_19 : decode cX12_write 19 = .ok (.getfield 30, 3) := zo_180 (b1 := 0) (b2 := 30) (zkb3 zk_cX12_write zn_cX12_write (by decide +kernel)) rfl
theorem dX12_write_22 : decode cX12_write 22 = .ok (.iload_n 3, 1) := zo_29 (zkb zk_cX12_write zn_cX12_write (by decide +kernel))
theorem dX12_write_23 : decode cX12_write 23 = .ok (.sipush 8192, 3) := zo_17 (b1 := 32) (b2 := 0) (zkb3 zk_cX12_write zn_cX12_write (by decide +kernel)) rfl
theorem dX12_write_26 : decode cX12_write 26 = .ok (.irem, 1) := zo_112 (zkb zk_cX12_write zn_cX12_write (by decide +kernel))
theorem dX12_write_27 : decode cX12_write 27 = .ok (.iload 4, 2) := zo_21 (b1 := 4) (zkb2 zk_cX12_write zn_cX12_write (by decide +kernel))
theorem dX12_write_29 : decode cX12_write 29 = .ok (.i2b, 1) := zo_145 (zkb zk_cX12_write zn_cX12_write (by decide +kernel))
theorem dX12_write_30 : decode cX12_write 30 = .ok (.bastore, 1) := zo_84 (zkb zk_cX12_write zn_cX12_write (by decide +kernel))
theorem dX12_write_31 : decode cX12_write 31 = .ok (.aload_n 0, 1) := zo_42 (zkb zk_cX12_write zn_cX12_write (by decide +kernel))
theorem dX12_write_32 : decode cX12_write 32 = .ok (.iload_n 3, 1) := zo_29 (zkb zk_cX12_write zn_cX12_write (by decide +kernel))
theorem dX12_write_33 : decode cX12_write 33 = .ok (.invokevirtual 154, 3) := zo_182 (b1 := 0) (b2 := 154) (zkb3 zk_cX12_write zn_cX12_write (by decide +kernel)) rfl
theorem dX12_write_36 : decode cX12_write 36 = .ok (.ifCond .eq 16, 3) := zo_153 (b1 := 0) (b2 := 16) (zkb3 zk_cX12_write zn_cX12_write (by decide +kernel)) rfl
theorem dX12_write_39 : decode cX12_write 39 = .ok (.aload_n 0, 1) := zo_42 (zkb zk_cX12_write zn_cX12_write (by decide +kernel))
theorem dX12_write_40 : decode cX12_write 40 = .ok (.getfield 34, 3) := zo_180 (b1 := 0) (b2 := 34) (zkb3 zk_cX12_write zn_cX12_write (by decide +kernel)) rfl
theorem dX12_write_43 : decode cX12_write 43 = .ok (.aload_n 0, 1) := zo_42 (zkb zk_cX12_write zn_cX12_write (by decide +kernel))
theorem dX12_write_44 : decode cX12_write 44 = .ok (.iload_n 3, 1) := zo_29 (zkb zk_cX12_write zn_cX12_write (by decide +kernel))
theorem dX12_write_45 : decode cX12_write 45 = .ok (.invokevirtual 157, 3) := zo_182 (b1 := 0) (b2 := 157) (zkb3 zk_cX12_write zn_cX12_write (by decide +kernel)) rfl
theorem dX12_write_48 : decode cX12_write 48 = .ok (.iload 4, 2) := zo_21 (b1 := 4) (zkb2 zk_cX12_write zn_cX12_write (by decide +kernel))
theorem dX12_write_50 : decode cX12_write 50 = .ok (.i2b, 1) := zo_145 (zkb zk_cX12_write zn_cX12_write (by decide +kernel))
theorem dX12_write_51 : decode cX12_write 51 = .ok (.bastore, 1) := zo_84 (zkb zk_cX12_write zn_cX12_write (by decide +kernel))
theorem dX12_write_52 : decode cX12_write 52 = .ok (.aload_n 0, 1) := zo_42 (zkb zk_cX12_write zn_cX12_write (by decide +kernel))
theorem dX12_write_53 : decode cX12_write 53 = .ok (.getfield 137, 3) := zo_180 (b1 := 0) (b2 := 137) (zkb3 zk_cX12_write zn_cX12_write (by decide +kernel)) rfl
theorem dX12_write_56 : decode cX12_write 56 = .ok (.iconst 1, 1) := zo_4 (zkb zk_cX12_write zn_cX12_write (by decide +kernel))
theorem dX12_write_57 : decode cX12_write 57 = .ok (.if_icmp .ne 18, 3) := zo_160 (b1 := 0) (b2 := 18) (zkb3 zk_cX12_write zn_cX12_write (by decide +kernel)) rfl
theorem dX12_write_60 : decode cX12_write 60 = .ok (.iload_n 3, 1) := zo_29 (zkb zk_cX12_write zn_cX12_write (by decide +kernel))
theorem dX12_write_61 : decode cX12_write 61 = .ok (.ldc 163, 2) := zo_18 (b1 := 163) (zkb2 zk_cX12_write zn_cX12_write (by decide +kernel))
theorem dX12_write_63 : decode cX12_write 63 = .ok (.if_icmp .ne 12, 3) := zo_160 (b1 := 0) (b2 := 12) (zkb3 zk_cX12_write zn_cX12_write (by decide +kernel)) rfl
theorem dX12_write_66 : decode cX12_write 66 = .ok (.aload_n 0, 1) := zo_42 (zkb zk_cX12_write zn_cX12_write (by decide +kernel))
theorem dX12_write_67 : decode cX12_write 67 = .ok (.getfield 22, 3) := zo_180 (b1 := 0) (b2 := 22) (zkb3 zk_cX12_write zn_cX12_write (by decide +kernel)) rfl
theorem dX12_write_70 : decode cX12_write 70 = .ok (.bipush 32, 2) := zo_16 (b1 := 32) (zkb2 zk_cX12_write zn_cX12_write (by decide +kernel)) rfl
theorem dX12_write_72 : decode cX12_write 72 = .ok (.iload 4, 2) := zo_21 (b1 := 4) (zkb2 zk_cX12_write zn_cX12_write (by decide +kernel))
theorem dX12_write_74 : decode cX12_write 74 = .ok (.iastore, 1) := zo_79 (zkb zk_cX12_write zn_cX12_write (by decide +kernel))
theorem dX12_write_75 : decode cX12_write 75 = .ok (.aload_n 0, 1) := zo_42 (zkb zk_cX12_write zn_cX12_write (by decide +kernel))
theorem dX12_write_76 : decode cX12_write 76 = .ok (.getfield 137, 3) := zo_180 (b1 := 0) (b2 := 137) (zkb3 zk_cX12_write zn_cX12_write (by decide +kernel)) rfl
theorem dX12_write_79 : decode cX12_write 79 = .ok (.iconst 1, 1) := zo_4 (zkb zk_cX12_write zn_cX12_write (by decide +kernel))
theorem dX12_write_80 : decode cX12_write 80 = .ok (.if_icmp .ne 23, 3) := zo_160 (b1 := 0) (b2 := 23) (zkb3 zk_cX12_write zn_cX12_write (by decide +kernel)) rfl
theorem dX12_write_83 : decode cX12_write 83 = .ok (.iload_n 3, 1) := zo_29 (zkb zk_cX12_write zn_cX12_write (by decide +kernel))
theorem dX12_write_84 : decode cX12_write 84 = .ok (.ldc 163, 2) := zo_18 (b1 := 163) (zkb2 zk_cX12_write zn_cX12_write (by decide +kernel))
theorem dX12_write_86 : decode cX12_write 86 = .ok (.if_icmp .le 17, 3) := zo_164 (b1 := 0) (b2 := 17) (zkb3 zk_cX12_write zn_cX12_write (by decide +kernel)) rfl
theorem dX12_write_89 : decode cX12_write 89 = .ok (.aload_n 0, 1) := zo_42 (zkb zk_cX12_write zn_cX12_write (by decide +kernel))
theorem dX12_write_90 : decode cX12_write 90 = .ok (.getfield 22, 3) := zo_180 (b1 := 0) (b2 := 22) (zkb3 zk_cX12_write zn_cX12_write (by decide +kernel)) rfl
theorem dX12_write_93 : decode cX12_write 93 = .ok (.bipush 29, 2) := zo_16 (b1 := 29) (zkb2 zk_cX12_write zn_cX12_write (by decide +kernel)) rfl
theorem dX12_write_95 : decode cX12_write 95 = .ok (.iload_n 3, 1) := zo_29 (zkb zk_cX12_write zn_cX12_write (by decide +kernel))
theorem dX12_write_96 : decode cX12_write 96 = .ok (.iadd, 1) := zo_96 (zkb zk_cX12_write zn_cX12_write (by decide +kernel))
theorem dX12_write_97 : decode cX12_write 97 = .ok (.ldc 164, 2) := zo_18 (b1 := 164) (zkb2 zk_cX12_write zn_cX12_write (by decide +kernel))
theorem dX12_write_99 : decode cX12_write 99 = .ok (.isub, 1) := zo_100 (zkb zk_cX12_write zn_cX12_write (by decide +kernel))
theorem dX12_write_100 : decode cX12_write 100 = .ok (.iload 4, 2) := zo_21 (b1 := 4) (zkb2 zk_cX12_write zn_cX12_write (by decide +kernel))
theorem dX12_write_102 : decode cX12_write 102 = .ok (.iastore, 1) := zo_79 (zkb zk_cX12_write zn_cX12_write (by decide +kernel))
theorem dX12_write_103 : decode cX12_write 103 = .ok (.aload_n 0, 1) := zo_42 (zkb zk_cX12_write zn_cX12_write (by decide +kernel))
theorem dX12_write_104 : decode cX12_write 104 = .ok (.getfield 137, 3) := zo_180 (b1 := 0) (b2 := 137) (zkb3 zk_cX12_write zn_cX12_write (by decide +kernel)) rfl
theorem dX12_write_107 : decode cX12_write 107 = .ok (.iconst 2, 1) := zo_5 (zkb zk_cX12_write zn_cX12_write (by decide +kernel))
theorem dX12_write_108 : decode cX12_write 108 = .ok (.if_icmp .ne 32, 3) := zo_160 (b1 := 0) (b2 := 32) (zkb3 zk_cX12_write zn_cX12_write (by decide +kernel)) rfl
theorem dX12_write_111 : decode cX12_write 111 = .ok (.iload_n 3, 1) := zo_29 (zkb zk_cX12_write zn_cX12_write (by decide +kernel))
theorem dX12_write_112 : decode cX12_write 112 = .ok (.ldc 131, 2) := zo_18 (b1 := 131) (zkb2 zk_cX12_write zn_cX12_write (by decide +kernel))
theorem dX12_write_114 : decode cX12_write 114 = .ok (.if_icmp .ge 26, 3) := zo_162 (b1 := 0) (b2 := 26) (zkb3 zk_cX12_write zn_cX12_write (by decide +kernel)) rfl
theorem dX12_write_117 : decode cX12_write 117 = .ok (.iload_n 3, 1) := zo_29 (zkb zk_cX12_write zn_cX12_write (by decide +kernel))
theorem dX12_write_118 : decode cX12_write 118 = .ok (.sipush 16384, 3) := zo_17 (b1 := 64) (b2 := 0) (zkb3 zk_cX12_write zn_cX12_write (by decide +kernel)) rfl
theorem dX12_write_121 : decode cX12_write 121 = .ok (.irem, 1) := zo_112 (zkb zk_cX12_write zn_cX12_write (by decide +kernel))
theorem dX12_write_122 : decode cX12_write 122 = .ok (.ifCond .ne 18, 3) := zo_154 (b1 := 0) (b2 := 18) (zkb3 zk_cX12_write zn_cX12_write (by decide +kernel)) rfl
theorem dX12_write_125 : decode cX12_write 125 = .ok (.aload_n 0, 1) := zo_42 (zkb zk_cX12_write zn_cX12_write (by decide +kernel))
theorem dX12_write_126 : decode cX12_write 126 = .ok (.getfield 22, 3) := zo_180 (b1 := 0) (b2 := 22) (zkb3 zk_cX12_write zn_cX12_write (by decide +kernel)) rfl
theorem dX12_write_129 : decode cX12_write 129 = .ok (.bipush 29, 2) := zo_16 (b1 := 29) (zkb2 zk_cX12_write zn_cX12_write (by decide +kernel)) rfl
theorem dX12_write_131 : decode cX12_write 131 = .ok (.iload_n 3, 1) := zo_29 (zkb zk_cX12_write zn_cX12_write (by decide +kernel))
theorem dX12_write_132 : decode cX12_write 132 = .ok (.sipush 16384, 3) := zo_17 (b1 := 64) (b2 := 0) (zkb3 zk_cX12_write zn_cX12_write (by decide +kernel)) rfl
theorem dX12_write_135 : decode cX12_write 135 = .ok (.idiv, 1) := zo_108 (zkb zk_cX12_write zn_cX12_write (by decide +kernel))
theorem dX12_write_136 : decode cX12_write 136 = .ok (.iadd, 1) := zo_96 (zkb zk_cX12_write zn_cX12_write (by decide +kernel))
theorem dX12_write_137 : decode cX12_write 137 = .ok (.iload 4, 2) := zo_21 (b1 := 4) (zkb2 zk_cX12_write zn_cX12_write (by decide +kernel))
theorem dX12_write_139 : decode cX12_write 139 = .ok (.iastore, 1) := zo_79 (zkb zk_cX12_write zn_cX12_write (by decide +kernel))
theorem dX12_write_140 : decode cX12_write 140 = .ok (.aload_n 0, 1) := zo_42 (zkb zk_cX12_write zn_cX12_write (by decide +kernel))
theorem dX12_write_141 : decode cX12_write 141 = .ok (.getfield 137, 3) := zo_180 (b1 := 0) (b2 := 137) (zkb3 zk_cX12_write zn_cX12_write (by decide +kernel)) rfl
theorem dX12_write_144 : decode cX12_write 144 = .ok (.iconst 3, 1) := zo_6 (zkb zk_cX12_write zn_cX12_write (by decide +kernel))
theorem dX12_write_145 : decode cX12_write 145 = .ok (.if_icmp .ne 18, 3) := zo_160 (b1 := 0) (b2 := 18) (zkb3 zk_cX12_write zn_cX12_write (by decide +kernel)) rfl
theorem dX12_write_148 : decode cX12_write 148 = .ok (.iload_n 3, 1) := zo_29 (zkb zk_cX12_write zn_cX12_write (by decide +kernel))
theorem dX12_write_149 : decode cX12_write 149 = .ok (.ldc 165, 2) := zo_18 (b1 := 165) (zkb2 zk_cX12_write zn_cX12_write (by decide +kernel))
theorem dX12_write_151 : decode cX12_write 151 = .ok (.if_icmp .ne 12, 3) := zo_160 (b1 := 0) (b2 := 12) (zkb3 zk_cX12_write zn_cX12_write (by decide +kernel)) rfl
theorem dX12_write_154 : decode cX12_write 154 = .ok (.aload_n 0, 1) := zo_42 (zkb zk_cX12_write zn_cX12_write (by decide +kernel))
theorem dX12_write_155 : decode cX12_write 155 = .ok (.getfield 22, 3) := zo_180 (b1 := 0) (b2 := 22) (zkb3 zk_cX12_write zn_cX12_write (by decide +kernel)) rfl
theorem dX12_write_158 : decode cX12_write 158 = .ok (.bipush 31, 2) := zo_16 (b1 := 31) (zkb2 zk_cX12_write zn_cX12_write (by decide +kernel)) rfl
theorem dX12_write_160 : decode cX12_write 160 = .ok (.iload 4, 2) := zo_21 (b1 := 4) (zkb2 zk_cX12_write zn_cX12_write (by decide +kernel))
theorem dX12_write_162 : decode cX12_write 162 = .ok (.iastore, 1) := zo_79 (zkb zk_cX12_write zn_cX12_write (by decide +kernel))
theorem dX12_write_163 : decode cX12_write 163 = .ok (.return_, 1) := zo_177 (zkb zk_cX12_write zn_cX12_write (by decide +kernel))
def kn_cX12_word : Nat := 0xac80780810a600b660041b2aa600b61b2a
theorem zk_cX12_word : zkd cX12_word.data.toList kn_cX12_word = true := by decide +kernel
theorem zn_cX12_word : cX12_word.data.toList.length = 17 := by decide +kernel
theorem dX12_word_0 : decode cX12_word 0 = .ok (.aload_n 0, 1) := zo_42 (zkb zk_cX12_word zn_cX12_word (by decide +kernel))
theorem dX12_word_1 : decode cX12_word 1 = .ok (.iload_n 1, 1) := zo_27 (zkb zk_cX12_word zn_cX12_word (by decide +kernel))
theorem dX12_word_2 : decode cX12_word 2 = .ok (.invokevirtual 166, 3) := zo_182 (b1 := 0) (b2 := 166) (zkb3 zk_cX12_word zn_cX12_word (by decide +kernel)) rfl
theorem dX12_word_5 : decode cX12_word 5 = .ok (.aload_n 0, 1) := zo_42 (zkb zk_cX12_word zn_cX12_word (by decide +kernel))
theorem dX12_word_6 : decode cX12_word 6 = .ok (.iload_n 1, 1) := zo_27 (zkb zk_cX12_word zn_cX12_word (by decide +kernel))
theorem dX12_word_7 : decode cX12_word 7 = .ok (.iconst 1, 1) := zo_4 (zkb zk_cX12_word zn_cX12_word (by decide +kernel))
theorem dX12_word_8 : decode cX12_word 8 = .ok (.iadd, 1) := zo_96 (zkb zk_cX12_word zn_cX12_word (by decide +kernel))
theorem dX12_word_9 : decode cX12_word 9 = .ok (.invokevirtual 166, 3) := zo_182 (b1 := 0) (b2 := 166) (zkb3 zk_cX12_word zn_cX12_word (by decide +kernel)) rfl
theorem dX12_word_12 : decode cX12_word 12 = .ok (.bipush 8, 2) := zo_16 (b1 := 8) (zkb2 zk_cX12_word zn_cX12_word (by decide +kernel)) rfl
theorem dX12_word_14 : decode cX12_word 14 = .ok (.ishl, 1) := zo_120 (zkb zk_cX12_word zn_cX12_word (by decide +kernel))
theorem dX12_word_15 : decode cX12_word 15 = .ok (.ior, 1) := zo_128 (zkb zk_cX12_word zn_cX12_word (by decide +kernel))
theorem dX12_word_16 : decode cX12_word 16 = .ok (.ireturn, 1) := zo_172 (zkb zk_cX12_word zn_cX12_word (by decide +kernel))
def kn_cX12_wordTo : Nat := 0xb1a900b67a08101c60041b2aa900b61c1b2a
theorem zk_cX12_wordTo : zkd cX12_wordTo.data.toList kn_cX12_wordTo = true := by decide +kernel
theorem zn_cX12_wordTo : cX12_wordTo.data.toList.length = 18 := by decide +kernel
theorem dX12_wordTo_0 : decode cX12_wordTo 0 = .ok (.aload_n 0, 1) := zo_42 (zkb zk_cX12_wordTo zn_cX12_wordTo (by decide +kernel))
theorem dX12_wordTo_1 : decode cX12_wordTo 1 = .ok (.iload_n 1, 1) := zo_27 (zkb zk_cX12_wordTo zn_cX12_wordTo (by decide +kernel))
theorem dX12_wordTo_2 : decode cX12_wordTo 2 = .ok (.iload_n 2, 1) := zo_28 (zkb zk_cX12_wordTo zn_cX12_wordTo (by decide +kernel))
theorem dX12_wordTo_3 : decode cX12_wordTo 3 = .ok (.invokevirtual 169, 3) := zo_182 (b1 := 0) (b2 := 169) (zkb3 zk_cX12_wordTo zn_cX12_wordTo (by decide +kernel)) rfl
theorem dX12_wordTo_6 : decode cX12_wordTo 6 = .ok (.aload_n 0, 1) := zo_42 (zkb zk_cX12_wordTo zn_cX12_wordTo (by decide +kernel))
theorem dX12_wordTo_7 : decode cX12_wordTo 7 = .ok (.iload_n 1, 1) := zo_27 (zkb zk_cX12_wordTo zn_cX12_wordTo (by decide +kernel))
theorem dX12_wordTo_8 : decode cX12_wordTo 8 = .ok (.iconst 1, 1) := zo_4 (zkb zk_cX12_wordTo zn_cX12_wordTo (by decide +kernel))
theorem dX12_wordTo_9 : decode cX12_wordTo 9 = .ok (.iadd, 1) := zo_96 (zkb zk_cX12_wordTo zn_cX12_wordTo (by decide +kernel))
theorem dX12_wordTo_10 : decode cX12_wordTo 10 = .ok (.iload_n 2, 1) := zo_28 (zkb zk_cX12_wordTo zn_cX12_wordTo (by decide +kernel))
theorem dX12_wordTo_11 : decode cX12_wordTo 11 = .ok (.bipush 8, 2) := zo_16 (b1 := 8) (zkb2 zk_cX12_wordTo zn_cX12_wordTo (by decide +kernel)) rfl
theorem dX12_wordTo_13 : decode cX12_wordTo 13 = .ok (.ishr, 1) := zo_122 (zkb zk_cX12_wordTo zn_cX12_wordTo (by decide +kernel))
theorem dX12_wordTo_14 : decode cX12_wordTo 14 = .ok (.invokevirtual 169, 3) := zo_182 (b1 := 0) (b2 := 169) (zkb3 zk_cX12_wordTo zn_cX12_wordTo (by decide +kernel)) rfl
theorem dX12_wordTo_17 : decode cX12_wordTo 17 = .ok (.return_, 1) := zo_177 (zkb zk_cX12_wordTo zn_cX12_wordTo (by decide +kernel))
def kn_cX12_anew : Nat := 0xb1f0ffa701018454031b2800b42a1000a240101b3c03efffa701018454031b2500b42a1000a20040111b3c03d4ffa70101844f030400a7070700a0047006101b1000a77f1008009a7006101b601bac00111600b42a2c00a26c101b3c034f04a400111600b42aefffa70101844f031b1600b42a1000a2a600111b3c62104f211255101600b42aedffa70101844f0f10601b4e101600b42a1400a2071b3c034fff001128101600b42a4fff001126101600b42a4f7f1025101600b42a4fff001122101600b42a4fff001121101600b42a4f050400a7030700a0058900b42a1f101600b42a4f041e101600b42a4fad1212101600b42af0ffa70101844f031b1600b42a1000a257101b3c2f10f0ffa70101844f031b1600b42a1000a22a101b3c03
theorem zk_cX12_anew : zkd cX12_anew.data.toList kn_cX12_anew = true := by decide +kernel
theorem zn_cX12_anew : cX12_anew.data.toList.length = 287 := by decide +kernel
theorem dX12_anew_0 : decode cX12_anew 0 = .ok (.iconst 0, 1) := zo_3 (zkb zk_cX12_anew zn_cX12_anew (by decide +kernel))
theorem dX12_anew_1 : decode cX12_anew 1 = .ok (.istore_n 1, 1) := zo_60 (zkb zk_cX12_anew zn_cX12_anew (by decide +kernel))
theorem dX12_anew_2 : decode cX12_anew 2 = .ok (.iload_n 1, 1) := zo_27 (zkb zk_cX12_anew zn_cX12_anew (by decide +kernel))
theorem dX12_anew_3 : decode cX12_anew 3 = .ok (.bipush 42, 2) := zo_16 (b1 := 42) (zkb2 zk_cX12_anew zn_cX12_anew (by decide +kernel)) rfl
theorem dX12_anew_5 : decode cX12_anew 5 = .ok (.if_icmp .ge 16, 3) := zo_162 (b1 := 0) (b2 := 16) (zkb3 zk_cX12_anew zn_cX12_anew (by decide +kernel)) rfl
theorem dX12_anew_8 : decode cX12_anew 8 = .ok (.aload_n 0, 1) := zo_42 (zkb zk_cX12_anew zn_cX12_anew (by decide +kernel))
theorem dX12_anew_9 : decode cX12_anew 9 = .ok (.getfield 22, 3) := zo_180 (b1 := 0) (b2 := 22) (zkb3 zk_cX12_anew zn_cX12_anew (by decide +kernel)) rfl
theorem dX12_anew_12 : decode cX12_anew 12 = .ok (.iload_n 1, 1) := zo_27 (zkb zk_cX12_anew zn_cX12_anew (by decide +kernel))
theorem dX12_anew_13 : decode cX12_anew 13 = .ok (.iconst 0, 1) := zo_3 (zkb zk_cX12_anew zn_cX12_anew (by decide +kernel))
theorem dX12_anew_14 : decode cX12_anew 14 = .ok (.iastore, 1) := zo_79 (zkb zk_cX12_anew zn_cX12_anew (by decide +kernel))
theorem dX12_anew_15 : decode cX12_anew 15 = .ok (.iinc 1 1, 3) := zo_132 (b1 := 1) (b2 := 1) (zkb3 zk_cX12_anew zn_cX12_anew (by decide +kernel)) rfl
theorem dX12_anew_18 : decode cX12_anew 18 = .ok (.goto (-16), 3) := zo_167 (b1 := 255) (b2 := 240) (zkb3 zk_cX12_anew zn_cX12_anew (by decide +kernel)) rfl
theorem dX12_anew_21 : decode cX12_anew 21 = .ok (.bipush 47, 2) := zo_16 (b1 := 47) (zkb2 zk_cX12_anew zn_cX12_anew (by decide +kernel)) rfl
theorem dX12_anew_23 : decode cX12_anew 23 = .ok (.istore_n 1, 1) := zo_60 (zkb zk_cX12_anew zn_cX12_anew (by decide +kernel))
theorem dX12_anew_24 : decode cX12_anew 24 = .ok (.iload_n 1, 1) := zo_27 (zkb zk_cX12_anew zn_cX12_anew (by decide +kernel))
theorem dX12_anew_25 : decode cX12_anew 25 = .ok (.bipush 87, 2) := zo_16 (b1 := 87) (zkb2 zk_cX12_anew zn_cX12_anew (by decide +kernel)) rfl
theorem dX12_anew_27 : decode cX12_anew 27 = .ok (.if_icmp .ge 16, 3) := zo_162 (b1 := 0) (b2 := 16) (zkb3 zk_cX12_anew zn_cX12_anew (by decide +kernel)) rfl
theorem dX12_anew_30 : decode cX12_anew 30 = .ok (.aload_n 0, 1) := zo_42 (zkb zk_cX12_anew zn_cX12_anew (by decide +kernel))
theorem dX12_anew_31 : decode cX12_anew 31 = .ok (.getfield 22, 3) := zo_180 (b1 := 0) (b2 := 22) (zkb3 zk_cX12_anew zn_cX12_anew (by decide +kernel)) rfl
theorem dX12_anew_34 : decode cX12_anew 34 = .ok (.iload_n 1, 1) := zo_27 (zkb zk_cX12_anew zn_cX12_anew (by decide +kernel))
theorem dX12_anew_35 : decode cX12_anew 35 = .ok (.iconst 0, 1) := zo_3 (zkb zk_cX12_anew zn_cX12_anew (by decide +kernel))
theorem dX12_anew_36 : decode cX12_anew 36 = .ok (.iastore, 1) := zo_79 (zkb zk_cX12_anew zn_cX12_anew (by decide +kernel))
theorem dX12_anew_37 : decode cX12_anew 37 = .ok (.iinc 1 1, 3) := zo_132 (b1 := 1) (b2 := 1) (zkb3 zk_cX12_anew zn_cX12_anew (by decide +kernel)) rfl
theorem dX12_anew_40 : decode cX12_anew 40 = .ok (.goto (-16), 3) := zo_167 (b1 := 255) (b2 := 240) (zkb3 zk_cX12_anew zn_cX12_anew (by decide +kernel)) rfl
theorem dX12_anew_43 : decode cX12_anew 43 = .ok (.aload_n 0, 1) := zo_42 (zkb zk_cX12_anew zn_cX12_anew (by decide +kernel))
theorem dX12_anew_44 : decode cX12_anew 44 = .ok (.getfield 22, 3) := zo_180 (b1 := 0) (b2 := 22) (zkb3 zk_cX12_anew zn_cX12_anew (by decide +kernel)) rfl
theorem dX12_anew_47 : decode cX12_anew 47 = .ok (.bipush 18, 2) := zo_16 (b1 := 18) (zkb2 zk_cX12_anew zn_cX12_anew (by decide +kernel)) rfl
theorem dX12_anew_49 : decode cX12_anew 49 = .ok (.ldc 173, 2) := zo_18 (b1 := 173) (zkb2 zk_cX12_anew zn_cX12_anew (by decide +kernel))
theorem dX12_anew_51 : decode cX12_anew 51 = .ok (.iastore, 1) := zo_79 (zkb zk_cX12_anew zn_cX12_anew (by decide +kernel))
theorem dX12_anew_52 : decode cX12_anew 52 = .ok (.aload_n 0, 1) := zo_42 (zkb zk_cX12_anew zn_cX12_anew (by decide +kernel))
theorem dX12_anew_53 : decode cX12_anew 53 = .ok (.getfield 22, 3) := zo_180 (b1 := 0) (b2 := 22) (zkb3 zk_cX12_anew zn_cX12_anew (by decide +kernel)) rfl
theorem dX12_anew_56 : decode cX12_anew 56 = .ok (.bipush 30, 2) := zo_16 (b1 := 30) (zkb2 zk_cX12_anew zn_cX12_anew (by decide +kernel)) rfl
theorem dX12_anew_58 : decode cX12_anew 58 = .ok (.iconst 1, 1) := zo_4 (zkb zk_cX12_anew zn_cX12_anew (by decide +kernel))
theorem dX12_anew_59 : decode cX12_anew 59 = .ok (.iastore, 1) := zo_79 (zkb zk_cX12_anew zn_cX12_anew (by decide +kernel))
theorem dX12_anew_60 : decode cX12_anew 60 = .ok (.aload_n 0, 1) := zo_42 (zkb zk_cX12_anew zn_cX12_anew (by decide +kernel))
theorem dX12_anew_61 : decode cX12_anew 61 = .ok (.getfield 22, 3) := zo_180 (b1 := 0) (b2 := 22) (zkb3 zk_cX12_anew zn_cX12_anew (by decide +kernel)) rfl
theorem dX12_anew_64 : decode cX12_anew 64 = .ok (.bipush 31, 2) := zo_16 (b1 := 31) (zkb2 zk_cX12_anew zn_cX12_anew (by decide +kernel)) rfl
theorem dX12_anew_66 : decode cX12_anew 66 = .ok (.aload_n 0, 1) := zo_42 (zkb zk_cX12_anew zn_cX12_anew (by decide +kernel))
theorem dX12_anew_67 : decode cX12_anew 67 = .ok (.getfield 137, 3) := zo_180 (b1 := 0) (b2 := 137) (zkb3 zk_cX12_anew zn_cX12_anew (by decide +kernel)) rfl
theorem dX12_anew_70 : decode cX12_anew 70 = .ok (.iconst 2, 1) := zo_5 (zkb zk_cX12_anew zn_cX12_anew (by decide +kernel))
theorem dX12_anew_71 : decode cX12_anew 71 = .ok (.if_icmp .ne 7, 3) := zo_160 (b1 := 0) (b2 := 7) (zkb3 zk_cX12_anew zn_cX12_anew (by decide +kernel)) rfl
theorem dX12_anew_74 : decode cX12_anew 74 = .ok (.iconst 0, 1) := zo_3 (zkb zk_cX12_anew zn_cX12_anew (by decide +kernel))
theorem dX12_anew_75 : decode cX12_anew 75 = .ok (.goto 4, 3) := zo_167 (b1 := 0) (b2 := 4) (zkb3 zk_cX12_anew zn_cX12_anew (by decide +kernel)) rfl
theorem dX12_anew_78 : decode cX12_anew 78 = .ok (.iconst 2, 1) := zo_5 (zkb zk_cX12_anew zn_cX12_anew (by decide +kernel))
theorem dX12_anew_79 : decode cX12_anew 79 = .ok (.iastore, 1) := zo_79 (zkb zk_cX12_anew zn_cX12_anew (by decide +kernel))
theorem dX12_anew_80 : decode cX12_anew 80 = .ok (.aload_n 0, 1) := zo_42 (zkb zk_cX12_anew zn_cX12_anew (by decide +kernel))
theorem dX12_anew_81 : decode cX12_anew 81 = .ok (.getfield 22, 3) := zo_180 (b1 := 0) (b2 := 22) (zkb3 zk_cX12_anew zn_cX12_anew (by decide +kernel)) rfl
theorem dX12_anew_84 : decode cX12_anew 84 = .ok (.bipush 33, 2) := zo_16 (b1 := 33) (zkb2 zk_cX12_anew zn_cX12_anew (by decide +kernel)) rfl
theorem dX12_anew_86 : decode cX12_anew 86 = .ok (.sipush 255, 3) := zo_17 (b1 := 0) (b2 := 255) (zkb3 zk_cX12_anew zn_cX12_anew (by decide +kernel)) rfl
theorem dX12_anew_89 : decode cX12_anew 89 = .ok (.iastore, 1) := zo_79 (zkb zk_cX12_anew zn_cX12_anew (by decide +kernel))
theorem dX12_anew_90 : decode cX12_anew 90 = .ok (.aload_n 0, 1) := zo_42 (zkb zk_cX12_anew zn_cX12_anew (by decide +kernel))
theorem dX12_anew_91 : decode cX12_anew 91 = .ok (.getfield 22, 3) := zo_180 (b1 := 0) (b2 := 22) (zkb3 zk_cX12_anew zn_cX12_anew (by decide +kernel)) rfl
theorem dX12_anew_94 : decode cX12_anew 94 = .ok (.bipush 34, 2) := zo_16 (b1 := 34) (zkb2 zk_cX12_anew zn_cX12_anew (by decide +kernel)) rfl
theorem dX12_anew_96 : decode cX12_anew 96 = .ok (.sipush 255, 3) := zo_17 (b1 := 0) (b2 := 255) (zkb3 zk_cX12_anew zn_cX12_anew (by decide +kernel)) rfl
theorem dX12_anew_99 : decode cX12_anew 99 = .ok (.iastore, 1) := zo_79 (zkb zk_cX12_anew zn_cX12_anew (by decide +kernel))
theorem dX12_anew_100 : decode cX12_anew 100 = .ok (.aload_n 0, 1) := zo_42 (zkb zk_cX12_anew zn_cX12_anew (by decide +kernel))
theorem dX12_anew_101 : decode cX12_anew 101 = .ok (.getfield 22, 3) := zo_180 (b1 := 0) (b2 := 22) (zkb3 zk_cX12_anew zn_cX12_anew (by decide +kernel)) rfl
theorem dX12_anew_104 : decode cX12_anew 104 = .ok (.bipush 37, 2) := zo_16 (b1 := 37) (zkb2 zk_cX12_anew zn_cX12_anew (by decide +kernel)) rfl
theorem dX12_anew_106 : decode cX12_anew 106 = .ok (.bipush 127, 2) := zo_16 (b1 := 127) (zkb2 zk_cX12_anew zn_cX12_anew (by decide +kernel)) rfl
theorem dX12_anew_108 : decode cX12_anew 108 = .ok (.iastore, 1) := zo_79 (zkb zk_cX12_anew zn_cX12_anew (by decide +kernel))
theorem dX12_anew_109 : decode cX12_anew 109 = .ok (.aload_n 0, 1) := zo_42 (zkb zk_cX12_anew zn_cX12_anew (by decide +kernel))
theorem dX12_anew_110 : decode cX12_anew 110 = .ok (.getfield 22, 3) := zo_180 (b1 := 0) (b2 := 22) (zkb3 zk_cX12_anew zn_cX12_anew (by decide +kernel)) rfl
theorem dX12_anew_113 : decode cX12_anew 113 = .ok (.bipush 38, 2) := zo_16 (b1 := 38) (zkb2 zk_cX12_anew zn_cX12_anew (by decide +kernel)) rfl
theorem dX12_anew_115 : decode cX12_anew 115 = .ok (.sipush 255, 3) := zo_17 (b1 := 0) (b2 := 255) (zkb3 zk_cX12_anew zn_cX12_anew (by decide +kernel)) rfl
theorem dX12_anew_118 : decode cX12_anew 118 = .ok (.iastore, 1) := zo_79 (zkb zk_cX12_anew zn_cX12_anew (by decide +kernel))
theorem dX12_anew_119 : decode cX12_anew 119 = .ok (.aload_n 0, 1) := zo_42 (zkb zk_cX12_anew zn_cX12_anew (by decide +kernel))
theorem dX12_anew_120 : decode cX12_anew 120 = .ok (.getfield 22, 3) := zo_180 (b1 := 0) (b2 := 22) (zkb3 zk_cX12_anew zn_cX12_anew (by decide +kernel)) rfl
theorem dX12_anew_123 : decode cX12_anew 123 = .ok (.bipush 40, 2) := zo_16 (b1 := 40) (zkb2 zk_cX12_anew zn_cX12_anew (by decide +kernel)) rfl
theorem dX12_anew_125 : decode cX12_anew 125 = .ok (.sipush 255, 3) := zo_17 (b1 := 0) (b2 := 255) (zkb3 zk_cX12_anew zn_cX12_anew (by decide +kernel)) rfl
theorem dX12_anew_128 : decode cX12_anew 128 = .ok (.iastore, 1) := zo_79 (zkb zk_cX12_anew zn_cX12_anew (by decide +kernel))
theorem dX12_anew_129 : decode cX12_anew 129 = .ok (.iconst 0, 1) := zo_3 (zkb zk_cX12_anew zn_cX12_anew (by decide +kernel))
theorem dX12_anew_130 : decode cX12_anew 130 = .ok (.istore_n 1, 1) := zo_60 (zkb zk_cX12_anew zn_cX12_anew (by decide +kernel))
theorem dX12_anew_131 : decode cX12_anew 131 = .ok (.iload_n 1, 1) := zo_27 (zkb zk_cX12_anew zn_cX12_anew (by decide +kernel))
theorem dX12_anew_132 : decode cX12_anew 132 = .ok (.iconst 4, 1) := zo_7 (zkb zk_cX12_anew zn_cX12_anew (by decide +kernel))
theorem dX12_anew_133 : decode cX12_anew 133 = .ok (.if_icmp .ge 20, 3) := zo_162 (b1 := 0) (b2 := 20) (zkb3 zk_cX12_anew zn_cX12_anew (by decide +kernel)) rfl
theorem dX12_anew_136 : decode cX12_anew 136 = .ok (.aload_n 0, 1) := zo_42 (zkb zk_cX12_anew zn_cX12_anew (by decide +kernel))
theorem dX12_anew_137 : decode cX12_anew 137 = .ok (.getfield 22, 3) := zo_180 (b1 := 0) (b2 := 22) (zkb3 zk_cX12_anew zn_cX12_anew (by decide +kernel)) rfl
theorem dX12_anew_140 : decode cX12_anew 140 = .ok (.bipush 78, 2) := zo_16 (b1 := 78) (zkb2 zk_cX12_anew zn_cX12_anew (by decide +kernel)) rfl
theorem dX12_anew_142 : decode cX12_anew 142 = .ok (.iload_n 1, 1) := zo_27 (zkb zk_cX12_anew zn_cX12_anew (by decide +kernel))
theorem dX12_anew_143 : decode cX12_anew 143 = .ok (.iadd, 1) := zo_96 (zkb zk_cX12_anew zn_cX12_anew (by decide +kernel))
theorem dX12_anew_144 : decode cX12_anew 144 = .ok (.bipush 15, 2) := zo_16 (b1 := 15) (zkb2 zk_cX12_anew zn_cX12_anew (by decide +kernel)) rfl
theorem dX12_anew_146 : decode cX12_anew 146 = .ok (.iastore, 1) := zo_79 (zkb zk_cX12_anew zn_cX12_anew (by decide +kernel))
theorem dX12_anew_147 : decode cX12_anew 147 = .ok (.iinc 1 1, 3) := zo_132 (b1 := 1) (b2 := 1) (zkb3 zk_cX12_anew zn_cX12_anew (by decide +kernel)) rfl
theorem dX12_anew_150 : decode cX12_anew 150 = .ok (.goto (-19), 3) := zo_167 (b1 := 255) (b2 := 237) (zkb3 zk_cX12_anew zn_cX12_anew (by decide +kernel)) rfl
theorem dX12_anew_153 : decode cX12_anew 153 = .ok (.aload_n 0, 1) := zo_42 (zkb zk_cX12_anew zn_cX12_anew (by decide +kernel))
theorem dX12_anew_154 : decode cX12_anew 154 = .ok (.getfield 22, 3) := zo_180 (b1 := 0) (b2 := 22) (zkb3 zk_cX12_anew zn_cX12_anew (by decide +kernel)) rfl
theorem dX12_anew_157 : decode cX12_anew 157 = .ok (.bipush 85, 2) := zo_16 (b1 := 85) (zkb2 zk_cX12_anew zn_cX12_anew (by decide +kernel)) rfl
theorem dX12_anew_159 : decode cX12_anew 159 = .ok (.ldc 33, 2) := zo_18 (b1 := 33) (zkb2 zk_cX12_anew zn_cX12_anew (by decide +kernel))
theorem dX12_anew_161 : decode cX12_anew 161 = .ok (.iastore, 1) := zo_79 (zkb zk_cX12_anew zn_cX12_anew (by decide +kernel))
theorem dX12_anew_162 : decode cX12_anew 162 = .ok (.bipush 98, 2) := zo_16 (b1 := 98) (zkb2 zk_cX12_anew zn_cX12_anew (by decide +kernel)) rfl
theorem dX12_anew_164 : decode cX12_anew 164 = .ok (.istore_n 1, 1) := zo_60 (zkb zk_cX12_anew zn_cX12_anew (by decide +kernel))
theorem dX12_anew_165 : decode cX12_anew 165 = .ok (.iload_n 1, 1) := zo_27 (zkb zk_cX12_anew zn_cX12_anew (by decide +kernel))
theorem dX12_anew_166 : decode cX12_anew 166 = .ok (.sipush 166, 3) := zo_17 (b1 := 0) (b2 := 166) (zkb3 zk_cX12_anew zn_cX12_anew (by decide +kernel)) rfl
theorem dX12_anew_169 : decode cX12_anew 169 = .ok (.if_icmp .ge 16, 3) := zo_162 (b1 := 0) (b2 := 16) (zkb3 zk_cX12_anew zn_cX12_anew (by decide +kernel)) rfl
theorem dX12_anew_172 : decode cX12_anew 172 = .ok (.aload_n 0, 1) := zo_42 (zkb zk_cX12_anew zn_cX12_anew (by decide +kernel))
theorem dX12_anew_173 : decode cX12_anew 173 = .ok (.getfield 22, 3) := zo_180 (b1 := 0) (b2 := 22) (zkb3 zk_cX12_anew zn_cX12_anew (by decide +kernel)) rfl
theorem dX12_anew_176 : decode cX12_anew 176 = .ok (.iload_n 1, 1) := zo_27 (zkb zk_cX12_anew zn_cX12_anew (by decide +kernel))
theorem dX12_anew_177 : decode cX12_anew 177 = .ok (.iconst 0, 1) := zo_3 (zkb zk_cX12_anew zn_cX12_anew (by decide +kernel))
theorem dX12_anew_178 : decode cX12_anew 178 = .ok (.iastore, 1) := zo_79 (zkb zk_cX12_anew zn_cX12_anew (by decide +kernel))
theorem dX12_anew_179 : decode cX12_anew 179 = .ok (.iinc 1 1, 3) := zo_132 (b1 := 1) (b2 := 1) (zkb3 zk_cX12_anew zn_cX12_anew (by decide +kernel)) rfl
theorem dX12_anew_182 : decode cX12_anew 182 = .ok (.goto (-17), 3) := zo_167 (b1 := 255) (b2 := 239) (zkb3 zk_cX12_anew zn_cX12_anew (by decide +kernel)) rfl
theorem dX12_anew_185 : decode cX12_anew 185 = .ok (.aload_n 0, 1) := zo_42 (zkb zk_cX12_anew zn_cX12_anew (by decide +kernel))
theorem dX12_anew_186 : decode cX12_anew 186 = .ok (.getfield 22, 3) := zo_180 (b1 := 0) (b2 := 22) (zkb3 zk_cX12_anew zn_cX12_anew (by decide +kernel)) rfl
theorem dX12_anew_189 : decode cX12_anew 189 = .ok (.sipush 164, 3) := zo_17 (b1 := 0) (b2 := 164) (zkb3 zk_cX12_anew zn_cX12_anew (by decide +kernel)) rfl
theorem dX12_anew_192 : decode cX12_anew 192 = .ok (.iconst 1, 1) := zo_4 (zkb zk_cX12_anew zn_cX12_anew (by decide +kernel))
theorem dX12_anew_193 : decode cX12_anew 193 = .ok (.iastore, 1) := zo_79 (zkb zk_cX12_anew zn_cX12_anew (by decide +kernel))
theorem dX12_anew_194 : decode cX12_anew 194 = .ok (.iconst 0, 1) := zo_3 (zkb zk_cX12_anew zn_cX12_anew (by decide +kernel))
theorem dX12_anew_195 : decode cX12_anew 195 = .ok (.istore_n 1, 1) := zo_60 (zkb zk_cX12_anew zn_cX12_anew (by decide +kernel))
theorem dX12_anew_196 : decode cX12_anew 196 = .ok (.iload_n 1, 1) := zo_27 (zkb zk_cX12_anew zn_cX12_anew (by decide +kernel))
theorem dX12_anew_197 : decode cX12_anew 197 = .ok (.bipush 108, 2) := zo_16 (b1 := 108) (zkb2 zk_cX12_anew zn_cX12_anew (by decide +kernel)) rfl
theorem dX12_anew_199 : decode cX12_anew 199 = .ok (.if_icmp .ge 44, 3) := zo_162 (b1 := 0) (b2 := 44) (zkb3 zk_cX12_anew zn_cX12_anew (by decide +kernel)) rfl
theorem dX12_anew_202 : decode cX12_anew 202 = .ok (.aload_n 0, 1) := zo_42 (zkb zk_cX12_anew zn_cX12_anew (by decide +kernel))
theorem dX12_anew_203 : decode cX12_anew 203 = .ok (.getfield 22, 3) := zo_180 (b1 := 0) (b2 := 22) (zkb3 zk_cX12_anew zn_cX12_anew (by decide +kernel)) rfl
theorem dX12_anew_206 : decode cX12_anew 206 = .ok (.sipush 172, 3) := zo_17 (b1 := 0) (b2 := 172) (zkb3 zk_cX12_anew zn_cX12_anew (by decide +kernel)) rfl
theorem dX12_anew_209 : decode cX12_anew 209 = .ok (.iload_n 1, 1) := zo_27 (zkb zk_cX12_anew zn_cX12_anew (by decide +kernel))
theorem dX12_anew_210 : decode cX12_anew 210 = .ok (.iadd, 1) := zo_96 (zkb zk_cX12_anew zn_cX12_anew (by decide +kernel))
theorem dX12_anew_211 : decode cX12_anew 211 = .ok (.iload_n 1, 1) := zo_27 (zkb zk_cX12_anew zn_cX12_anew (by decide +kernel))
theorem dX12_anew_212 : decode cX12_anew 212 = .ok (.bipush 6, 2) := zo_16 (b1 := 6) (zkb2 zk_cX12_anew zn_cX12_anew (by decide +kernel)) rfl
theorem dX12_anew_214 : decode cX12_anew 214 = .ok (.irem, 1) := zo_112 (zkb zk_cX12_anew zn_cX12_anew (by decide +kernel))
theorem dX12_anew_215 : decode cX12_anew 215 = .ok (.ifCond .ne 8, 3) := zo_154 (b1 := 0) (b2 := 8) (zkb3 zk_cX12_anew zn_cX12_anew (by decide +kernel)) rfl
theorem dX12_anew_218 : decode cX12_anew 218 = .ok (.bipush 127, 2) := zo_16 (b1 := 127) (zkb2 zk_cX12_anew zn_cX12_anew (by decide +kernel)) rfl
theorem dX12_anew_220 : decode cX12_anew 220 = .ok (.goto 16, 3) := zo_167 (b1 := 0) (b2 := 16) (zkb3 zk_cX12_anew zn_cX12_anew (by decide +kernel)) rfl
theorem dX12_anew_223 : decode cX12_anew 223 = .ok (.iload_n 1, 1) := zo_27 (zkb zk_cX12_anew zn_cX12_anew (by decide +kernel))
theorem dX12_anew_224 : decode cX12_anew 224 = .ok (.bipush 6, 2) := zo_16 (b1 := 6) (zkb2 zk_cX12_anew zn_cX12_anew (by decide +kernel)) rfl
theorem dX12_anew_226 : decode cX12_anew 226 = .ok (.irem, 1) := zo_112 (zkb zk_cX12_anew zn_cX12_anew (by decide +kernel))
theorem dX12_anew_227 : decode cX12_anew 227 = .ok (.iconst 1, 1) := zo_4 (zkb zk_cX12_anew zn_cX12_anew (by decide +kernel))
theorem dX12_anew_228 : decode cX12_anew 228 = .ok (.if_icmp .ne 7, 3) := zo_160 (b1 := 0) (b2 := 7) (zkb3 zk_cX12_anew zn_cX12_anew (by decide +kernel)) rfl
theorem dX12_anew_231 : decode cX12_anew 231 = .ok (.iconst 4, 1) := zo_7 (zkb zk_cX12_anew zn_cX12_anew (by decide +kernel))
theorem dX12_anew_232 : decode cX12_anew 232 = .ok (.goto 4, 3) := zo_167 (b1 := 0) (b2 := 4) (zkb3 zk_cX12_anew zn_cX12_anew (by decide +kernel)) rfl
theorem dX12_anew_235 : decode cX12_anew 235 = .ok (.iconst 0, 1) := zo_3 (zkb zk_cX12_anew zn_cX12_anew (by decide +kernel))
theorem dX12_anew_236 : decode cX12_anew 236 = .ok (.iastore, 1) := zo_79 (zkb zk_cX12_anew zn_cX12_anew (by decide +kernel))
theorem dX12_anew_237 : decode cX12_anew 237 = .ok (.iinc 1 1, 3) := zo_132 (b1 := 1) (b2 := 1) (zkb3 zk_cX12_anew zn_cX12_anew (by decide +kernel)) rfl
theorem dX12_anew_240 : decode cX12_anew 240 = .ok (.goto (-44), 3) := zo_167 (b1 := 255) (b2 := 212) (zkb3 zk_cX12_anew zn_cX12_anew (by decide +kernel)) rfl
theorem dX12_anew_243 : decode cX12_anew 243 = .ok (.iconst 0, 1) := zo_3 (zkb zk_cX12_anew zn_cX12_anew (by decide +kernel))
theorem dX12_anew_244 : decode cX12_anew 244 = .ok (.istore_n 1, 1) := zo_60 (zkb zk_cX12_anew zn_cX12_anew (by decide +kernel))
theorem dX12_anew_245 : decode cX12_anew 245 = .ok (.iload_n 1, 1) := zo_27 (zkb zk_cX12_anew zn_cX12_anew (by decide +kernel))
theorem dX12_anew_246 : decode cX12_anew 246 = .ok (.sipush 16384, 3) := zo_17 (b1 := 64) (b2 := 0) (zkb3 zk_cX12_anew zn_cX12_anew (by decide +kernel)) rfl
theorem dX12_anew_249 : decode cX12_anew 249 = .ok (.if_icmp .ge 16, 3) := zo_162 (b1 := 0) (b2 := 16) (zkb3 zk_cX12_anew zn_cX12_anew (by decide +kernel)) rfl
theorem dX12_anew_252 : decode cX12_anew 252 = .ok (.aload_n 0, 1) := zo_42 (zkb zk_cX12_anew zn_cX12_anew (by decide +kernel))
theorem dX12_anew_253 : decode cX12_anew 253 = .ok (.getfield 37, 3) := zo_180 (b1 := 0) (b2 := 37) (zkb3 zk_cX12_anew zn_cX12_anew (by decide +kernel)) rfl
theorem dX12_anew_256 : decode cX12_anew 256 = .ok (.iload_n 1, 1) := zo_27 (zkb zk_cX12_anew zn_cX12_anew (by decide +kernel))
theorem dX12_anew_257 : decode cX12_anew 257 = .ok (.iconst 0, 1) := zo_3 (zkb zk_cX12_anew zn_cX12_anew (by decide +kernel))
theorem dX12_anew_258 : decode cX12_anew 258 = .ok (.bastore, 1) := zo_84 (zkb zk_cX12_anew zn_cX12_anew (by decide +kernel))
theorem dX12_anew_259 : decode cX12_anew 259 = .ok (.iinc 1 1, 3) := zo_132 (b1 := 1) (b2 := 1) (zkb3 zk_cX12_anew zn_cX12_anew (by decide +kernel)) rfl
theorem dX12_anew_262 : decode cX12_anew 262 = .ok (.goto (-17), 3) := zo_167 (b1 := 255) (b2 := 239) (zkb3 zk_cX12_anew zn_cX12_anew (by decide +kernel)) rfl
theorem dX12_anew_265 : decode cX12_anew 265 = .ok (.iconst 0, 1) := zo_3 (zkb zk_cX12_anew zn_cX12_anew (by decide +kernel))
theorem dX12_anew_266 : decode cX12_anew 266 = .ok (.istore_n 1, 1) := zo_60 (zkb zk_cX12_anew zn_cX12_anew (by decide +kernel))
theorem dX12_anew_267 : decode cX12_anew 267 = .ok (.iload_n 1, 1) := zo_27 (zkb zk_cX12_anew zn_cX12_anew (by decide +kernel))
theorem dX12_anew_268 : decode cX12_anew 268 = .ok (.bipush 64, 2) := zo_16 (b1 := 64) (zkb2 zk_cX12_anew zn_cX12_anew (by decide +kernel)) rfl
theorem dX12_anew_270 : decode cX12_anew 270 = .ok (.if_icmp .ge 16, 3) := zo_162 (b1 := 0) (b2 := 16) (zkb3 zk_cX12_anew zn_cX12_anew (by decide +kernel)) rfl
theorem dX12_anew_273 : decode cX12_anew 273 = .ok (.aload_n 0, 1) := zo_42 (zkb zk_cX12_anew zn_cX12_anew (by decide +kernel))
theorem dX12_anew_274 : decode cX12_anew 274 = .ok (.getfield 40, 3) := zo_180 (b1 := 0) (b2 := 40) (zkb3 zk_cX12_anew zn_cX12_anew (by decide +kernel)) rfl
theorem dX12_anew_277 : decode cX12_anew 277 = .ok (.iload_n 1, 1) := zo_27 (zkb zk_cX12_anew zn_cX12_anew (by decide +kernel))
theorem dX12_anew_278 : decode cX12_anew 278 = .ok (.iconst 0, 1) := zo_3 (zkb zk_cX12_anew zn_cX12_anew (by decide +kernel))
theorem dX12_anew_279 : decode cX12_anew 279 = .ok (.bastore, 1) := zo_84 (zkb zk_cX12_anew zn_cX12_anew (by decide +kernel))
theorem dX12_anew_280 : decode cX12_anew 280 = .ok (.iinc 1 1, 3) := zo_132 (b1 := 1) (b2 := 1) (zkb3 zk_cX12_anew zn_cX12_anew (by decide +kernel)) rfl
theorem dX12_anew_283 : decode cX12_anew 283 = .ok (.goto (-16), 3) := zo_167 (b1 := 255) (b2 := 240) (zkb3 zk_cX12_anew zn_cX12_anew (by decide +kernel)) rfl
theorem dX12_anew_286 : decode cX12_anew 286 = .ok (.return_, 1) := zo_177 (zkb zk_cX12_anew zn_cX12_anew (by decide +kernel))
def kn_cX12_pair : Nat := 0xac802e60041b1600b42a7808102e1b1600b42a
theorem zk_cX12_pair : zkd cX12_pair.data.toList kn_cX12_pair = true := by decide +kernel
theorem zn_cX12_pair : cX12_pair.data.toList.length = 19 := by decide +kernel
theorem dX12_pair_0 : decode cX12_pair 0 = .ok (.aload_n 0, 1) := zo_42 (zkb zk_cX12_pair zn_cX12_pair (by decide +kernel))
theorem dX12_pair_1 : decode cX12_pair 1 = .ok (.getfield 22, 3) := zo_180 (b1 := 0) (b2 := 22) (zkb3 zk_cX12_pair zn_cX12_pair (by decide +kernel)) rfl
theorem dX12_pair_4 : decode cX12_pair 4 = .ok (.iload_n 1, 1) := zo_27 (zkb zk_cX12_pair zn_cX12_pair (by decide +kernel))
theorem dX12_pair_5 : decode cX12_pair 5 = .ok (.iaload, 1) := zo_46 (zkb zk_cX12_pair zn_cX12_pair (by decide +kernel))
theorem dX12_pair_6 : decode cX12_pair 6 = .ok (.bipush 8, 2) := zo_16 (b1 := 8) (zkb2 zk_cX12_pair zn_cX12_pair (by decide +kernel)) rfl
theorem dX12_pair_8 : decode cX12_pair 8 = .ok (.ishl, 1) := zo_120 (zkb zk_cX12_pair zn_cX12_pair (by decide +kernel))
theorem dX12_pair_9 : decode cX12_pair 9 = .ok (.aload_n 0, 1) := zo_42 (zkb zk_cX12_pair zn_cX12_pair (by decide +kernel))
theorem dX12_pair_10 : decode cX12_pair 10 = .ok (.getfield 22, 3) := zo_180 (b1 := 0) (b2 := 22) (zkb3 zk_cX12_pair zn_cX12_pair (by decide +kernel)) rfl
theorem dX12_pair_13 : decode cX12_pair 13 = .ok (.iload_n 1, 1) := zo_27 (zkb zk_cX12_pair zn_cX12_pair (by decide +kernel))
theorem dX12_pair_14 : decode cX12_pair 14 = .ok (.iconst 1, 1) := zo_4 (zkb zk_cX12_pair zn_cX12_pair (by decide +kernel))
theorem dX12_pair_15 : decode cX12_pair 15 = .ok (.iadd, 1) := zo_96 (zkb zk_cX12_pair zn_cX12_pair (by decide +kernel))
theorem dX12_pair_16 : decode cX12_pair 16 = .ok (.iaload, 1) := zo_46 (zkb zk_cX12_pair zn_cX12_pair (by decide +kernel))
theorem dX12_pair_17 : decode cX12_pair 17 = .ok (.ior, 1) := zo_128 (zkb zk_cX12_pair zn_cX12_pair (by decide +kernel))
theorem dX12_pair_18 : decode cX12_pair 18 = .ok (.ireturn, 1) := zo_172 (zkb zk_cX12_pair zn_cX12_pair (by decide +kernel))
def kn_cX12_pairTo : Nat := 0xb14f7eff00111c60041b1600b42a4f7eff00117a08101c1b1600b42a
theorem zk_cX12_pairTo : zkd cX12_pairTo.data.toList kn_cX12_pairTo = true := by decide +kernel
theorem zn_cX12_pairTo : cX12_pairTo.data.toList.length = 28 := by decide +kernel
theorem dX12_pairTo_0 : decode cX12_pairTo 0 = .ok (.aload_n 0, 1) := zo_42 (zkb zk_cX12_pairTo zn_cX12_pairTo (by decide +kernel))
theorem dX12_pairTo_1 : decode cX12_pairTo 1 = .ok (.getfield 22, 3) := zo_180 (b1 := 0) (b2 := 22) (zkb3 zk_cX12_pairTo zn_cX12_pairTo (by decide +kernel)) rfl
theorem dX12_pairTo_4 : decode cX12_pairTo 4 = .ok (.iload_n 1, 1) := zo_27 (zkb zk_cX12_pairTo zn_cX12_pairTo (by decide +kernel))
theorem dX12_pairTo_5 : decode cX12_pairTo 5 = .ok (.iload_n 2, 1) := zo_28 (zkb zk_cX12_pairTo zn_cX12_pairTo (by decide +kernel))
theorem dX12_pairTo_6 : decode cX12_pairTo 6 = .ok (.bipush 8, 2) := zo_16 (b1 := 8) (zkb2 zk_cX12_pairTo zn_cX12_pairTo (by decide +kernel)) rfl
theorem dX12_pairTo_8 : decode cX12_pairTo 8 = .ok (.ishr, 1) := zo_122 (zkb zk_cX12_pairTo zn_cX12_pairTo (by decide +kernel))
theorem dX12_pairTo_9 : decode cX12_pairTo 9 = .ok (.sipush 255, 3) := zo_17 (b1 := 0) (b2 := 255) (zkb3 zk_cX12_pairTo zn_cX12_pairTo (by decide +kernel)) rfl
theorem dX12_pairTo_12 : decode cX12_pairTo 12 = .ok (.iand, 1) := zo_126 (zkb zk_cX12_pairTo zn_cX12_pairTo (by decide +kernel))
theorem dX12_pairTo_13 : decode cX12_pairTo 13 = .ok (.iastore, 1) := zo_79 (zkb zk_cX12_pairTo zn_cX12_pairTo (by decide +kernel))
theorem dX12_pairTo_14 : decode cX12_pairTo 14 = .ok (.aload_n 0, 1) := zo_42 (zkb zk_cX12_pairTo zn_cX12_pairTo (by decide +kernel))
theorem dX12_pairTo_15 : decode cX12_pairTo 15 = .ok (.getfield 22, 3) := zo_180 (b1 := 0) (b2 := 22) (zkb3 zk_cX12_pairTo zn_cX12_pairTo (by decide +kernel)) rfl
theorem dX12_pairTo_18 : decode cX12_pairTo 18 = .ok (.iload_n 1, 1) := zo_27 (zkb zk_cX12_pairTo zn_cX12_pairTo (by decide +kernel))
theorem dX12_pairTo_19 : decode cX12_pairTo 19 = .ok (.iconst 1, 1) := zo_4 (zkb zk_cX12_pairTo zn_cX12_pairTo (by decide +kernel))
theorem dX12_pairTo_20 : decode cX12_pairTo 20 = .ok (.iadd, 1) := zo_96 (zkb zk_cX12_pairTo zn_cX12_pairTo (by decide +kernel))
theorem dX12_pairTo_21 : decode cX12_pairTo 21 = .ok (.iload_n 2, 1) := zo_28 (zkb zk_cX12_pairTo zn_cX12_pairTo (by decide +kernel))
theorem dX12_pairTo_22 : decode cX12_pairTo 22 = .ok (.sipush 255, 3) := zo_17 (b1 := 0) (b2 := 255) (zkb3 zk_cX12_pairTo zn_cX12_pairTo (by decide +kernel)) rfl
theorem dX12_pairTo_25 : decode cX12_pairTo 25 = .ok (.iand, 1) := zo_126 (zkb zk_cX12_pairTo zn_cX12_pairTo (by decide +kernel))
theorem dX12_pairTo_26 : decode cX12_pairTo 26 = .ok (.iastore, 1) := zo_79 (zkb zk_cX12_pairTo zn_cX12_pairTo (by decide +kernel))
theorem dX12_pairTo_27 : decode cX12_pairTo 27 = .ok (.return_, 1) := zo_177 (zkb zk_cX12_pairTo zn_cX12_pairTo (by decide +kernel))
def kn_cX12_hl : Nat := 0xac2eae00b42a1600b42a0c00a7b100b606102a0c009aae00b42a
theorem zk_cX12_hl : zkd cX12_hl.data.toList kn_cX12_hl = true := by decide +kernel
theorem zn_cX12_hl : cX12_hl.data.toList.length = 26 := by decide +kernel
theorem dX12_hl_0 : decode cX12_hl 0 = .ok (.aload_n 0, 1) := zo_42 (zkb zk_cX12_hl zn_cX12_hl (by decide +kernel))
theorem dX12_hl_1 : decode cX12_hl 1 = .ok (.getfield 174, 3) := zo_180 (b1 := 0) (b2 := 174) (zkb3 zk_cX12_hl zn_cX12_hl (by decide +kernel)) rfl
theorem dX12_hl_4 : decode cX12_hl 4 = .ok (.ifCond .ne 12, 3) := zo_154 (b1 := 0) (b2 := 12) (zkb3 zk_cX12_hl zn_cX12_hl (by decide +kernel)) rfl
theorem dX12_hl_7 : decode cX12_hl 7 = .ok (.aload_n 0, 1) := zo_42 (zkb zk_cX12_hl zn_cX12_hl (by decide +kernel))
theorem dX12_hl_8 : decode cX12_hl 8 = .ok (.bipush 6, 2) := zo_16 (b1 := 6) (zkb2 zk_cX12_hl zn_cX12_hl (by decide +kernel)) rfl
theorem dX12_hl_10 : decode cX12_hl 10 = .ok (.invokevirtual 177, 3) := zo_182 (b1 := 0) (b2 := 177) (zkb3 zk_cX12_hl zn_cX12_hl (by decide +kernel)) rfl
theorem dX12_hl_13 : decode cX12_hl 13 = .ok (.goto 12, 3) := zo_167 (b1 := 0) (b2 := 12) (zkb3 zk_cX12_hl zn_cX12_hl (by decide +kernel)) rfl
theorem dX12_hl_16 : decode cX12_hl 16 = .ok (.aload_n 0, 1) := zo_42 (zkb zk_cX12_hl zn_cX12_hl (by decide +kernel))
theorem dX12_hl_17 : decode cX12_hl 17 = .ok (.getfield 22, 3) := zo_180 (b1 := 0) (b2 := 22) (zkb3 zk_cX12_hl zn_cX12_hl (by decide +kernel)) rfl
theorem dX12_hl_20 : decode cX12_hl 20 = .ok (.aload_n 0, 1) := zo_42 (zkb zk_cX12_hl zn_cX12_hl (by decide +kernel))
theorem dX12_hl_21 : decode cX12_hl 21 = .ok (.getfield 174, 3) := zo_180 (b1 := 0) (b2 := 174) (zkb3 zk_cX12_hl zn_cX12_hl (by decide +kernel)) rfl
theorem dX12_hl_24 : decode cX12_hl 24 = .ok (.iaload, 1) := zo_46 (zkb zk_cX12_hl zn_cX12_hl (by decide +kernel))
theorem dX12_hl_25 : decode cX12_hl 25 = .ok (.ireturn, 1) := zo_172 (zkb zk_cX12_hl zn_cX12_hl (by decide +kernel))
def kn_cX12_hlTo : Nat := 0xb14f7e8f121bae00b42a1600b42a1000a7b400b61b06102a0d009aae00b42a
theorem zk_cX12_hlTo : zkd cX12_hlTo.data.toList kn_cX12_hlTo = true := by decide +kernel
theorem zn_cX12_hlTo : cX12_hlTo.data.toList.length = 31 := by decide +kernel
theorem dX12_hlTo_0 : decode cX12_hlTo 0 = .ok (.aload_n 0, 1) := zo_42 (zkb zk_cX12_hlTo zn_cX12_hlTo (by decide +kernel))
theorem dX12_hlTo_1 : decode cX12_hlTo 1 = .ok (.getfield 174, 3) := zo_180 (b1 := 0) (b2 := 174) (zkb3 zk_cX12_hlTo zn_cX12_hlTo (by decide +kernel)) rfl
theorem dX12_hlTo_4 : decode cX12_hlTo 4 = .ok (.ifCond .ne 13, 3) := zo_154 (b1 := 0) (b2 := 13) (zkb3 zk_cX12_hlTo zn_cX12_hlTo (by decide +kernel)) rfl
theorem dX12_hlTo_7 : decode cX12_hlTo 7 = .ok (.aload_n 0, 1) := zo_42 (zkb zk_cX12_hlTo zn_cX12_hlTo (by decide +kernel))
theorem dX12_hlTo_8 : decode cX12_hlTo 8 = .ok (.bipush 6, 2) := zo_16 (b1 := 6) (zkb2 zk_cX12_hlTo zn_cX12_hlTo (by decide +kernel)) rfl
theorem dX12_hlTo_10 : decode cX12_hlTo 10 = .ok (.iload_n 1, 1) := zo_27 (zkb zk_cX12_hlTo zn_cX12_hlTo (by decide +kernel))
theorem dX12_hlTo_11 : decode cX12_hlTo 11 = .ok (.invokevirtual 180, 3) := zo_182 (b1 := 0) (b2 := 180) (zkb3 zk_cX12_hlTo zn_cX12_hlTo (by decide +kernel)) rfl
theorem dX12_hlTo_14 : decode cX12_hlTo 14 = .ok (.goto 16, 3) := zo_167 (b1 := 0) (b2 := 16) (zkb3 zk_cX12_hlTo zn_cX12_hlTo (by decide +kernel)) rfl
theorem dX12_hlTo_17 : decode cX12_hlTo 17 = .ok (.aload_n 0, 1) := zo_42 (zkb zk_cX12_hlTo zn_cX12_hlTo (by decide +kernel))
theorem dX12_hlTo_18 : decode cX12_hlTo 18 = .ok (.getfield 22, 3) := zo_180 (b1 := 0) (b2 := 22) (zkb3 zk_cX12_hlTo zn_cX12_hlTo (by decide +kernel)) rfl
theorem dX12_hlTo_21 : decode cX12_hlTo 21 = .ok (.aload_n 0, 1) := zo_42 (zkb zk_cX12_hlTo zn_cX12_hlTo (by decide +kernel))
theorem dX12_hlTo_22 : decode cX12_hlTo 22 = .ok (.getfield 174, 3) := zo_180 (b1 := 0) (b2 := 174) (zkb3 zk_cX12_hlTo zn_cX12_hlTo (by decide +kernel)) rfl
theorem dX12_hlTo_25 : decode cX12_hlTo 25 = .ok (.iload_n 1, 1) := zo_27 (zkb zk_cX12_hlTo zn_cX12_hlTo (by decide +kernel))
theorem dX12_hlTo_26 : decode cX12_hlTo 26 = .ok (.ldc 143, 2) := zo_18 (b1 := 143) (zkb2 zk_cX12_hlTo zn_cX12_hlTo (by decide +kernel))
theorem dX12_hlTo_28 : decode cX12_hlTo 28 = .ok (.iand, 1) := zo_126 (zkb zk_cX12_hlTo zn_cX12_hlTo (by decide +kernel))
theorem dX12_hlTo_29 : decode cX12_hlTo 29 = .ok (.iastore, 1) := zo_79 (zkb zk_cX12_hlTo zn_cX12_hlTo (by decide +kernel))
theorem dX12_hlTo_30 : decode cX12_hlTo 30 = .ok (.return_, 1) := zo_177 (zkb zk_cX12_hlTo zn_cX12_hlTo (by decide +kernel))
def kn_cX12_rp : Nat := 0xac2e12101600b42a0a00a7b700b62a0a00a0051b1600a7b100b6072a0b00a0041b2300a7b100b6052a0b009a1b
theorem zk_cX12_rp : zkd cX12_rp.data.toList kn_cX12_rp = true := by decide +kernel
theorem zn_cX12_rp : cX12_rp.data.toList.length = 45 := by decide +kernel
theorem dX12_rp_0 : decode cX12_rp 0 = .ok (.iload_n 1, 1) := zo_27 (zkb zk_cX12_rp zn_cX12_rp (by decide +kernel))
theorem dX12_rp_1 : decode cX12_rp 1 = .ok (.ifCond .ne 11, 3) := zo_154 (b1 := 0) (b2 := 11) (zkb3 zk_cX12_rp zn_cX12_rp (by decide +kernel)) rfl
theorem dX12_rp_4 : decode cX12_rp 4 = .ok (.aload_n 0, 1) := zo_42 (zkb zk_cX12_rp zn_cX12_rp (by decide +kernel))
theorem dX12_rp_5 : decode cX12_rp 5 = .ok (.iconst 2, 1) := zo_5 (zkb zk_cX12_rp zn_cX12_rp (by decide +kernel))
theorem dX12_rp_6 : decode cX12_rp 6 = .ok (.invokevirtual 177, 3) := zo_182 (b1 := 0) (b2 := 177) (zkb3 zk_cX12_rp zn_cX12_rp (by decide +kernel)) rfl
theorem dX12_rp_9 : decode cX12_rp 9 = .ok (.goto 35, 3) := zo_167 (b1 := 0) (b2 := 35) (zkb3 zk_cX12_rp zn_cX12_rp (by decide +kernel)) rfl
theorem dX12_rp_12 : decode cX12_rp 12 = .ok (.iload_n 1, 1) := zo_27 (zkb zk_cX12_rp zn_cX12_rp (by decide +kernel))
theorem dX12_rp_13 : decode cX12_rp 13 = .ok (.iconst 1, 1) := zo_4 (zkb zk_cX12_rp zn_cX12_rp (by decide +kernel))
theorem dX12_rp_14 : decode cX12_rp 14 = .ok (.if_icmp .ne 11, 3) := zo_160 (b1 := 0) (b2 := 11) (zkb3 zk_cX12_rp zn_cX12_rp (by decide +kernel)) rfl
theorem dX12_rp_17 : decode cX12_rp 17 = .ok (.aload_n 0, 1) := zo_42 (zkb zk_cX12_rp zn_cX12_rp (by decide +kernel))
theorem dX12_rp_18 : decode cX12_rp 18 = .ok (.iconst 4, 1) := zo_7 (zkb zk_cX12_rp zn_cX12_rp (by decide +kernel))
theorem dX12_rp_19 : decode cX12_rp 19 = .ok (.invokevirtual 177, 3) := zo_182 (b1 := 0) (b2 := 177) (zkb3 zk_cX12_rp zn_cX12_rp (by decide +kernel)) rfl
theorem dX12_rp_22 : decode cX12_rp 22 = .ok (.goto 22, 3) := zo_167 (b1 := 0) (b2 := 22) (zkb3 zk_cX12_rp zn_cX12_rp (by decide +kernel)) rfl
theorem dX12_rp_25 : decode cX12_rp 25 = .ok (.iload_n 1, 1) := zo_27 (zkb zk_cX12_rp zn_cX12_rp (by decide +kernel))
theorem dX12_rp_26 : decode cX12_rp 26 = .ok (.iconst 2, 1) := zo_5 (zkb zk_cX12_rp zn_cX12_rp (by decide +kernel))
theorem dX12_rp_27 : decode cX12_rp 27 = .ok (.if_icmp .ne 10, 3) := zo_160 (b1 := 0) (b2 := 10) (zkb3 zk_cX12_rp zn_cX12_rp (by decide +kernel)) rfl
theorem dX12_rp_30 : decode cX12_rp 30 = .ok (.aload_n 0, 1) := zo_42 (zkb zk_cX12_rp zn_cX12_rp (by decide +kernel))
theorem dX12_rp_31 : decode cX12_rp 31 = .ok (.invokevirtual 183, 3) := zo_182 (b1 := 0) (b2 := 183) (zkb3 zk_cX12_rp zn_cX12_rp (by decide +kernel)) rfl
theorem dX12_rp_34 : decode cX12_rp 34 = .ok (.goto 10, 3) := zo_167 (b1 := 0) (b2 := 10) (zkb3 zk_cX12_rp zn_cX12_rp (by decide +kernel)) rfl
theorem dX12_rp_37 : decode cX12_rp 37 = .ok (.aload_n 0, 1) := zo_42 (zkb zk_cX12_rp zn_cX12_rp (by decide +kernel))
theorem dX12_rp_38 : decode cX12_rp 38 = .ok (.getfield 22, 3) := zo_180 (b1 := 0) (b2 := 22) (zkb3 zk_cX12_rp zn_cX12_rp (by decide +kernel)) rfl
theorem dX12_rp_41 : decode cX12_rp 41 = .ok (.bipush 18, 2) := zo_16 (b1 := 18) (zkb2 zk_cX12_rp zn_cX12_rp (by decide +kernel)) rfl
theorem dX12_rp_43 : decode cX12_rp 43 = .ok (.iaload, 1) := zo_46 (zkb zk_cX12_rp zn_cX12_rp (by decide +kernel))
theorem dX12_rp_44 : decode cX12_rp 44 = .ok (.ireturn, 1) := zo_172 (zkb zk_cX12_rp zn_cX12_rp (by decide +kernel))
def kn_cX12_rpTo : Nat := 0xb14f7e8f121c12101600b42a0e00a7bb00b61c2a0b00a0051b1b00a7b400b61c072a0c00a0041b2900a7b400b61c052a0c009a1b
theorem zk_cX12_rpTo : zkd cX12_rpTo.data.toList kn_cX12_rpTo = true := by decide +kernel
theorem zn_cX12_rpTo : cX12_rpTo.data.toList.length = 52 := by decide +kernel
theorem dX12_rpTo_0 : decode cX12_rpTo 0 = .ok (.iload_n 1, 1) := zo_27 (zkb zk_cX12_rpTo zn_cX12_rpTo (by decide +kernel))
theorem dX12_rpTo_1 : decode cX12_rpTo 1 = .ok (.ifCond .ne 12, 3) := zo_154 (b1 := 0) (b2 := 12) (zkb3 zk_cX12_rpTo zn_cX12_rpTo (by decide +kernel)) rfl
theorem dX12_rpTo_4 : decode cX12_rpTo 4 = .ok (.aload_n 0, 1) := zo_42 (zkb zk_cX12_rpTo zn_cX12_rpTo (by decide +kernel))
theorem dX12_rpTo_5 : decode cX12_rpTo 5 = .ok (.iconst 2, 1) := zo_5 (zkb zk_cX12_rpTo zn_cX12_rpTo (by decide +kernel))
theorem dX12_rpTo_6 : decode cX12_rpTo 6 = .ok (.iload_n 2, 1) := zo_28 (zkb zk_cX12_rpTo zn_cX12_rpTo (by decide +kernel))
theorem dX12_rpTo_7 : decode cX12_rpTo 7 = .ok (.invokevirtual 180, 3) := zo_182 (b1 := 0) (b2 := 180) (zkb3 zk_cX12_rpTo zn_cX12_rpTo (by decide +kernel)) rfl
theorem dX12_rpTo_10 : decode cX12_rpTo 10 = .ok (.goto 41, 3) := zo_167 (b1 := 0) (b2 := 41) (zkb3 zk_cX12_rpTo zn_cX12_rpTo (by decide +kernel)) rfl
theorem dX12_rpTo_13 : decode cX12_rpTo 13 = .ok (.iload_n 1, 1) := zo_27 (zkb zk_cX12_rpTo zn_cX12_rpTo (by decide +kernel))
theorem dX12_rpTo_14 : decode cX12_rpTo 14 = .ok (.iconst 1, 1) := zo_4 (zkb zk_cX12_rpTo zn_cX12_rpTo (by decide +kernel))
theorem dX12_rpTo_15 : decode cX12_rpTo 15 = .ok (.if_icmp .ne 12, 3) := zo_160 (b1 := 0) (b2 := 12) (zkb3 zk_cX12_rpTo zn_cX12_rpTo (by decide +kernel)) rfl
theorem dX12_rpTo_18 : decode cX12_rpTo 18 = .ok (.aload_n 0, 1) := zo_42 (zkb zk_cX12_rpTo zn_cX12_rpTo (by decide +kernel))
theorem dX12_rpTo_19 : decode cX12_rpTo 19 = .ok (.iconst 4, 1) := zo_7 (zkb zk_cX12_rpTo zn_cX12_rpTo (by decide +kernel))
theorem dX12_rpTo_20 : decode cX12_rpTo 20 = .ok (.iload_n 2, 1) := zo_28 (zkb zk_cX12_rpTo zn_cX12_rpTo (by decide +kernel))
theorem dX12_rpTo_21 : decode cX12_rpTo 21 = .ok (.invokevirtual 180, 3) := zo_182 (b1 := 0) (b2 := 180) (zkb3 zk_cX12_rpTo zn_cX12_rpTo (by decide +kernel)) rfl
theorem dX12_rpTo_24 : decode cX12_rpTo 24 = .ok (.goto 27, 3) := zo_167 (b1 := 0) (b2 := 27) (zkb3 zk_cX12_rpTo zn_cX12_rpTo (by decide +kernel)) rfl
theorem dX12_rpTo_27 : decode cX12_rpTo 27 = .ok (.iload_n 1, 1) := zo_27 (zkb zk_cX12_rpTo zn_cX12_rpTo (by decide +kernel))
theorem dX12_rpTo_28 : decode cX12_rpTo 28 = .ok (.iconst 2, 1) := zo_5 (zkb zk_cX12_rpTo zn_cX12_rpTo (by decide +kernel))
theorem dX12_rpTo_29 : decode cX12_rpTo 29 = .ok (.if_icmp .ne 11, 3) := zo_160 (b1 := 0) (b2 := 11) (zkb3 zk_cX12_rpTo zn_cX12_rpTo (by decide +kernel)) rfl
theorem dX12_rpTo_32 : decode cX12_rpTo 32 = .ok (.aload_n 0, 1) := zo_42 (zkb zk_cX12_rpTo zn_cX12_rpTo (by decide +kernel))
theorem dX12_rpTo_33 : decode cX12_rpTo 33 = .ok (.iload_n 2, 1) := zo_28 (zkb zk_cX12_rpTo zn_cX12_rpTo (by decide +kernel))
theorem dX12_rpTo_34 : decode cX12_rpTo 34 = .ok (.invokevirtual 187, 3) := zo_182 (b1 := 0) (b2 := 187) (zkb3 zk_cX12_rpTo zn_cX12_rpTo (by decide +kernel)) rfl
theorem dX12_rpTo_37 : decode cX12_rpTo 37 = .ok (.goto 14, 3) := zo_167 (b1 := 0) (b2 := 14) (zkb3 zk_cX12_rpTo zn_cX12_rpTo (by decide +kernel)) rfl
theorem dX12_rpTo_40 : decode cX12_rpTo 40 = .ok (.aload_n 0, 1) := zo_42 (zkb zk_cX12_rpTo zn_cX12_rpTo (by decide +kernel))
theorem dX12_rpTo_41 : decode cX12_rpTo 41 = .ok (.getfield 22, 3) := zo_180 (b1 := 0) (b2 := 22) (zkb3 zk_cX12_rpTo zn_cX12_rpTo (by decide +kernel)) rfl
theorem dX12_rpTo_44 : decode cX12_rpTo 44 = .ok (.bipush 18, 2) := zo_16 (b1 := 18) (zkb2 zk_cX12_rpTo zn_cX12_rpTo (by decide +kernel)) rfl
theorem dX12_rpTo_46 : decode cX12_rpTo 46 = .ok (.iload_n 2, 1) := zo_28 (zkb zk_cX12_rpTo zn_cX12_rpTo (by decide +kernel))
theorem dX12_rpTo_47 : decode cX12_rpTo 47 = .ok (.ldc 143, 2) := zo_18 (b1 := 143) (zkb2 zk_cX12_rpTo zn_cX12_rpTo (by decide +kernel))
theorem dX12_rpTo_49 : decode cX12_rpTo 49 = .ok (.iand, 1) := zo_126 (zkb zk_cX12_rpTo zn_cX12_rpTo (by decide +kernel))
theorem dX12_rpTo_50 : decode cX12_rpTo 50 = .ok (.iastore, 1) := zo_79 (zkb zk_cX12_rpTo zn_cX12_rpTo (by decide +kernel))
theorem dX12_rpTo_51 : decode cX12_rpTo 51 = .ok (.return_, 1) := zo_177 (zkb zk_cX12_rpTo zn_cX12_rpTo (by decide +kernel))
def kn_cX12_m : Nat := 0xacb100b606102a0900a72e14101600b42a0d0099bf00b42a
theorem zk_cX12_m : zkd cX12_m.data.toList kn_cX12_m = true := by decide +kernel
theorem zn_cX12_m : cX12_m.data.toList.length = 24 := by decide +kernel
theorem dX12_m_0 : decode cX12_m 0 = .ok (.aload_n 0, 1) := zo_42 (zkb zk_cX12_m zn_cX12_m (by decide +kernel))
theorem dX12_m_1 : decode cX12_m 1 = .ok (.getfield 191, 3) := zo_180 (b1 := 0) (b2 := 191) (zkb3 zk_cX12_m zn_cX12_m (by decide +kernel)) rfl
theorem dX12_m_4 : decode cX12_m 4 = .ok (.ifCond .eq 13, 3) := zo_153 (b1 := 0) (b2 := 13) (zkb3 zk_cX12_m zn_cX12_m (by decide +kernel)) rfl
theorem dX12_m_7 : decode cX12_m 7 = .ok (.aload_n 0, 1) := zo_42 (zkb zk_cX12_m zn_cX12_m (by decide +kernel))
theorem dX12_m_8 : decode cX12_m 8 = .ok (.getfield 22, 3) := zo_180 (b1 := 0) (b2 := 22) (zkb3 zk_cX12_m zn_cX12_m (by decide +kernel)) rfl
theorem dX12_m_11 : decode cX12_m 11 = .ok (.bipush 20, 2) := zo_16 (b1 := 20) (zkb2 zk_cX12_m zn_cX12_m (by decide +kernel)) rfl
theorem dX12_m_13 : decode cX12_m 13 = .ok (.iaload, 1) := zo_46 (zkb zk_cX12_m zn_cX12_m (by decide +kernel))
theorem dX12_m_14 : decode cX12_m 14 = .ok (.goto 9, 3) := zo_167 (b1 := 0) (b2 := 9) (zkb3 zk_cX12_m zn_cX12_m (by decide +kernel)) rfl
theorem dX12_m_17 : decode cX12_m 17 = .ok (.aload_n 0, 1) := zo_42 (zkb zk_cX12_m zn_cX12_m (by decide +kernel))
theorem dX12_m_18 : decode cX12_m 18 = .ok (.bipush 6, 2) := zo_16 (b1 := 6) (zkb2 zk_cX12_m zn_cX12_m (by decide +kernel)) rfl
theorem dX12_m_20 : decode cX12_m 20 = .ok (.invokevirtual 177, 3) := zo_182 (b1 := 0) (b2 := 177) (zkb3 zk_cX12_m zn_cX12_m (by decide +kernel)) rfl
theorem dX12_m_23 : decode cX12_m 23 = .ok (.ireturn, 1) := zo_172 (zkb zk_cX12_m zn_cX12_m (by decide +kernel))
def rmX12_fails : Room := { frames := 0, cells := 0, slots := 0, locals := 0 }
def wzX12_fails : List Cond := .code yX12_fails cX12_fails 3 (some .boolean) :: wsL_law
theorem hinX12_fails_X120 : ∀ w ∈ wsX120, w ∈ wzX12_fails := fun w h => List.mem_cons_of_mem _ (inlX12 w h)
def fX12_fails_10  (σ : zSt) (x1 : Int32) (s0 : Int32) : Option (zSt × Int32) :=
  zbv (zsi σ 0 0 s0) (fun σ1 =>
  zck (zbo x1) (some (σ1, x1)))
def fX12_fails  (σ : zSt) (x1 : Int32) (x2 : Int32) : Option (zSt × Int32) :=
  if x1 = 0 then fX12_fails_10 σ x1 0 else
  fX12_fails_10 σ x1 x2
set_option maxRecDepth 20000 in
set_option maxHeartbeats 4000000 in
theorem bX12_fails_10 {st : Nat → Nat} {p : Program} {l : Launch} {e : Env} {s : State} {m : MethodId} {args : Array Value} {below : List Frame} {meth : Method} {c : Code} {D : va_G} {A : Nat → Prop} {ad : Nat → Nat} {cy : Nat → ClassId} (hC : zC p m c cX12_fails 3 s args wzX12_fails RX12 meth (some .boolean))  {res : zSt × Int32} {H : Heap} {locs : List Loc} {σ : zSt} {ls : Array Slot} {x1 : Int32} {s0 : Int32} (hI : zI st D (tM cy) (wM ad cy σ) A s H locs) (hl : lv_has ls 3 [(1, .int x1)]) (hf : fX12_fails_10  σ x1 s0 = some res) : W p l e rmX12_fails s m args below meth c H locs 0 0 (zQi below args s D (tM cy) (wM ad cy) A res) (F0 m 10 ls [.int s0, .ref (ad 0)]) := by
  have hx := hC.1
  have hb := hC.2.1
  unfold fX12_fails_10 at hf
  obtain ⟨σ1, eσ1⟩ : ∃ z, z = zsi σ 0 0 s0 := ⟨_, rfl⟩
  replace hf := zbv_use eσ1 hf
  refine z_put hC hI hinX12_fails_X120 tyX12_ok nmX12 0 (wM_e0 ad cy σ) rfl 0 (by decide) (List.mem_cons_of_mem _ zw12_1) rfl rfl rfl (Nat.le_of_ble_eq_true rfl) ((wM_s0_0 ad cy σ s0).trans (congrArg (wM ad cy) eσ1.symm)) dX12_fails_10 (fun H locs hI => ?_)
  refine lv_iload_n hx hb dX12_fails_13 rfl (lv_at hl 0 rfl) ?_
  obtain ⟨q, hf⟩ := zck_use hf
  exact z_zreturn hC hI (zbo_n q) hf dX12_fails_14
set_option maxRecDepth 20000 in
set_option maxHeartbeats 4000000 in
theorem bX12_fails {st : Nat → Nat} {p : Program} {l : Launch} {e : Env} {s : State} {m : MethodId} {args : Array Value} {below : List Frame} {meth : Method} {c : Code} {D : va_G} {A : Nat → Prop} {ad : Nat → Nat} {cy : Nat → ClassId} (hC : zC p m c cX12_fails 3 s args wzX12_fails RX12 meth (some .boolean))  {res : zSt × Int32} {H : Heap} {locs : List Loc} {σ : zSt} {ls : Array Slot} {x1 : Int32} {x2 : Int32} (hI : zI st D (tM cy) (wM ad cy σ) A s H locs) (hl : lv_has ls 3 [(0, .ref (ad 0)), (1, .int x1), (2, .int x2)]) (hf : fX12_fails  σ x1 x2 = some res) : W p l e rmX12_fails s m args below meth c H locs 0 0 (zQi below args s D (tM cy) (wM ad cy) A res) (F0 m 0 ls []) := by
  have hx := hC.1
  have hb := hC.2.1
  unfold fX12_fails at hf
  refine lv_aload_n hx hb dX12_fails_0 rfl (lv_at hl 0 rfl) ?_
  refine lv_iload_n hx hb dX12_fails_1 rfl (lv_at hl 1 rfl) ?_
  refine lv_if_eq (tgt := 9) hx hb dX12_fails_2 (by decide) (fun q => ?_) (fun q => ?_)
  · replace hf := zif_t q hf
    refine lv_iconst (v := 0) hx hb dX12_fails_9 (by decide) ?_
    exact bX12_fails_10 hC  hI (lv_sub hl [1] rfl) hf
  replace hf := zif_f q hf
  refine lv_iload_n hx hb dX12_fails_5 rfl (lv_at hl 2 rfl) ?_
  refine lv_goto (tgt := 10) hx hb dX12_fails_6 (by decide) ?_
  exact bX12_fails_10 hC  hI (lv_sub hl [1] rfl) hf
set_option maxRecDepth 20000 in
theorem cX12_fails_met (st : Nat → Nat) (l : Launch) (D : va_G) (ad : Nat → Nat) (cy : Nat → ClassId) (σ : zSt) (x1 : Int32) (x2 : Int32) (res : zSt × Int32) (hf : fX12_fails σ x1 x2 = some res) (sz : Nat) : zMi st l yX12_fails wzX12_fails rmX12_fails [.ref (ad 0), .int x1, .int x2] D (tM cy) (wM ad cy) sz σ res :=
  zMi.of (cc := cX12_fails) (maxL := 3) (ret := (some .boolean)) (by decide) rfl (Nat.le_of_ble_eq_true rfl) (fun p e s m args below meth c hC A hI ls hl => bX12_fails hC hI hl hf)
theorem hdX12_fails : yX12_fails.cls = RX12 ∧ yX12_fails.cls ≠ "java/lang/invoke/MethodHandle" ∧ yX12_fails.cls ≠ "java/lang/invoke/VarHandle" ∧ (parseMethodDescriptor yX12_fails.desc).map (fun d => d.parameters.length) = some 2 := by decide +kernel
def rmX12_within : Room := { frames := 0, cells := 0, slots := 0, locals := 0 }
def wzX12_within : List Cond := .code yX12_within cX12_within 6 (some .boolean) :: wsL_law
def fX12_within_18  (σ : zSt) (s0 : Int32) : Option (zSt × Int32) :=
  zck (zbo s0) (some (σ, s0))
def fX12_within_17  (σ : zSt)  : Option (zSt × Int32) :=
  fX12_within_18 σ 0
def fX12_within  (σ : zSt) (x0 : Int64) (x2 : Int64) (x4 : Int64) : Option (zSt × Int32) :=
  if (lg_cmp x0 x2) < 0 then fX12_within_17 σ else
  if 0 < (lg_cmp x0 x4) then fX12_within_17 σ else
  fX12_within_18 σ 1
set_option maxRecDepth 20000 in
set_option maxHeartbeats 4000000 in
theorem bX12_within_18 {st : Nat → Nat} {p : Program} {l : Launch} {e : Env} {s : State} {m : MethodId} {args : Array Value} {below : List Frame} {meth : Method} {c : Code} {D : va_G} {A : Nat → Prop} {ad : Nat → Nat} {cy : Nat → ClassId} (hC : zC p m c cX12_within 6 s args wzX12_within RX12 meth (some .boolean))  {res : zSt × Int32} {H : Heap} {locs : List Loc} {σ : zSt} {ls : Array Slot} {s0 : Int32} (hI : zI st D (tM cy) (wM ad cy σ) A s H locs) (hl : lv_has ls 6 []) (hf : fX12_within_18  σ s0 = some res) : W p l e rmX12_within s m args below meth c H locs 0 0 (zQi below args s D (tM cy) (wM ad cy) A res) (F0 m 18 ls [.int s0]) := by
  have hx := hC.1
  have hb := hC.2.1
  unfold fX12_within_18 at hf
  obtain ⟨q, hf⟩ := zck_use hf
  exact z_zreturn hC hI (zbo_n q) hf dX12_within_18
set_option maxRecDepth 20000 in
set_option maxHeartbeats 4000000 in
theorem bX12_within_17 {st : Nat → Nat} {p : Program} {l : Launch} {e : Env} {s : State} {m : MethodId} {args : Array Value} {below : List Frame} {meth : Method} {c : Code} {D : va_G} {A : Nat → Prop} {ad : Nat → Nat} {cy : Nat → ClassId} (hC : zC p m c cX12_within 6 s args wzX12_within RX12 meth (some .boolean))  {res : zSt × Int32} {H : Heap} {locs : List Loc} {σ : zSt} {ls : Array Slot}  (hI : zI st D (tM cy) (wM ad cy σ) A s H locs) (hl : lv_has ls 6 []) (hf : fX12_within_17  σ  = some res) : W p l e rmX12_within s m args below meth c H locs 0 0 (zQi below args s D (tM cy) (wM ad cy) A res) (F0 m 17 ls []) := by
  have hx := hC.1
  have hb := hC.2.1
  unfold fX12_within_17 at hf
  refine lv_iconst (v := 0) hx hb dX12_within_17 (by decide) ?_
  exact bX12_within_18 hC  hI hl hf
set_option maxRecDepth 20000 in
set_option maxHeartbeats 4000000 in
theorem bX12_within {st : Nat → Nat} {p : Program} {l : Launch} {e : Env} {s : State} {m : MethodId} {args : Array Value} {below : List Frame} {meth : Method} {c : Code} {D : va_G} {A : Nat → Prop} {ad : Nat → Nat} {cy : Nat → ClassId} (hC : zC p m c cX12_within 6 s args wzX12_within RX12 meth (some .boolean))  {res : zSt × Int32} {H : Heap} {locs : List Loc} {σ : zSt} {ls : Array Slot} {x0 : Int64} {x2 : Int64} {x4 : Int64} (hI : zI st D (tM cy) (wM ad cy σ) A s H locs) (hl : lv_has ls 6 [(0, .long x0), (2, .long x2), (4, .long x4)]) (hf : fX12_within  σ x0 x2 x4 = some res) : W p l e rmX12_within s m args below meth c H locs 0 0 (zQi below args s D (tM cy) (wM ad cy) A res) (F0 m 0 ls []) := by
  have hx := hC.1
  have hb := hC.2.1
  unfold fX12_within at hf
  refine lv_lload_n hx hb dX12_within_0 rfl (lv_at hl 0 rfl) ?_
  refine lv_lload_n hx hb dX12_within_1 rfl (lv_at hl 1 rfl) ?_
  refine W.lcmp hx hb dX12_within_2 ?_
  refine lv_if_lt (tgt := 17) hx hb dX12_within_3 (by decide) (fun q => ?_) (fun q => ?_)
  · replace hf := zif_t q hf
    exact bX12_within_17 hC  hI (lv_sub hl [] rfl) hf
  replace hf := zif_f q hf
  refine lv_lload_n hx hb dX12_within_6 rfl (lv_at hl 0 rfl) ?_
  refine lv_lload hx hb dX12_within_7 (lv_at hl 2 rfl) ?_
  refine W.lcmp hx hb dX12_within_9 ?_
  refine lv_if_gt (tgt := 17) hx hb dX12_within_10 (by decide) (fun q => ?_) (fun q => ?_)
  · replace hf := zif_t q hf
    exact bX12_within_17 hC  hI (lv_sub hl [] rfl) hf
  replace hf := zif_f q hf
  refine lv_iconst (v := 1) hx hb dX12_within_13 (by decide) ?_
  refine lv_goto (tgt := 18) hx hb dX12_within_14 (by decide) ?_
  exact bX12_within_18 hC  hI (lv_sub hl [] rfl) hf
set_option maxRecDepth 20000 in
theorem cX12_within_met (st : Nat → Nat) (l : Launch) (D : va_G) (ad : Nat → Nat) (cy : Nat → ClassId) (σ : zSt) (x0 : Int64) (x2 : Int64) (x4 : Int64) (res : zSt × Int32) (hf : fX12_within σ x0 x2 x4 = some res) (sz : Nat) : zMi st l yX12_within wzX12_within rmX12_within [.long x0, .long x2, .long x4] D (tM cy) (wM ad cy) sz σ res :=
  zMi.of (cc := cX12_within) (maxL := 6) (ret := (some .boolean)) (by decide) rfl (Nat.le_of_ble_eq_true rfl) (fun p e s m args below meth c hC A hI ls hl => bX12_within hC hI hl hf)
theorem hdX12_within : yX12_within.cls ≠ "java/lang/invoke/MethodHandle" ∧ yX12_within.cls ≠ "java/lang/invoke/VarHandle" ∧ (parseMethodDescriptor yX12_within.desc).map (fun d => d.parameters.length) = some 3 := by decide +kernel
def rmX12_feed : Room := { frames := 1, cells := 0, slots := 0, locals := 25 }
def wzX12_feed : List Cond := .code yX12_feed cX12_feed 9 (some .int) :: wsL_law
theorem hinX12_feed_X120 : ∀ w ∈ wsX120, w ∈ wzX12_feed := fun w h => List.mem_cons_of_mem _ (inlX12 w h)
def fX12_feed_49  (σ : zSt)  : Option (zSt × Int32) :=
  some (σ, 0)
def fX12_feed_93 (k54 : zSt → Int32 → Int64 → Int64 → Int64 → Int32 → Option (zSt × Int32)) (σ : zSt) (x1 : Int32) (x2 : Int64) (x4 : Int64) (x6 : Int64) (x8 : Int32) (s0 : Int64) (s1 : Int32) : Option (zSt × Int32) :=
  zck (decide (¬ 8 = 0)) (
  zck (zin s1 262656) (zbv (zsi σ 1 (s1.toNatClampNeg) (vp_nar .byte (((zlshr s0 (8 * (zrem x8 8))).toInt32).toInt8.toInt32))) (fun σ1 =>
  zbv (zsi σ1 0 2 ((zgi σ1 0 2) + 1)) (fun σ2 =>
  zbv (x8 + 1) (fun v3 =>
  k54 σ2 x1 x2 x4 x6 v3)))))
def fX12_feed_54_body (k54 : zSt → Int32 → Int64 → Int64 → Int64 → Int32 → Option (zSt × Int32)) (σ : zSt) (x1 : Int32) (x2 : Int64) (x4 : Int64) (x6 : Int64) (x8 : Int32) : Option (zSt × Int32) :=
  if x1 ≤ x8 then some (σ, zgi σ 0 2) else
  if 8 ≤ x8 then if 16 ≤ x8 then fX12_feed_93 k54 σ x1 x2 x4 x6 x8 x6 (zgi σ 0 2) else
  fX12_feed_93 k54 σ x1 x2 x4 x6 x8 x4 (zgi σ 0 2) else
  fX12_feed_93 k54 σ x1 x2 x4 x6 x8 x2 (zgi σ 0 2)
def fX12_feed_54  : Nat → zSt → Int32 → Int64 → Int64 → Int64 → Int32 → Option (zSt × Int32)
  | 0, _, _, _, _, _, _ => none
  | n + 1, σ, x1, x2, x4, x6, x8 => fX12_feed_54_body (fX12_feed_54  n) σ x1 x2 x4 x6 x8
def fX12_feed_42  (σ : zSt) (x1 : Int32) (x2 : Int64) (x4 : Int64) (x6 : Int64) (s0 : Int32) : Option (zSt × Int32) :=
  zbi (fX12_fails σ s0 2) (fun σ4 v5 =>
  if v5 = 0 then fX12_feed_54 zfuel σ4 x1 x2 x4 x6 0 else
  fX12_feed_49 σ4)
def fX12_feed_18  (σ : zSt) (x1 : Int32) (x2 : Int64) (x4 : Int64) (x6 : Int64) (s0 : Int32) : Option (zSt × Int32) :=
  zbi (fX12_fails σ s0 1) (fun σ6 v7 =>
  if v7 = 0 then if ((zgi σ6 0 2) + x1) ≤ 262656 then fX12_feed_42 σ6 x1 x2 x4 x6 0 else
  fX12_feed_42 σ6 x1 x2 x4 x6 1 else
  fX12_feed_49 σ6)
def fX12_feed  (σ : zSt) (x1 : Int32) (x2 : Int64) (x4 : Int64) (x6 : Int64) : Option (zSt × Int32) :=
  zbi (fX12_within σ (x1.toInt64) 1 24) (fun σ8 v9 =>
  if v9 = 0 then fX12_feed_18 σ8 x1 x2 x4 x6 1 else
  fX12_feed_18 σ8 x1 x2 x4 x6 0)
set_option maxRecDepth 20000 in
set_option maxHeartbeats 4000000 in
theorem bX12_feed_49 {st : Nat → Nat} {p : Program} {l : Launch} {e : Env} {s : State} {m : MethodId} {args : Array Value} {below : List Frame} {meth : Method} {c : Code} {D : va_G} {A : Nat → Prop} {ad : Nat → Nat} {cy : Nat → ClassId} (hC : zC p m c cX12_feed 9 s args wzX12_feed RX12 meth (some .int))  {res : zSt × Int32} {H : Heap} {locs : List Loc} {σ : zSt} {ls : Array Slot}  (hI : zI st D (tM cy) (wM ad cy σ) A s H locs) (hl : lv_has ls 9 []) (hf : fX12_feed_49  σ  = some res) : W p l e rmX12_feed s m args below meth c H locs 0 0 (zQi below args s D (tM cy) (wM ad cy) A res) (F0 m 49 ls []) := by
  have hx := hC.1
  have hb := hC.2.1
  unfold fX12_feed_49 at hf
  refine lv_iconst (v := 0) hx hb dX12_feed_49 (by decide) ?_
  exact z_ireturn hC hI hf dX12_feed_50
set_option maxRecDepth 20000 in
set_option maxHeartbeats 4000000 in
theorem bX12_feed_93 {st : Nat → Nat} {p : Program} {l : Launch} {e : Env} {s : State} {m : MethodId} {args : Array Value} {below : List Frame} {meth : Method} {c : Code} {D : va_G} {A : Nat → Prop} {ad : Nat → Nat} {cy : Nat → ClassId} (hC : zC p m c cX12_feed 9 s args wzX12_feed RX12 meth (some .int)) {k54 : zSt → Int32 → Int64 → Int64 → Int64 → Int32 → Option (zSt × Int32)} {res : zSt × Int32} (hk54 : ∀ (H : Heap) (locs : List Loc) (σ : zSt) (ls : Array Slot) (x1 : Int32) (x2 : Int64) (x4 : Int64) (x6 : Int64) (x8 : Int32), zI st D (tM cy) (wM ad cy σ) A s H locs → lv_has ls 9 [(0, .ref (ad 0)), (1, .int x1), (2, .long x2), (4, .long x4), (6, .long x6), (8, .int x8)] → k54 σ x1 x2 x4 x6 x8 = some res → W p l e rmX12_feed s m args below meth c H locs 0 0 (zQi below args s D (tM cy) (wM ad cy) A res) (F0 m 54 ls [])) {H : Heap} {locs : List Loc} {σ : zSt} {ls : Array Slot} {x1 : Int32} {x2 : Int64} {x4 : Int64} {x6 : Int64} {x8 : Int32} {s0 : Int64} {s1 : Int32} (hI : zI st D (tM cy) (wM ad cy σ) A s H locs) (hl : lv_has ls 9 [(0, .ref (ad 0)), (1, .int x1), (2, .long x2), (4, .long x4), (6, .long x6), (8, .int x8)]) (hf : fX12_feed_93 k54 σ x1 x2 x4 x6 x8 s0 s1 = some res) : W p l e rmX12_feed s m args below meth c H locs 0 0 (zQi below args s D (tM cy) (wM ad cy) A res) (F0 m 93 ls [.long s0, .int s1, .ref (ad 1)]) := by
  have hx := hC.1
  have hb := hC.2.1
  unfold fX12_feed_93 at hf
  refine lv_bipush (v := 8) hx hb dX12_feed_93 (by decide) ?_
  refine lv_iload hx hb dX12_feed_95 (lv_at hl 5 rfl) ?_
  refine lv_bipush (v := 8) hx hb dX12_feed_97 (by decide) ?_
  obtain ⟨q, hf⟩ := zck_use hf
  refine z_irem hx hb dX12_feed_99 (of_decide_eq_true q) ?_
  refine lv_imul hx hb dX12_feed_100 ?_
  refine lv_lshr (v := zlshr s0 (8 * (zrem x8 8))) hx hb dX12_feed_101 rfl ?_
  refine lv_l2i (v := (zlshr s0 (8 * (zrem x8 8))).toInt32) hx hb dX12_feed_102 rfl ?_
  refine lv_i2b (v := ((zlshr s0 (8 * (zrem x8 8))).toInt32).toInt8.toInt32) hx hb dX12_feed_103 rfl ?_
  obtain ⟨q, hf⟩ := zck_use hf
  obtain ⟨σ1, eσ1⟩ : ∃ z, z = zsi σ 1 (s1.toNatClampNeg) (vp_nar .byte (((zlshr s0 (8 * (zrem x8 8))).toInt32).toInt8.toInt32)) := ⟨_, rfl⟩
  replace hf := zbv_use eσ1 hf
  refine z_bast hC hI 1 0 (wM_e1 ad cy σ) (tM_t1 cy) q ((wM_s1 ad cy σ _ _).trans (congrArg (wM ad cy) eσ1.symm)) dX12_feed_104 (fun H locs hI => ?_)
  refine lv_aload_n hx hb dX12_feed_105 rfl (lv_at hl 0 rfl) ?_
  refine lv_dup hx hb dX12_feed_106 rfl ?_
  refine z_get hC hI hinX12_feed_X120 0 (wM_e0 ad cy σ1) rfl 2 (by decide) (List.mem_cons_of_mem _ zw11_17) rfl dX12_feed_107 ?_
  refine lv_iconst (v := 1) hx hb dX12_feed_110 (by decide) ?_
  refine lv_iadd hx hb dX12_feed_111 ?_
  obtain ⟨σ2, eσ2⟩ : ∃ z, z = zsi σ1 0 2 ((zgi σ1 0 2) + 1) := ⟨_, rfl⟩
  replace hf := zbv_use eσ2 hf
  refine z_put hC hI hinX12_feed_X120 tyX12_ok nmX12 0 (wM_e0 ad cy σ1) rfl 2 (by decide) (List.mem_cons_of_mem _ zw11_17) rfl rfl rfl (Nat.le_of_ble_eq_true rfl) ((wM_s0_2 ad cy σ1 ((zgi σ1 0 2) + 1)).trans (congrArg (wM ad cy) eσ2.symm)) dX12_feed_112 (fun H locs hI => ?_)
  obtain ⟨v3, ev3⟩ : ∃ z : Int32, z = x8 + 1 := ⟨_, rfl⟩
  replace hf := zbv_use ev3 hf
  refine lv_iinc (v := v3) (lv' := [(8, .int v3), (0, .ref (ad 0)), (1, .int x1), (2, .long x2), (4, .long x4), (6, .long x6)]) hx hb dX12_feed_115 hl (k := 5) rfl (by rw [ev3]; rfl) (by decide) rfl (fun ls hl => ?_)
  refine lv_goto (tgt := 54) hx hb dX12_feed_118 (by decide) ?_
  exact hk54 _ _ _ _ _ _ _ _ _ hI (lv_sub hl [1, 2, 3, 4, 5, 0] rfl) hf
set_option maxRecDepth 20000 in
set_option maxHeartbeats 4000000 in
theorem bX12_feed_54_body {st : Nat → Nat} {p : Program} {l : Launch} {e : Env} {s : State} {m : MethodId} {args : Array Value} {below : List Frame} {meth : Method} {c : Code} {D : va_G} {A : Nat → Prop} {ad : Nat → Nat} {cy : Nat → ClassId} (hC : zC p m c cX12_feed 9 s args wzX12_feed RX12 meth (some .int)) {k54 : zSt → Int32 → Int64 → Int64 → Int64 → Int32 → Option (zSt × Int32)} {res : zSt × Int32} (hk54 : ∀ (H : Heap) (locs : List Loc) (σ : zSt) (ls : Array Slot) (x1 : Int32) (x2 : Int64) (x4 : Int64) (x6 : Int64) (x8 : Int32), zI st D (tM cy) (wM ad cy σ) A s H locs → lv_has ls 9 [(0, .ref (ad 0)), (1, .int x1), (2, .long x2), (4, .long x4), (6, .long x6), (8, .int x8)] → k54 σ x1 x2 x4 x6 x8 = some res → W p l e rmX12_feed s m args below meth c H locs 0 0 (zQi below args s D (tM cy) (wM ad cy) A res) (F0 m 54 ls [])) {H : Heap} {locs : List Loc} {σ : zSt} {ls : Array Slot} {x1 : Int32} {x2 : Int64} {x4 : Int64} {x6 : Int64} {x8 : Int32} (hI : zI st D (tM cy) (wM ad cy σ) A s H locs) (hl : lv_has ls 9 [(0, .ref (ad 0)), (1, .int x1), (2, .long x2), (4, .long x4), (6, .long x6), (8, .int x8)]) (hf : fX12_feed_54_body k54 σ x1 x2 x4 x6 x8 = some res) : W p l e rmX12_feed s m args below meth c H locs 0 0 (zQi below args s D (tM cy) (wM ad cy) A res) (F0 m 54 ls []) := by
  have hx := hC.1
  have hb := hC.2.1
  unfold fX12_feed_54_body at hf
  refine lv_iload hx hb dX12_feed_54 (lv_at hl 5 rfl) ?_
  refine lv_iload_n hx hb dX12_feed_56 rfl (lv_at hl 1 rfl) ?_
  refine lv_icmp_ge (tgt := 121) hx hb dX12_feed_57 (by decide) (fun q => ?_) (fun q => ?_)
  · replace hf := zif_t q hf
    refine lv_aload_n hx hb dX12_feed_121 rfl (lv_at hl 0 rfl) ?_
    refine z_get hC hI hinX12_feed_X120 0 (wM_e0 ad cy σ) rfl 2 (by decide) (List.mem_cons_of_mem _ zw11_17) rfl dX12_feed_122 ?_
    exact z_ireturn hC hI hf dX12_feed_125
  replace hf := zif_f q hf
  refine lv_aload_n hx hb dX12_feed_60 rfl (lv_at hl 0 rfl) ?_
  refine z_get hC hI hinX12_feed_X120 0 (wM_e0 ad cy σ) rfl 1 (by decide) (List.mem_cons_of_mem _ zw9_3) rfl dX12_feed_61 ?_
  refine lv_aload_n hx hb dX12_feed_64 rfl (lv_at hl 0 rfl) ?_
  refine z_get hC hI hinX12_feed_X120 0 (wM_e0 ad cy σ) rfl 2 (by decide) (List.mem_cons_of_mem _ zw11_17) rfl dX12_feed_65 ?_
  refine lv_iload hx hb dX12_feed_68 (lv_at hl 5 rfl) ?_
  refine lv_bipush (v := 8) hx hb dX12_feed_70 (by decide) ?_
  refine lv_icmp_ge (tgt := 79) hx hb dX12_feed_72 (by decide) (fun q => ?_) (fun q => ?_)
  · replace hf := zif_t q hf
    refine lv_iload hx hb dX12_feed_79 (lv_at hl 5 rfl) ?_
    refine lv_bipush (v := 16) hx hb dX12_feed_81 (by decide) ?_
    refine lv_icmp_ge (tgt := 91) hx hb dX12_feed_83 (by decide) (fun q => ?_) (fun q => ?_)
    · replace hf := zif_t q hf
      refine lv_lload hx hb dX12_feed_91 (lv_at hl 4 rfl) ?_
      exact bX12_feed_93 hC hk54 hI hl hf
    replace hf := zif_f q hf
    refine lv_lload hx hb dX12_feed_86 (lv_at hl 3 rfl) ?_
    refine lv_goto (tgt := 93) hx hb dX12_feed_88 (by decide) ?_
    exact bX12_feed_93 hC hk54 hI hl hf
  replace hf := zif_f q hf
  refine lv_lload_n hx hb dX12_feed_75 rfl (lv_at hl 2 rfl) ?_
  refine lv_goto (tgt := 93) hx hb dX12_feed_76 (by decide) ?_
  exact bX12_feed_93 hC hk54 hI hl hf
theorem blX12_feed_54 {st : Nat → Nat} {p : Program} {l : Launch} {e : Env} {s : State} {m : MethodId} {args : Array Value} {below : List Frame} {meth : Method} {c : Code} {D : va_G} {A : Nat → Prop} {ad : Nat → Nat} {cy : Nat → ClassId} (hC : zC p m c cX12_feed 9 s args wzX12_feed RX12 meth (some .int))  {res : zSt × Int32} : ∀ (n : Nat) (H : Heap) (locs : List Loc) (σ : zSt) (ls : Array Slot) (x1 : Int32) (x2 : Int64) (x4 : Int64) (x6 : Int64) (x8 : Int32), zI st D (tM cy) (wM ad cy σ) A s H locs → lv_has ls 9 [(0, .ref (ad 0)), (1, .int x1), (2, .long x2), (4, .long x4), (6, .long x6), (8, .int x8)] → fX12_feed_54  n σ x1 x2 x4 x6 x8 = some res → W p l e rmX12_feed s m args below meth c H locs 0 0 (zQi below args s D (tM cy) (wM ad cy) A res) (F0 m 54 ls []) := by
  intro n
  induction n with
  | zero => intro H locs σ ls x1 x2 x4 x6 x8 hI hl hf; cases hf
  | succ n ih => intro H locs σ ls x1 x2 x4 x6 x8 hI hl hf; exact bX12_feed_54_body hC ih hI hl hf
set_option maxRecDepth 20000 in
set_option maxHeartbeats 4000000 in
theorem bX12_feed_42 {st : Nat → Nat} {p : Program} {l : Launch} {e : Env} {s : State} {m : MethodId} {args : Array Value} {below : List Frame} {meth : Method} {c : Code} {D : va_G} {A : Nat → Prop} {ad : Nat → Nat} {cy : Nat → ClassId} (hC : zC p m c cX12_feed 9 s args wzX12_feed RX12 meth (some .int))  {res : zSt × Int32} {H : Heap} {locs : List Loc} {σ : zSt} {ls : Array Slot} {x1 : Int32} {x2 : Int64} {x4 : Int64} {x6 : Int64} {s0 : Int32} (hI : zI st D (tM cy) (wM ad cy σ) A s H locs) (hl : lv_has ls 9 [(0, .ref (ad 0)), (1, .int x1), (2, .long x2), (4, .long x4), (6, .long x6)]) (hf : fX12_feed_42  σ x1 x2 x4 x6 s0 = some res) : W p l e rmX12_feed s m args below meth c H locs 0 0 (zQi below args s D (tM cy) (wM ad cy) A res) (F0 m 42 ls [.int s0, .ref (ad 0)]) := by
  have hx := hC.1
  have hb := hC.2.1
  unfold fX12_feed_42 at hf
  refine lv_iconst (v := 2) hx hb dX12_feed_42 (by decide) ?_
  obtain ⟨σ4, v5, g4, hf⟩ := zbi_use hf
  refine z_callVi (As := [.int s0, .int 2]) (rest := []) hC hI (cX12_fails_met st l D ad cy σ s0 2 _ g4) (zgV zw11_21 zw11_22 zw11_23 zw1_5 zw12_0) rfl ⟨rfl, rfl⟩ 2 hdX12_fails ⟨Nat.le_of_ble_eq_true rfl, Nat.le_of_ble_eq_true rfl⟩ rfl rfl (wM_e0 ad cy σ) rfl hl rfl (Nat.le_of_ble_eq_true rfl) dX12_feed_43 ⟨Nat.zero_le _, Nat.zero_le _⟩ (fun H locs hI => ?_)
  refine lv_if_eq (tgt := 51) hx hb dX12_feed_46 (by decide) (fun q => ?_) (fun q => ?_)
  · replace hf := zif_t q hf
    refine lv_iconst (v := 0) hx hb dX12_feed_51 (by decide) ?_
    refine lv_istore (lv' := [(8, .int 0), (0, .ref (ad 0)), (1, .int x1), (2, .long x2), (4, .long x4), (6, .long x6)]) hx hb dX12_feed_52 hl (by decide) rfl (fun ls hl => ?_)
    exact blX12_feed_54 hC  zfuel _ _ _ _ _ _ _ _ _ hI (lv_sub hl [1, 2, 3, 4, 5, 0] rfl) hf
  replace hf := zif_f q hf
  exact bX12_feed_49 hC  hI (lv_sub hl [] rfl) hf
set_option maxRecDepth 20000 in
set_option maxHeartbeats 4000000 in
theorem bX12_feed_18 {st : Nat → Nat} {p : Program} {l : Launch} {e : Env} {s : State} {m : MethodId} {args : Array Value} {below : List Frame} {meth : Method} {c : Code} {D : va_G} {A : Nat → Prop} {ad : Nat → Nat} {cy : Nat → ClassId} (hC : zC p m c cX12_feed 9 s args wzX12_feed RX12 meth (some .int))  {res : zSt × Int32} {H : Heap} {locs : List Loc} {σ : zSt} {ls : Array Slot} {x1 : Int32} {x2 : Int64} {x4 : Int64} {x6 : Int64} {s0 : Int32} (hI : zI st D (tM cy) (wM ad cy σ) A s H locs) (hl : lv_has ls 9 [(0, .ref (ad 0)), (1, .int x1), (2, .long x2), (4, .long x4), (6, .long x6)]) (hf : fX12_feed_18  σ x1 x2 x4 x6 s0 = some res) : W p l e rmX12_feed s m args below meth c H locs 0 0 (zQi below args s D (tM cy) (wM ad cy) A res) (F0 m 18 ls [.int s0, .ref (ad 0)]) := by
  have hx := hC.1
  have hb := hC.2.1
  unfold fX12_feed_18 at hf
  refine lv_iconst (v := 1) hx hb dX12_feed_18 (by decide) ?_
  obtain ⟨σ6, v7, g6, hf⟩ := zbi_use hf
  refine z_callVi (As := [.int s0, .int 1]) (rest := []) hC hI (cX12_fails_met st l D ad cy σ s0 1 _ g6) (zgV zw11_21 zw11_22 zw11_23 zw1_5 zw12_0) rfl ⟨rfl, rfl⟩ 2 hdX12_fails ⟨Nat.le_of_ble_eq_true rfl, Nat.le_of_ble_eq_true rfl⟩ rfl rfl (wM_e0 ad cy σ) rfl hl rfl (Nat.le_of_ble_eq_true rfl) dX12_feed_19 ⟨Nat.zero_le _, Nat.zero_le _⟩ (fun H locs hI => ?_)
  refine lv_if_ne (tgt := 49) hx hb dX12_feed_22 (by decide) (fun q => ?_) (fun q => ?_)
  · replace hf := zif_f q hf
    exact bX12_feed_49 hC  hI (lv_sub hl [] rfl) hf
  replace hf := zif_t q hf
  refine lv_aload_n hx hb dX12_feed_25 rfl (lv_at hl 0 rfl) ?_
  refine lv_aload_n hx hb dX12_feed_26 rfl (lv_at hl 0 rfl) ?_
  refine z_get hC hI hinX12_feed_X120 0 (wM_e0 ad cy σ6) rfl 2 (by decide) (List.mem_cons_of_mem _ zw11_17) rfl dX12_feed_27 ?_
  refine lv_iload_n hx hb dX12_feed_30 rfl (lv_at hl 1 rfl) ?_
  refine lv_iadd hx hb dX12_feed_31 ?_
  refine lv_ldc (v := 262656) hx hb hC.2.2.2.1 (hC.2.2.2.2.1 _ (List.mem_cons_of_mem _ zw9_1)) dX12_feed_32 ?_
  refine lv_icmp_le (tgt := 41) hx hb dX12_feed_34 (by decide) (fun q => ?_) (fun q => ?_)
  · replace hf := zif_t q hf
    refine lv_iconst (v := 0) hx hb dX12_feed_41 (by decide) ?_
    exact bX12_feed_42 hC  hI hl hf
  replace hf := zif_f q hf
  refine lv_iconst (v := 1) hx hb dX12_feed_37 (by decide) ?_
  refine lv_goto (tgt := 42) hx hb dX12_feed_38 (by decide) ?_
  exact bX12_feed_42 hC  hI hl hf
set_option maxRecDepth 20000 in
set_option maxHeartbeats 4000000 in
theorem bX12_feed {st : Nat → Nat} {p : Program} {l : Launch} {e : Env} {s : State} {m : MethodId} {args : Array Value} {below : List Frame} {meth : Method} {c : Code} {D : va_G} {A : Nat → Prop} {ad : Nat → Nat} {cy : Nat → ClassId} (hC : zC p m c cX12_feed 9 s args wzX12_feed RX12 meth (some .int))  {res : zSt × Int32} {H : Heap} {locs : List Loc} {σ : zSt} {ls : Array Slot} {x1 : Int32} {x2 : Int64} {x4 : Int64} {x6 : Int64} (hI : zI st D (tM cy) (wM ad cy σ) A s H locs) (hl : lv_has ls 9 [(0, .ref (ad 0)), (1, .int x1), (2, .long x2), (4, .long x4), (6, .long x6)]) (hf : fX12_feed  σ x1 x2 x4 x6 = some res) : W p l e rmX12_feed s m args below meth c H locs 0 0 (zQi below args s D (tM cy) (wM ad cy) A res) (F0 m 0 ls []) := by
  have hx := hC.1
  have hb := hC.2.1
  unfold fX12_feed at hf
  refine lv_aload_n hx hb dX12_feed_0 rfl (lv_at hl 0 rfl) ?_
  refine lv_iload_n hx hb dX12_feed_1 rfl (lv_at hl 1 rfl) ?_
  refine lv_i2l (v := x1.toInt64) hx hb dX12_feed_2 rfl ?_
  refine lv_lconst (v := 1) hx hb dX12_feed_3 (by decide) ?_
  refine lv_ldc2 (v := 24) hx hb hC.2.2.2.1 (hC.2.2.2.2.1 _ (List.mem_cons_of_mem _ zw11_16)) dX12_feed_4 ?_
  obtain ⟨σ8, v9, g8, hf⟩ := zbi_use hf
  refine z_callSi (As := [.long (x1.toInt64), .long 1, .long 24]) (rest := [.ref (ad 0)]) hC hI (cX12_within_met st l D ad cy σ (x1.toInt64) 1 24 _ g8) (zgS zw11_18 zw11_19 zw1_5 zw11_20) rfl ⟨rfl, rfl⟩ 3 hdX12_within ⟨Nat.le_of_ble_eq_true rfl, Nat.le_of_ble_eq_true rfl⟩ rfl hl rfl (Nat.le_of_ble_eq_true rfl) dX12_feed_7 ⟨Nat.zero_le _, Nat.zero_le _⟩ (fun H locs hI => ?_)
  refine lv_if_ne (tgt := 17) hx hb dX12_feed_10 (by decide) (fun q => ?_) (fun q => ?_)
  · replace hf := zif_f q hf
    refine lv_iconst (v := 0) hx hb dX12_feed_17 (by decide) ?_
    exact bX12_feed_18 hC  hI hl hf
  replace hf := zif_t q hf
  refine lv_iconst (v := 1) hx hb dX12_feed_13 (by decide) ?_
  refine lv_goto (tgt := 18) hx hb dX12_feed_14 (by decide) ?_
  exact bX12_feed_18 hC  hI hl hf
set_option maxRecDepth 20000 in
theorem cX12_feed_met (st : Nat → Nat) (l : Launch) (D : va_G) (ad : Nat → Nat) (cy : Nat → ClassId) (σ : zSt) (x1 : Int32) (x2 : Int64) (x4 : Int64) (x6 : Int64) (res : zSt × Int32) (hf : fX12_feed σ x1 x2 x4 x6 = some res) (sz : Nat) : zMi st l yX12_feed wzX12_feed rmX12_feed [.ref (ad 0), .int x1, .long x2, .long x4, .long x6] D (tM cy) (wM ad cy) sz σ res :=
  zMi.of (cc := cX12_feed) (maxL := 9) (ret := (some .int)) (by decide) rfl (Nat.le_of_ble_eq_true rfl) (fun p e s m args below meth c hC A hI ls hl => bX12_feed hC hI hl hf)
theorem hdX12_feed : yX12_feed.cls = RX12 ∧ yX12_feed.cls ≠ "java/lang/invoke/MethodHandle" ∧ yX12_feed.cls ≠ "java/lang/invoke/VarHandle" ∧ (parseMethodDescriptor yX12_feed.desc).map (fun d => d.parameters.length) = some 4 := by decide +kernel
def rmX12_grow : Room := { frames := 1, cells := 0, slots := 0, locals := 22 }
def wzX12_grow : List Cond := .code yX12_grow cX12_grow 3 (some .int) :: wsL_law
theorem hinX12_grow_X120 : ∀ w ∈ wsX120, w ∈ wzX12_grow := fun w h => List.mem_cons_of_mem _ (inlX12 w h)
def fX12_grow_47  (σ : zSt)  : Option (zSt × Int32) :=
  some (σ, 0)
def fX12_grow_54_body (k54 : zSt → Int32 → Int32 → Option (zSt × Int32)) (σ : zSt) (x1 : Int32) (x2 : Int32) : Option (zSt × Int32) :=
  if x1 ≤ (zgi σ 0 2) then some (σ, x2) else
  zck (decide (¬ x2 = 0)) (
  zck (zin (zrem (zgi σ 0 2) x2) 262656) (
  zck (zin (zgi σ 0 2) 262656) (zbv (zsi σ 1 ((zgi σ 0 2).toNatClampNeg) (vp_nar .byte (zgi σ 1 (zrem (zgi σ 0 2) x2).toNatClampNeg))) (fun σ1 =>
  zbv (zsi σ1 0 2 ((zgi σ1 0 2) + 1)) (fun σ2 =>
  k54 σ2 x1 x2)))))
def fX12_grow_54  : Nat → zSt → Int32 → Int32 → Option (zSt × Int32)
  | 0, _, _, _ => none
  | n + 1, σ, x1, x2 => fX12_grow_54_body (fX12_grow_54  n) σ x1 x2
def fX12_grow_40  (σ : zSt) (x1 : Int32) (s0 : Int32) : Option (zSt × Int32) :=
  zbi (fX12_fails σ s0 2) (fun σ3 v4 =>
  if v4 = 0 then zbv (zgi σ3 0 2) (fun v5 =>
  fX12_grow_54 zfuel σ3 x1 v5) else
  fX12_grow_47 σ3)
def fX12_grow_20  (σ : zSt) (x1 : Int32) (s0 : Int32) : Option (zSt × Int32) :=
  zbi (fX12_fails σ s0 1) (fun σ6 v7 =>
  if v7 = 0 then if (zgi σ6 0 2) = 0 then fX12_grow_40 σ6 x1 1 else
  fX12_grow_40 σ6 x1 0 else
  fX12_grow_47 σ6)
def fX12_grow_15  (σ : zSt) (x1 : Int32) : Option (zSt × Int32) :=
  fX12_grow_20 σ x1 1
def fX12_grow  (σ : zSt) (x1 : Int32) : Option (zSt × Int32) :=
  if x1 < (zgi σ 0 2) then fX12_grow_15 σ x1 else
  if x1 ≤ 262656 then fX12_grow_20 σ x1 0 else
  fX12_grow_15 σ x1
set_option maxRecDepth 20000 in
set_option maxHeartbeats 4000000 in
theorem bX12_grow_47 {st : Nat → Nat} {p : Program} {l : Launch} {e : Env} {s : State} {m : MethodId} {args : Array Value} {below : List Frame} {meth : Method} {c : Code} {D : va_G} {A : Nat → Prop} {ad : Nat → Nat} {cy : Nat → ClassId} (hC : zC p m c cX12_grow 3 s args wzX12_grow RX12 meth (some .int))  {res : zSt × Int32} {H : Heap} {locs : List Loc} {σ : zSt} {ls : Array Slot}  (hI : zI st D (tM cy) (wM ad cy σ) A s H locs) (hl : lv_has ls 3 []) (hf : fX12_grow_47  σ  = some res) : W p l e rmX12_grow s m args below meth c H locs 0 0 (zQi below args s D (tM cy) (wM ad cy) A res) (F0 m 47 ls []) := by
  have hx := hC.1
  have hb := hC.2.1
  unfold fX12_grow_47 at hf
  refine lv_iconst (v := 0) hx hb dX12_grow_47 (by decide) ?_
  exact z_ireturn hC hI hf dX12_grow_48
set_option maxRecDepth 20000 in
set_option maxHeartbeats 4000000 in
theorem bX12_grow_54_body {st : Nat → Nat} {p : Program} {l : Launch} {e : Env} {s : State} {m : MethodId} {args : Array Value} {below : List Frame} {meth : Method} {c : Code} {D : va_G} {A : Nat → Prop} {ad : Nat → Nat} {cy : Nat → ClassId} (hC : zC p m c cX12_grow 3 s args wzX12_grow RX12 meth (some .int)) {k54 : zSt → Int32 → Int32 → Option (zSt × Int32)} {res : zSt × Int32} (hk54 : ∀ (H : Heap) (locs : List Loc) (σ : zSt) (ls : Array Slot) (x1 : Int32) (x2 : Int32), zI st D (tM cy) (wM ad cy σ) A s H locs → lv_has ls 3 [(0, .ref (ad 0)), (1, .int x1), (2, .int x2)] → k54 σ x1 x2 = some res → W p l e rmX12_grow s m args below meth c H locs 0 0 (zQi below args s D (tM cy) (wM ad cy) A res) (F0 m 54 ls [])) {H : Heap} {locs : List Loc} {σ : zSt} {ls : Array Slot} {x1 : Int32} {x2 : Int32} (hI : zI st D (tM cy) (wM ad cy σ) A s H locs) (hl : lv_has ls 3 [(0, .ref (ad 0)), (1, .int x1), (2, .int x2)]) (hf : fX12_grow_54_body k54 σ x1 x2 = some res) : W p l e rmX12_grow s m args below meth c H locs 0 0 (zQi below args s D (tM cy) (wM ad cy) A res) (F0 m 54 ls []) := by
  have hx := hC.1
  have hb := hC.2.1
  unfold fX12_grow_54_body at hf
  refine lv_aload_n hx hb dX12_grow_54 rfl (lv_at hl 0 rfl) ?_
  refine z_get hC hI hinX12_grow_X120 0 (wM_e0 ad cy σ) rfl 2 (by decide) (List.mem_cons_of_mem _ zw11_17) rfl dX12_grow_55 ?_
  refine lv_iload_n hx hb dX12_grow_58 rfl (lv_at hl 1 rfl) ?_
  refine lv_icmp_ge (tgt := 95) hx hb dX12_grow_59 (by decide) (fun q => ?_) (fun q => ?_)
  · replace hf := zif_t q hf
    refine lv_iload_n hx hb dX12_grow_95 rfl (lv_at hl 2 rfl) ?_
    exact z_ireturn hC hI hf dX12_grow_96
  replace hf := zif_f q hf
  refine lv_aload_n hx hb dX12_grow_62 rfl (lv_at hl 0 rfl) ?_
  refine z_get hC hI hinX12_grow_X120 0 (wM_e0 ad cy σ) rfl 1 (by decide) (List.mem_cons_of_mem _ zw9_3) rfl dX12_grow_63 ?_
  refine lv_aload_n hx hb dX12_grow_66 rfl (lv_at hl 0 rfl) ?_
  refine z_get hC hI hinX12_grow_X120 0 (wM_e0 ad cy σ) rfl 2 (by decide) (List.mem_cons_of_mem _ zw11_17) rfl dX12_grow_67 ?_
  refine lv_aload_n hx hb dX12_grow_70 rfl (lv_at hl 0 rfl) ?_
  refine z_get hC hI hinX12_grow_X120 0 (wM_e0 ad cy σ) rfl 1 (by decide) (List.mem_cons_of_mem _ zw9_3) rfl dX12_grow_71 ?_
  refine lv_aload_n hx hb dX12_grow_74 rfl (lv_at hl 0 rfl) ?_
  refine z_get hC hI hinX12_grow_X120 0 (wM_e0 ad cy σ) rfl 2 (by decide) (List.mem_cons_of_mem _ zw11_17) rfl dX12_grow_75 ?_
  refine lv_iload_n hx hb dX12_grow_78 rfl (lv_at hl 2 rfl) ?_
  obtain ⟨q, hf⟩ := zck_use hf
  refine z_irem hx hb dX12_grow_79 (of_decide_eq_true q) ?_
  obtain ⟨q, hf⟩ := zck_use hf
  refine z_bald hC hI 1 0 (wM_e1 ad cy σ) (tM_t1 cy) q dX12_grow_80 ?_
  obtain ⟨q, hf⟩ := zck_use hf
  obtain ⟨σ1, eσ1⟩ : ∃ z, z = zsi σ 1 ((zgi σ 0 2).toNatClampNeg) (vp_nar .byte (zgi σ 1 (zrem (zgi σ 0 2) x2).toNatClampNeg)) := ⟨_, rfl⟩
  replace hf := zbv_use eσ1 hf
  refine z_bast hC hI 1 0 (wM_e1 ad cy σ) (tM_t1 cy) q ((wM_s1 ad cy σ _ _).trans (congrArg (wM ad cy) eσ1.symm)) dX12_grow_81 (fun H locs hI => ?_)
  refine lv_aload_n hx hb dX12_grow_82 rfl (lv_at hl 0 rfl) ?_
  refine lv_dup hx hb dX12_grow_83 rfl ?_
  refine z_get hC hI hinX12_grow_X120 0 (wM_e0 ad cy σ1) rfl 2 (by decide) (List.mem_cons_of_mem _ zw11_17) rfl dX12_grow_84 ?_
  refine lv_iconst (v := 1) hx hb dX12_grow_87 (by decide) ?_
  refine lv_iadd hx hb dX12_grow_88 ?_
  obtain ⟨σ2, eσ2⟩ : ∃ z, z = zsi σ1 0 2 ((zgi σ1 0 2) + 1) := ⟨_, rfl⟩
  replace hf := zbv_use eσ2 hf
  refine z_put hC hI hinX12_grow_X120 tyX12_ok nmX12 0 (wM_e0 ad cy σ1) rfl 2 (by decide) (List.mem_cons_of_mem _ zw11_17) rfl rfl rfl (Nat.le_of_ble_eq_true rfl) ((wM_s0_2 ad cy σ1 ((zgi σ1 0 2) + 1)).trans (congrArg (wM ad cy) eσ2.symm)) dX12_grow_89 (fun H locs hI => ?_)
  refine lv_goto (tgt := 54) hx hb dX12_grow_92 (by decide) ?_
  exact hk54 _ _ _ _ _ _ hI hl hf
theorem blX12_grow_54 {st : Nat → Nat} {p : Program} {l : Launch} {e : Env} {s : State} {m : MethodId} {args : Array Value} {below : List Frame} {meth : Method} {c : Code} {D : va_G} {A : Nat → Prop} {ad : Nat → Nat} {cy : Nat → ClassId} (hC : zC p m c cX12_grow 3 s args wzX12_grow RX12 meth (some .int))  {res : zSt × Int32} : ∀ (n : Nat) (H : Heap) (locs : List Loc) (σ : zSt) (ls : Array Slot) (x1 : Int32) (x2 : Int32), zI st D (tM cy) (wM ad cy σ) A s H locs → lv_has ls 3 [(0, .ref (ad 0)), (1, .int x1), (2, .int x2)] → fX12_grow_54  n σ x1 x2 = some res → W p l e rmX12_grow s m args below meth c H locs 0 0 (zQi below args s D (tM cy) (wM ad cy) A res) (F0 m 54 ls []) := by
  intro n
  induction n with
  | zero => intro H locs σ ls x1 x2 hI hl hf; cases hf
  | succ n ih => intro H locs σ ls x1 x2 hI hl hf; exact bX12_grow_54_body hC ih hI hl hf
set_option maxRecDepth 20000 in
set_option maxHeartbeats 4000000 in
theorem bX12_grow_40 {st : Nat → Nat} {p : Program} {l : Launch} {e : Env} {s : State} {m : MethodId} {args : Array Value} {below : List Frame} {meth : Method} {c : Code} {D : va_G} {A : Nat → Prop} {ad : Nat → Nat} {cy : Nat → ClassId} (hC : zC p m c cX12_grow 3 s args wzX12_grow RX12 meth (some .int))  {res : zSt × Int32} {H : Heap} {locs : List Loc} {σ : zSt} {ls : Array Slot} {x1 : Int32} {s0 : Int32} (hI : zI st D (tM cy) (wM ad cy σ) A s H locs) (hl : lv_has ls 3 [(0, .ref (ad 0)), (1, .int x1)]) (hf : fX12_grow_40  σ x1 s0 = some res) : W p l e rmX12_grow s m args below meth c H locs 0 0 (zQi below args s D (tM cy) (wM ad cy) A res) (F0 m 40 ls [.int s0, .ref (ad 0)]) := by
  have hx := hC.1
  have hb := hC.2.1
  unfold fX12_grow_40 at hf
  refine lv_iconst (v := 2) hx hb dX12_grow_40 (by decide) ?_
  obtain ⟨σ3, v4, g3, hf⟩ := zbi_use hf
  refine z_callVi (As := [.int s0, .int 2]) (rest := []) hC hI (cX12_fails_met st l D ad cy σ s0 2 _ g3) (zgV zw11_21 zw11_22 zw11_23 zw1_5 zw12_0) rfl ⟨rfl, rfl⟩ 2 hdX12_fails ⟨Nat.le_of_ble_eq_true rfl, Nat.le_of_ble_eq_true rfl⟩ rfl rfl (wM_e0 ad cy σ) rfl hl rfl (Nat.le_of_ble_eq_true rfl) dX12_grow_41 ⟨Nat.zero_le _, Nat.zero_le _⟩ (fun H locs hI => ?_)
  refine lv_if_eq (tgt := 49) hx hb dX12_grow_44 (by decide) (fun q => ?_) (fun q => ?_)
  · replace hf := zif_t q hf
    refine lv_aload_n hx hb dX12_grow_49 rfl (lv_at hl 0 rfl) ?_
    refine z_get hC hI hinX12_grow_X120 0 (wM_e0 ad cy σ3) rfl 2 (by decide) (List.mem_cons_of_mem _ zw11_17) rfl dX12_grow_50 ?_
    refine lv_topi (fun v5 ev5 => ?_)
    replace hf := zbv_use ev5 hf
    refine lv_istore_n (lv' := [(2, .int v5), (0, .ref (ad 0)), (1, .int x1)]) hx hb dX12_grow_53 rfl hl (by decide) rfl (fun ls hl => ?_)
    exact blX12_grow_54 hC  zfuel _ _ _ _ _ _ hI (lv_sub hl [1, 2, 0] rfl) hf
  replace hf := zif_f q hf
  exact bX12_grow_47 hC  hI (lv_sub hl [] rfl) hf
set_option maxRecDepth 20000 in
set_option maxHeartbeats 4000000 in
theorem bX12_grow_20 {st : Nat → Nat} {p : Program} {l : Launch} {e : Env} {s : State} {m : MethodId} {args : Array Value} {below : List Frame} {meth : Method} {c : Code} {D : va_G} {A : Nat → Prop} {ad : Nat → Nat} {cy : Nat → ClassId} (hC : zC p m c cX12_grow 3 s args wzX12_grow RX12 meth (some .int))  {res : zSt × Int32} {H : Heap} {locs : List Loc} {σ : zSt} {ls : Array Slot} {x1 : Int32} {s0 : Int32} (hI : zI st D (tM cy) (wM ad cy σ) A s H locs) (hl : lv_has ls 3 [(0, .ref (ad 0)), (1, .int x1)]) (hf : fX12_grow_20  σ x1 s0 = some res) : W p l e rmX12_grow s m args below meth c H locs 0 0 (zQi below args s D (tM cy) (wM ad cy) A res) (F0 m 20 ls [.int s0, .ref (ad 0)]) := by
  have hx := hC.1
  have hb := hC.2.1
  unfold fX12_grow_20 at hf
  refine lv_iconst (v := 1) hx hb dX12_grow_20 (by decide) ?_
  obtain ⟨σ6, v7, g6, hf⟩ := zbi_use hf
  refine z_callVi (As := [.int s0, .int 1]) (rest := []) hC hI (cX12_fails_met st l D ad cy σ s0 1 _ g6) (zgV zw11_21 zw11_22 zw11_23 zw1_5 zw12_0) rfl ⟨rfl, rfl⟩ 2 hdX12_fails ⟨Nat.le_of_ble_eq_true rfl, Nat.le_of_ble_eq_true rfl⟩ rfl rfl (wM_e0 ad cy σ) rfl hl rfl (Nat.le_of_ble_eq_true rfl) dX12_grow_21 ⟨Nat.zero_le _, Nat.zero_le _⟩ (fun H locs hI => ?_)
  refine lv_if_ne (tgt := 47) hx hb dX12_grow_24 (by decide) (fun q => ?_) (fun q => ?_)
  · replace hf := zif_f q hf
    exact bX12_grow_47 hC  hI (lv_sub hl [] rfl) hf
  replace hf := zif_t q hf
  refine lv_aload_n hx hb dX12_grow_27 rfl (lv_at hl 0 rfl) ?_
  refine lv_aload_n hx hb dX12_grow_28 rfl (lv_at hl 0 rfl) ?_
  refine z_get hC hI hinX12_grow_X120 0 (wM_e0 ad cy σ6) rfl 2 (by decide) (List.mem_cons_of_mem _ zw11_17) rfl dX12_grow_29 ?_
  refine lv_if_ne (tgt := 39) hx hb dX12_grow_32 (by decide) (fun q => ?_) (fun q => ?_)
  · replace hf := zif_f q hf
    refine lv_iconst (v := 0) hx hb dX12_grow_39 (by decide) ?_
    exact bX12_grow_40 hC  hI hl hf
  replace hf := zif_t q hf
  refine lv_iconst (v := 1) hx hb dX12_grow_35 (by decide) ?_
  refine lv_goto (tgt := 40) hx hb dX12_grow_36 (by decide) ?_
  exact bX12_grow_40 hC  hI hl hf
set_option maxRecDepth 20000 in
set_option maxHeartbeats 4000000 in
theorem bX12_grow_15 {st : Nat → Nat} {p : Program} {l : Launch} {e : Env} {s : State} {m : MethodId} {args : Array Value} {below : List Frame} {meth : Method} {c : Code} {D : va_G} {A : Nat → Prop} {ad : Nat → Nat} {cy : Nat → ClassId} (hC : zC p m c cX12_grow 3 s args wzX12_grow RX12 meth (some .int))  {res : zSt × Int32} {H : Heap} {locs : List Loc} {σ : zSt} {ls : Array Slot} {x1 : Int32} (hI : zI st D (tM cy) (wM ad cy σ) A s H locs) (hl : lv_has ls 3 [(0, .ref (ad 0)), (1, .int x1)]) (hf : fX12_grow_15  σ x1 = some res) : W p l e rmX12_grow s m args below meth c H locs 0 0 (zQi below args s D (tM cy) (wM ad cy) A res) (F0 m 15 ls [.ref (ad 0)]) := by
  have hx := hC.1
  have hb := hC.2.1
  unfold fX12_grow_15 at hf
  refine lv_iconst (v := 1) hx hb dX12_grow_15 (by decide) ?_
  refine lv_goto (tgt := 20) hx hb dX12_grow_16 (by decide) ?_
  exact bX12_grow_20 hC  hI hl hf
set_option maxRecDepth 20000 in
set_option maxHeartbeats 4000000 in
theorem bX12_grow {st : Nat → Nat} {p : Program} {l : Launch} {e : Env} {s : State} {m : MethodId} {args : Array Value} {below : List Frame} {meth : Method} {c : Code} {D : va_G} {A : Nat → Prop} {ad : Nat → Nat} {cy : Nat → ClassId} (hC : zC p m c cX12_grow 3 s args wzX12_grow RX12 meth (some .int))  {res : zSt × Int32} {H : Heap} {locs : List Loc} {σ : zSt} {ls : Array Slot} {x1 : Int32} (hI : zI st D (tM cy) (wM ad cy σ) A s H locs) (hl : lv_has ls 3 [(0, .ref (ad 0)), (1, .int x1)]) (hf : fX12_grow  σ x1 = some res) : W p l e rmX12_grow s m args below meth c H locs 0 0 (zQi below args s D (tM cy) (wM ad cy) A res) (F0 m 0 ls []) := by
  have hx := hC.1
  have hb := hC.2.1
  unfold fX12_grow at hf
  refine lv_aload_n hx hb dX12_grow_0 rfl (lv_at hl 0 rfl) ?_
  refine lv_iload_n hx hb dX12_grow_1 rfl (lv_at hl 1 rfl) ?_
  refine lv_aload_n hx hb dX12_grow_2 rfl (lv_at hl 0 rfl) ?_
  refine z_get hC hI hinX12_grow_X120 0 (wM_e0 ad cy σ) rfl 2 (by decide) (List.mem_cons_of_mem _ zw11_17) rfl dX12_grow_3 ?_
  refine lv_icmp_lt (tgt := 15) hx hb dX12_grow_6 (by decide) (fun q => ?_) (fun q => ?_)
  · replace hf := zif_t q hf
    exact bX12_grow_15 hC  hI hl hf
  replace hf := zif_f q hf
  refine lv_iload_n hx hb dX12_grow_9 rfl (lv_at hl 1 rfl) ?_
  refine lv_ldc (v := 262656) hx hb hC.2.2.2.1 (hC.2.2.2.2.1 _ (List.mem_cons_of_mem _ zw9_1)) dX12_grow_10 ?_
  refine lv_icmp_le (tgt := 19) hx hb dX12_grow_12 (by decide) (fun q => ?_) (fun q => ?_)
  · replace hf := zif_t q hf
    refine lv_iconst (v := 0) hx hb dX12_grow_19 (by decide) ?_
    exact bX12_grow_20 hC  hI hl hf
  replace hf := zif_f q hf
  exact bX12_grow_15 hC  hI hl hf
set_option maxRecDepth 20000 in
theorem cX12_grow_met (st : Nat → Nat) (l : Launch) (D : va_G) (ad : Nat → Nat) (cy : Nat → ClassId) (σ : zSt) (x1 : Int32) (res : zSt × Int32) (hf : fX12_grow σ x1 = some res) (sz : Nat) : zMi st l yX12_grow wzX12_grow rmX12_grow [.ref (ad 0), .int x1] D (tM cy) (wM ad cy) sz σ res :=
  zMi.of (cc := cX12_grow) (maxL := 3) (ret := (some .int)) (by decide) rfl (Nat.le_of_ble_eq_true rfl) (fun p e s m args below meth c hC A hI ls hl => bX12_grow hC hI hl hf)
theorem hdX12_grow : yX12_grow.cls = RX12 ∧ yX12_grow.cls ≠ "java/lang/invoke/MethodHandle" ∧ yX12_grow.cls ≠ "java/lang/invoke/VarHandle" ∧ (parseMethodDescriptor yX12_grow.desc).map (fun d => d.parameters.length) = some 1 := by decide +kernel
def rmX12_patch : Room := { frames := 1, cells := 0, slots := 0, locals := 22 }
def wzX12_patch : List Cond := .code yX12_patch cX12_patch 5 none :: wsL_law
theorem hinX12_patch_X120 : ∀ w ∈ wsX120, w ∈ wzX12_patch := fun w h => List.mem_cons_of_mem _ (inlX12 w h)
def fX12_patch_32_body (k32 : zSt → Int32 → Int64 → Int32 → Option (zSt)) (σ : zSt) (x1 : Int32) (x2 : Int64) (x4 : Int32) : Option (zSt) :=
  if 8 ≤ x4 then some σ else
  zck (zin (x1 + x4) 262656) (zbv (zsi σ 1 ((x1 + x4).toNatClampNeg) (vp_nar .byte (((zlshr x2 (8 * x4)).toInt32).toInt8.toInt32))) (fun σ1 =>
  zbv (x4 + 1) (fun v2 =>
  k32 σ1 x1 x2 v2)))
def fX12_patch_32  : Nat → zSt → Int32 → Int64 → Int32 → Option (zSt)
  | 0, _, _, _, _ => none
  | n + 1, σ, x1, x2, x4 => fX12_patch_32_body (fX12_patch_32  n) σ x1 x2 x4
def fX12_patch_21  (σ : zSt) (x1 : Int32) (x2 : Int64) (s0 : Int32) : Option (zSt) :=
  zbi (fX12_fails σ s0 1) (fun σ3 v4 =>
  if v4 = 0 then fX12_patch_32 zfuel σ3 x1 x2 0 else
  some σ3)
def fX12_patch_16  (σ : zSt) (x1 : Int32) (x2 : Int64) : Option (zSt) :=
  fX12_patch_21 σ x1 x2 1
def fX12_patch  (σ : zSt) (x1 : Int32) (x2 : Int64) : Option (zSt) :=
  if x1 < 0 then fX12_patch_16 σ x1 x2 else
  if x1 ≤ ((zgi σ 0 2) - 8) then fX12_patch_21 σ x1 x2 0 else
  fX12_patch_16 σ x1 x2
set_option maxRecDepth 20000 in
set_option maxHeartbeats 4000000 in
theorem bX12_patch_32_body {st : Nat → Nat} {p : Program} {l : Launch} {e : Env} {s : State} {m : MethodId} {args : Array Value} {below : List Frame} {meth : Method} {c : Code} {D : va_G} {A : Nat → Prop} {ad : Nat → Nat} {cy : Nat → ClassId} (hC : zC p m c cX12_patch 5 s args wzX12_patch RX12 meth none) {k32 : zSt → Int32 → Int64 → Int32 → Option (zSt)} {res : zSt} (hk32 : ∀ (H : Heap) (locs : List Loc) (σ : zSt) (ls : Array Slot) (x1 : Int32) (x2 : Int64) (x4 : Int32), zI st D (tM cy) (wM ad cy σ) A s H locs → lv_has ls 5 [(0, .ref (ad 0)), (1, .int x1), (2, .long x2), (4, .int x4)] → k32 σ x1 x2 x4 = some res → W p l e rmX12_patch s m args below meth c H locs 0 0 (zQu below args s D (tM cy) (wM ad cy) A res) (F0 m 32 ls [])) {H : Heap} {locs : List Loc} {σ : zSt} {ls : Array Slot} {x1 : Int32} {x2 : Int64} {x4 : Int32} (hI : zI st D (tM cy) (wM ad cy σ) A s H locs) (hl : lv_has ls 5 [(0, .ref (ad 0)), (1, .int x1), (2, .long x2), (4, .int x4)]) (hf : fX12_patch_32_body k32 σ x1 x2 x4 = some res) : W p l e rmX12_patch s m args below meth c H locs 0 0 (zQu below args s D (tM cy) (wM ad cy) A res) (F0 m 32 ls []) := by
  have hx := hC.1
  have hb := hC.2.1
  unfold fX12_patch_32_body at hf
  refine lv_iload hx hb dX12_patch_32 (lv_at hl 3 rfl) ?_
  refine lv_bipush (v := 8) hx hb dX12_patch_34 (by decide) ?_
  refine lv_icmp_ge (tgt := 63) hx hb dX12_patch_36 (by decide) (fun q => ?_) (fun q => ?_)
  · replace hf := zif_t q hf
    exact z_return hC hI hf dX12_patch_63
  replace hf := zif_f q hf
  refine lv_aload_n hx hb dX12_patch_39 rfl (lv_at hl 0 rfl) ?_
  refine z_get hC hI hinX12_patch_X120 0 (wM_e0 ad cy σ) rfl 1 (by decide) (List.mem_cons_of_mem _ zw9_3) rfl dX12_patch_40 ?_
  refine lv_iload_n hx hb dX12_patch_43 rfl (lv_at hl 1 rfl) ?_
  refine lv_iload hx hb dX12_patch_44 (lv_at hl 3 rfl) ?_
  refine lv_iadd hx hb dX12_patch_46 ?_
  refine lv_lload_n hx hb dX12_patch_47 rfl (lv_at hl 2 rfl) ?_
  refine lv_bipush (v := 8) hx hb dX12_patch_48 (by decide) ?_
  refine lv_iload hx hb dX12_patch_50 (lv_at hl 3 rfl) ?_
  refine lv_imul hx hb dX12_patch_52 ?_
  refine lv_lshr (v := zlshr x2 (8 * x4)) hx hb dX12_patch_53 rfl ?_
  refine lv_l2i (v := (zlshr x2 (8 * x4)).toInt32) hx hb dX12_patch_54 rfl ?_
  refine lv_i2b (v := ((zlshr x2 (8 * x4)).toInt32).toInt8.toInt32) hx hb dX12_patch_55 rfl ?_
  obtain ⟨q, hf⟩ := zck_use hf
  obtain ⟨σ1, eσ1⟩ : ∃ z, z = zsi σ 1 ((x1 + x4).toNatClampNeg) (vp_nar .byte (((zlshr x2 (8 * x4)).toInt32).toInt8.toInt32)) := ⟨_, rfl⟩
  replace hf := zbv_use eσ1 hf
  refine z_bast hC hI 1 0 (wM_e1 ad cy σ) (tM_t1 cy) q ((wM_s1 ad cy σ _ _).trans (congrArg (wM ad cy) eσ1.symm)) dX12_patch_56 (fun H locs hI => ?_)
  obtain ⟨v2, ev2⟩ : ∃ z : Int32, z = x4 + 1 := ⟨_, rfl⟩
  replace hf := zbv_use ev2 hf
  refine lv_iinc (v := v2) (lv' := [(4, .int v2), (0, .ref (ad 0)), (1, .int x1), (2, .long x2)]) hx hb dX12_patch_57 hl (k := 3) rfl (by rw [ev2]; rfl) (by decide) rfl (fun ls hl => ?_)
  refine lv_goto (tgt := 32) hx hb dX12_patch_60 (by decide) ?_
  exact hk32 _ _ _ _ _ _ _ hI (lv_sub hl [1, 2, 3, 0] rfl) hf
theorem blX12_patch_32 {st : Nat → Nat} {p : Program} {l : Launch} {e : Env} {s : State} {m : MethodId} {args : Array Value} {below : List Frame} {meth : Method} {c : Code} {D : va_G} {A : Nat → Prop} {ad : Nat → Nat} {cy : Nat → ClassId} (hC : zC p m c cX12_patch 5 s args wzX12_patch RX12 meth none)  {res : zSt} : ∀ (n : Nat) (H : Heap) (locs : List Loc) (σ : zSt) (ls : Array Slot) (x1 : Int32) (x2 : Int64) (x4 : Int32), zI st D (tM cy) (wM ad cy σ) A s H locs → lv_has ls 5 [(0, .ref (ad 0)), (1, .int x1), (2, .long x2), (4, .int x4)] → fX12_patch_32  n σ x1 x2 x4 = some res → W p l e rmX12_patch s m args below meth c H locs 0 0 (zQu below args s D (tM cy) (wM ad cy) A res) (F0 m 32 ls []) := by
  intro n
  induction n with
  | zero => intro H locs σ ls x1 x2 x4 hI hl hf; cases hf
  | succ n ih => intro H locs σ ls x1 x2 x4 hI hl hf; exact bX12_patch_32_body hC ih hI hl hf
set_option maxRecDepth 20000 in
set_option maxHeartbeats 4000000 in
theorem bX12_patch_21 {st : Nat → Nat} {p : Program} {l : Launch} {e : Env} {s : State} {m : MethodId} {args : Array Value} {below : List Frame} {meth : Method} {c : Code} {D : va_G} {A : Nat → Prop} {ad : Nat → Nat} {cy : Nat → ClassId} (hC : zC p m c cX12_patch 5 s args wzX12_patch RX12 meth none)  {res : zSt} {H : Heap} {locs : List Loc} {σ : zSt} {ls : Array Slot} {x1 : Int32} {x2 : Int64} {s0 : Int32} (hI : zI st D (tM cy) (wM ad cy σ) A s H locs) (hl : lv_has ls 5 [(0, .ref (ad 0)), (1, .int x1), (2, .long x2)]) (hf : fX12_patch_21  σ x1 x2 s0 = some res) : W p l e rmX12_patch s m args below meth c H locs 0 0 (zQu below args s D (tM cy) (wM ad cy) A res) (F0 m 21 ls [.int s0, .ref (ad 0)]) := by
  have hx := hC.1
  have hb := hC.2.1
  unfold fX12_patch_21 at hf
  refine lv_iconst (v := 1) hx hb dX12_patch_21 (by decide) ?_
  obtain ⟨σ3, v4, g3, hf⟩ := zbi_use hf
  refine z_callVi (As := [.int s0, .int 1]) (rest := []) hC hI (cX12_fails_met st l D ad cy σ s0 1 _ g3) (zgV zw11_21 zw11_22 zw11_23 zw1_5 zw12_0) rfl ⟨rfl, rfl⟩ 2 hdX12_fails ⟨Nat.le_of_ble_eq_true rfl, Nat.le_of_ble_eq_true rfl⟩ rfl rfl (wM_e0 ad cy σ) rfl hl rfl (Nat.le_of_ble_eq_true rfl) dX12_patch_22 ⟨Nat.zero_le _, Nat.zero_le _⟩ (fun H locs hI => ?_)
  refine lv_if_eq (tgt := 29) hx hb dX12_patch_25 (by decide) (fun q => ?_) (fun q => ?_)
  · replace hf := zif_t q hf
    refine lv_iconst (v := 0) hx hb dX12_patch_29 (by decide) ?_
    refine lv_istore (lv' := [(4, .int 0), (0, .ref (ad 0)), (1, .int x1), (2, .long x2)]) hx hb dX12_patch_30 hl (by decide) rfl (fun ls hl => ?_)
    exact blX12_patch_32 hC  zfuel _ _ _ _ _ _ _ hI (lv_sub hl [1, 2, 3, 0] rfl) hf
  replace hf := zif_f q hf
  exact z_return hC hI hf dX12_patch_28
set_option maxRecDepth 20000 in
set_option maxHeartbeats 4000000 in
theorem bX12_patch_16 {st : Nat → Nat} {p : Program} {l : Launch} {e : Env} {s : State} {m : MethodId} {args : Array Value} {below : List Frame} {meth : Method} {c : Code} {D : va_G} {A : Nat → Prop} {ad : Nat → Nat} {cy : Nat → ClassId} (hC : zC p m c cX12_patch 5 s args wzX12_patch RX12 meth none)  {res : zSt} {H : Heap} {locs : List Loc} {σ : zSt} {ls : Array Slot} {x1 : Int32} {x2 : Int64} (hI : zI st D (tM cy) (wM ad cy σ) A s H locs) (hl : lv_has ls 5 [(0, .ref (ad 0)), (1, .int x1), (2, .long x2)]) (hf : fX12_patch_16  σ x1 x2 = some res) : W p l e rmX12_patch s m args below meth c H locs 0 0 (zQu below args s D (tM cy) (wM ad cy) A res) (F0 m 16 ls [.ref (ad 0)]) := by
  have hx := hC.1
  have hb := hC.2.1
  unfold fX12_patch_16 at hf
  refine lv_iconst (v := 1) hx hb dX12_patch_16 (by decide) ?_
  refine lv_goto (tgt := 21) hx hb dX12_patch_17 (by decide) ?_
  exact bX12_patch_21 hC  hI hl hf
set_option maxRecDepth 20000 in
set_option maxHeartbeats 4000000 in
theorem bX12_patch {st : Nat → Nat} {p : Program} {l : Launch} {e : Env} {s : State} {m : MethodId} {args : Array Value} {below : List Frame} {meth : Method} {c : Code} {D : va_G} {A : Nat → Prop} {ad : Nat → Nat} {cy : Nat → ClassId} (hC : zC p m c cX12_patch 5 s args wzX12_patch RX12 meth none)  {res : zSt} {H : Heap} {locs : List Loc} {σ : zSt} {ls : Array Slot} {x1 : Int32} {x2 : Int64} (hI : zI st D (tM cy) (wM ad cy σ) A s H locs) (hl : lv_has ls 5 [(0, .ref (ad 0)), (1, .int x1), (2, .long x2)]) (hf : fX12_patch  σ x1 x2 = some res) : W p l e rmX12_patch s m args below meth c H locs 0 0 (zQu below args s D (tM cy) (wM ad cy) A res) (F0 m 0 ls []) := by
  have hx := hC.1
  have hb := hC.2.1
  unfold fX12_patch at hf
  refine lv_aload_n hx hb dX12_patch_0 rfl (lv_at hl 0 rfl) ?_
  refine lv_iload_n hx hb dX12_patch_1 rfl (lv_at hl 1 rfl) ?_
  refine lv_if_lt (tgt := 16) hx hb dX12_patch_2 (by decide) (fun q => ?_) (fun q => ?_)
  · replace hf := zif_t q hf
    exact bX12_patch_16 hC  hI hl hf
  replace hf := zif_f q hf
  refine lv_iload_n hx hb dX12_patch_5 rfl (lv_at hl 1 rfl) ?_
  refine lv_aload_n hx hb dX12_patch_6 rfl (lv_at hl 0 rfl) ?_
  refine z_get hC hI hinX12_patch_X120 0 (wM_e0 ad cy σ) rfl 2 (by decide) (List.mem_cons_of_mem _ zw11_17) rfl dX12_patch_7 ?_
  refine lv_bipush (v := 8) hx hb dX12_patch_10 (by decide) ?_
  refine lv_isub hx hb dX12_patch_12 ?_
  refine lv_icmp_le (tgt := 20) hx hb dX12_patch_13 (by decide) (fun q => ?_) (fun q => ?_)
  · replace hf := zif_t q hf
    refine lv_iconst (v := 0) hx hb dX12_patch_20 (by decide) ?_
    exact bX12_patch_21 hC  hI hl hf
  replace hf := zif_f q hf
  exact bX12_patch_16 hC  hI hl hf
set_option maxRecDepth 20000 in
theorem cX12_patch_met (st : Nat → Nat) (l : Launch) (D : va_G) (ad : Nat → Nat) (cy : Nat → ClassId) (σ : zSt) (x1 : Int32) (x2 : Int64) (res : zSt) (hf : fX12_patch σ x1 x2 = some res) (sz : Nat) : zMu st l yX12_patch wzX12_patch rmX12_patch [.ref (ad 0), .int x1, .long x2] D (tM cy) (wM ad cy) sz σ res :=
  zMu.of (cc := cX12_patch) (maxL := 5) (ret := none) (by decide) rfl (Nat.le_of_ble_eq_true rfl) (fun p e s m args below meth c hC A hI ls hl => bX12_patch hC hI hl hf)
theorem hdX12_patch : yX12_patch.cls = RX12 ∧ yX12_patch.cls ≠ "java/lang/invoke/MethodHandle" ∧ yX12_patch.cls ≠ "java/lang/invoke/VarHandle" ∧ (parseMethodDescriptor yX12_patch.desc).map (fun d => d.parameters.length) = some 2 := by decide +kernel
def rmX12_bytesAt : Room := { frames := 0, cells := 0, slots := 0, locals := 0 }
def wzX12_bytesAt : List Cond := .code yX12_bytesAt cX12_bytesAt 5 (some .int) :: wsL_law
theorem hinX12_bytesAt_X120 : ∀ w ∈ wsX120, w ∈ wzX12_bytesAt := fun w h => List.mem_cons_of_mem _ (inlX12 w h)
def fX12_bytesAt_7_body (k7 : zSt → Int32 → Int32 → Int32 → Option (zSt × Int32)) (σ : zSt) (x1 : Int32) (x3 : Int32) (x4 : Int32) : Option (zSt × Int32) :=
  if x4 < 0 then some (σ, x3) else
  zck (zin (x1 + x4) 262144) (
  zbv ((x3 <<< ((8 : Int32) &&& 31)) ||| ((zgi σ 2 (x1 + x4).toNatClampNeg) &&& 255)) (fun v1 =>
  zbv (x4 + (-1)) (fun v2 =>
  k7 σ x1 v1 v2)))
def fX12_bytesAt_7  : Nat → zSt → Int32 → Int32 → Int32 → Option (zSt × Int32)
  | 0, _, _, _, _ => none
  | n + 1, σ, x1, x3, x4 => fX12_bytesAt_7_body (fX12_bytesAt_7  n) σ x1 x3 x4
def fX12_bytesAt  (σ : zSt) (x1 : Int32) (x2 : Int32) : Option (zSt × Int32) :=
  zbv (x2 - 1) (fun v3 =>
  fX12_bytesAt_7 zfuel σ x1 0 v3)
set_option maxRecDepth 20000 in
set_option maxHeartbeats 4000000 in
theorem bX12_bytesAt_7_body {st : Nat → Nat} {p : Program} {l : Launch} {e : Env} {s : State} {m : MethodId} {args : Array Value} {below : List Frame} {meth : Method} {c : Code} {D : va_G} {A : Nat → Prop} {ad : Nat → Nat} {cy : Nat → ClassId} (hC : zC p m c cX12_bytesAt 5 s args wzX12_bytesAt RX12 meth (some .int)) {k7 : zSt → Int32 → Int32 → Int32 → Option (zSt × Int32)} {res : zSt × Int32} (hk7 : ∀ (H : Heap) (locs : List Loc) (σ : zSt) (ls : Array Slot) (x1 : Int32) (x3 : Int32) (x4 : Int32), zI st D (tM cy) (wM ad cy σ) A s H locs → lv_has ls 5 [(0, .ref (ad 0)), (1, .int x1), (3, .int x3), (4, .int x4)] → k7 σ x1 x3 x4 = some res → W p l e rmX12_bytesAt s m args below meth c H locs 0 0 (zQi below args s D (tM cy) (wM ad cy) A res) (F0 m 7 ls [])) {H : Heap} {locs : List Loc} {σ : zSt} {ls : Array Slot} {x1 : Int32} {x3 : Int32} {x4 : Int32} (hI : zI st D (tM cy) (wM ad cy σ) A s H locs) (hl : lv_has ls 5 [(0, .ref (ad 0)), (1, .int x1), (3, .int x3), (4, .int x4)]) (hf : fX12_bytesAt_7_body k7 σ x1 x3 x4 = some res) : W p l e rmX12_bytesAt s m args below meth c H locs 0 0 (zQi below args s D (tM cy) (wM ad cy) A res) (F0 m 7 ls []) := by
  have hx := hC.1
  have hb := hC.2.1
  unfold fX12_bytesAt_7_body at hf
  refine lv_iload hx hb dX12_bytesAt_7 (lv_at hl 3 rfl) ?_
  refine lv_if_lt (tgt := 37) hx hb dX12_bytesAt_9 (by decide) (fun q => ?_) (fun q => ?_)
  · replace hf := zif_t q hf
    refine lv_iload_n hx hb dX12_bytesAt_37 rfl (lv_at hl 2 rfl) ?_
    exact z_ireturn hC hI hf dX12_bytesAt_38
  replace hf := zif_f q hf
  refine lv_iload_n hx hb dX12_bytesAt_12 rfl (lv_at hl 2 rfl) ?_
  refine lv_bipush (v := 8) hx hb dX12_bytesAt_13 (by decide) ?_
  refine lv_ishl hx hb dX12_bytesAt_15 ?_
  refine lv_aload_n hx hb dX12_bytesAt_16 rfl (lv_at hl 0 rfl) ?_
  refine z_get hC hI hinX12_bytesAt_X120 0 (wM_e0 ad cy σ) rfl 4 (by decide) (List.mem_cons_of_mem _ zw9_5) rfl dX12_bytesAt_17 ?_
  refine lv_iload_n hx hb dX12_bytesAt_20 rfl (lv_at hl 1 rfl) ?_
  refine lv_iload hx hb dX12_bytesAt_21 (lv_at hl 3 rfl) ?_
  refine lv_iadd hx hb dX12_bytesAt_23 ?_
  obtain ⟨q, hf⟩ := zck_use hf
  refine z_bald hC hI 2 1 (wM_e2 ad cy σ) (tM_t2 cy) q dX12_bytesAt_24 ?_
  refine lv_sipush (v := 255) hx hb dX12_bytesAt_25 (by decide) ?_
  refine lv_iand hx hb dX12_bytesAt_28 ?_
  refine lv_ior hx hb dX12_bytesAt_29 ?_
  refine lv_topi (fun v1 ev1 => ?_)
  replace hf := zbv_use ev1 hf
  refine lv_istore_n (lv' := [(3, .int v1), (0, .ref (ad 0)), (1, .int x1), (4, .int x4)]) hx hb dX12_bytesAt_30 rfl hl (by decide) rfl (fun ls hl => ?_)
  obtain ⟨v2, ev2⟩ : ∃ z : Int32, z = x4 + (-1) := ⟨_, rfl⟩
  replace hf := zbv_use ev2 hf
  refine lv_iinc (v := v2) (lv' := [(4, .int v2), (3, .int v1), (0, .ref (ad 0)), (1, .int x1)]) hx hb dX12_bytesAt_31 hl (k := 3) rfl (by rw [ev2]; rfl) (by decide) rfl (fun ls hl => ?_)
  refine lv_goto (tgt := 7) hx hb dX12_bytesAt_34 (by decide) ?_
  exact hk7 _ _ _ _ _ _ _ hI (lv_sub hl [2, 3, 1, 0] rfl) hf
theorem blX12_bytesAt_7 {st : Nat → Nat} {p : Program} {l : Launch} {e : Env} {s : State} {m : MethodId} {args : Array Value} {below : List Frame} {meth : Method} {c : Code} {D : va_G} {A : Nat → Prop} {ad : Nat → Nat} {cy : Nat → ClassId} (hC : zC p m c cX12_bytesAt 5 s args wzX12_bytesAt RX12 meth (some .int))  {res : zSt × Int32} : ∀ (n : Nat) (H : Heap) (locs : List Loc) (σ : zSt) (ls : Array Slot) (x1 : Int32) (x3 : Int32) (x4 : Int32), zI st D (tM cy) (wM ad cy σ) A s H locs → lv_has ls 5 [(0, .ref (ad 0)), (1, .int x1), (3, .int x3), (4, .int x4)] → fX12_bytesAt_7  n σ x1 x3 x4 = some res → W p l e rmX12_bytesAt s m args below meth c H locs 0 0 (zQi below args s D (tM cy) (wM ad cy) A res) (F0 m 7 ls []) := by
  intro n
  induction n with
  | zero => intro H locs σ ls x1 x3 x4 hI hl hf; cases hf
  | succ n ih => intro H locs σ ls x1 x3 x4 hI hl hf; exact bX12_bytesAt_7_body hC ih hI hl hf
set_option maxRecDepth 20000 in
set_option maxHeartbeats 4000000 in
theorem bX12_bytesAt {st : Nat → Nat} {p : Program} {l : Launch} {e : Env} {s : State} {m : MethodId} {args : Array Value} {below : List Frame} {meth : Method} {c : Code} {D : va_G} {A : Nat → Prop} {ad : Nat → Nat} {cy : Nat → ClassId} (hC : zC p m c cX12_bytesAt 5 s args wzX12_bytesAt RX12 meth (some .int))  {res : zSt × Int32} {H : Heap} {locs : List Loc} {σ : zSt} {ls : Array Slot} {x1 : Int32} {x2 : Int32} (hI : zI st D (tM cy) (wM ad cy σ) A s H locs) (hl : lv_has ls 5 [(0, .ref (ad 0)), (1, .int x1), (2, .int x2)]) (hf : fX12_bytesAt  σ x1 x2 = some res) : W p l e rmX12_bytesAt s m args below meth c H locs 0 0 (zQi below args s D (tM cy) (wM ad cy) A res) (F0 m 0 ls []) := by
  have hx := hC.1
  have hb := hC.2.1
  unfold fX12_bytesAt at hf
  refine lv_iconst (v := 0) hx hb dX12_bytesAt_0 (by decide) ?_
  refine lv_istore_n (lv' := [(3, .int 0), (0, .ref (ad 0)), (1, .int x1), (2, .int x2)]) hx hb dX12_bytesAt_1 rfl hl (by decide) rfl (fun ls hl => ?_)
  refine lv_iload_n hx hb dX12_bytesAt_2 rfl (lv_at hl 3 rfl) ?_
  refine lv_iconst (v := 1) hx hb dX12_bytesAt_3 (by decide) ?_
  refine lv_isub hx hb dX12_bytesAt_4 ?_
  refine lv_topi (fun v3 ev3 => ?_)
  replace hf := zbv_use ev3 hf
  refine lv_istore (lv' := [(4, .int v3), (3, .int 0), (0, .ref (ad 0)), (1, .int x1), (2, .int x2)]) hx hb dX12_bytesAt_5 hl (by decide) rfl (fun ls hl => ?_)
  exact blX12_bytesAt_7 hC  zfuel _ _ _ _ _ _ _ hI (lv_sub hl [2, 3, 1, 0] rfl) hf
set_option maxRecDepth 20000 in
theorem cX12_bytesAt_met (st : Nat → Nat) (l : Launch) (D : va_G) (ad : Nat → Nat) (cy : Nat → ClassId) (σ : zSt) (x1 : Int32) (x2 : Int32) (res : zSt × Int32) (hf : fX12_bytesAt σ x1 x2 = some res) (sz : Nat) : zMi st l yX12_bytesAt wzX12_bytesAt rmX12_bytesAt [.ref (ad 0), .int x1, .int x2] D (tM cy) (wM ad cy) sz σ res :=
  zMi.of (cc := cX12_bytesAt) (maxL := 5) (ret := (some .int)) (by decide) rfl (Nat.le_of_ble_eq_true rfl) (fun p e s m args below meth c hC A hI ls hl => bX12_bytesAt hC hI hl hf)
theorem hdX12_bytesAt : yX12_bytesAt.cls = RX12 ∧ yX12_bytesAt.cls ≠ "java/lang/invoke/MethodHandle" ∧ yX12_bytesAt.cls ≠ "java/lang/invoke/VarHandle" ∧ (parseMethodDescriptor yX12_bytesAt.desc).map (fun d => d.parameters.length) = some 2 := by decide +kernel
def rmX12_isHeader : Room := { frames := 0, cells := 0, slots := 0, locals := 0 }
def wzX12_isHeader : List Cond := .code yX12_isHeader cX12_isHeader 3 (some .boolean) :: wsL_law
theorem hinX12_isHeader_X120 : ∀ w ∈ wsX120, w ∈ wzX12_isHeader := fun w h => List.mem_cons_of_mem _ (inlX12 w h)
def fX12_isHeader_125  (σ : zSt) (s0 : Int32) : Option (zSt × Int32) :=
  zck (zbo s0) (some (σ, s0))
def fX12_isHeader_114  (σ : zSt) (x2 : Int32) : Option (zSt × Int32) :=
  if x2 = 8 then fX12_isHeader_125 σ 1 else
  fX12_isHeader_125 σ 0
def fX12_isHeader_105 (k15 : zSt → Int32 → Int32 → Option (zSt × Int32)) (σ : zSt) (x1 : Int32) (x2 : Int32) (s0 : Int32) (s1 : Int32) : Option (zSt × Int32) :=
  if s1 = s0 then zbv (x2 + 1) (fun v1 =>
  k15 σ x1 v1) else
  fX12_isHeader_114 σ x2
def fX12_isHeader_15_body (k15 : zSt → Int32 → Int32 → Option (zSt × Int32)) (σ : zSt) (x1 : Int32) (x2 : Int32) : Option (zSt × Int32) :=
  if 8 ≤ x2 then fX12_isHeader_114 σ x2 else
  zck (zin (x1 + x2) 262144) (
  if x2 = 0 then fX12_isHeader_105 k15 σ x1 x2 84 ((zgi σ 2 (x1 + x2).toNatClampNeg) &&& 255) else
  if x2 = 1 then fX12_isHeader_105 k15 σ x1 x2 77 ((zgi σ 2 (x1 + x2).toNatClampNeg) &&& 255) else
  if x2 = 2 then fX12_isHeader_105 k15 σ x1 x2 82 ((zgi σ 2 (x1 + x2).toNatClampNeg) &&& 255) else
  if x2 = 3 then fX12_isHeader_105 k15 σ x1 x2 32 ((zgi σ 2 (x1 + x2).toNatClampNeg) &&& 255) else
  if x2 = 4 then fX12_isHeader_105 k15 σ x1 x2 83 ((zgi σ 2 (x1 + x2).toNatClampNeg) &&& 255) else
  if x2 = 5 then fX12_isHeader_105 k15 σ x1 x2 69 ((zgi σ 2 (x1 + x2).toNatClampNeg) &&& 255) else
  if x2 = 6 then fX12_isHeader_105 k15 σ x1 x2 71 ((zgi σ 2 (x1 + x2).toNatClampNeg) &&& 255) else
  fX12_isHeader_105 k15 σ x1 x2 65 ((zgi σ 2 (x1 + x2).toNatClampNeg) &&& 255))
def fX12_isHeader_15  : Nat → zSt → Int32 → Int32 → Option (zSt × Int32)
  | 0, _, _, _ => none
  | n + 1, σ, x1, x2 => fX12_isHeader_15_body (fX12_isHeader_15  n) σ x1 x2
def fX12_isHeader  (σ : zSt) (x1 : Int32) : Option (zSt × Int32) :=
  if (x1 + 16) ≤ (zgi σ 0 5) then fX12_isHeader_15 zfuel σ x1 0 else
  zck (zbo 0) (some (σ, 0))
set_option maxRecDepth 20000 in
set_option maxHeartbeats 4000000 in
theorem bX12_isHeader_125 {st : Nat → Nat} {p : Program} {l : Launch} {e : Env} {s : State} {m : MethodId} {args : Array Value} {below : List Frame} {meth : Method} {c : Code} {D : va_G} {A : Nat → Prop} {ad : Nat → Nat} {cy : Nat → ClassId} (hC : zC p m c cX12_isHeader 3 s args wzX12_isHeader RX12 meth (some .boolean))  {res : zSt × Int32} {H : Heap} {locs : List Loc} {σ : zSt} {ls : Array Slot} {s0 : Int32} (hI : zI st D (tM cy) (wM ad cy σ) A s H locs) (hl : lv_has ls 3 []) (hf : fX12_isHeader_125  σ s0 = some res) : W p l e rmX12_isHeader s m args below meth c H locs 0 0 (zQi below args s D (tM cy) (wM ad cy) A res) (F0 m 125 ls [.int s0]) := by
  have hx := hC.1
  have hb := hC.2.1
  unfold fX12_isHeader_125 at hf
  obtain ⟨q, hf⟩ := zck_use hf
  exact z_zreturn hC hI (zbo_n q) hf dX12_isHeader_125
set_option maxRecDepth 20000 in
set_option maxHeartbeats 4000000 in
theorem bX12_isHeader_114 {st : Nat → Nat} {p : Program} {l : Launch} {e : Env} {s : State} {m : MethodId} {args : Array Value} {below : List Frame} {meth : Method} {c : Code} {D : va_G} {A : Nat → Prop} {ad : Nat → Nat} {cy : Nat → ClassId} (hC : zC p m c cX12_isHeader 3 s args wzX12_isHeader RX12 meth (some .boolean))  {res : zSt × Int32} {H : Heap} {locs : List Loc} {σ : zSt} {ls : Array Slot} {x2 : Int32} (hI : zI st D (tM cy) (wM ad cy σ) A s H locs) (hl : lv_has ls 3 [(2, .int x2)]) (hf : fX12_isHeader_114  σ x2 = some res) : W p l e rmX12_isHeader s m args below meth c H locs 0 0 (zQi below args s D (tM cy) (wM ad cy) A res) (F0 m 114 ls []) := by
  have hx := hC.1
  have hb := hC.2.1
  unfold fX12_isHeader_114 at hf
  refine lv_iload_n hx hb dX12_isHeader_114 rfl (lv_at hl 0 rfl) ?_
  refine lv_bipush (v := 8) hx hb dX12_isHeader_115 (by decide) ?_
  refine lv_icmp_ne (tgt := 124) hx hb dX12_isHeader_117 (by decide) (fun q => ?_) (fun q => ?_)
  · replace hf := zif_f q hf
    refine lv_iconst (v := 0) hx hb dX12_isHeader_124 (by decide) ?_
    exact bX12_isHeader_125 hC  hI (lv_sub hl [] rfl) hf
  replace hf := zif_t q hf
  refine lv_iconst (v := 1) hx hb dX12_isHeader_120 (by decide) ?_
  refine lv_goto (tgt := 125) hx hb dX12_isHeader_121 (by decide) ?_
  exact bX12_isHeader_125 hC  hI (lv_sub hl [] rfl) hf
set_option maxRecDepth 20000 in
set_option maxHeartbeats 4000000 in
theorem bX12_isHeader_105 {st : Nat → Nat} {p : Program} {l : Launch} {e : Env} {s : State} {m : MethodId} {args : Array Value} {below : List Frame} {meth : Method} {c : Code} {D : va_G} {A : Nat → Prop} {ad : Nat → Nat} {cy : Nat → ClassId} (hC : zC p m c cX12_isHeader 3 s args wzX12_isHeader RX12 meth (some .boolean)) {k15 : zSt → Int32 → Int32 → Option (zSt × Int32)} {res : zSt × Int32} (hk15 : ∀ (H : Heap) (locs : List Loc) (σ : zSt) (ls : Array Slot) (x1 : Int32) (x2 : Int32), zI st D (tM cy) (wM ad cy σ) A s H locs → lv_has ls 3 [(0, .ref (ad 0)), (1, .int x1), (2, .int x2)] → k15 σ x1 x2 = some res → W p l e rmX12_isHeader s m args below meth c H locs 0 0 (zQi below args s D (tM cy) (wM ad cy) A res) (F0 m 15 ls [])) {H : Heap} {locs : List Loc} {σ : zSt} {ls : Array Slot} {x1 : Int32} {x2 : Int32} {s0 : Int32} {s1 : Int32} (hI : zI st D (tM cy) (wM ad cy σ) A s H locs) (hl : lv_has ls 3 [(0, .ref (ad 0)), (1, .int x1), (2, .int x2)]) (hf : fX12_isHeader_105 k15 σ x1 x2 s0 s1 = some res) : W p l e rmX12_isHeader s m args below meth c H locs 0 0 (zQi below args s D (tM cy) (wM ad cy) A res) (F0 m 105 ls [.int s0, .int s1]) := by
  have hx := hC.1
  have hb := hC.2.1
  unfold fX12_isHeader_105 at hf
  refine lv_icmp_ne (tgt := 114) hx hb dX12_isHeader_105 (by decide) (fun q => ?_) (fun q => ?_)
  · replace hf := zif_f q hf
    exact bX12_isHeader_114 hC  hI (lv_sub hl [2] rfl) hf
  replace hf := zif_t q hf
  obtain ⟨v1, ev1⟩ : ∃ z : Int32, z = x2 + 1 := ⟨_, rfl⟩
  replace hf := zbv_use ev1 hf
  refine lv_iinc (v := v1) (lv' := [(2, .int v1), (0, .ref (ad 0)), (1, .int x1)]) hx hb dX12_isHeader_108 hl (k := 2) rfl (by rw [ev1]; rfl) (by decide) rfl (fun ls hl => ?_)
  refine lv_goto (tgt := 15) hx hb dX12_isHeader_111 (by decide) ?_
  exact hk15 _ _ _ _ _ _ hI (lv_sub hl [1, 2, 0] rfl) hf
set_option maxRecDepth 20000 in
set_option maxHeartbeats 4000000 in
theorem bX12_isHeader_15_body {st : Nat → Nat} {p : Program} {l : Launch} {e : Env} {s : State} {m : MethodId} {args : Array Value} {below : List Frame} {meth : Method} {c : Code} {D : va_G} {A : Nat → Prop} {ad : Nat → Nat} {cy : Nat → ClassId} (hC : zC p m c cX12_isHeader 3 s args wzX12_isHeader RX12 meth (some .boolean)) {k15 : zSt → Int32 → Int32 → Option (zSt × Int32)} {res : zSt × Int32} (hk15 : ∀ (H : Heap) (locs : List Loc) (σ : zSt) (ls : Array Slot) (x1 : Int32) (x2 : Int32), zI st D (tM cy) (wM ad cy σ) A s H locs → lv_has ls 3 [(0, .ref (ad 0)), (1, .int x1), (2, .int x2)] → k15 σ x1 x2 = some res → W p l e rmX12_isHeader s m args below meth c H locs 0 0 (zQi below args s D (tM cy) (wM ad cy) A res) (F0 m 15 ls [])) {H : Heap} {locs : List Loc} {σ : zSt} {ls : Array Slot} {x1 : Int32} {x2 : Int32} (hI : zI st D (tM cy) (wM ad cy σ) A s H locs) (hl : lv_has ls 3 [(0, .ref (ad 0)), (1, .int x1), (2, .int x2)]) (hf : fX12_isHeader_15_body k15 σ x1 x2 = some res) : W p l e rmX12_isHeader s m args below meth c H locs 0 0 (zQi below args s D (tM cy) (wM ad cy) A res) (F0 m 15 ls []) := by
  have hx := hC.1
  have hb := hC.2.1
  unfold fX12_isHeader_15_body at hf
  refine lv_iload_n hx hb dX12_isHeader_15 rfl (lv_at hl 2 rfl) ?_
  refine lv_bipush (v := 8) hx hb dX12_isHeader_16 (by decide) ?_
  refine lv_icmp_ge (tgt := 114) hx hb dX12_isHeader_18 (by decide) (fun q => ?_) (fun q => ?_)
  · replace hf := zif_t q hf
    exact bX12_isHeader_114 hC  hI (lv_sub hl [2] rfl) hf
  replace hf := zif_f q hf
  refine lv_aload_n hx hb dX12_isHeader_21 rfl (lv_at hl 0 rfl) ?_
  refine z_get hC hI hinX12_isHeader_X120 0 (wM_e0 ad cy σ) rfl 4 (by decide) (List.mem_cons_of_mem _ zw9_5) rfl dX12_isHeader_22 ?_
  refine lv_iload_n hx hb dX12_isHeader_25 rfl (lv_at hl 1 rfl) ?_
  refine lv_iload_n hx hb dX12_isHeader_26 rfl (lv_at hl 2 rfl) ?_
  refine lv_iadd hx hb dX12_isHeader_27 ?_
  obtain ⟨q, hf⟩ := zck_use hf
  refine z_bald hC hI 2 1 (wM_e2 ad cy σ) (tM_t2 cy) q dX12_isHeader_28 ?_
  refine lv_sipush (v := 255) hx hb dX12_isHeader_29 (by decide) ?_
  refine lv_iand hx hb dX12_isHeader_32 ?_
  refine lv_iload_n hx hb dX12_isHeader_33 rfl (lv_at hl 2 rfl) ?_
  refine lv_if_ne (tgt := 42) hx hb dX12_isHeader_34 (by decide) (fun q => ?_) (fun q => ?_)
  · replace hf := zif_f q hf
    refine lv_iload_n hx hb dX12_isHeader_42 rfl (lv_at hl 2 rfl) ?_
    refine lv_iconst (v := 1) hx hb dX12_isHeader_43 (by decide) ?_
    refine lv_icmp_ne (tgt := 52) hx hb dX12_isHeader_44 (by decide) (fun q => ?_) (fun q => ?_)
    · replace hf := zif_f q hf
      refine lv_iload_n hx hb dX12_isHeader_52 rfl (lv_at hl 2 rfl) ?_
      refine lv_iconst (v := 2) hx hb dX12_isHeader_53 (by decide) ?_
      refine lv_icmp_ne (tgt := 62) hx hb dX12_isHeader_54 (by decide) (fun q => ?_) (fun q => ?_)
      · replace hf := zif_f q hf
        refine lv_iload_n hx hb dX12_isHeader_62 rfl (lv_at hl 2 rfl) ?_
        refine lv_iconst (v := 3) hx hb dX12_isHeader_63 (by decide) ?_
        refine lv_icmp_ne (tgt := 72) hx hb dX12_isHeader_64 (by decide) (fun q => ?_) (fun q => ?_)
        · replace hf := zif_f q hf
          refine lv_iload_n hx hb dX12_isHeader_72 rfl (lv_at hl 2 rfl) ?_
          refine lv_iconst (v := 4) hx hb dX12_isHeader_73 (by decide) ?_
          refine lv_icmp_ne (tgt := 82) hx hb dX12_isHeader_74 (by decide) (fun q => ?_) (fun q => ?_)
          · replace hf := zif_f q hf
            refine lv_iload_n hx hb dX12_isHeader_82 rfl (lv_at hl 2 rfl) ?_
            refine lv_iconst (v := 5) hx hb dX12_isHeader_83 (by decide) ?_
            refine lv_icmp_ne (tgt := 92) hx hb dX12_isHeader_84 (by decide) (fun q => ?_) (fun q => ?_)
            · replace hf := zif_f q hf
              refine lv_iload_n hx hb dX12_isHeader_92 rfl (lv_at hl 2 rfl) ?_
              refine lv_bipush (v := 6) hx hb dX12_isHeader_93 (by decide) ?_
              refine lv_icmp_ne (tgt := 103) hx hb dX12_isHeader_95 (by decide) (fun q => ?_) (fun q => ?_)
              · replace hf := zif_f q hf
                refine lv_bipush (v := 65) hx hb dX12_isHeader_103 (by decide) ?_
                exact bX12_isHeader_105 hC hk15 hI hl hf
              replace hf := zif_t q hf
              refine lv_bipush (v := 71) hx hb dX12_isHeader_98 (by decide) ?_
              refine lv_goto (tgt := 105) hx hb dX12_isHeader_100 (by decide) ?_
              exact bX12_isHeader_105 hC hk15 hI hl hf
            replace hf := zif_t q hf
            refine lv_bipush (v := 69) hx hb dX12_isHeader_87 (by decide) ?_
            refine lv_goto (tgt := 105) hx hb dX12_isHeader_89 (by decide) ?_
            exact bX12_isHeader_105 hC hk15 hI hl hf
          replace hf := zif_t q hf
          refine lv_bipush (v := 83) hx hb dX12_isHeader_77 (by decide) ?_
          refine lv_goto (tgt := 105) hx hb dX12_isHeader_79 (by decide) ?_
          exact bX12_isHeader_105 hC hk15 hI hl hf
        replace hf := zif_t q hf
        refine lv_bipush (v := 32) hx hb dX12_isHeader_67 (by decide) ?_
        refine lv_goto (tgt := 105) hx hb dX12_isHeader_69 (by decide) ?_
        exact bX12_isHeader_105 hC hk15 hI hl hf
      replace hf := zif_t q hf
      refine lv_bipush (v := 82) hx hb dX12_isHeader_57 (by decide) ?_
      refine lv_goto (tgt := 105) hx hb dX12_isHeader_59 (by decide) ?_
      exact bX12_isHeader_105 hC hk15 hI hl hf
    replace hf := zif_t q hf
    refine lv_bipush (v := 77) hx hb dX12_isHeader_47 (by decide) ?_
    refine lv_goto (tgt := 105) hx hb dX12_isHeader_49 (by decide) ?_
    exact bX12_isHeader_105 hC hk15 hI hl hf
  replace hf := zif_t q hf
  refine lv_bipush (v := 84) hx hb dX12_isHeader_37 (by decide) ?_
  refine lv_goto (tgt := 105) hx hb dX12_isHeader_39 (by decide) ?_
  exact bX12_isHeader_105 hC hk15 hI hl hf
theorem blX12_isHeader_15 {st : Nat → Nat} {p : Program} {l : Launch} {e : Env} {s : State} {m : MethodId} {args : Array Value} {below : List Frame} {meth : Method} {c : Code} {D : va_G} {A : Nat → Prop} {ad : Nat → Nat} {cy : Nat → ClassId} (hC : zC p m c cX12_isHeader 3 s args wzX12_isHeader RX12 meth (some .boolean))  {res : zSt × Int32} : ∀ (n : Nat) (H : Heap) (locs : List Loc) (σ : zSt) (ls : Array Slot) (x1 : Int32) (x2 : Int32), zI st D (tM cy) (wM ad cy σ) A s H locs → lv_has ls 3 [(0, .ref (ad 0)), (1, .int x1), (2, .int x2)] → fX12_isHeader_15  n σ x1 x2 = some res → W p l e rmX12_isHeader s m args below meth c H locs 0 0 (zQi below args s D (tM cy) (wM ad cy) A res) (F0 m 15 ls []) := by
  intro n
  induction n with
  | zero => intro H locs σ ls x1 x2 hI hl hf; cases hf
  | succ n ih => intro H locs σ ls x1 x2 hI hl hf; exact bX12_isHeader_15_body hC ih hI hl hf
set_option maxRecDepth 20000 in
set_option maxHeartbeats 4000000 in
theorem bX12_isHeader {st : Nat → Nat} {p : Program} {l : Launch} {e : Env} {s : State} {m : MethodId} {args : Array Value} {below : List Frame} {meth : Method} {c : Code} {D : va_G} {A : Nat → Prop} {ad : Nat → Nat} {cy : Nat → ClassId} (hC : zC p m c cX12_isHeader 3 s args wzX12_isHeader RX12 meth (some .boolean))  {res : zSt × Int32} {H : Heap} {locs : List Loc} {σ : zSt} {ls : Array Slot} {x1 : Int32} (hI : zI st D (tM cy) (wM ad cy σ) A s H locs) (hl : lv_has ls 3 [(0, .ref (ad 0)), (1, .int x1)]) (hf : fX12_isHeader  σ x1 = some res) : W p l e rmX12_isHeader s m args below meth c H locs 0 0 (zQi below args s D (tM cy) (wM ad cy) A res) (F0 m 0 ls []) := by
  have hx := hC.1
  have hb := hC.2.1
  unfold fX12_isHeader at hf
  refine lv_iload_n hx hb dX12_isHeader_0 rfl (lv_at hl 1 rfl) ?_
  refine lv_bipush (v := 16) hx hb dX12_isHeader_1 (by decide) ?_
  refine lv_iadd hx hb dX12_isHeader_3 ?_
  refine lv_aload_n hx hb dX12_isHeader_4 rfl (lv_at hl 0 rfl) ?_
  refine z_get hC hI hinX12_isHeader_X120 0 (wM_e0 ad cy σ) rfl 5 (by decide) (List.mem_cons_of_mem _ zw16_6) rfl dX12_isHeader_5 ?_
  refine lv_icmp_le (tgt := 13) hx hb dX12_isHeader_8 (by decide) (fun q => ?_) (fun q => ?_)
  · replace hf := zif_t q hf
    refine lv_iconst (v := 0) hx hb dX12_isHeader_13 (by decide) ?_
    refine lv_istore_n (lv' := [(2, .int 0), (0, .ref (ad 0)), (1, .int x1)]) hx hb dX12_isHeader_14 rfl hl (by decide) rfl (fun ls hl => ?_)
    exact blX12_isHeader_15 hC  zfuel _ _ _ _ _ _ hI (lv_sub hl [1, 2, 0] rfl) hf
  replace hf := zif_f q hf
  refine lv_iconst (v := 0) hx hb dX12_isHeader_11 (by decide) ?_
  obtain ⟨q, hf⟩ := zck_use hf
  exact z_zreturn hC hI (zbo_n q) hf dX12_isHeader_12
set_option maxRecDepth 20000 in
theorem cX12_isHeader_met (st : Nat → Nat) (l : Launch) (D : va_G) (ad : Nat → Nat) (cy : Nat → ClassId) (σ : zSt) (x1 : Int32) (res : zSt × Int32) (hf : fX12_isHeader σ x1 = some res) (sz : Nat) : zMi st l yX12_isHeader wzX12_isHeader rmX12_isHeader [.ref (ad 0), .int x1] D (tM cy) (wM ad cy) sz σ res :=
  zMi.of (cc := cX12_isHeader) (maxL := 3) (ret := (some .boolean)) (by decide) rfl (Nat.le_of_ble_eq_true rfl) (fun p e s m args below meth c hC A hI ls hl => bX12_isHeader hC hI hl hf)
theorem hdX12_isHeader : yX12_isHeader.cls = RX12 ∧ yX12_isHeader.cls ≠ "java/lang/invoke/MethodHandle" ∧ yX12_isHeader.cls ≠ "java/lang/invoke/VarHandle" ∧ (parseMethodDescriptor yX12_isHeader.desc).map (fun d => d.parameters.length) = some 1 := by decide +kernel
def rmX12_anew : Room := { frames := 0, cells := 0, slots := 0, locals := 0 }
def wzX12_anew : List Cond := .code yX12_anew cX12_anew 2 none :: wsL_law
theorem hinX12_anew_X120 : ∀ w ∈ wsX120, w ∈ wzX12_anew := fun w h => List.mem_cons_of_mem _ (inlX12 w h)
def fX12_anew_236 (k196 : zSt → Int32 → Option (zSt)) (σ : zSt) (x1 : Int32) (s0 : Int32) (s1 : Int32) : Option (zSt) :=
  zck (zin s1 1048) (zbv (zsi σ 3 (s1.toNatClampNeg) s0) (fun σ1 =>
  zbv (x1 + 1) (fun v2 =>
  k196 σ1 v2)))
def fX12_anew_267_body (k267 : zSt → Int32 → Option (zSt)) (σ : zSt) (x1 : Int32) : Option (zSt) :=
  if 64 ≤ x1 then some σ else
  zck (zin x1 64) (zbv (zsi σ 8 (x1.toNatClampNeg) (vp_nar .byte 0)) (fun σ3 =>
  zbv (x1 + 1) (fun v4 =>
  k267 σ3 v4)))
def fX12_anew_267  : Nat → zSt → Int32 → Option (zSt)
  | 0, _, _ => none
  | n + 1, σ, x1 => fX12_anew_267_body (fX12_anew_267  n) σ x1
def fX12_anew_245_body (k245 : zSt → Int32 → Option (zSt)) (σ : zSt) (x1 : Int32) : Option (zSt) :=
  if 16384 ≤ x1 then fX12_anew_267 zfuel σ 0 else
  zck (zin x1 16384) (zbv (zsi σ 7 (x1.toNatClampNeg) (vp_nar .byte 0)) (fun σ5 =>
  zbv (x1 + 1) (fun v6 =>
  k245 σ5 v6)))
def fX12_anew_245  : Nat → zSt → Int32 → Option (zSt)
  | 0, _, _ => none
  | n + 1, σ, x1 => fX12_anew_245_body (fX12_anew_245  n) σ x1
def fX12_anew_196_body (k196 : zSt → Int32 → Option (zSt)) (σ : zSt) (x1 : Int32) : Option (zSt) :=
  if 108 ≤ x1 then fX12_anew_245 zfuel σ 0 else
  zck (decide (¬ 6 = 0)) (
  if (zrem x1 6) = 0 then fX12_anew_236 k196 σ x1 127 (172 + x1) else
  zck (decide (¬ 6 = 0)) (
  if (zrem x1 6) = 1 then fX12_anew_236 k196 σ x1 4 (172 + x1) else
  fX12_anew_236 k196 σ x1 0 (172 + x1)))
def fX12_anew_196  : Nat → zSt → Int32 → Option (zSt)
  | 0, _, _ => none
  | n + 1, σ, x1 => fX12_anew_196_body (fX12_anew_196  n) σ x1
def fX12_anew_165_body (k165 : zSt → Int32 → Option (zSt)) (σ : zSt) (x1 : Int32) : Option (zSt) :=
  if 166 ≤ x1 then zck (zin 164 1048) (zbv (zsi σ 3 ((164 : Int32).toNatClampNeg) 1) (fun σ7 =>
  fX12_anew_196 zfuel σ7 0)) else
  zck (zin x1 1048) (zbv (zsi σ 3 (x1.toNatClampNeg) 0) (fun σ8 =>
  zbv (x1 + 1) (fun v9 =>
  k165 σ8 v9)))
def fX12_anew_165  : Nat → zSt → Int32 → Option (zSt)
  | 0, _, _ => none
  | n + 1, σ, x1 => fX12_anew_165_body (fX12_anew_165  n) σ x1
def fX12_anew_131_body (k131 : zSt → Int32 → Option (zSt)) (σ : zSt) (x1 : Int32) : Option (zSt) :=
  if 4 ≤ x1 then zck (zin 85 1048) (zbv (zsi σ 3 ((85 : Int32).toNatClampNeg) 32768) (fun σ10 =>
  fX12_anew_165 zfuel σ10 98)) else
  zck (zin (78 + x1) 1048) (zbv (zsi σ 3 ((78 + x1).toNatClampNeg) 15) (fun σ11 =>
  zbv (x1 + 1) (fun v12 =>
  k131 σ11 v12)))
def fX12_anew_131  : Nat → zSt → Int32 → Option (zSt)
  | 0, _, _ => none
  | n + 1, σ, x1 => fX12_anew_131_body (fX12_anew_131  n) σ x1
def fX12_anew_79  (σ : zSt) (s0 : Int32) (s1 : Int32) : Option (zSt) :=
  zck (zin s1 1048) (zbv (zsi σ 3 (s1.toNatClampNeg) s0) (fun σ13 =>
  zck (zin 33 1048) (zbv (zsi σ13 3 ((33 : Int32).toNatClampNeg) 255) (fun σ14 =>
  zck (zin 34 1048) (zbv (zsi σ14 3 ((34 : Int32).toNatClampNeg) 255) (fun σ15 =>
  zck (zin 37 1048) (zbv (zsi σ15 3 ((37 : Int32).toNatClampNeg) 127) (fun σ16 =>
  zck (zin 38 1048) (zbv (zsi σ16 3 ((38 : Int32).toNatClampNeg) 255) (fun σ17 =>
  zck (zin 40 1048) (zbv (zsi σ17 3 ((40 : Int32).toNatClampNeg) 255) (fun σ18 =>
  fX12_anew_131 zfuel σ18 0))))))))))))
def fX12_anew_24_body (k24 : zSt → Int32 → Option (zSt)) (σ : zSt) (x1 : Int32) : Option (zSt) :=
  if 87 ≤ x1 then zck (zin 18 1048) (zbv (zsi σ 3 ((18 : Int32).toNatClampNeg) 57328) (fun σ19 =>
  zck (zin 30 1048) (zbv (zsi σ19 3 ((30 : Int32).toNatClampNeg) 1) (fun σ20 =>
  if (zgi σ20 0 7) = 2 then fX12_anew_79 σ20 0 31 else
  fX12_anew_79 σ20 2 31)))) else
  zck (zin x1 1048) (zbv (zsi σ 3 (x1.toNatClampNeg) 0) (fun σ21 =>
  zbv (x1 + 1) (fun v22 =>
  k24 σ21 v22)))
def fX12_anew_24  : Nat → zSt → Int32 → Option (zSt)
  | 0, _, _ => none
  | n + 1, σ, x1 => fX12_anew_24_body (fX12_anew_24  n) σ x1
def fX12_anew_2_body (k2 : zSt → Int32 → Option (zSt)) (σ : zSt) (x1 : Int32) : Option (zSt) :=
  if 42 ≤ x1 then fX12_anew_24 zfuel σ 47 else
  zck (zin x1 1048) (zbv (zsi σ 3 (x1.toNatClampNeg) 0) (fun σ23 =>
  zbv (x1 + 1) (fun v24 =>
  k2 σ23 v24)))
def fX12_anew_2  : Nat → zSt → Int32 → Option (zSt)
  | 0, _, _ => none
  | n + 1, σ, x1 => fX12_anew_2_body (fX12_anew_2  n) σ x1
def fX12_anew  (σ : zSt)  : Option (zSt) :=
  fX12_anew_2 zfuel σ 0
set_option maxRecDepth 20000 in
set_option maxHeartbeats 4000000 in
theorem bX12_anew_236 {st : Nat → Nat} {p : Program} {l : Launch} {e : Env} {s : State} {m : MethodId} {args : Array Value} {below : List Frame} {meth : Method} {c : Code} {D : va_G} {A : Nat → Prop} {ad : Nat → Nat} {cy : Nat → ClassId} (hC : zC p m c cX12_anew 2 s args wzX12_anew RX12 meth none) {k196 : zSt → Int32 → Option (zSt)} {res : zSt} (hk196 : ∀ (H : Heap) (locs : List Loc) (σ : zSt) (ls : Array Slot) (x1 : Int32), zI st D (tM cy) (wM ad cy σ) A s H locs → lv_has ls 2 [(0, .ref (ad 0)), (1, .int x1)] → k196 σ x1 = some res → W p l e rmX12_anew s m args below meth c H locs 0 0 (zQu below args s D (tM cy) (wM ad cy) A res) (F0 m 196 ls [])) {H : Heap} {locs : List Loc} {σ : zSt} {ls : Array Slot} {x1 : Int32} {s0 : Int32} {s1 : Int32} (hI : zI st D (tM cy) (wM ad cy σ) A s H locs) (hl : lv_has ls 2 [(0, .ref (ad 0)), (1, .int x1)]) (hf : fX12_anew_236 k196 σ x1 s0 s1 = some res) : W p l e rmX12_anew s m args below meth c H locs 0 0 (zQu below args s D (tM cy) (wM ad cy) A res) (F0 m 236 ls [.int s0, .int s1, .ref (ad 3)]) := by
  have hx := hC.1
  have hb := hC.2.1
  unfold fX12_anew_236 at hf
  obtain ⟨q, hf⟩ := zck_use hf
  obtain ⟨σ1, eσ1⟩ : ∃ z, z = zsi σ 3 (s1.toNatClampNeg) s0 := ⟨_, rfl⟩
  replace hf := zbv_use eσ1 hf
  refine z_iast hC hI 3 2 (wM_e3 ad cy σ) (tM_t3 cy) q ((wM_s3 ad cy σ _ _).trans (congrArg (wM ad cy) eσ1.symm)) dX12_anew_236 (fun H locs hI => ?_)
  obtain ⟨v2, ev2⟩ : ∃ z : Int32, z = x1 + 1 := ⟨_, rfl⟩
  replace hf := zbv_use ev2 hf
  refine lv_iinc (v := v2) (lv' := [(1, .int v2), (0, .ref (ad 0))]) hx hb dX12_anew_237 hl (k := 1) rfl (by rw [ev2]; rfl) (by decide) rfl (fun ls hl => ?_)
  refine lv_goto (tgt := 196) hx hb dX12_anew_240 (by decide) ?_
  exact hk196 _ _ _ _ _ hI (lv_sub hl [1, 0] rfl) hf
set_option maxRecDepth 20000 in
set_option maxHeartbeats 4000000 in
theorem bX12_anew_267_body {st : Nat → Nat} {p : Program} {l : Launch} {e : Env} {s : State} {m : MethodId} {args : Array Value} {below : List Frame} {meth : Method} {c : Code} {D : va_G} {A : Nat → Prop} {ad : Nat → Nat} {cy : Nat → ClassId} (hC : zC p m c cX12_anew 2 s args wzX12_anew RX12 meth none) {k267 : zSt → Int32 → Option (zSt)} {res : zSt} (hk267 : ∀ (H : Heap) (locs : List Loc) (σ : zSt) (ls : Array Slot) (x1 : Int32), zI st D (tM cy) (wM ad cy σ) A s H locs → lv_has ls 2 [(0, .ref (ad 0)), (1, .int x1)] → k267 σ x1 = some res → W p l e rmX12_anew s m args below meth c H locs 0 0 (zQu below args s D (tM cy) (wM ad cy) A res) (F0 m 267 ls [])) {H : Heap} {locs : List Loc} {σ : zSt} {ls : Array Slot} {x1 : Int32} (hI : zI st D (tM cy) (wM ad cy σ) A s H locs) (hl : lv_has ls 2 [(0, .ref (ad 0)), (1, .int x1)]) (hf : fX12_anew_267_body k267 σ x1 = some res) : W p l e rmX12_anew s m args below meth c H locs 0 0 (zQu below args s D (tM cy) (wM ad cy) A res) (F0 m 267 ls []) := by
  have hx := hC.1
  have hb := hC.2.1
  unfold fX12_anew_267_body at hf
  refine lv_iload_n hx hb dX12_anew_267 rfl (lv_at hl 1 rfl) ?_
  refine lv_bipush (v := 64) hx hb dX12_anew_268 (by decide) ?_
  refine lv_icmp_ge (tgt := 286) hx hb dX12_anew_270 (by decide) (fun q => ?_) (fun q => ?_)
  · replace hf := zif_t q hf
    exact z_return hC hI hf dX12_anew_286
  replace hf := zif_f q hf
  refine lv_aload_n hx hb dX12_anew_273 rfl (lv_at hl 0 rfl) ?_
  refine z_get hC hI hinX12_anew_X120 0 (wM_e0 ad cy σ) rfl 15 (by decide) (List.mem_cons_of_mem _ zw9_13) rfl dX12_anew_274 ?_
  refine lv_iload_n hx hb dX12_anew_277 rfl (lv_at hl 1 rfl) ?_
  refine lv_iconst (v := 0) hx hb dX12_anew_278 (by decide) ?_
  obtain ⟨q, hf⟩ := zck_use hf
  obtain ⟨σ3, eσ3⟩ : ∃ z, z = zsi σ 8 (x1.toNatClampNeg) (vp_nar .byte 0) := ⟨_, rfl⟩
  replace hf := zbv_use eσ3 hf
  refine z_bast hC hI 8 7 (wM_e8 ad cy σ) (tM_t8 cy) q ((wM_s8 ad cy σ _ _).trans (congrArg (wM ad cy) eσ3.symm)) dX12_anew_279 (fun H locs hI => ?_)
  obtain ⟨v4, ev4⟩ : ∃ z : Int32, z = x1 + 1 := ⟨_, rfl⟩
  replace hf := zbv_use ev4 hf
  refine lv_iinc (v := v4) (lv' := [(1, .int v4), (0, .ref (ad 0))]) hx hb dX12_anew_280 hl (k := 1) rfl (by rw [ev4]; rfl) (by decide) rfl (fun ls hl => ?_)
  refine lv_goto (tgt := 267) hx hb dX12_anew_283 (by decide) ?_
  exact hk267 _ _ _ _ _ hI (lv_sub hl [1, 0] rfl) hf
theorem blX12_anew_267 {st : Nat → Nat} {p : Program} {l : Launch} {e : Env} {s : State} {m : MethodId} {args : Array Value} {below : List Frame} {meth : Method} {c : Code} {D : va_G} {A : Nat → Prop} {ad : Nat → Nat} {cy : Nat → ClassId} (hC : zC p m c cX12_anew 2 s args wzX12_anew RX12 meth none)  {res : zSt} : ∀ (n : Nat) (H : Heap) (locs : List Loc) (σ : zSt) (ls : Array Slot) (x1 : Int32), zI st D (tM cy) (wM ad cy σ) A s H locs → lv_has ls 2 [(0, .ref (ad 0)), (1, .int x1)] → fX12_anew_267  n σ x1 = some res → W p l e rmX12_anew s m args below meth c H locs 0 0 (zQu below args s D (tM cy) (wM ad cy) A res) (F0 m 267 ls []) := by
  intro n
  induction n with
  | zero => intro H locs σ ls x1 hI hl hf; cases hf
  | succ n ih => intro H locs σ ls x1 hI hl hf; exact bX12_anew_267_body hC ih hI hl hf
set_option maxRecDepth 20000 in
set_option maxHeartbeats 4000000 in
theorem bX12_anew_245_body {st : Nat → Nat} {p : Program} {l : Launch} {e : Env} {s : State} {m : MethodId} {args : Array Value} {below : List Frame} {meth : Method} {c : Code} {D : va_G} {A : Nat → Prop} {ad : Nat → Nat} {cy : Nat → ClassId} (hC : zC p m c cX12_anew 2 s args wzX12_anew RX12 meth none) {k245 : zSt → Int32 → Option (zSt)} {res : zSt} (hk245 : ∀ (H : Heap) (locs : List Loc) (σ : zSt) (ls : Array Slot) (x1 : Int32), zI st D (tM cy) (wM ad cy σ) A s H locs → lv_has ls 2 [(0, .ref (ad 0)), (1, .int x1)] → k245 σ x1 = some res → W p l e rmX12_anew s m args below meth c H locs 0 0 (zQu below args s D (tM cy) (wM ad cy) A res) (F0 m 245 ls [])) {H : Heap} {locs : List Loc} {σ : zSt} {ls : Array Slot} {x1 : Int32} (hI : zI st D (tM cy) (wM ad cy σ) A s H locs) (hl : lv_has ls 2 [(0, .ref (ad 0)), (1, .int x1)]) (hf : fX12_anew_245_body k245 σ x1 = some res) : W p l e rmX12_anew s m args below meth c H locs 0 0 (zQu below args s D (tM cy) (wM ad cy) A res) (F0 m 245 ls []) := by
  have hx := hC.1
  have hb := hC.2.1
  unfold fX12_anew_245_body at hf
  refine lv_iload_n hx hb dX12_anew_245 rfl (lv_at hl 1 rfl) ?_
  refine lv_sipush (v := 16384) hx hb dX12_anew_246 (by decide) ?_
  refine lv_icmp_ge (tgt := 265) hx hb dX12_anew_249 (by decide) (fun q => ?_) (fun q => ?_)
  · replace hf := zif_t q hf
    refine lv_iconst (v := 0) hx hb dX12_anew_265 (by decide) ?_
    refine lv_istore_n (lv' := [(1, .int 0), (0, .ref (ad 0))]) hx hb dX12_anew_266 rfl hl (by decide) rfl (fun ls hl => ?_)
    exact blX12_anew_267 hC  zfuel _ _ _ _ _ hI (lv_sub hl [1, 0] rfl) hf
  replace hf := zif_f q hf
  refine lv_aload_n hx hb dX12_anew_252 rfl (lv_at hl 0 rfl) ?_
  refine z_get hC hI hinX12_anew_X120 0 (wM_e0 ad cy σ) rfl 14 (by decide) (List.mem_cons_of_mem _ zw9_12) rfl dX12_anew_253 ?_
  refine lv_iload_n hx hb dX12_anew_256 rfl (lv_at hl 1 rfl) ?_
  refine lv_iconst (v := 0) hx hb dX12_anew_257 (by decide) ?_
  obtain ⟨q, hf⟩ := zck_use hf
  obtain ⟨σ5, eσ5⟩ : ∃ z, z = zsi σ 7 (x1.toNatClampNeg) (vp_nar .byte 0) := ⟨_, rfl⟩
  replace hf := zbv_use eσ5 hf
  refine z_bast hC hI 7 6 (wM_e7 ad cy σ) (tM_t7 cy) q ((wM_s7 ad cy σ _ _).trans (congrArg (wM ad cy) eσ5.symm)) dX12_anew_258 (fun H locs hI => ?_)
  obtain ⟨v6, ev6⟩ : ∃ z : Int32, z = x1 + 1 := ⟨_, rfl⟩
  replace hf := zbv_use ev6 hf
  refine lv_iinc (v := v6) (lv' := [(1, .int v6), (0, .ref (ad 0))]) hx hb dX12_anew_259 hl (k := 1) rfl (by rw [ev6]; rfl) (by decide) rfl (fun ls hl => ?_)
  refine lv_goto (tgt := 245) hx hb dX12_anew_262 (by decide) ?_
  exact hk245 _ _ _ _ _ hI (lv_sub hl [1, 0] rfl) hf
theorem blX12_anew_245 {st : Nat → Nat} {p : Program} {l : Launch} {e : Env} {s : State} {m : MethodId} {args : Array Value} {below : List Frame} {meth : Method} {c : Code} {D : va_G} {A : Nat → Prop} {ad : Nat → Nat} {cy : Nat → ClassId} (hC : zC p m c cX12_anew 2 s args wzX12_anew RX12 meth none)  {res : zSt} : ∀ (n : Nat) (H : Heap) (locs : List Loc) (σ : zSt) (ls : Array Slot) (x1 : Int32), zI st D (tM cy) (wM ad cy σ) A s H locs → lv_has ls 2 [(0, .ref (ad 0)), (1, .int x1)] → fX12_anew_245  n σ x1 = some res → W p l e rmX12_anew s m args below meth c H locs 0 0 (zQu below args s D (tM cy) (wM ad cy) A res) (F0 m 245 ls []) := by
  intro n
  induction n with
  | zero => intro H locs σ ls x1 hI hl hf; cases hf
  | succ n ih => intro H locs σ ls x1 hI hl hf; exact bX12_anew_245_body hC ih hI hl hf
set_option maxRecDepth 20000 in
set_option maxHeartbeats 4000000 in
theorem bX12_anew_196_body {st : Nat → Nat} {p : Program} {l : Launch} {e : Env} {s : State} {m : MethodId} {args : Array Value} {below : List Frame} {meth : Method} {c : Code} {D : va_G} {A : Nat → Prop} {ad : Nat → Nat} {cy : Nat → ClassId} (hC : zC p m c cX12_anew 2 s args wzX12_anew RX12 meth none) {k196 : zSt → Int32 → Option (zSt)} {res : zSt} (hk196 : ∀ (H : Heap) (locs : List Loc) (σ : zSt) (ls : Array Slot) (x1 : Int32), zI st D (tM cy) (wM ad cy σ) A s H locs → lv_has ls 2 [(0, .ref (ad 0)), (1, .int x1)] → k196 σ x1 = some res → W p l e rmX12_anew s m args below meth c H locs 0 0 (zQu below args s D (tM cy) (wM ad cy) A res) (F0 m 196 ls [])) {H : Heap} {locs : List Loc} {σ : zSt} {ls : Array Slot} {x1 : Int32} (hI : zI st D (tM cy) (wM ad cy σ) A s H locs) (hl : lv_has ls 2 [(0, .ref (ad 0)), (1, .int x1)]) (hf : fX12_anew_196_body k196 σ x1 = some res) : W p l e rmX12_anew s m args below meth c H locs 0 0 (zQu below args s D (tM cy) (wM ad cy) A res) (F0 m 196 ls []) := by
  have hx := hC.1
  have hb := hC.2.1
  unfold fX12_anew_196_body at hf
  refine lv_iload_n hx hb dX12_anew_196 rfl (lv_at hl 1 rfl) ?_
  refine lv_bipush (v := 108) hx hb dX12_anew_197 (by decide) ?_
  refine lv_icmp_ge (tgt := 243) hx hb dX12_anew_199 (by decide) (fun q => ?_) (fun q => ?_)
  · replace hf := zif_t q hf
    refine lv_iconst (v := 0) hx hb dX12_anew_243 (by decide) ?_
    refine lv_istore_n (lv' := [(1, .int 0), (0, .ref (ad 0))]) hx hb dX12_anew_244 rfl hl (by decide) rfl (fun ls hl => ?_)
    exact blX12_anew_245 hC  zfuel _ _ _ _ _ hI (lv_sub hl [1, 0] rfl) hf
  replace hf := zif_f q hf
  refine lv_aload_n hx hb dX12_anew_202 rfl (lv_at hl 0 rfl) ?_
  refine z_get hC hI hinX12_anew_X120 0 (wM_e0 ad cy σ) rfl 10 (by decide) (List.mem_cons_of_mem _ zw9_7) rfl dX12_anew_203 ?_
  refine lv_sipush (v := 172) hx hb dX12_anew_206 (by decide) ?_
  refine lv_iload_n hx hb dX12_anew_209 rfl (lv_at hl 1 rfl) ?_
  refine lv_iadd hx hb dX12_anew_210 ?_
  refine lv_iload_n hx hb dX12_anew_211 rfl (lv_at hl 1 rfl) ?_
  refine lv_bipush (v := 6) hx hb dX12_anew_212 (by decide) ?_
  obtain ⟨q, hf⟩ := zck_use hf
  refine z_irem hx hb dX12_anew_214 (of_decide_eq_true q) ?_
  refine lv_if_ne (tgt := 223) hx hb dX12_anew_215 (by decide) (fun q => ?_) (fun q => ?_)
  · replace hf := zif_f q hf
    refine lv_iload_n hx hb dX12_anew_223 rfl (lv_at hl 1 rfl) ?_
    refine lv_bipush (v := 6) hx hb dX12_anew_224 (by decide) ?_
    obtain ⟨q, hf⟩ := zck_use hf
    refine z_irem hx hb dX12_anew_226 (of_decide_eq_true q) ?_
    refine lv_iconst (v := 1) hx hb dX12_anew_227 (by decide) ?_
    refine lv_icmp_ne (tgt := 235) hx hb dX12_anew_228 (by decide) (fun q => ?_) (fun q => ?_)
    · replace hf := zif_f q hf
      refine lv_iconst (v := 0) hx hb dX12_anew_235 (by decide) ?_
      exact bX12_anew_236 hC hk196 hI hl hf
    replace hf := zif_t q hf
    refine lv_iconst (v := 4) hx hb dX12_anew_231 (by decide) ?_
    refine lv_goto (tgt := 236) hx hb dX12_anew_232 (by decide) ?_
    exact bX12_anew_236 hC hk196 hI hl hf
  replace hf := zif_t q hf
  refine lv_bipush (v := 127) hx hb dX12_anew_218 (by decide) ?_
  refine lv_goto (tgt := 236) hx hb dX12_anew_220 (by decide) ?_
  exact bX12_anew_236 hC hk196 hI hl hf
theorem blX12_anew_196 {st : Nat → Nat} {p : Program} {l : Launch} {e : Env} {s : State} {m : MethodId} {args : Array Value} {below : List Frame} {meth : Method} {c : Code} {D : va_G} {A : Nat → Prop} {ad : Nat → Nat} {cy : Nat → ClassId} (hC : zC p m c cX12_anew 2 s args wzX12_anew RX12 meth none)  {res : zSt} : ∀ (n : Nat) (H : Heap) (locs : List Loc) (σ : zSt) (ls : Array Slot) (x1 : Int32), zI st D (tM cy) (wM ad cy σ) A s H locs → lv_has ls 2 [(0, .ref (ad 0)), (1, .int x1)] → fX12_anew_196  n σ x1 = some res → W p l e rmX12_anew s m args below meth c H locs 0 0 (zQu below args s D (tM cy) (wM ad cy) A res) (F0 m 196 ls []) := by
  intro n
  induction n with
  | zero => intro H locs σ ls x1 hI hl hf; cases hf
  | succ n ih => intro H locs σ ls x1 hI hl hf; exact bX12_anew_196_body hC ih hI hl hf
set_option maxRecDepth 20000 in
set_option maxHeartbeats 4000000 in
theorem bX12_anew_165_body {st : Nat → Nat} {p : Program} {l : Launch} {e : Env} {s : State} {m : MethodId} {args : Array Value} {below : List Frame} {meth : Method} {c : Code} {D : va_G} {A : Nat → Prop} {ad : Nat → Nat} {cy : Nat → ClassId} (hC : zC p m c cX12_anew 2 s args wzX12_anew RX12 meth none) {k165 : zSt → Int32 → Option (zSt)} {res : zSt} (hk165 : ∀ (H : Heap) (locs : List Loc) (σ : zSt) (ls : Array Slot) (x1 : Int32), zI st D (tM cy) (wM ad cy σ) A s H locs → lv_has ls 2 [(0, .ref (ad 0)), (1, .int x1)] → k165 σ x1 = some res → W p l e rmX12_anew s m args below meth c H locs 0 0 (zQu below args s D (tM cy) (wM ad cy) A res) (F0 m 165 ls [])) {H : Heap} {locs : List Loc} {σ : zSt} {ls : Array Slot} {x1 : Int32} (hI : zI st D (tM cy) (wM ad cy σ) A s H locs) (hl : lv_has ls 2 [(0, .ref (ad 0)), (1, .int x1)]) (hf : fX12_anew_165_body k165 σ x1 = some res) : W p l e rmX12_anew s m args below meth c H locs 0 0 (zQu below args s D (tM cy) (wM ad cy) A res) (F0 m 165 ls []) := by
  have hx := hC.1
  have hb := hC.2.1
  unfold fX12_anew_165_body at hf
  refine lv_iload_n hx hb dX12_anew_165 rfl (lv_at hl 1 rfl) ?_
  refine lv_sipush (v := 166) hx hb dX12_anew_166 (by decide) ?_
  refine lv_icmp_ge (tgt := 185) hx hb dX12_anew_169 (by decide) (fun q => ?_) (fun q => ?_)
  · replace hf := zif_t q hf
    refine lv_aload_n hx hb dX12_anew_185 rfl (lv_at hl 0 rfl) ?_
    refine z_get hC hI hinX12_anew_X120 0 (wM_e0 ad cy σ) rfl 10 (by decide) (List.mem_cons_of_mem _ zw9_7) rfl dX12_anew_186 ?_
    refine lv_sipush (v := 164) hx hb dX12_anew_189 (by decide) ?_
    refine lv_iconst (v := 1) hx hb dX12_anew_192 (by decide) ?_
    obtain ⟨q, hf⟩ := zck_use hf
    obtain ⟨σ7, eσ7⟩ : ∃ z, z = zsi σ 3 ((164 : Int32).toNatClampNeg) 1 := ⟨_, rfl⟩
    replace hf := zbv_use eσ7 hf
    refine z_iast hC hI 3 2 (wM_e3 ad cy σ) (tM_t3 cy) q ((wM_s3 ad cy σ _ _).trans (congrArg (wM ad cy) eσ7.symm)) dX12_anew_193 (fun H locs hI => ?_)
    refine lv_iconst (v := 0) hx hb dX12_anew_194 (by decide) ?_
    refine lv_istore_n (lv' := [(1, .int 0), (0, .ref (ad 0))]) hx hb dX12_anew_195 rfl hl (by decide) rfl (fun ls hl => ?_)
    exact blX12_anew_196 hC  zfuel _ _ _ _ _ hI (lv_sub hl [1, 0] rfl) hf
  replace hf := zif_f q hf
  refine lv_aload_n hx hb dX12_anew_172 rfl (lv_at hl 0 rfl) ?_
  refine z_get hC hI hinX12_anew_X120 0 (wM_e0 ad cy σ) rfl 10 (by decide) (List.mem_cons_of_mem _ zw9_7) rfl dX12_anew_173 ?_
  refine lv_iload_n hx hb dX12_anew_176 rfl (lv_at hl 1 rfl) ?_
  refine lv_iconst (v := 0) hx hb dX12_anew_177 (by decide) ?_
  obtain ⟨q, hf⟩ := zck_use hf
  obtain ⟨σ8, eσ8⟩ : ∃ z, z = zsi σ 3 (x1.toNatClampNeg) 0 := ⟨_, rfl⟩
  replace hf := zbv_use eσ8 hf
  refine z_iast hC hI 3 2 (wM_e3 ad cy σ) (tM_t3 cy) q ((wM_s3 ad cy σ _ _).trans (congrArg (wM ad cy) eσ8.symm)) dX12_anew_178 (fun H locs hI => ?_)
  obtain ⟨v9, ev9⟩ : ∃ z : Int32, z = x1 + 1 := ⟨_, rfl⟩
  replace hf := zbv_use ev9 hf
  refine lv_iinc (v := v9) (lv' := [(1, .int v9), (0, .ref (ad 0))]) hx hb dX12_anew_179 hl (k := 1) rfl (by rw [ev9]; rfl) (by decide) rfl (fun ls hl => ?_)
  refine lv_goto (tgt := 165) hx hb dX12_anew_182 (by decide) ?_
  exact hk165 _ _ _ _ _ hI (lv_sub hl [1, 0] rfl) hf
theorem blX12_anew_165 {st : Nat → Nat} {p : Program} {l : Launch} {e : Env} {s : State} {m : MethodId} {args : Array Value} {below : List Frame} {meth : Method} {c : Code} {D : va_G} {A : Nat → Prop} {ad : Nat → Nat} {cy : Nat → ClassId} (hC : zC p m c cX12_anew 2 s args wzX12_anew RX12 meth none)  {res : zSt} : ∀ (n : Nat) (H : Heap) (locs : List Loc) (σ : zSt) (ls : Array Slot) (x1 : Int32), zI st D (tM cy) (wM ad cy σ) A s H locs → lv_has ls 2 [(0, .ref (ad 0)), (1, .int x1)] → fX12_anew_165  n σ x1 = some res → W p l e rmX12_anew s m args below meth c H locs 0 0 (zQu below args s D (tM cy) (wM ad cy) A res) (F0 m 165 ls []) := by
  intro n
  induction n with
  | zero => intro H locs σ ls x1 hI hl hf; cases hf
  | succ n ih => intro H locs σ ls x1 hI hl hf; exact bX12_anew_165_body hC ih hI hl hf
set_option maxRecDepth 20000 in
set_option maxHeartbeats 4000000 in
theorem bX12_anew_131_body {st : Nat → Nat} {p : Program} {l : Launch} {e : Env} {s : State} {m : MethodId} {args : Array Value} {below : List Frame} {meth : Method} {c : Code} {D : va_G} {A : Nat → Prop} {ad : Nat → Nat} {cy : Nat → ClassId} (hC : zC p m c cX12_anew 2 s args wzX12_anew RX12 meth none) {k131 : zSt → Int32 → Option (zSt)} {res : zSt} (hk131 : ∀ (H : Heap) (locs : List Loc) (σ : zSt) (ls : Array Slot) (x1 : Int32), zI st D (tM cy) (wM ad cy σ) A s H locs → lv_has ls 2 [(0, .ref (ad 0)), (1, .int x1)] → k131 σ x1 = some res → W p l e rmX12_anew s m args below meth c H locs 0 0 (zQu below args s D (tM cy) (wM ad cy) A res) (F0 m 131 ls [])) {H : Heap} {locs : List Loc} {σ : zSt} {ls : Array Slot} {x1 : Int32} (hI : zI st D (tM cy) (wM ad cy σ) A s H locs) (hl : lv_has ls 2 [(0, .ref (ad 0)), (1, .int x1)]) (hf : fX12_anew_131_body k131 σ x1 = some res) : W p l e rmX12_anew s m args below meth c H locs 0 0 (zQu below args s D (tM cy) (wM ad cy) A res) (F0 m 131 ls []) := by
  have hx := hC.1
  have hb := hC.2.1
  unfold fX12_anew_131_body at hf
  refine lv_iload_n hx hb dX12_anew_131 rfl (lv_at hl 1 rfl) ?_
  refine lv_iconst (v := 4) hx hb dX12_anew_132 (by decide) ?_
  refine lv_icmp_ge (tgt := 153) hx hb dX12_anew_133 (by decide) (fun q => ?_) (fun q => ?_)
  · replace hf := zif_t q hf
    refine lv_aload_n hx hb dX12_anew_153 rfl (lv_at hl 0 rfl) ?_
    refine z_get hC hI hinX12_anew_X120 0 (wM_e0 ad cy σ) rfl 10 (by decide) (List.mem_cons_of_mem _ zw9_7) rfl dX12_anew_154 ?_
    refine lv_bipush (v := 85) hx hb dX12_anew_157 (by decide) ?_
    refine lv_ldc (v := 32768) hx hb hC.2.2.2.1 (hC.2.2.2.2.1 _ (List.mem_cons_of_mem _ zw9_10)) dX12_anew_159 ?_
    obtain ⟨q, hf⟩ := zck_use hf
    obtain ⟨σ10, eσ10⟩ : ∃ z, z = zsi σ 3 ((85 : Int32).toNatClampNeg) 32768 := ⟨_, rfl⟩
    replace hf := zbv_use eσ10 hf
    refine z_iast hC hI 3 2 (wM_e3 ad cy σ) (tM_t3 cy) q ((wM_s3 ad cy σ _ _).trans (congrArg (wM ad cy) eσ10.symm)) dX12_anew_161 (fun H locs hI => ?_)
    refine lv_bipush (v := 98) hx hb dX12_anew_162 (by decide) ?_
    refine lv_istore_n (lv' := [(1, .int 98), (0, .ref (ad 0))]) hx hb dX12_anew_164 rfl hl (by decide) rfl (fun ls hl => ?_)
    exact blX12_anew_165 hC  zfuel _ _ _ _ _ hI (lv_sub hl [1, 0] rfl) hf
  replace hf := zif_f q hf
  refine lv_aload_n hx hb dX12_anew_136 rfl (lv_at hl 0 rfl) ?_
  refine z_get hC hI hinX12_anew_X120 0 (wM_e0 ad cy σ) rfl 10 (by decide) (List.mem_cons_of_mem _ zw9_7) rfl dX12_anew_137 ?_
  refine lv_bipush (v := 78) hx hb dX12_anew_140 (by decide) ?_
  refine lv_iload_n hx hb dX12_anew_142 rfl (lv_at hl 1 rfl) ?_
  refine lv_iadd hx hb dX12_anew_143 ?_
  refine lv_bipush (v := 15) hx hb dX12_anew_144 (by decide) ?_
  obtain ⟨q, hf⟩ := zck_use hf
  obtain ⟨σ11, eσ11⟩ : ∃ z, z = zsi σ 3 ((78 + x1).toNatClampNeg) 15 := ⟨_, rfl⟩
  replace hf := zbv_use eσ11 hf
  refine z_iast hC hI 3 2 (wM_e3 ad cy σ) (tM_t3 cy) q ((wM_s3 ad cy σ _ _).trans (congrArg (wM ad cy) eσ11.symm)) dX12_anew_146 (fun H locs hI => ?_)
  obtain ⟨v12, ev12⟩ : ∃ z : Int32, z = x1 + 1 := ⟨_, rfl⟩
  replace hf := zbv_use ev12 hf
  refine lv_iinc (v := v12) (lv' := [(1, .int v12), (0, .ref (ad 0))]) hx hb dX12_anew_147 hl (k := 1) rfl (by rw [ev12]; rfl) (by decide) rfl (fun ls hl => ?_)
  refine lv_goto (tgt := 131) hx hb dX12_anew_150 (by decide) ?_
  exact hk131 _ _ _ _ _ hI (lv_sub hl [1, 0] rfl) hf
theorem blX12_anew_131 {st : Nat → Nat} {p : Program} {l : Launch} {e : Env} {s : State} {m : MethodId} {args : Array Value} {below : List Frame} {meth : Method} {c : Code} {D : va_G} {A : Nat → Prop} {ad : Nat → Nat} {cy : Nat → ClassId} (hC : zC p m c cX12_anew 2 s args wzX12_anew RX12 meth none)  {res : zSt} : ∀ (n : Nat) (H : Heap) (locs : List Loc) (σ : zSt) (ls : Array Slot) (x1 : Int32), zI st D (tM cy) (wM ad cy σ) A s H locs → lv_has ls 2 [(0, .ref (ad 0)), (1, .int x1)] → fX12_anew_131  n σ x1 = some res → W p l e rmX12_anew s m args below meth c H locs 0 0 (zQu below args s D (tM cy) (wM ad cy) A res) (F0 m 131 ls []) := by
  intro n
  induction n with
  | zero => intro H locs σ ls x1 hI hl hf; cases hf
  | succ n ih => intro H locs σ ls x1 hI hl hf; exact bX12_anew_131_body hC ih hI hl hf
set_option maxRecDepth 20000 in
set_option maxHeartbeats 4000000 in
theorem bX12_anew_79 {st : Nat → Nat} {p : Program} {l : Launch} {e : Env} {s : State} {m : MethodId} {args : Array Value} {below : List Frame} {meth : Method} {c : Code} {D : va_G} {A : Nat → Prop} {ad : Nat → Nat} {cy : Nat → ClassId} (hC : zC p m c cX12_anew 2 s args wzX12_anew RX12 meth none)  {res : zSt} {H : Heap} {locs : List Loc} {σ : zSt} {ls : Array Slot} {s0 : Int32} {s1 : Int32} (hI : zI st D (tM cy) (wM ad cy σ) A s H locs) (hl : lv_has ls 2 [(0, .ref (ad 0))]) (hf : fX12_anew_79  σ s0 s1 = some res) : W p l e rmX12_anew s m args below meth c H locs 0 0 (zQu below args s D (tM cy) (wM ad cy) A res) (F0 m 79 ls [.int s0, .int s1, .ref (ad 3)]) := by
  have hx := hC.1
  have hb := hC.2.1
  unfold fX12_anew_79 at hf
  obtain ⟨q, hf⟩ := zck_use hf
  obtain ⟨σ13, eσ13⟩ : ∃ z, z = zsi σ 3 (s1.toNatClampNeg) s0 := ⟨_, rfl⟩
  replace hf := zbv_use eσ13 hf
  refine z_iast hC hI 3 2 (wM_e3 ad cy σ) (tM_t3 cy) q ((wM_s3 ad cy σ _ _).trans (congrArg (wM ad cy) eσ13.symm)) dX12_anew_79 (fun H locs hI => ?_)
  refine lv_aload_n hx hb dX12_anew_80 rfl (lv_at hl 0 rfl) ?_
  refine z_get hC hI hinX12_anew_X120 0 (wM_e0 ad cy σ13) rfl 10 (by decide) (List.mem_cons_of_mem _ zw9_7) rfl dX12_anew_81 ?_
  refine lv_bipush (v := 33) hx hb dX12_anew_84 (by decide) ?_
  refine lv_sipush (v := 255) hx hb dX12_anew_86 (by decide) ?_
  obtain ⟨q, hf⟩ := zck_use hf
  obtain ⟨σ14, eσ14⟩ : ∃ z, z = zsi σ13 3 ((33 : Int32).toNatClampNeg) 255 := ⟨_, rfl⟩
  replace hf := zbv_use eσ14 hf
  refine z_iast hC hI 3 2 (wM_e3 ad cy σ13) (tM_t3 cy) q ((wM_s3 ad cy σ13 _ _).trans (congrArg (wM ad cy) eσ14.symm)) dX12_anew_89 (fun H locs hI => ?_)
  refine lv_aload_n hx hb dX12_anew_90 rfl (lv_at hl 0 rfl) ?_
  refine z_get hC hI hinX12_anew_X120 0 (wM_e0 ad cy σ14) rfl 10 (by decide) (List.mem_cons_of_mem _ zw9_7) rfl dX12_anew_91 ?_
  refine lv_bipush (v := 34) hx hb dX12_anew_94 (by decide) ?_
  refine lv_sipush (v := 255) hx hb dX12_anew_96 (by decide) ?_
  obtain ⟨q, hf⟩ := zck_use hf
  obtain ⟨σ15, eσ15⟩ : ∃ z, z = zsi σ14 3 ((34 : Int32).toNatClampNeg) 255 := ⟨_, rfl⟩
  replace hf := zbv_use eσ15 hf
  refine z_iast hC hI 3 2 (wM_e3 ad cy σ14) (tM_t3 cy) q ((wM_s3 ad cy σ14 _ _).trans (congrArg (wM ad cy) eσ15.symm)) dX12_anew_99 (fun H locs hI => ?_)
  refine lv_aload_n hx hb dX12_anew_100 rfl (lv_at hl 0 rfl) ?_
  refine z_get hC hI hinX12_anew_X120 0 (wM_e0 ad cy σ15) rfl 10 (by decide) (List.mem_cons_of_mem _ zw9_7) rfl dX12_anew_101 ?_
  refine lv_bipush (v := 37) hx hb dX12_anew_104 (by decide) ?_
  refine lv_bipush (v := 127) hx hb dX12_anew_106 (by decide) ?_
  obtain ⟨q, hf⟩ := zck_use hf
  obtain ⟨σ16, eσ16⟩ : ∃ z, z = zsi σ15 3 ((37 : Int32).toNatClampNeg) 127 := ⟨_, rfl⟩
  replace hf := zbv_use eσ16 hf
  refine z_iast hC hI 3 2 (wM_e3 ad cy σ15) (tM_t3 cy) q ((wM_s3 ad cy σ15 _ _).trans (congrArg (wM ad cy) eσ16.symm)) dX12_anew_108 (fun H locs hI => ?_)
  refine lv_aload_n hx hb dX12_anew_109 rfl (lv_at hl 0 rfl) ?_
  refine z_get hC hI hinX12_anew_X120 0 (wM_e0 ad cy σ16) rfl 10 (by decide) (List.mem_cons_of_mem _ zw9_7) rfl dX12_anew_110 ?_
  refine lv_bipush (v := 38) hx hb dX12_anew_113 (by decide) ?_
  refine lv_sipush (v := 255) hx hb dX12_anew_115 (by decide) ?_
  obtain ⟨q, hf⟩ := zck_use hf
  obtain ⟨σ17, eσ17⟩ : ∃ z, z = zsi σ16 3 ((38 : Int32).toNatClampNeg) 255 := ⟨_, rfl⟩
  replace hf := zbv_use eσ17 hf
  refine z_iast hC hI 3 2 (wM_e3 ad cy σ16) (tM_t3 cy) q ((wM_s3 ad cy σ16 _ _).trans (congrArg (wM ad cy) eσ17.symm)) dX12_anew_118 (fun H locs hI => ?_)
  refine lv_aload_n hx hb dX12_anew_119 rfl (lv_at hl 0 rfl) ?_
  refine z_get hC hI hinX12_anew_X120 0 (wM_e0 ad cy σ17) rfl 10 (by decide) (List.mem_cons_of_mem _ zw9_7) rfl dX12_anew_120 ?_
  refine lv_bipush (v := 40) hx hb dX12_anew_123 (by decide) ?_
  refine lv_sipush (v := 255) hx hb dX12_anew_125 (by decide) ?_
  obtain ⟨q, hf⟩ := zck_use hf
  obtain ⟨σ18, eσ18⟩ : ∃ z, z = zsi σ17 3 ((40 : Int32).toNatClampNeg) 255 := ⟨_, rfl⟩
  replace hf := zbv_use eσ18 hf
  refine z_iast hC hI 3 2 (wM_e3 ad cy σ17) (tM_t3 cy) q ((wM_s3 ad cy σ17 _ _).trans (congrArg (wM ad cy) eσ18.symm)) dX12_anew_128 (fun H locs hI => ?_)
  refine lv_iconst (v := 0) hx hb dX12_anew_129 (by decide) ?_
  refine lv_istore_n (lv' := [(1, .int 0), (0, .ref (ad 0))]) hx hb dX12_anew_130 rfl hl (by decide) rfl (fun ls hl => ?_)
  exact blX12_anew_131 hC  zfuel _ _ _ _ _ hI (lv_sub hl [1, 0] rfl) hf
set_option maxRecDepth 20000 in
set_option maxHeartbeats 4000000 in
theorem bX12_anew_24_body {st : Nat → Nat} {p : Program} {l : Launch} {e : Env} {s : State} {m : MethodId} {args : Array Value} {below : List Frame} {meth : Method} {c : Code} {D : va_G} {A : Nat → Prop} {ad : Nat → Nat} {cy : Nat → ClassId} (hC : zC p m c cX12_anew 2 s args wzX12_anew RX12 meth none) {k24 : zSt → Int32 → Option (zSt)} {res : zSt} (hk24 : ∀ (H : Heap) (locs : List Loc) (σ : zSt) (ls : Array Slot) (x1 : Int32), zI st D (tM cy) (wM ad cy σ) A s H locs → lv_has ls 2 [(0, .ref (ad 0)), (1, .int x1)] → k24 σ x1 = some res → W p l e rmX12_anew s m args below meth c H locs 0 0 (zQu below args s D (tM cy) (wM ad cy) A res) (F0 m 24 ls [])) {H : Heap} {locs : List Loc} {σ : zSt} {ls : Array Slot} {x1 : Int32} (hI : zI st D (tM cy) (wM ad cy σ) A s H locs) (hl : lv_has ls 2 [(0, .ref (ad 0)), (1, .int x1)]) (hf : fX12_anew_24_body k24 σ x1 = some res) : W p l e rmX12_anew s m args below meth c H locs 0 0 (zQu below args s D (tM cy) (wM ad cy) A res) (F0 m 24 ls []) := by
  have hx := hC.1
  have hb := hC.2.1
  unfold fX12_anew_24_body at hf
  refine lv_iload_n hx hb dX12_anew_24 rfl (lv_at hl 1 rfl) ?_
  refine lv_bipush (v := 87) hx hb dX12_anew_25 (by decide) ?_
  refine lv_icmp_ge (tgt := 43) hx hb dX12_anew_27 (by decide) (fun q => ?_) (fun q => ?_)
  · replace hf := zif_t q hf
    refine lv_aload_n hx hb dX12_anew_43 rfl (lv_at hl 0 rfl) ?_
    refine z_get hC hI hinX12_anew_X120 0 (wM_e0 ad cy σ) rfl 10 (by decide) (List.mem_cons_of_mem _ zw9_7) rfl dX12_anew_44 ?_
    refine lv_bipush (v := 18) hx hb dX12_anew_47 (by decide) ?_
    refine lv_ldc (v := 57328) hx hb hC.2.2.2.1 (hC.2.2.2.2.1 _ (List.mem_cons_of_mem _ zw10_15)) dX12_anew_49 ?_
    obtain ⟨q, hf⟩ := zck_use hf
    obtain ⟨σ19, eσ19⟩ : ∃ z, z = zsi σ 3 ((18 : Int32).toNatClampNeg) 57328 := ⟨_, rfl⟩
    replace hf := zbv_use eσ19 hf
    refine z_iast hC hI 3 2 (wM_e3 ad cy σ) (tM_t3 cy) q ((wM_s3 ad cy σ _ _).trans (congrArg (wM ad cy) eσ19.symm)) dX12_anew_51 (fun H locs hI => ?_)
    refine lv_aload_n hx hb dX12_anew_52 rfl (lv_at hl 0 rfl) ?_
    refine z_get hC hI hinX12_anew_X120 0 (wM_e0 ad cy σ19) rfl 10 (by decide) (List.mem_cons_of_mem _ zw9_7) rfl dX12_anew_53 ?_
    refine lv_bipush (v := 30) hx hb dX12_anew_56 (by decide) ?_
    refine lv_iconst (v := 1) hx hb dX12_anew_58 (by decide) ?_
    obtain ⟨q, hf⟩ := zck_use hf
    obtain ⟨σ20, eσ20⟩ : ∃ z, z = zsi σ19 3 ((30 : Int32).toNatClampNeg) 1 := ⟨_, rfl⟩
    replace hf := zbv_use eσ20 hf
    refine z_iast hC hI 3 2 (wM_e3 ad cy σ19) (tM_t3 cy) q ((wM_s3 ad cy σ19 _ _).trans (congrArg (wM ad cy) eσ20.symm)) dX12_anew_59 (fun H locs hI => ?_)
    refine lv_aload_n hx hb dX12_anew_60 rfl (lv_at hl 0 rfl) ?_
    refine z_get hC hI hinX12_anew_X120 0 (wM_e0 ad cy σ20) rfl 10 (by decide) (List.mem_cons_of_mem _ zw9_7) rfl dX12_anew_61 ?_
    refine lv_bipush (v := 31) hx hb dX12_anew_64 (by decide) ?_
    refine lv_aload_n hx hb dX12_anew_66 rfl (lv_at hl 0 rfl) ?_
    refine z_get hC hI hinX12_anew_X120 0 (wM_e0 ad cy σ20) rfl 7 (by decide) (List.mem_cons_of_mem _ zw10_16) rfl dX12_anew_67 ?_
    refine lv_iconst (v := 2) hx hb dX12_anew_70 (by decide) ?_
    refine lv_icmp_ne (tgt := 78) hx hb dX12_anew_71 (by decide) (fun q => ?_) (fun q => ?_)
    · replace hf := zif_f q hf
      refine lv_iconst (v := 2) hx hb dX12_anew_78 (by decide) ?_
      exact bX12_anew_79 hC  hI (lv_sub hl [0] rfl) hf
    replace hf := zif_t q hf
    refine lv_iconst (v := 0) hx hb dX12_anew_74 (by decide) ?_
    refine lv_goto (tgt := 79) hx hb dX12_anew_75 (by decide) ?_
    exact bX12_anew_79 hC  hI (lv_sub hl [0] rfl) hf
  replace hf := zif_f q hf
  refine lv_aload_n hx hb dX12_anew_30 rfl (lv_at hl 0 rfl) ?_
  refine z_get hC hI hinX12_anew_X120 0 (wM_e0 ad cy σ) rfl 10 (by decide) (List.mem_cons_of_mem _ zw9_7) rfl dX12_anew_31 ?_
  refine lv_iload_n hx hb dX12_anew_34 rfl (lv_at hl 1 rfl) ?_
  refine lv_iconst (v := 0) hx hb dX12_anew_35 (by decide) ?_
  obtain ⟨q, hf⟩ := zck_use hf
  obtain ⟨σ21, eσ21⟩ : ∃ z, z = zsi σ 3 (x1.toNatClampNeg) 0 := ⟨_, rfl⟩
  replace hf := zbv_use eσ21 hf
  refine z_iast hC hI 3 2 (wM_e3 ad cy σ) (tM_t3 cy) q ((wM_s3 ad cy σ _ _).trans (congrArg (wM ad cy) eσ21.symm)) dX12_anew_36 (fun H locs hI => ?_)
  obtain ⟨v22, ev22⟩ : ∃ z : Int32, z = x1 + 1 := ⟨_, rfl⟩
  replace hf := zbv_use ev22 hf
  refine lv_iinc (v := v22) (lv' := [(1, .int v22), (0, .ref (ad 0))]) hx hb dX12_anew_37 hl (k := 1) rfl (by rw [ev22]; rfl) (by decide) rfl (fun ls hl => ?_)
  refine lv_goto (tgt := 24) hx hb dX12_anew_40 (by decide) ?_
  exact hk24 _ _ _ _ _ hI (lv_sub hl [1, 0] rfl) hf
theorem blX12_anew_24 {st : Nat → Nat} {p : Program} {l : Launch} {e : Env} {s : State} {m : MethodId} {args : Array Value} {below : List Frame} {meth : Method} {c : Code} {D : va_G} {A : Nat → Prop} {ad : Nat → Nat} {cy : Nat → ClassId} (hC : zC p m c cX12_anew 2 s args wzX12_anew RX12 meth none)  {res : zSt} : ∀ (n : Nat) (H : Heap) (locs : List Loc) (σ : zSt) (ls : Array Slot) (x1 : Int32), zI st D (tM cy) (wM ad cy σ) A s H locs → lv_has ls 2 [(0, .ref (ad 0)), (1, .int x1)] → fX12_anew_24  n σ x1 = some res → W p l e rmX12_anew s m args below meth c H locs 0 0 (zQu below args s D (tM cy) (wM ad cy) A res) (F0 m 24 ls []) := by
  intro n
  induction n with
  | zero => intro H locs σ ls x1 hI hl hf; cases hf
  | succ n ih => intro H locs σ ls x1 hI hl hf; exact bX12_anew_24_body hC ih hI hl hf
set_option maxRecDepth 20000 in
set_option maxHeartbeats 4000000 in
theorem bX12_anew_2_body {st : Nat → Nat} {p : Program} {l : Launch} {e : Env} {s : State} {m : MethodId} {args : Array Value} {below : List Frame} {meth : Method} {c : Code} {D : va_G} {A : Nat → Prop} {ad : Nat → Nat} {cy : Nat → ClassId} (hC : zC p m c cX12_anew 2 s args wzX12_anew RX12 meth none) {k2 : zSt → Int32 → Option (zSt)} {res : zSt} (hk2 : ∀ (H : Heap) (locs : List Loc) (σ : zSt) (ls : Array Slot) (x1 : Int32), zI st D (tM cy) (wM ad cy σ) A s H locs → lv_has ls 2 [(0, .ref (ad 0)), (1, .int x1)] → k2 σ x1 = some res → W p l e rmX12_anew s m args below meth c H locs 0 0 (zQu below args s D (tM cy) (wM ad cy) A res) (F0 m 2 ls [])) {H : Heap} {locs : List Loc} {σ : zSt} {ls : Array Slot} {x1 : Int32} (hI : zI st D (tM cy) (wM ad cy σ) A s H locs) (hl : lv_has ls 2 [(0, .ref (ad 0)), (1, .int x1)]) (hf : fX12_anew_2_body k2 σ x1 = some res) : W p l e rmX12_anew s m args below meth c H locs 0 0 (zQu below args s D (tM cy) (wM ad cy) A res) (F0 m 2 ls []) := by
  have hx := hC.1
  have hb := hC.2.1
  unfold fX12_anew_2_body at hf
  refine lv_iload_n hx hb dX12_anew_2 rfl (lv_at hl 1 rfl) ?_
  refine lv_bipush (v := 42) hx hb dX12_anew_3 (by decide) ?_
  refine lv_icmp_ge (tgt := 21) hx hb dX12_anew_5 (by decide) (fun q => ?_) (fun q => ?_)
  · replace hf := zif_t q hf
    refine lv_bipush (v := 47) hx hb dX12_anew_21 (by decide) ?_
    refine lv_istore_n (lv' := [(1, .int 47), (0, .ref (ad 0))]) hx hb dX12_anew_23 rfl hl (by decide) rfl (fun ls hl => ?_)
    exact blX12_anew_24 hC  zfuel _ _ _ _ _ hI (lv_sub hl [1, 0] rfl) hf
  replace hf := zif_f q hf
  refine lv_aload_n hx hb dX12_anew_8 rfl (lv_at hl 0 rfl) ?_
  refine z_get hC hI hinX12_anew_X120 0 (wM_e0 ad cy σ) rfl 10 (by decide) (List.mem_cons_of_mem _ zw9_7) rfl dX12_anew_9 ?_
  refine lv_iload_n hx hb dX12_anew_12 rfl (lv_at hl 1 rfl) ?_
  refine lv_iconst (v := 0) hx hb dX12_anew_13 (by decide) ?_
  obtain ⟨q, hf⟩ := zck_use hf
  obtain ⟨σ23, eσ23⟩ : ∃ z, z = zsi σ 3 (x1.toNatClampNeg) 0 := ⟨_, rfl⟩
  replace hf := zbv_use eσ23 hf
  refine z_iast hC hI 3 2 (wM_e3 ad cy σ) (tM_t3 cy) q ((wM_s3 ad cy σ _ _).trans (congrArg (wM ad cy) eσ23.symm)) dX12_anew_14 (fun H locs hI => ?_)
  obtain ⟨v24, ev24⟩ : ∃ z : Int32, z = x1 + 1 := ⟨_, rfl⟩
  replace hf := zbv_use ev24 hf
  refine lv_iinc (v := v24) (lv' := [(1, .int v24), (0, .ref (ad 0))]) hx hb dX12_anew_15 hl (k := 1) rfl (by rw [ev24]; rfl) (by decide) rfl (fun ls hl => ?_)
  refine lv_goto (tgt := 2) hx hb dX12_anew_18 (by decide) ?_
  exact hk2 _ _ _ _ _ hI (lv_sub hl [1, 0] rfl) hf
theorem blX12_anew_2 {st : Nat → Nat} {p : Program} {l : Launch} {e : Env} {s : State} {m : MethodId} {args : Array Value} {below : List Frame} {meth : Method} {c : Code} {D : va_G} {A : Nat → Prop} {ad : Nat → Nat} {cy : Nat → ClassId} (hC : zC p m c cX12_anew 2 s args wzX12_anew RX12 meth none)  {res : zSt} : ∀ (n : Nat) (H : Heap) (locs : List Loc) (σ : zSt) (ls : Array Slot) (x1 : Int32), zI st D (tM cy) (wM ad cy σ) A s H locs → lv_has ls 2 [(0, .ref (ad 0)), (1, .int x1)] → fX12_anew_2  n σ x1 = some res → W p l e rmX12_anew s m args below meth c H locs 0 0 (zQu below args s D (tM cy) (wM ad cy) A res) (F0 m 2 ls []) := by
  intro n
  induction n with
  | zero => intro H locs σ ls x1 hI hl hf; cases hf
  | succ n ih => intro H locs σ ls x1 hI hl hf; exact bX12_anew_2_body hC ih hI hl hf
set_option maxRecDepth 20000 in
set_option maxHeartbeats 4000000 in
theorem bX12_anew {st : Nat → Nat} {p : Program} {l : Launch} {e : Env} {s : State} {m : MethodId} {args : Array Value} {below : List Frame} {meth : Method} {c : Code} {D : va_G} {A : Nat → Prop} {ad : Nat → Nat} {cy : Nat → ClassId} (hC : zC p m c cX12_anew 2 s args wzX12_anew RX12 meth none)  {res : zSt} {H : Heap} {locs : List Loc} {σ : zSt} {ls : Array Slot}  (hI : zI st D (tM cy) (wM ad cy σ) A s H locs) (hl : lv_has ls 2 [(0, .ref (ad 0))]) (hf : fX12_anew  σ  = some res) : W p l e rmX12_anew s m args below meth c H locs 0 0 (zQu below args s D (tM cy) (wM ad cy) A res) (F0 m 0 ls []) := by
  have hx := hC.1
  have hb := hC.2.1
  unfold fX12_anew at hf
  refine lv_iconst (v := 0) hx hb dX12_anew_0 (by decide) ?_
  refine lv_istore_n (lv' := [(1, .int 0), (0, .ref (ad 0))]) hx hb dX12_anew_1 rfl hl (by decide) rfl (fun ls hl => ?_)
  exact blX12_anew_2 hC  zfuel _ _ _ _ _ hI (lv_sub hl [1, 0] rfl) hf
set_option maxRecDepth 20000 in
theorem cX12_anew_met (st : Nat → Nat) (l : Launch) (D : va_G) (ad : Nat → Nat) (cy : Nat → ClassId) (σ : zSt)  (res : zSt) (hf : fX12_anew σ  = some res) (sz : Nat) : zMu st l yX12_anew wzX12_anew rmX12_anew [.ref (ad 0)] D (tM cy) (wM ad cy) sz σ res :=
  zMu.of (cc := cX12_anew) (maxL := 2) (ret := none) (by decide) rfl (Nat.le_of_ble_eq_true rfl) (fun p e s m args below meth c hC A hI ls hl => bX12_anew hC hI hl hf)
theorem hdX12_anew : yX12_anew.cls = RX12 ∧ yX12_anew.cls ≠ "java/lang/invoke/MethodHandle" ∧ yX12_anew.cls ≠ "java/lang/invoke/VarHandle" ∧ (parseMethodDescriptor yX12_anew.desc).map (fun d => d.parameters.length) = some 0 := by decide +kernel
def rmX12_load : Room := { frames := 1, cells := 0, slots := 0, locals := 24 }
def wzX12_load : List Cond := .code yX12_load cX12_load 7 (some .int) :: wsL_law
theorem hinX12_load_X120 : ∀ w ∈ wsX120, w ∈ wzX12_load := fun w h => List.mem_cons_of_mem _ (inlX12 w h)
def fX12_load_126 (k89 : zSt → Int32 → Int32 → Option (zSt × Int32)) (σ : zSt) (x1 : Int32) (x3 : Int32) (s0 : Int32) (s1 : Int32) : Option (zSt × Int32) :=
  zck (zin s1 262144) (zbv (zsi σ 2 (s1.toNatClampNeg) (vp_nar .byte s0)) (fun σ1 =>
  zbv (x3 + 1) (fun v2 =>
  k89 σ1 x1 v2)))
def fX12_load_161 (k142 : zSt → Int32 → Option (zSt × Int32)) (σ : zSt) (x3 : Int32) : Option (zSt × Int32) :=
  zbv ((2 * x3) + 16) (fun v3 =>
  k142 σ v3)
def fX12_load_414_body (k414 : zSt → Int32 → Option (zSt × Int32)) (σ : zSt) (x6 : Int32) : Option (zSt × Int32) :=
  if 8192 ≤ x6 then zck (zbo 0) (zbv (zsi σ 0 19 0) (fun σ4 =>
  some (σ4, 0))) else
  zck (zin x6 8192) (zbv (zsi σ 5 (x6.toNatClampNeg) (vp_nar .byte 0)) (fun σ5 =>
  zbv (x6 + 1) (fun v6 =>
  k414 σ5 v6)))
def fX12_load_414  : Nat → zSt → Int32 → Option (zSt × Int32)
  | 0, _, _ => none
  | n + 1, σ, x6 => fX12_load_414_body (fX12_load_414  n) σ x6
def fX12_load_404  (σ : zSt) (s0 : Int32) : Option (zSt × Int32) :=
  zbv (zsi σ 0 9 s0) (fun σ7 =>
  zbu (fX12_anew σ7 ) (fun σ8 =>
  fX12_load_414 zfuel σ8 0))
def fX12_load_385  (σ : zSt)  : Option (zSt × Int32) :=
  if 0 ≤ (zgi σ 0 8) then fX12_load_404 σ ((zgi σ 0 9) &&& 65535) else
  fX12_load_404 σ 0
def fX12_load_359 (k337 : zSt → Int32 → Int32 → Option (zSt × Int32)) (σ : zSt) (x5 : Int32) (x6 : Int32) : Option (zSt × Int32) :=
  zck (zin x6 262144) (
  zbv (zsi σ 0 9 ((zgi σ 0 9) + ((zgi σ 2 x6.toNatClampNeg) &&& 255))) (fun σ9 =>
  zbv (x6 + 1) (fun v10 =>
  k337 σ9 x5 v10)))
def fX12_load_337_body (k337 : zSt → Int32 → Int32 → Option (zSt × Int32)) (σ : zSt) (x5 : Int32) (x6 : Int32) : Option (zSt × Int32) :=
  if (zgi σ 0 5) ≤ x6 then fX12_load_385 σ else
  if 13 < x5 then fX12_load_359 k337 σ x5 x6 else
  if 3 ≤ x5 then fX12_load_385 σ else
  fX12_load_359 k337 σ x5 x6
def fX12_load_337  : Nat → zSt → Int32 → Int32 → Option (zSt × Int32)
  | 0, _, _, _ => none
  | n + 1, σ, x5, x6 => fX12_load_337_body (fX12_load_337  n) σ x5 x6
def fX12_load_298_body (k298 : zSt → Int32 → Int32 → Option (zSt × Int32)) (σ : zSt) (x5 : Int32) (x6 : Int32) : Option (zSt × Int32) :=
  if (zgi σ 0 8) ≤ x6 then fX12_load_337 zfuel σ x5 32768 else
  zck (zin x6 262144) (
  zbv (zsi σ 0 9 ((zgi σ 0 9) + ((zgi σ 2 x6.toNatClampNeg) &&& 255))) (fun σ11 =>
  zbv (x6 + 1) (fun v12 =>
  k298 σ11 x5 v12)))
def fX12_load_298  : Nat → zSt → Int32 → Int32 → Option (zSt × Int32)
  | 0, _, _, _ => none
  | n + 1, σ, x5, x6 => fX12_load_298_body (fX12_load_298  n) σ x5 x6
def fX12_load_293  (σ : zSt) (s0 : Int32) : Option (zSt × Int32) :=
  fX12_load_298 zfuel σ s0 0
def fX12_load_259  (σ : zSt) (s0 : Int32) : Option (zSt × Int32) :=
  zbv (zsi σ 0 7 s0) (fun σ13 =>
  zbv (zsi σ13 0 9 0) (fun σ14 =>
  if 0 ≤ (zgi σ14 0 8) then zck (zin ((zgi σ14 0 8) + 15) 262144) (
  fX12_load_293 σ14 ((zgi σ14 2 ((zgi σ14 0 8) + 15).toNatClampNeg) &&& 15)) else
  fX12_load_293 σ14 3))
def fX12_load_247  (σ : zSt)  : Option (zSt × Int32) :=
  if 0 ≤ (zgi σ 0 8) then fX12_load_259 σ 1 else
  fX12_load_259 σ 3
def fX12_load_214  (σ : zSt) (x3 : Int32) (s0 : Int32) : Option (zSt × Int32) :=
  if 49152 < (zgi σ 0 5) then if x3 ≤ 0 then fX12_load_247 σ else
  if (x3 + s0) = 65536 then fX12_load_259 σ 2 else
  fX12_load_247 σ else
  fX12_load_259 σ 0
def fX12_load_192  (σ : zSt) (s0 : Int32) : Option (zSt × Int32) :=
  if (zgi σ 0 5) ≤ 49152 then fX12_load_214 σ s0 0 else
  zbi (fX12_bytesAt σ 32744 2) (fun σ15 v16 =>
  fX12_load_214 σ15 s0 v16)
def fX12_load_142_body (k142 : zSt → Int32 → Option (zSt × Int32)) (σ : zSt) (x3 : Int32) : Option (zSt × Int32) :=
  if 32768 ≤ x3 then if (zgi σ 0 5) ≤ 49152 then fX12_load_192 σ 0 else
  zbi (fX12_bytesAt σ 32742 2) (fun σ17 v18 =>
  fX12_load_192 σ17 v18) else
  zbi (fX12_isHeader σ x3) (fun σ19 v20 =>
  if v20 = 0 then fX12_load_161 k142 σ19 x3 else
  zbv (zsi σ19 0 8 x3) (fun σ21 =>
  fX12_load_161 k142 σ21 x3))
def fX12_load_142  : Nat → zSt → Int32 → Option (zSt × Int32)
  | 0, _, _ => none
  | n + 1, σ, x3 => fX12_load_142_body (fX12_load_142  n) σ x3
def fX12_load_89_body (k89 : zSt → Int32 → Int32 → Option (zSt × Int32)) (σ : zSt) (x1 : Int32) (x3 : Int32) : Option (zSt × Int32) :=
  if (16384 * (zgi σ 0 6)) ≤ x3 then zbv (zsi σ 0 8 (-1)) (fun σ22 =>
  fX12_load_142 zfuel σ22 8176) else
  if (zgi σ 0 5) ≤ x3 then fX12_load_126 k89 σ x1 x3 (-1) x3 else
  zck (zin (x1 + x3) 262656) (
  fX12_load_126 k89 σ x1 x3 (zgi σ 1 (x1 + x3).toNatClampNeg) x3)
def fX12_load_89  : Nat → zSt → Int32 → Int32 → Option (zSt × Int32)
  | 0, _, _, _ => none
  | n + 1, σ, x1, x3 => fX12_load_89_body (fX12_load_89  n) σ x1 x3
def fX12_load_26  (σ : zSt) (s0 : Int32) : Option (zSt × Int32) :=
  zbv ((zgi σ 0 2) - s0) (fun v23 =>
  zbv (zsi σ 0 2 0) (fun σ24 =>
  if 8192 ≤ v23 then zck (decide (¬ 8192 = 0)) (
  if (zrem v23 8192) = 0 then if v23 ≤ 262144 then zbv (zsi σ24 0 5 v23) (fun σ25 =>
  zck (decide (¬ 16384 = 0)) (
  zbv (zsi σ25 0 6 (((zgi σ25 0 5) + 16383) / 16384)) (fun σ26 =>
  fX12_load_89 zfuel σ26 s0 0))) else
  some (σ24, 3) else
  some (σ24, 2)) else
  some (σ24, 1)))
def fX12_load  (σ : zSt)  : Option (zSt × Int32) :=
  zbv (zsi σ 0 0 0) (fun σ27 =>
  zck (decide (¬ 16384 = 0)) (
  if (zrem (zgi σ27 0 2) 16384) = 512 then fX12_load_26 σ27 512 else
  fX12_load_26 σ27 0))
set_option maxRecDepth 20000 in
set_option maxHeartbeats 4000000 in
theorem bX12_load_126 {st : Nat → Nat} {p : Program} {l : Launch} {e : Env} {s : State} {m : MethodId} {args : Array Value} {below : List Frame} {meth : Method} {c : Code} {D : va_G} {A : Nat → Prop} {ad : Nat → Nat} {cy : Nat → ClassId} (hC : zC p m c cX12_load 7 s args wzX12_load RX12 meth (some .int)) {k89 : zSt → Int32 → Int32 → Option (zSt × Int32)} {res : zSt × Int32} (hk89 : ∀ (H : Heap) (locs : List Loc) (σ : zSt) (ls : Array Slot) (x1 : Int32) (x3 : Int32), zI st D (tM cy) (wM ad cy σ) A s H locs → lv_has ls 7 [(0, .ref (ad 0)), (1, .int x1), (3, .int x3)] → k89 σ x1 x3 = some res → W p l e rmX12_load s m args below meth c H locs 0 0 (zQi below args s D (tM cy) (wM ad cy) A res) (F0 m 89 ls [])) {H : Heap} {locs : List Loc} {σ : zSt} {ls : Array Slot} {x1 : Int32} {x3 : Int32} {s0 : Int32} {s1 : Int32} (hI : zI st D (tM cy) (wM ad cy σ) A s H locs) (hl : lv_has ls 7 [(0, .ref (ad 0)), (1, .int x1), (3, .int x3)]) (hf : fX12_load_126 k89 σ x1 x3 s0 s1 = some res) : W p l e rmX12_load s m args below meth c H locs 0 0 (zQi below args s D (tM cy) (wM ad cy) A res) (F0 m 126 ls [.int s0, .int s1, .ref (ad 2)]) := by
  have hx := hC.1
  have hb := hC.2.1
  unfold fX12_load_126 at hf
  obtain ⟨q, hf⟩ := zck_use hf
  obtain ⟨σ1, eσ1⟩ : ∃ z, z = zsi σ 2 (s1.toNatClampNeg) (vp_nar .byte s0) := ⟨_, rfl⟩
  replace hf := zbv_use eσ1 hf
  refine z_bast hC hI 2 1 (wM_e2 ad cy σ) (tM_t2 cy) q ((wM_s2 ad cy σ _ _).trans (congrArg (wM ad cy) eσ1.symm)) dX12_load_126 (fun H locs hI => ?_)
  obtain ⟨v2, ev2⟩ : ∃ z : Int32, z = x3 + 1 := ⟨_, rfl⟩
  replace hf := zbv_use ev2 hf
  refine lv_iinc (v := v2) (lv' := [(3, .int v2), (0, .ref (ad 0)), (1, .int x1)]) hx hb dX12_load_127 hl (k := 2) rfl (by rw [ev2]; rfl) (by decide) rfl (fun ls hl => ?_)
  refine lv_goto (tgt := 89) hx hb dX12_load_130 (by decide) ?_
  exact hk89 _ _ _ _ _ _ hI (lv_sub hl [1, 2, 0] rfl) hf
set_option maxRecDepth 20000 in
set_option maxHeartbeats 4000000 in
theorem bX12_load_161 {st : Nat → Nat} {p : Program} {l : Launch} {e : Env} {s : State} {m : MethodId} {args : Array Value} {below : List Frame} {meth : Method} {c : Code} {D : va_G} {A : Nat → Prop} {ad : Nat → Nat} {cy : Nat → ClassId} (hC : zC p m c cX12_load 7 s args wzX12_load RX12 meth (some .int)) {k142 : zSt → Int32 → Option (zSt × Int32)} {res : zSt × Int32} (hk142 : ∀ (H : Heap) (locs : List Loc) (σ : zSt) (ls : Array Slot) (x3 : Int32), zI st D (tM cy) (wM ad cy σ) A s H locs → lv_has ls 7 [(0, .ref (ad 0)), (3, .int x3)] → k142 σ x3 = some res → W p l e rmX12_load s m args below meth c H locs 0 0 (zQi below args s D (tM cy) (wM ad cy) A res) (F0 m 142 ls [])) {H : Heap} {locs : List Loc} {σ : zSt} {ls : Array Slot} {x3 : Int32} (hI : zI st D (tM cy) (wM ad cy σ) A s H locs) (hl : lv_has ls 7 [(0, .ref (ad 0)), (3, .int x3)]) (hf : fX12_load_161 k142 σ x3 = some res) : W p l e rmX12_load s m args below meth c H locs 0 0 (zQi below args s D (tM cy) (wM ad cy) A res) (F0 m 161 ls []) := by
  have hx := hC.1
  have hb := hC.2.1
  unfold fX12_load_161 at hf
  refine lv_iconst (v := 2) hx hb dX12_load_161 (by decide) ?_
  refine lv_iload_n hx hb dX12_load_162 rfl (lv_at hl 1 rfl) ?_
  refine lv_imul hx hb dX12_load_163 ?_
  refine lv_bipush (v := 16) hx hb dX12_load_164 (by decide) ?_
  refine lv_iadd hx hb dX12_load_166 ?_
  refine lv_topi (fun v3 ev3 => ?_)
  replace hf := zbv_use ev3 hf
  refine lv_istore_n (lv' := [(3, .int v3), (0, .ref (ad 0))]) hx hb dX12_load_167 rfl hl (by decide) rfl (fun ls hl => ?_)
  refine lv_goto (tgt := 142) hx hb dX12_load_168 (by decide) ?_
  exact hk142 _ _ _ _ _ hI (lv_sub hl [1, 0] rfl) hf
set_option maxRecDepth 20000 in
set_option maxHeartbeats 4000000 in
theorem bX12_load_414_body {st : Nat → Nat} {p : Program} {l : Launch} {e : Env} {s : State} {m : MethodId} {args : Array Value} {below : List Frame} {meth : Method} {c : Code} {D : va_G} {A : Nat → Prop} {ad : Nat → Nat} {cy : Nat → ClassId} (hC : zC p m c cX12_load 7 s args wzX12_load RX12 meth (some .int)) {k414 : zSt → Int32 → Option (zSt × Int32)} {res : zSt × Int32} (hk414 : ∀ (H : Heap) (locs : List Loc) (σ : zSt) (ls : Array Slot) (x6 : Int32), zI st D (tM cy) (wM ad cy σ) A s H locs → lv_has ls 7 [(0, .ref (ad 0)), (6, .int x6)] → k414 σ x6 = some res → W p l e rmX12_load s m args below meth c H locs 0 0 (zQi below args s D (tM cy) (wM ad cy) A res) (F0 m 414 ls [])) {H : Heap} {locs : List Loc} {σ : zSt} {ls : Array Slot} {x6 : Int32} (hI : zI st D (tM cy) (wM ad cy σ) A s H locs) (hl : lv_has ls 7 [(0, .ref (ad 0)), (6, .int x6)]) (hf : fX12_load_414_body k414 σ x6 = some res) : W p l e rmX12_load s m args below meth c H locs 0 0 (zQi below args s D (tM cy) (wM ad cy) A res) (F0 m 414 ls []) := by
  have hx := hC.1
  have hb := hC.2.1
  unfold fX12_load_414_body at hf
  refine lv_iload hx hb dX12_load_414 (lv_at hl 1 rfl) ?_
  refine lv_sipush (v := 8192) hx hb dX12_load_416 (by decide) ?_
  refine lv_icmp_ge (tgt := 436) hx hb dX12_load_419 (by decide) (fun q => ?_) (fun q => ?_)
  · replace hf := zif_t q hf
    refine lv_aload_n hx hb dX12_load_436 rfl (lv_at hl 0 rfl) ?_
    refine lv_iconst (v := 0) hx hb dX12_load_437 (by decide) ?_
    obtain ⟨q, hf⟩ := zck_use hf
    obtain ⟨σ4, eσ4⟩ : ∃ z, z = zsi σ 0 19 0 := ⟨_, rfl⟩
    replace hf := zbv_use eσ4 hf
    refine z_put hC hI hinX12_load_X120 tyX12_ok nmX12 0 (wM_e0 ad cy σ) rfl 19 (by decide) (List.mem_cons_of_mem _ zw16_12) rfl (zbo_n q) (zbo_f q) (Nat.le_of_ble_eq_true rfl) ((wM_s0_19 ad cy σ 0).trans (congrArg (wM ad cy) eσ4.symm)) dX12_load_438 (fun H locs hI => ?_)
    refine lv_iconst (v := 0) hx hb dX12_load_441 (by decide) ?_
    exact z_ireturn hC hI hf dX12_load_442
  replace hf := zif_f q hf
  refine lv_aload_n hx hb dX12_load_422 rfl (lv_at hl 0 rfl) ?_
  refine z_get hC hI hinX12_load_X120 0 (wM_e0 ad cy σ) rfl 12 (by decide) (List.mem_cons_of_mem _ zw9_9) rfl dX12_load_423 ?_
  refine lv_iload hx hb dX12_load_426 (lv_at hl 1 rfl) ?_
  refine lv_iconst (v := 0) hx hb dX12_load_428 (by decide) ?_
  obtain ⟨q, hf⟩ := zck_use hf
  obtain ⟨σ5, eσ5⟩ : ∃ z, z = zsi σ 5 (x6.toNatClampNeg) (vp_nar .byte 0) := ⟨_, rfl⟩
  replace hf := zbv_use eσ5 hf
  refine z_bast hC hI 5 4 (wM_e5 ad cy σ) (tM_t5 cy) q ((wM_s5 ad cy σ _ _).trans (congrArg (wM ad cy) eσ5.symm)) dX12_load_429 (fun H locs hI => ?_)
  obtain ⟨v6, ev6⟩ : ∃ z : Int32, z = x6 + 1 := ⟨_, rfl⟩
  replace hf := zbv_use ev6 hf
  refine lv_iinc (v := v6) (lv' := [(6, .int v6), (0, .ref (ad 0))]) hx hb dX12_load_430 hl (k := 1) rfl (by rw [ev6]; rfl) (by decide) rfl (fun ls hl => ?_)
  refine lv_goto (tgt := 414) hx hb dX12_load_433 (by decide) ?_
  exact hk414 _ _ _ _ _ hI (lv_sub hl [1, 0] rfl) hf
theorem blX12_load_414 {st : Nat → Nat} {p : Program} {l : Launch} {e : Env} {s : State} {m : MethodId} {args : Array Value} {below : List Frame} {meth : Method} {c : Code} {D : va_G} {A : Nat → Prop} {ad : Nat → Nat} {cy : Nat → ClassId} (hC : zC p m c cX12_load 7 s args wzX12_load RX12 meth (some .int))  {res : zSt × Int32} : ∀ (n : Nat) (H : Heap) (locs : List Loc) (σ : zSt) (ls : Array Slot) (x6 : Int32), zI st D (tM cy) (wM ad cy σ) A s H locs → lv_has ls 7 [(0, .ref (ad 0)), (6, .int x6)] → fX12_load_414  n σ x6 = some res → W p l e rmX12_load s m args below meth c H locs 0 0 (zQi below args s D (tM cy) (wM ad cy) A res) (F0 m 414 ls []) := by
  intro n
  induction n with
  | zero => intro H locs σ ls x6 hI hl hf; cases hf
  | succ n ih => intro H locs σ ls x6 hI hl hf; exact bX12_load_414_body hC ih hI hl hf
set_option maxRecDepth 20000 in
set_option maxHeartbeats 4000000 in
theorem bX12_load_404 {st : Nat → Nat} {p : Program} {l : Launch} {e : Env} {s : State} {m : MethodId} {args : Array Value} {below : List Frame} {meth : Method} {c : Code} {D : va_G} {A : Nat → Prop} {ad : Nat → Nat} {cy : Nat → ClassId} (hC : zC p m c cX12_load 7 s args wzX12_load RX12 meth (some .int))  {res : zSt × Int32} {H : Heap} {locs : List Loc} {σ : zSt} {ls : Array Slot} {s0 : Int32} (hI : zI st D (tM cy) (wM ad cy σ) A s H locs) (hl : lv_has ls 7 [(0, .ref (ad 0))]) (hf : fX12_load_404  σ s0 = some res) : W p l e rmX12_load s m args below meth c H locs 0 0 (zQi below args s D (tM cy) (wM ad cy) A res) (F0 m 404 ls [.int s0, .ref (ad 0)]) := by
  have hx := hC.1
  have hb := hC.2.1
  unfold fX12_load_404 at hf
  obtain ⟨σ7, eσ7⟩ : ∃ z, z = zsi σ 0 9 s0 := ⟨_, rfl⟩
  replace hf := zbv_use eσ7 hf
  refine z_put hC hI hinX12_load_X120 tyX12_ok nmX12 0 (wM_e0 ad cy σ) rfl 9 (by decide) (List.mem_cons_of_mem _ zw16_10) rfl rfl rfl (Nat.le_of_ble_eq_true rfl) ((wM_s0_9 ad cy σ s0).trans (congrArg (wM ad cy) eσ7.symm)) dX12_load_404 (fun H locs hI => ?_)
  refine lv_aload_n hx hb dX12_load_407 rfl (lv_at hl 0 rfl) ?_
  obtain ⟨σ8, g8, hf⟩ := zbu_use hf
  refine z_callVu (As := []) (rest := []) hC hI (cX12_anew_met st l D ad cy σ7  _ g8) (zgV zw10_11 zw10_12 zw10_13 zw1_5 zw10_14) rfl ⟨rfl, rfl⟩ 0 hdX12_anew ⟨Nat.le_of_ble_eq_true rfl, Nat.le_of_ble_eq_true rfl⟩ rfl rfl (wM_e0 ad cy σ7) rfl hl rfl (Nat.le_of_ble_eq_true rfl) dX12_load_408 ⟨Nat.zero_le _, Nat.zero_le _⟩ (fun H locs hI => ?_)
  refine lv_iconst (v := 0) hx hb dX12_load_411 (by decide) ?_
  refine lv_istore (lv' := [(6, .int 0), (0, .ref (ad 0))]) hx hb dX12_load_412 hl (by decide) rfl (fun ls hl => ?_)
  exact blX12_load_414 hC  zfuel _ _ _ _ _ hI (lv_sub hl [1, 0] rfl) hf
set_option maxRecDepth 20000 in
set_option maxHeartbeats 4000000 in
theorem bX12_load_385 {st : Nat → Nat} {p : Program} {l : Launch} {e : Env} {s : State} {m : MethodId} {args : Array Value} {below : List Frame} {meth : Method} {c : Code} {D : va_G} {A : Nat → Prop} {ad : Nat → Nat} {cy : Nat → ClassId} (hC : zC p m c cX12_load 7 s args wzX12_load RX12 meth (some .int))  {res : zSt × Int32} {H : Heap} {locs : List Loc} {σ : zSt} {ls : Array Slot}  (hI : zI st D (tM cy) (wM ad cy σ) A s H locs) (hl : lv_has ls 7 [(0, .ref (ad 0))]) (hf : fX12_load_385  σ  = some res) : W p l e rmX12_load s m args below meth c H locs 0 0 (zQi below args s D (tM cy) (wM ad cy) A res) (F0 m 385 ls []) := by
  have hx := hC.1
  have hb := hC.2.1
  unfold fX12_load_385 at hf
  refine lv_aload_n hx hb dX12_load_385 rfl (lv_at hl 0 rfl) ?_
  refine lv_aload_n hx hb dX12_load_386 rfl (lv_at hl 0 rfl) ?_
  refine z_get hC hI hinX12_load_X120 0 (wM_e0 ad cy σ) rfl 8 (by decide) (List.mem_cons_of_mem _ zw9_6) rfl dX12_load_387 ?_
  refine lv_if_ge (tgt := 397) hx hb dX12_load_390 (by decide) (fun q => ?_) (fun q => ?_)
  · replace hf := zif_t q hf
    refine lv_aload_n hx hb dX12_load_397 rfl (lv_at hl 0 rfl) ?_
    refine z_get hC hI hinX12_load_X120 0 (wM_e0 ad cy σ) rfl 9 (by decide) (List.mem_cons_of_mem _ zw16_10) rfl dX12_load_398 ?_
    refine lv_ldc (v := 65535) hx hb hC.2.2.2.1 (hC.2.2.2.2.1 _ (List.mem_cons_of_mem _ zw16_11)) dX12_load_401 ?_
    refine lv_iand hx hb dX12_load_403 ?_
    exact bX12_load_404 hC  hI hl hf
  replace hf := zif_f q hf
  refine lv_iconst (v := 0) hx hb dX12_load_393 (by decide) ?_
  refine lv_goto (tgt := 404) hx hb dX12_load_394 (by decide) ?_
  exact bX12_load_404 hC  hI hl hf
set_option maxRecDepth 20000 in
set_option maxHeartbeats 4000000 in
theorem bX12_load_359 {st : Nat → Nat} {p : Program} {l : Launch} {e : Env} {s : State} {m : MethodId} {args : Array Value} {below : List Frame} {meth : Method} {c : Code} {D : va_G} {A : Nat → Prop} {ad : Nat → Nat} {cy : Nat → ClassId} (hC : zC p m c cX12_load 7 s args wzX12_load RX12 meth (some .int)) {k337 : zSt → Int32 → Int32 → Option (zSt × Int32)} {res : zSt × Int32} (hk337 : ∀ (H : Heap) (locs : List Loc) (σ : zSt) (ls : Array Slot) (x5 : Int32) (x6 : Int32), zI st D (tM cy) (wM ad cy σ) A s H locs → lv_has ls 7 [(0, .ref (ad 0)), (5, .int x5), (6, .int x6)] → k337 σ x5 x6 = some res → W p l e rmX12_load s m args below meth c H locs 0 0 (zQi below args s D (tM cy) (wM ad cy) A res) (F0 m 337 ls [])) {H : Heap} {locs : List Loc} {σ : zSt} {ls : Array Slot} {x5 : Int32} {x6 : Int32} (hI : zI st D (tM cy) (wM ad cy σ) A s H locs) (hl : lv_has ls 7 [(0, .ref (ad 0)), (5, .int x5), (6, .int x6)]) (hf : fX12_load_359 k337 σ x5 x6 = some res) : W p l e rmX12_load s m args below meth c H locs 0 0 (zQi below args s D (tM cy) (wM ad cy) A res) (F0 m 359 ls []) := by
  have hx := hC.1
  have hb := hC.2.1
  unfold fX12_load_359 at hf
  refine lv_aload_n hx hb dX12_load_359 rfl (lv_at hl 0 rfl) ?_
  refine lv_dup hx hb dX12_load_360 rfl ?_
  refine z_get hC hI hinX12_load_X120 0 (wM_e0 ad cy σ) rfl 9 (by decide) (List.mem_cons_of_mem _ zw16_10) rfl dX12_load_361 ?_
  refine lv_aload_n hx hb dX12_load_364 rfl (lv_at hl 0 rfl) ?_
  refine z_get hC hI hinX12_load_X120 0 (wM_e0 ad cy σ) rfl 4 (by decide) (List.mem_cons_of_mem _ zw9_5) rfl dX12_load_365 ?_
  refine lv_iload hx hb dX12_load_368 (lv_at hl 2 rfl) ?_
  obtain ⟨q, hf⟩ := zck_use hf
  refine z_bald hC hI 2 1 (wM_e2 ad cy σ) (tM_t2 cy) q dX12_load_370 ?_
  refine lv_sipush (v := 255) hx hb dX12_load_371 (by decide) ?_
  refine lv_iand hx hb dX12_load_374 ?_
  refine lv_iadd hx hb dX12_load_375 ?_
  obtain ⟨σ9, eσ9⟩ : ∃ z, z = zsi σ 0 9 ((zgi σ 0 9) + ((zgi σ 2 x6.toNatClampNeg) &&& 255)) := ⟨_, rfl⟩
  replace hf := zbv_use eσ9 hf
  refine z_put hC hI hinX12_load_X120 tyX12_ok nmX12 0 (wM_e0 ad cy σ) rfl 9 (by decide) (List.mem_cons_of_mem _ zw16_10) rfl rfl rfl (Nat.le_of_ble_eq_true rfl) ((wM_s0_9 ad cy σ ((zgi σ 0 9) + ((zgi σ 2 x6.toNatClampNeg) &&& 255))).trans (congrArg (wM ad cy) eσ9.symm)) dX12_load_376 (fun H locs hI => ?_)
  obtain ⟨v10, ev10⟩ : ∃ z : Int32, z = x6 + 1 := ⟨_, rfl⟩
  replace hf := zbv_use ev10 hf
  refine lv_iinc (v := v10) (lv' := [(6, .int v10), (0, .ref (ad 0)), (5, .int x5)]) hx hb dX12_load_379 hl (k := 2) rfl (by rw [ev10]; rfl) (by decide) rfl (fun ls hl => ?_)
  refine lv_goto (tgt := 337) hx hb dX12_load_382 (by decide) ?_
  exact hk337 _ _ _ _ _ _ hI (lv_sub hl [1, 2, 0] rfl) hf
set_option maxRecDepth 20000 in
set_option maxHeartbeats 4000000 in
theorem bX12_load_337_body {st : Nat → Nat} {p : Program} {l : Launch} {e : Env} {s : State} {m : MethodId} {args : Array Value} {below : List Frame} {meth : Method} {c : Code} {D : va_G} {A : Nat → Prop} {ad : Nat → Nat} {cy : Nat → ClassId} (hC : zC p m c cX12_load 7 s args wzX12_load RX12 meth (some .int)) {k337 : zSt → Int32 → Int32 → Option (zSt × Int32)} {res : zSt × Int32} (hk337 : ∀ (H : Heap) (locs : List Loc) (σ : zSt) (ls : Array Slot) (x5 : Int32) (x6 : Int32), zI st D (tM cy) (wM ad cy σ) A s H locs → lv_has ls 7 [(0, .ref (ad 0)), (5, .int x5), (6, .int x6)] → k337 σ x5 x6 = some res → W p l e rmX12_load s m args below meth c H locs 0 0 (zQi below args s D (tM cy) (wM ad cy) A res) (F0 m 337 ls [])) {H : Heap} {locs : List Loc} {σ : zSt} {ls : Array Slot} {x5 : Int32} {x6 : Int32} (hI : zI st D (tM cy) (wM ad cy σ) A s H locs) (hl : lv_has ls 7 [(0, .ref (ad 0)), (5, .int x5), (6, .int x6)]) (hf : fX12_load_337_body k337 σ x5 x6 = some res) : W p l e rmX12_load s m args below meth c H locs 0 0 (zQi below args s D (tM cy) (wM ad cy) A res) (F0 m 337 ls []) := by
  have hx := hC.1
  have hb := hC.2.1
  unfold fX12_load_337_body at hf
  refine lv_iload hx hb dX12_load_337 (lv_at hl 2 rfl) ?_
  refine lv_aload_n hx hb dX12_load_339 rfl (lv_at hl 0 rfl) ?_
  refine z_get hC hI hinX12_load_X120 0 (wM_e0 ad cy σ) rfl 5 (by decide) (List.mem_cons_of_mem _ zw16_6) rfl dX12_load_340 ?_
  refine lv_icmp_ge (tgt := 385) hx hb dX12_load_343 (by decide) (fun q => ?_) (fun q => ?_)
  · replace hf := zif_t q hf
    exact bX12_load_385 hC  hI (lv_sub hl [0] rfl) hf
  replace hf := zif_f q hf
  refine lv_iload hx hb dX12_load_346 (lv_at hl 1 rfl) ?_
  refine lv_bipush (v := 13) hx hb dX12_load_348 (by decide) ?_
  refine lv_icmp_gt (tgt := 359) hx hb dX12_load_350 (by decide) (fun q => ?_) (fun q => ?_)
  · replace hf := zif_t q hf
    exact bX12_load_359 hC hk337 hI hl hf
  replace hf := zif_f q hf
  refine lv_iload hx hb dX12_load_353 (lv_at hl 1 rfl) ?_
  refine lv_iconst (v := 3) hx hb dX12_load_355 (by decide) ?_
  refine lv_icmp_ge (tgt := 385) hx hb dX12_load_356 (by decide) (fun q => ?_) (fun q => ?_)
  · replace hf := zif_t q hf
    exact bX12_load_385 hC  hI (lv_sub hl [0] rfl) hf
  replace hf := zif_f q hf
  exact bX12_load_359 hC hk337 hI hl hf
theorem blX12_load_337 {st : Nat → Nat} {p : Program} {l : Launch} {e : Env} {s : State} {m : MethodId} {args : Array Value} {below : List Frame} {meth : Method} {c : Code} {D : va_G} {A : Nat → Prop} {ad : Nat → Nat} {cy : Nat → ClassId} (hC : zC p m c cX12_load 7 s args wzX12_load RX12 meth (some .int))  {res : zSt × Int32} : ∀ (n : Nat) (H : Heap) (locs : List Loc) (σ : zSt) (ls : Array Slot) (x5 : Int32) (x6 : Int32), zI st D (tM cy) (wM ad cy σ) A s H locs → lv_has ls 7 [(0, .ref (ad 0)), (5, .int x5), (6, .int x6)] → fX12_load_337  n σ x5 x6 = some res → W p l e rmX12_load s m args below meth c H locs 0 0 (zQi below args s D (tM cy) (wM ad cy) A res) (F0 m 337 ls []) := by
  intro n
  induction n with
  | zero => intro H locs σ ls x5 x6 hI hl hf; cases hf
  | succ n ih => intro H locs σ ls x5 x6 hI hl hf; exact bX12_load_337_body hC ih hI hl hf
set_option maxRecDepth 20000 in
set_option maxHeartbeats 4000000 in
theorem bX12_load_298_body {st : Nat → Nat} {p : Program} {l : Launch} {e : Env} {s : State} {m : MethodId} {args : Array Value} {below : List Frame} {meth : Method} {c : Code} {D : va_G} {A : Nat → Prop} {ad : Nat → Nat} {cy : Nat → ClassId} (hC : zC p m c cX12_load 7 s args wzX12_load RX12 meth (some .int)) {k298 : zSt → Int32 → Int32 → Option (zSt × Int32)} {res : zSt × Int32} (hk298 : ∀ (H : Heap) (locs : List Loc) (σ : zSt) (ls : Array Slot) (x5 : Int32) (x6 : Int32), zI st D (tM cy) (wM ad cy σ) A s H locs → lv_has ls 7 [(0, .ref (ad 0)), (5, .int x5), (6, .int x6)] → k298 σ x5 x6 = some res → W p l e rmX12_load s m args below meth c H locs 0 0 (zQi below args s D (tM cy) (wM ad cy) A res) (F0 m 298 ls [])) {H : Heap} {locs : List Loc} {σ : zSt} {ls : Array Slot} {x5 : Int32} {x6 : Int32} (hI : zI st D (tM cy) (wM ad cy σ) A s H locs) (hl : lv_has ls 7 [(0, .ref (ad 0)), (5, .int x5), (6, .int x6)]) (hf : fX12_load_298_body k298 σ x5 x6 = some res) : W p l e rmX12_load s m args below meth c H locs 0 0 (zQi below args s D (tM cy) (wM ad cy) A res) (F0 m 298 ls []) := by
  have hx := hC.1
  have hb := hC.2.1
  unfold fX12_load_298_body at hf
  refine lv_iload hx hb dX12_load_298 (lv_at hl 2 rfl) ?_
  refine lv_aload_n hx hb dX12_load_300 rfl (lv_at hl 0 rfl) ?_
  refine z_get hC hI hinX12_load_X120 0 (wM_e0 ad cy σ) rfl 8 (by decide) (List.mem_cons_of_mem _ zw9_6) rfl dX12_load_301 ?_
  refine lv_icmp_ge (tgt := 333) hx hb dX12_load_304 (by decide) (fun q => ?_) (fun q => ?_)
  · replace hf := zif_t q hf
    refine lv_ldc (v := 32768) hx hb hC.2.2.2.1 (hC.2.2.2.2.1 _ (List.mem_cons_of_mem _ zw9_10)) dX12_load_333 ?_
    refine lv_istore (lv' := [(6, .int 32768), (0, .ref (ad 0)), (5, .int x5)]) hx hb dX12_load_335 hl (by decide) rfl (fun ls hl => ?_)
    exact blX12_load_337 hC  zfuel _ _ _ _ _ _ hI (lv_sub hl [1, 2, 0] rfl) hf
  replace hf := zif_f q hf
  refine lv_aload_n hx hb dX12_load_307 rfl (lv_at hl 0 rfl) ?_
  refine lv_dup hx hb dX12_load_308 rfl ?_
  refine z_get hC hI hinX12_load_X120 0 (wM_e0 ad cy σ) rfl 9 (by decide) (List.mem_cons_of_mem _ zw16_10) rfl dX12_load_309 ?_
  refine lv_aload_n hx hb dX12_load_312 rfl (lv_at hl 0 rfl) ?_
  refine z_get hC hI hinX12_load_X120 0 (wM_e0 ad cy σ) rfl 4 (by decide) (List.mem_cons_of_mem _ zw9_5) rfl dX12_load_313 ?_
  refine lv_iload hx hb dX12_load_316 (lv_at hl 2 rfl) ?_
  obtain ⟨q, hf⟩ := zck_use hf
  refine z_bald hC hI 2 1 (wM_e2 ad cy σ) (tM_t2 cy) q dX12_load_318 ?_
  refine lv_sipush (v := 255) hx hb dX12_load_319 (by decide) ?_
  refine lv_iand hx hb dX12_load_322 ?_
  refine lv_iadd hx hb dX12_load_323 ?_
  obtain ⟨σ11, eσ11⟩ : ∃ z, z = zsi σ 0 9 ((zgi σ 0 9) + ((zgi σ 2 x6.toNatClampNeg) &&& 255)) := ⟨_, rfl⟩
  replace hf := zbv_use eσ11 hf
  refine z_put hC hI hinX12_load_X120 tyX12_ok nmX12 0 (wM_e0 ad cy σ) rfl 9 (by decide) (List.mem_cons_of_mem _ zw16_10) rfl rfl rfl (Nat.le_of_ble_eq_true rfl) ((wM_s0_9 ad cy σ ((zgi σ 0 9) + ((zgi σ 2 x6.toNatClampNeg) &&& 255))).trans (congrArg (wM ad cy) eσ11.symm)) dX12_load_324 (fun H locs hI => ?_)
  obtain ⟨v12, ev12⟩ : ∃ z : Int32, z = x6 + 1 := ⟨_, rfl⟩
  replace hf := zbv_use ev12 hf
  refine lv_iinc (v := v12) (lv' := [(6, .int v12), (0, .ref (ad 0)), (5, .int x5)]) hx hb dX12_load_327 hl (k := 2) rfl (by rw [ev12]; rfl) (by decide) rfl (fun ls hl => ?_)
  refine lv_goto (tgt := 298) hx hb dX12_load_330 (by decide) ?_
  exact hk298 _ _ _ _ _ _ hI (lv_sub hl [1, 2, 0] rfl) hf
theorem blX12_load_298 {st : Nat → Nat} {p : Program} {l : Launch} {e : Env} {s : State} {m : MethodId} {args : Array Value} {below : List Frame} {meth : Method} {c : Code} {D : va_G} {A : Nat → Prop} {ad : Nat → Nat} {cy : Nat → ClassId} (hC : zC p m c cX12_load 7 s args wzX12_load RX12 meth (some .int))  {res : zSt × Int32} : ∀ (n : Nat) (H : Heap) (locs : List Loc) (σ : zSt) (ls : Array Slot) (x5 : Int32) (x6 : Int32), zI st D (tM cy) (wM ad cy σ) A s H locs → lv_has ls 7 [(0, .ref (ad 0)), (5, .int x5), (6, .int x6)] → fX12_load_298  n σ x5 x6 = some res → W p l e rmX12_load s m args below meth c H locs 0 0 (zQi below args s D (tM cy) (wM ad cy) A res) (F0 m 298 ls []) := by
  intro n
  induction n with
  | zero => intro H locs σ ls x5 x6 hI hl hf; cases hf
  | succ n ih => intro H locs σ ls x5 x6 hI hl hf; exact bX12_load_298_body hC ih hI hl hf
set_option maxRecDepth 20000 in
set_option maxHeartbeats 4000000 in
theorem bX12_load_293 {st : Nat → Nat} {p : Program} {l : Launch} {e : Env} {s : State} {m : MethodId} {args : Array Value} {below : List Frame} {meth : Method} {c : Code} {D : va_G} {A : Nat → Prop} {ad : Nat → Nat} {cy : Nat → ClassId} (hC : zC p m c cX12_load 7 s args wzX12_load RX12 meth (some .int))  {res : zSt × Int32} {H : Heap} {locs : List Loc} {σ : zSt} {ls : Array Slot} {s0 : Int32} (hI : zI st D (tM cy) (wM ad cy σ) A s H locs) (hl : lv_has ls 7 [(0, .ref (ad 0))]) (hf : fX12_load_293  σ s0 = some res) : W p l e rmX12_load s m args below meth c H locs 0 0 (zQi below args s D (tM cy) (wM ad cy) A res) (F0 m 293 ls [.int s0]) := by
  have hx := hC.1
  have hb := hC.2.1
  unfold fX12_load_293 at hf
  refine lv_istore (lv' := [(5, .int s0), (0, .ref (ad 0))]) hx hb dX12_load_293 hl (by decide) rfl (fun ls hl => ?_)
  refine lv_iconst (v := 0) hx hb dX12_load_295 (by decide) ?_
  refine lv_istore (lv' := [(6, .int 0), (5, .int s0), (0, .ref (ad 0))]) hx hb dX12_load_296 hl (by decide) rfl (fun ls hl => ?_)
  exact blX12_load_298 hC  zfuel _ _ _ _ _ _ hI (lv_sub hl [2, 1, 0] rfl) hf
set_option maxRecDepth 20000 in
set_option maxHeartbeats 4000000 in
theorem bX12_load_259 {st : Nat → Nat} {p : Program} {l : Launch} {e : Env} {s : State} {m : MethodId} {args : Array Value} {below : List Frame} {meth : Method} {c : Code} {D : va_G} {A : Nat → Prop} {ad : Nat → Nat} {cy : Nat → ClassId} (hC : zC p m c cX12_load 7 s args wzX12_load RX12 meth (some .int))  {res : zSt × Int32} {H : Heap} {locs : List Loc} {σ : zSt} {ls : Array Slot} {s0 : Int32} (hI : zI st D (tM cy) (wM ad cy σ) A s H locs) (hl : lv_has ls 7 [(0, .ref (ad 0))]) (hf : fX12_load_259  σ s0 = some res) : W p l e rmX12_load s m args below meth c H locs 0 0 (zQi below args s D (tM cy) (wM ad cy) A res) (F0 m 259 ls [.int s0, .ref (ad 0)]) := by
  have hx := hC.1
  have hb := hC.2.1
  unfold fX12_load_259 at hf
  obtain ⟨σ13, eσ13⟩ : ∃ z, z = zsi σ 0 7 s0 := ⟨_, rfl⟩
  replace hf := zbv_use eσ13 hf
  refine z_put hC hI hinX12_load_X120 tyX12_ok nmX12 0 (wM_e0 ad cy σ) rfl 7 (by decide) (List.mem_cons_of_mem _ zw10_16) rfl rfl rfl (Nat.le_of_ble_eq_true rfl) ((wM_s0_7 ad cy σ s0).trans (congrArg (wM ad cy) eσ13.symm)) dX12_load_259 (fun H locs hI => ?_)
  refine lv_aload_n hx hb dX12_load_262 rfl (lv_at hl 0 rfl) ?_
  refine lv_iconst (v := 0) hx hb dX12_load_263 (by decide) ?_
  obtain ⟨σ14, eσ14⟩ : ∃ z, z = zsi σ13 0 9 0 := ⟨_, rfl⟩
  replace hf := zbv_use eσ14 hf
  refine z_put hC hI hinX12_load_X120 tyX12_ok nmX12 0 (wM_e0 ad cy σ13) rfl 9 (by decide) (List.mem_cons_of_mem _ zw16_10) rfl rfl rfl (Nat.le_of_ble_eq_true rfl) ((wM_s0_9 ad cy σ13 0).trans (congrArg (wM ad cy) eσ14.symm)) dX12_load_264 (fun H locs hI => ?_)
  refine lv_aload_n hx hb dX12_load_267 rfl (lv_at hl 0 rfl) ?_
  refine z_get hC hI hinX12_load_X120 0 (wM_e0 ad cy σ14) rfl 8 (by decide) (List.mem_cons_of_mem _ zw9_6) rfl dX12_load_268 ?_
  refine lv_if_ge (tgt := 278) hx hb dX12_load_271 (by decide) (fun q => ?_) (fun q => ?_)
  · replace hf := zif_t q hf
    refine lv_aload_n hx hb dX12_load_278 rfl (lv_at hl 0 rfl) ?_
    refine z_get hC hI hinX12_load_X120 0 (wM_e0 ad cy σ14) rfl 4 (by decide) (List.mem_cons_of_mem _ zw9_5) rfl dX12_load_279 ?_
    refine lv_aload_n hx hb dX12_load_282 rfl (lv_at hl 0 rfl) ?_
    refine z_get hC hI hinX12_load_X120 0 (wM_e0 ad cy σ14) rfl 8 (by decide) (List.mem_cons_of_mem _ zw9_6) rfl dX12_load_283 ?_
    refine lv_bipush (v := 15) hx hb dX12_load_286 (by decide) ?_
    refine lv_iadd hx hb dX12_load_288 ?_
    obtain ⟨q, hf⟩ := zck_use hf
    refine z_bald hC hI 2 1 (wM_e2 ad cy σ14) (tM_t2 cy) q dX12_load_289 ?_
    refine lv_bipush (v := 15) hx hb dX12_load_290 (by decide) ?_
    refine lv_iand hx hb dX12_load_292 ?_
    exact bX12_load_293 hC  hI hl hf
  replace hf := zif_f q hf
  refine lv_iconst (v := 3) hx hb dX12_load_274 (by decide) ?_
  refine lv_goto (tgt := 293) hx hb dX12_load_275 (by decide) ?_
  exact bX12_load_293 hC  hI hl hf
set_option maxRecDepth 20000 in
set_option maxHeartbeats 4000000 in
theorem bX12_load_247 {st : Nat → Nat} {p : Program} {l : Launch} {e : Env} {s : State} {m : MethodId} {args : Array Value} {below : List Frame} {meth : Method} {c : Code} {D : va_G} {A : Nat → Prop} {ad : Nat → Nat} {cy : Nat → ClassId} (hC : zC p m c cX12_load 7 s args wzX12_load RX12 meth (some .int))  {res : zSt × Int32} {H : Heap} {locs : List Loc} {σ : zSt} {ls : Array Slot}  (hI : zI st D (tM cy) (wM ad cy σ) A s H locs) (hl : lv_has ls 7 [(0, .ref (ad 0))]) (hf : fX12_load_247  σ  = some res) : W p l e rmX12_load s m args below meth c H locs 0 0 (zQi below args s D (tM cy) (wM ad cy) A res) (F0 m 247 ls [.ref (ad 0)]) := by
  have hx := hC.1
  have hb := hC.2.1
  unfold fX12_load_247 at hf
  refine lv_aload_n hx hb dX12_load_247 rfl (lv_at hl 0 rfl) ?_
  refine z_get hC hI hinX12_load_X120 0 (wM_e0 ad cy σ) rfl 8 (by decide) (List.mem_cons_of_mem _ zw9_6) rfl dX12_load_248 ?_
  refine lv_if_ge (tgt := 258) hx hb dX12_load_251 (by decide) (fun q => ?_) (fun q => ?_)
  · replace hf := zif_t q hf
    refine lv_iconst (v := 1) hx hb dX12_load_258 (by decide) ?_
    exact bX12_load_259 hC  hI hl hf
  replace hf := zif_f q hf
  refine lv_iconst (v := 3) hx hb dX12_load_254 (by decide) ?_
  refine lv_goto (tgt := 259) hx hb dX12_load_255 (by decide) ?_
  exact bX12_load_259 hC  hI hl hf
set_option maxRecDepth 20000 in
set_option maxHeartbeats 4000000 in
theorem bX12_load_214 {st : Nat → Nat} {p : Program} {l : Launch} {e : Env} {s : State} {m : MethodId} {args : Array Value} {below : List Frame} {meth : Method} {c : Code} {D : va_G} {A : Nat → Prop} {ad : Nat → Nat} {cy : Nat → ClassId} (hC : zC p m c cX12_load 7 s args wzX12_load RX12 meth (some .int))  {res : zSt × Int32} {H : Heap} {locs : List Loc} {σ : zSt} {ls : Array Slot} {x3 : Int32} {s0 : Int32} (hI : zI st D (tM cy) (wM ad cy σ) A s H locs) (hl : lv_has ls 7 [(0, .ref (ad 0)), (3, .int x3)]) (hf : fX12_load_214  σ x3 s0 = some res) : W p l e rmX12_load s m args below meth c H locs 0 0 (zQi below args s D (tM cy) (wM ad cy) A res) (F0 m 214 ls [.int s0]) := by
  have hx := hC.1
  have hb := hC.2.1
  unfold fX12_load_214 at hf
  refine lv_istore (lv' := [(4, .int s0), (0, .ref (ad 0)), (3, .int x3)]) hx hb dX12_load_214 hl (by decide) rfl (fun ls hl => ?_)
  refine lv_aload_n hx hb dX12_load_216 rfl (lv_at hl 1 rfl) ?_
  refine lv_aload_n hx hb dX12_load_217 rfl (lv_at hl 1 rfl) ?_
  refine z_get hC hI hinX12_load_X120 0 (wM_e0 ad cy σ) rfl 5 (by decide) (List.mem_cons_of_mem _ zw16_6) rfl dX12_load_218 ?_
  refine lv_ldc (v := 49152) hx hb hC.2.2.2.1 (hC.2.2.2.2.1 _ (List.mem_cons_of_mem _ zw16_8)) dX12_load_221 ?_
  refine lv_icmp_gt (tgt := 230) hx hb dX12_load_223 (by decide) (fun q => ?_) (fun q => ?_)
  · replace hf := zif_t q hf
    refine lv_iload_n hx hb dX12_load_230 rfl (lv_at hl 2 rfl) ?_
    refine lv_if_le (tgt := 247) hx hb dX12_load_231 (by decide) (fun q => ?_) (fun q => ?_)
    · replace hf := zif_t q hf
      exact bX12_load_247 hC  hI (lv_sub hl [1] rfl) hf
    replace hf := zif_f q hf
    refine lv_iload_n hx hb dX12_load_234 rfl (lv_at hl 2 rfl) ?_
    refine lv_iload hx hb dX12_load_235 (lv_at hl 0 rfl) ?_
    refine lv_iadd hx hb dX12_load_237 ?_
    refine lv_ldc (v := 65536) hx hb hC.2.2.2.1 (hC.2.2.2.2.1 _ (List.mem_cons_of_mem _ zw16_9)) dX12_load_238 ?_
    refine lv_icmp_ne (tgt := 247) hx hb dX12_load_240 (by decide) (fun q => ?_) (fun q => ?_)
    · replace hf := zif_f q hf
      exact bX12_load_247 hC  hI (lv_sub hl [1] rfl) hf
    replace hf := zif_t q hf
    refine lv_iconst (v := 2) hx hb dX12_load_243 (by decide) ?_
    refine lv_goto (tgt := 259) hx hb dX12_load_244 (by decide) ?_
    exact bX12_load_259 hC  hI (lv_sub hl [1] rfl) hf
  replace hf := zif_f q hf
  refine lv_iconst (v := 0) hx hb dX12_load_226 (by decide) ?_
  refine lv_goto (tgt := 259) hx hb dX12_load_227 (by decide) ?_
  exact bX12_load_259 hC  hI (lv_sub hl [1] rfl) hf
set_option maxRecDepth 20000 in
set_option maxHeartbeats 4000000 in
theorem bX12_load_192 {st : Nat → Nat} {p : Program} {l : Launch} {e : Env} {s : State} {m : MethodId} {args : Array Value} {below : List Frame} {meth : Method} {c : Code} {D : va_G} {A : Nat → Prop} {ad : Nat → Nat} {cy : Nat → ClassId} (hC : zC p m c cX12_load 7 s args wzX12_load RX12 meth (some .int))  {res : zSt × Int32} {H : Heap} {locs : List Loc} {σ : zSt} {ls : Array Slot} {s0 : Int32} (hI : zI st D (tM cy) (wM ad cy σ) A s H locs) (hl : lv_has ls 7 [(0, .ref (ad 0))]) (hf : fX12_load_192  σ s0 = some res) : W p l e rmX12_load s m args below meth c H locs 0 0 (zQi below args s D (tM cy) (wM ad cy) A res) (F0 m 192 ls [.int s0]) := by
  have hx := hC.1
  have hb := hC.2.1
  unfold fX12_load_192 at hf
  refine lv_istore_n (lv' := [(3, .int s0), (0, .ref (ad 0))]) hx hb dX12_load_192 rfl hl (by decide) rfl (fun ls hl => ?_)
  refine lv_aload_n hx hb dX12_load_193 rfl (lv_at hl 1 rfl) ?_
  refine z_get hC hI hinX12_load_X120 0 (wM_e0 ad cy σ) rfl 5 (by decide) (List.mem_cons_of_mem _ zw16_6) rfl dX12_load_194 ?_
  refine lv_ldc (v := 49152) hx hb hC.2.2.2.1 (hC.2.2.2.2.1 _ (List.mem_cons_of_mem _ zw16_8)) dX12_load_197 ?_
  refine lv_icmp_le (tgt := 213) hx hb dX12_load_199 (by decide) (fun q => ?_) (fun q => ?_)
  · replace hf := zif_t q hf
    refine lv_iconst (v := 0) hx hb dX12_load_213 (by decide) ?_
    exact bX12_load_214 hC  hI (lv_sub hl [1, 0] rfl) hf
  replace hf := zif_f q hf
  refine lv_aload_n hx hb dX12_load_202 rfl (lv_at hl 1 rfl) ?_
  refine lv_sipush (v := 32744) hx hb dX12_load_203 (by decide) ?_
  refine lv_iconst (v := 2) hx hb dX12_load_206 (by decide) ?_
  obtain ⟨σ15, v16, g15, hf⟩ := zbi_use hf
  refine z_callVi (As := [.int 32744, .int 2]) (rest := []) hC hI (cX12_bytesAt_met st l D ad cy σ 32744 2 _ g15) (zgV zw16_17 zw16_18 zw16_19 zw1_5 zw16_20) rfl ⟨rfl, rfl⟩ 2 hdX12_bytesAt ⟨Nat.le_of_ble_eq_true rfl, Nat.le_of_ble_eq_true rfl⟩ rfl rfl (wM_e0 ad cy σ) rfl hl rfl (Nat.le_of_ble_eq_true rfl) dX12_load_207 ⟨Nat.zero_le _, Nat.zero_le _⟩ (fun H locs hI => ?_)
  refine lv_goto (tgt := 214) hx hb dX12_load_210 (by decide) ?_
  exact bX12_load_214 hC  hI (lv_sub hl [1, 0] rfl) hf
set_option maxRecDepth 20000 in
set_option maxHeartbeats 4000000 in
theorem bX12_load_142_body {st : Nat → Nat} {p : Program} {l : Launch} {e : Env} {s : State} {m : MethodId} {args : Array Value} {below : List Frame} {meth : Method} {c : Code} {D : va_G} {A : Nat → Prop} {ad : Nat → Nat} {cy : Nat → ClassId} (hC : zC p m c cX12_load 7 s args wzX12_load RX12 meth (some .int)) {k142 : zSt → Int32 → Option (zSt × Int32)} {res : zSt × Int32} (hk142 : ∀ (H : Heap) (locs : List Loc) (σ : zSt) (ls : Array Slot) (x3 : Int32), zI st D (tM cy) (wM ad cy σ) A s H locs → lv_has ls 7 [(0, .ref (ad 0)), (3, .int x3)] → k142 σ x3 = some res → W p l e rmX12_load s m args below meth c H locs 0 0 (zQi below args s D (tM cy) (wM ad cy) A res) (F0 m 142 ls [])) {H : Heap} {locs : List Loc} {σ : zSt} {ls : Array Slot} {x3 : Int32} (hI : zI st D (tM cy) (wM ad cy σ) A s H locs) (hl : lv_has ls 7 [(0, .ref (ad 0)), (3, .int x3)]) (hf : fX12_load_142_body k142 σ x3 = some res) : W p l e rmX12_load s m args below meth c H locs 0 0 (zQi below args s D (tM cy) (wM ad cy) A res) (F0 m 142 ls []) := by
  have hx := hC.1
  have hb := hC.2.1
  unfold fX12_load_142_body at hf
  refine lv_iload_n hx hb dX12_load_142 rfl (lv_at hl 1 rfl) ?_
  refine lv_ldc (v := 32768) hx hb hC.2.2.2.1 (hC.2.2.2.2.1 _ (List.mem_cons_of_mem _ zw9_10)) dX12_load_143 ?_
  refine lv_icmp_ge (tgt := 171) hx hb dX12_load_145 (by decide) (fun q => ?_) (fun q => ?_)
  · replace hf := zif_t q hf
    refine lv_aload_n hx hb dX12_load_171 rfl (lv_at hl 0 rfl) ?_
    refine z_get hC hI hinX12_load_X120 0 (wM_e0 ad cy σ) rfl 5 (by decide) (List.mem_cons_of_mem _ zw16_6) rfl dX12_load_172 ?_
    refine lv_ldc (v := 49152) hx hb hC.2.2.2.1 (hC.2.2.2.2.1 _ (List.mem_cons_of_mem _ zw16_8)) dX12_load_175 ?_
    refine lv_icmp_le (tgt := 191) hx hb dX12_load_177 (by decide) (fun q => ?_) (fun q => ?_)
    · replace hf := zif_t q hf
      refine lv_iconst (v := 0) hx hb dX12_load_191 (by decide) ?_
      exact bX12_load_192 hC  hI (lv_sub hl [0] rfl) hf
    replace hf := zif_f q hf
    refine lv_aload_n hx hb dX12_load_180 rfl (lv_at hl 0 rfl) ?_
    refine lv_sipush (v := 32742) hx hb dX12_load_181 (by decide) ?_
    refine lv_iconst (v := 2) hx hb dX12_load_184 (by decide) ?_
    obtain ⟨σ17, v18, g17, hf⟩ := zbi_use hf
    refine z_callVi (As := [.int 32742, .int 2]) (rest := []) hC hI (cX12_bytesAt_met st l D ad cy σ 32742 2 _ g17) (zgV zw16_17 zw16_18 zw16_19 zw1_5 zw16_20) rfl ⟨rfl, rfl⟩ 2 hdX12_bytesAt ⟨Nat.le_of_ble_eq_true rfl, Nat.le_of_ble_eq_true rfl⟩ rfl rfl (wM_e0 ad cy σ) rfl hl rfl (Nat.le_of_ble_eq_true rfl) dX12_load_185 ⟨Nat.zero_le _, Nat.zero_le _⟩ (fun H locs hI => ?_)
    refine lv_goto (tgt := 192) hx hb dX12_load_188 (by decide) ?_
    exact bX12_load_192 hC  hI (lv_sub hl [0] rfl) hf
  replace hf := zif_f q hf
  refine lv_aload_n hx hb dX12_load_148 rfl (lv_at hl 0 rfl) ?_
  refine lv_iload_n hx hb dX12_load_149 rfl (lv_at hl 1 rfl) ?_
  obtain ⟨σ19, v20, g19, hf⟩ := zbi_use hf
  refine z_callVi (As := [.int x3]) (rest := []) hC hI (cX12_isHeader_met st l D ad cy σ x3 _ g19) (zgV zw16_13 zw16_14 zw16_15 zw1_5 zw16_16) rfl ⟨rfl, rfl⟩ 1 hdX12_isHeader ⟨Nat.le_of_ble_eq_true rfl, Nat.le_of_ble_eq_true rfl⟩ rfl rfl (wM_e0 ad cy σ) rfl hl rfl (Nat.le_of_ble_eq_true rfl) dX12_load_150 ⟨Nat.zero_le _, Nat.zero_le _⟩ (fun H locs hI => ?_)
  refine lv_if_eq (tgt := 161) hx hb dX12_load_153 (by decide) (fun q => ?_) (fun q => ?_)
  · replace hf := zif_t q hf
    exact bX12_load_161 hC hk142 hI hl hf
  replace hf := zif_f q hf
  refine lv_aload_n hx hb dX12_load_156 rfl (lv_at hl 0 rfl) ?_
  refine lv_iload_n hx hb dX12_load_157 rfl (lv_at hl 1 rfl) ?_
  obtain ⟨σ21, eσ21⟩ : ∃ z, z = zsi σ19 0 8 x3 := ⟨_, rfl⟩
  replace hf := zbv_use eσ21 hf
  refine z_put hC hI hinX12_load_X120 tyX12_ok nmX12 0 (wM_e0 ad cy σ19) rfl 8 (by decide) (List.mem_cons_of_mem _ zw9_6) rfl rfl rfl (Nat.le_of_ble_eq_true rfl) ((wM_s0_8 ad cy σ19 x3).trans (congrArg (wM ad cy) eσ21.symm)) dX12_load_158 (fun H locs hI => ?_)
  exact bX12_load_161 hC hk142 hI hl hf
theorem blX12_load_142 {st : Nat → Nat} {p : Program} {l : Launch} {e : Env} {s : State} {m : MethodId} {args : Array Value} {below : List Frame} {meth : Method} {c : Code} {D : va_G} {A : Nat → Prop} {ad : Nat → Nat} {cy : Nat → ClassId} (hC : zC p m c cX12_load 7 s args wzX12_load RX12 meth (some .int))  {res : zSt × Int32} : ∀ (n : Nat) (H : Heap) (locs : List Loc) (σ : zSt) (ls : Array Slot) (x3 : Int32), zI st D (tM cy) (wM ad cy σ) A s H locs → lv_has ls 7 [(0, .ref (ad 0)), (3, .int x3)] → fX12_load_142  n σ x3 = some res → W p l e rmX12_load s m args below meth c H locs 0 0 (zQi below args s D (tM cy) (wM ad cy) A res) (F0 m 142 ls []) := by
  intro n
  induction n with
  | zero => intro H locs σ ls x3 hI hl hf; cases hf
  | succ n ih => intro H locs σ ls x3 hI hl hf; exact bX12_load_142_body hC ih hI hl hf
set_option maxRecDepth 20000 in
set_option maxHeartbeats 4000000 in
theorem bX12_load_89_body {st : Nat → Nat} {p : Program} {l : Launch} {e : Env} {s : State} {m : MethodId} {args : Array Value} {below : List Frame} {meth : Method} {c : Code} {D : va_G} {A : Nat → Prop} {ad : Nat → Nat} {cy : Nat → ClassId} (hC : zC p m c cX12_load 7 s args wzX12_load RX12 meth (some .int)) {k89 : zSt → Int32 → Int32 → Option (zSt × Int32)} {res : zSt × Int32} (hk89 : ∀ (H : Heap) (locs : List Loc) (σ : zSt) (ls : Array Slot) (x1 : Int32) (x3 : Int32), zI st D (tM cy) (wM ad cy σ) A s H locs → lv_has ls 7 [(0, .ref (ad 0)), (1, .int x1), (3, .int x3)] → k89 σ x1 x3 = some res → W p l e rmX12_load s m args below meth c H locs 0 0 (zQi below args s D (tM cy) (wM ad cy) A res) (F0 m 89 ls [])) {H : Heap} {locs : List Loc} {σ : zSt} {ls : Array Slot} {x1 : Int32} {x3 : Int32} (hI : zI st D (tM cy) (wM ad cy σ) A s H locs) (hl : lv_has ls 7 [(0, .ref (ad 0)), (1, .int x1), (3, .int x3)]) (hf : fX12_load_89_body k89 σ x1 x3 = some res) : W p l e rmX12_load s m args below meth c H locs 0 0 (zQi below args s D (tM cy) (wM ad cy) A res) (F0 m 89 ls []) := by
  have hx := hC.1
  have hb := hC.2.1
  unfold fX12_load_89_body at hf
  refine lv_iload_n hx hb dX12_load_89 rfl (lv_at hl 2 rfl) ?_
  refine lv_sipush (v := 16384) hx hb dX12_load_90 (by decide) ?_
  refine lv_aload_n hx hb dX12_load_93 rfl (lv_at hl 0 rfl) ?_
  refine z_get hC hI hinX12_load_X120 0 (wM_e0 ad cy σ) rfl 6 (by decide) (List.mem_cons_of_mem _ zw16_7) rfl dX12_load_94 ?_
  refine lv_imul hx hb dX12_load_97 ?_
  refine lv_icmp_ge (tgt := 133) hx hb dX12_load_98 (by decide) (fun q => ?_) (fun q => ?_)
  · replace hf := zif_t q hf
    refine lv_aload_n hx hb dX12_load_133 rfl (lv_at hl 0 rfl) ?_
    refine lv_iconst (v := (-1)) hx hb dX12_load_134 (by decide) ?_
    obtain ⟨σ22, eσ22⟩ : ∃ z, z = zsi σ 0 8 (-1) := ⟨_, rfl⟩
    replace hf := zbv_use eσ22 hf
    refine z_put hC hI hinX12_load_X120 tyX12_ok nmX12 0 (wM_e0 ad cy σ) rfl 8 (by decide) (List.mem_cons_of_mem _ zw9_6) rfl rfl rfl (Nat.le_of_ble_eq_true rfl) ((wM_s0_8 ad cy σ (-1)).trans (congrArg (wM ad cy) eσ22.symm)) dX12_load_135 (fun H locs hI => ?_)
    refine lv_sipush (v := 8176) hx hb dX12_load_138 (by decide) ?_
    refine lv_istore_n (lv' := [(3, .int 8176), (0, .ref (ad 0)), (1, .int x1)]) hx hb dX12_load_141 rfl hl (by decide) rfl (fun ls hl => ?_)
    exact blX12_load_142 hC  zfuel _ _ _ _ _ hI (lv_sub hl [1, 0] rfl) hf
  replace hf := zif_f q hf
  refine lv_aload_n hx hb dX12_load_101 rfl (lv_at hl 0 rfl) ?_
  refine z_get hC hI hinX12_load_X120 0 (wM_e0 ad cy σ) rfl 4 (by decide) (List.mem_cons_of_mem _ zw9_5) rfl dX12_load_102 ?_
  refine lv_iload_n hx hb dX12_load_105 rfl (lv_at hl 2 rfl) ?_
  refine lv_iload_n hx hb dX12_load_106 rfl (lv_at hl 2 rfl) ?_
  refine lv_aload_n hx hb dX12_load_107 rfl (lv_at hl 0 rfl) ?_
  refine z_get hC hI hinX12_load_X120 0 (wM_e0 ad cy σ) rfl 5 (by decide) (List.mem_cons_of_mem _ zw16_6) rfl dX12_load_108 ?_
  refine lv_icmp_ge (tgt := 125) hx hb dX12_load_111 (by decide) (fun q => ?_) (fun q => ?_)
  · replace hf := zif_t q hf
    refine lv_iconst (v := (-1)) hx hb dX12_load_125 (by decide) ?_
    exact bX12_load_126 hC hk89 hI hl hf
  replace hf := zif_f q hf
  refine lv_aload_n hx hb dX12_load_114 rfl (lv_at hl 0 rfl) ?_
  refine z_get hC hI hinX12_load_X120 0 (wM_e0 ad cy σ) rfl 1 (by decide) (List.mem_cons_of_mem _ zw9_3) rfl dX12_load_115 ?_
  refine lv_iload_n hx hb dX12_load_118 rfl (lv_at hl 1 rfl) ?_
  refine lv_iload_n hx hb dX12_load_119 rfl (lv_at hl 2 rfl) ?_
  refine lv_iadd hx hb dX12_load_120 ?_
  obtain ⟨q, hf⟩ := zck_use hf
  refine z_bald hC hI 1 0 (wM_e1 ad cy σ) (tM_t1 cy) q dX12_load_121 ?_
  refine lv_goto (tgt := 126) hx hb dX12_load_122 (by decide) ?_
  exact bX12_load_126 hC hk89 hI hl hf
theorem blX12_load_89 {st : Nat → Nat} {p : Program} {l : Launch} {e : Env} {s : State} {m : MethodId} {args : Array Value} {below : List Frame} {meth : Method} {c : Code} {D : va_G} {A : Nat → Prop} {ad : Nat → Nat} {cy : Nat → ClassId} (hC : zC p m c cX12_load 7 s args wzX12_load RX12 meth (some .int))  {res : zSt × Int32} : ∀ (n : Nat) (H : Heap) (locs : List Loc) (σ : zSt) (ls : Array Slot) (x1 : Int32) (x3 : Int32), zI st D (tM cy) (wM ad cy σ) A s H locs → lv_has ls 7 [(0, .ref (ad 0)), (1, .int x1), (3, .int x3)] → fX12_load_89  n σ x1 x3 = some res → W p l e rmX12_load s m args below meth c H locs 0 0 (zQi below args s D (tM cy) (wM ad cy) A res) (F0 m 89 ls []) := by
  intro n
  induction n with
  | zero => intro H locs σ ls x1 x3 hI hl hf; cases hf
  | succ n ih => intro H locs σ ls x1 x3 hI hl hf; exact bX12_load_89_body hC ih hI hl hf
set_option maxRecDepth 20000 in
set_option maxHeartbeats 4000000 in
theorem bX12_load_26 {st : Nat → Nat} {p : Program} {l : Launch} {e : Env} {s : State} {m : MethodId} {args : Array Value} {below : List Frame} {meth : Method} {c : Code} {D : va_G} {A : Nat → Prop} {ad : Nat → Nat} {cy : Nat → ClassId} (hC : zC p m c cX12_load 7 s args wzX12_load RX12 meth (some .int))  {res : zSt × Int32} {H : Heap} {locs : List Loc} {σ : zSt} {ls : Array Slot} {s0 : Int32} (hI : zI st D (tM cy) (wM ad cy σ) A s H locs) (hl : lv_has ls 7 [(0, .ref (ad 0))]) (hf : fX12_load_26  σ s0 = some res) : W p l e rmX12_load s m args below meth c H locs 0 0 (zQi below args s D (tM cy) (wM ad cy) A res) (F0 m 26 ls [.int s0]) := by
  have hx := hC.1
  have hb := hC.2.1
  unfold fX12_load_26 at hf
  refine lv_istore_n (lv' := [(1, .int s0), (0, .ref (ad 0))]) hx hb dX12_load_26 rfl hl (by decide) rfl (fun ls hl => ?_)
  refine lv_aload_n hx hb dX12_load_27 rfl (lv_at hl 1 rfl) ?_
  refine z_get hC hI hinX12_load_X120 0 (wM_e0 ad cy σ) rfl 2 (by decide) (List.mem_cons_of_mem _ zw11_17) rfl dX12_load_28 ?_
  refine lv_iload_n hx hb dX12_load_31 rfl (lv_at hl 0 rfl) ?_
  refine lv_isub hx hb dX12_load_32 ?_
  refine lv_topi (fun v23 ev23 => ?_)
  replace hf := zbv_use ev23 hf
  refine lv_istore_n (lv' := [(2, .int v23), (1, .int s0), (0, .ref (ad 0))]) hx hb dX12_load_33 rfl hl (by decide) rfl (fun ls hl => ?_)
  refine lv_aload_n hx hb dX12_load_34 rfl (lv_at hl 2 rfl) ?_
  refine lv_iconst (v := 0) hx hb dX12_load_35 (by decide) ?_
  obtain ⟨σ24, eσ24⟩ : ∃ z, z = zsi σ 0 2 0 := ⟨_, rfl⟩
  replace hf := zbv_use eσ24 hf
  refine z_put hC hI hinX12_load_X120 tyX12_ok nmX12 0 (wM_e0 ad cy σ) rfl 2 (by decide) (List.mem_cons_of_mem _ zw11_17) rfl rfl rfl (Nat.le_of_ble_eq_true rfl) ((wM_s0_2 ad cy σ 0).trans (congrArg (wM ad cy) eσ24.symm)) dX12_load_36 (fun H locs hI => ?_)
  refine lv_iload_n hx hb dX12_load_39 rfl (lv_at hl 0 rfl) ?_
  refine lv_sipush (v := 8192) hx hb dX12_load_40 (by decide) ?_
  refine lv_icmp_ge (tgt := 48) hx hb dX12_load_43 (by decide) (fun q => ?_) (fun q => ?_)
  · replace hf := zif_t q hf
    refine lv_iload_n hx hb dX12_load_48 rfl (lv_at hl 0 rfl) ?_
    refine lv_sipush (v := 8192) hx hb dX12_load_49 (by decide) ?_
    obtain ⟨q, hf⟩ := zck_use hf
    refine z_irem hx hb dX12_load_52 (of_decide_eq_true q) ?_
    refine lv_if_eq (tgt := 58) hx hb dX12_load_53 (by decide) (fun q => ?_) (fun q => ?_)
    · replace hf := zif_t q hf
      refine lv_iload_n hx hb dX12_load_58 rfl (lv_at hl 0 rfl) ?_
      refine lv_ldc (v := 262144) hx hb hC.2.2.2.1 (hC.2.2.2.2.1 _ (List.mem_cons_of_mem _ zw9_4)) dX12_load_59 ?_
      refine lv_icmp_le (tgt := 66) hx hb dX12_load_61 (by decide) (fun q => ?_) (fun q => ?_)
      · replace hf := zif_t q hf
        refine lv_aload_n hx hb dX12_load_66 rfl (lv_at hl 2 rfl) ?_
        refine lv_iload_n hx hb dX12_load_67 rfl (lv_at hl 0 rfl) ?_
        obtain ⟨σ25, eσ25⟩ : ∃ z, z = zsi σ24 0 5 v23 := ⟨_, rfl⟩
        replace hf := zbv_use eσ25 hf
        refine z_put hC hI hinX12_load_X120 tyX12_ok nmX12 0 (wM_e0 ad cy σ24) rfl 5 (by decide) (List.mem_cons_of_mem _ zw16_6) rfl rfl rfl (Nat.le_of_ble_eq_true rfl) ((wM_s0_5 ad cy σ24 v23).trans (congrArg (wM ad cy) eσ25.symm)) dX12_load_68 (fun H locs hI => ?_)
        refine lv_aload_n hx hb dX12_load_71 rfl (lv_at hl 2 rfl) ?_
        refine lv_aload_n hx hb dX12_load_72 rfl (lv_at hl 2 rfl) ?_
        refine z_get hC hI hinX12_load_X120 0 (wM_e0 ad cy σ25) rfl 5 (by decide) (List.mem_cons_of_mem _ zw16_6) rfl dX12_load_73 ?_
        refine lv_sipush (v := 16383) hx hb dX12_load_76 (by decide) ?_
        refine lv_iadd hx hb dX12_load_79 ?_
        refine lv_sipush (v := 16384) hx hb dX12_load_80 (by decide) ?_
        obtain ⟨q, hf⟩ := zck_use hf
        refine lv_idiv hx hb dX12_load_83 (of_decide_eq_true q) ?_
        obtain ⟨σ26, eσ26⟩ : ∃ z, z = zsi σ25 0 6 (((zgi σ25 0 5) + 16383) / 16384) := ⟨_, rfl⟩
        replace hf := zbv_use eσ26 hf
        refine z_put hC hI hinX12_load_X120 tyX12_ok nmX12 0 (wM_e0 ad cy σ25) rfl 6 (by decide) (List.mem_cons_of_mem _ zw16_7) rfl rfl rfl (Nat.le_of_ble_eq_true rfl) ((wM_s0_6 ad cy σ25 (((zgi σ25 0 5) + 16383) / 16384)).trans (congrArg (wM ad cy) eσ26.symm)) dX12_load_84 (fun H locs hI => ?_)
        refine lv_iconst (v := 0) hx hb dX12_load_87 (by decide) ?_
        refine lv_istore_n (lv' := [(3, .int 0), (2, .int v23), (1, .int s0), (0, .ref (ad 0))]) hx hb dX12_load_88 rfl hl (by decide) rfl (fun ls hl => ?_)
        exact blX12_load_89 hC  zfuel _ _ _ _ _ _ hI (lv_sub hl [3, 2, 0] rfl) hf
      replace hf := zif_f q hf
      refine lv_iconst (v := 3) hx hb dX12_load_64 (by decide) ?_
      exact z_ireturn hC hI hf dX12_load_65
    replace hf := zif_f q hf
    refine lv_iconst (v := 2) hx hb dX12_load_56 (by decide) ?_
    exact z_ireturn hC hI hf dX12_load_57
  replace hf := zif_f q hf
  refine lv_iconst (v := 1) hx hb dX12_load_46 (by decide) ?_
  exact z_ireturn hC hI hf dX12_load_47
set_option maxRecDepth 20000 in
set_option maxHeartbeats 4000000 in
theorem bX12_load {st : Nat → Nat} {p : Program} {l : Launch} {e : Env} {s : State} {m : MethodId} {args : Array Value} {below : List Frame} {meth : Method} {c : Code} {D : va_G} {A : Nat → Prop} {ad : Nat → Nat} {cy : Nat → ClassId} (hC : zC p m c cX12_load 7 s args wzX12_load RX12 meth (some .int))  {res : zSt × Int32} {H : Heap} {locs : List Loc} {σ : zSt} {ls : Array Slot}  (hI : zI st D (tM cy) (wM ad cy σ) A s H locs) (hl : lv_has ls 7 [(0, .ref (ad 0))]) (hf : fX12_load  σ  = some res) : W p l e rmX12_load s m args below meth c H locs 0 0 (zQi below args s D (tM cy) (wM ad cy) A res) (F0 m 0 ls []) := by
  have hx := hC.1
  have hb := hC.2.1
  unfold fX12_load at hf
  refine lv_aload_n hx hb dX12_load_0 rfl (lv_at hl 0 rfl) ?_
  refine lv_iconst (v := 0) hx hb dX12_load_1 (by decide) ?_
  obtain ⟨σ27, eσ27⟩ : ∃ z, z = zsi σ 0 0 0 := ⟨_, rfl⟩
  replace hf := zbv_use eσ27 hf
  refine z_put hC hI hinX12_load_X120 tyX12_ok nmX12 0 (wM_e0 ad cy σ) rfl 0 (by decide) (List.mem_cons_of_mem _ zw12_1) rfl rfl rfl (Nat.le_of_ble_eq_true rfl) ((wM_s0_0 ad cy σ 0).trans (congrArg (wM ad cy) eσ27.symm)) dX12_load_2 (fun H locs hI => ?_)
  refine lv_aload_n hx hb dX12_load_5 rfl (lv_at hl 0 rfl) ?_
  refine z_get hC hI hinX12_load_X120 0 (wM_e0 ad cy σ27) rfl 2 (by decide) (List.mem_cons_of_mem _ zw11_17) rfl dX12_load_6 ?_
  refine lv_sipush (v := 16384) hx hb dX12_load_9 (by decide) ?_
  obtain ⟨q, hf⟩ := zck_use hf
  refine z_irem hx hb dX12_load_12 (of_decide_eq_true q) ?_
  refine lv_sipush (v := 512) hx hb dX12_load_13 (by decide) ?_
  refine lv_icmp_ne (tgt := 25) hx hb dX12_load_16 (by decide) (fun q => ?_) (fun q => ?_)
  · replace hf := zif_f q hf
    refine lv_iconst (v := 0) hx hb dX12_load_25 (by decide) ?_
    exact bX12_load_26 hC  hI hl hf
  replace hf := zif_t q hf
  refine lv_sipush (v := 512) hx hb dX12_load_19 (by decide) ?_
  refine lv_goto (tgt := 26) hx hb dX12_load_22 (by decide) ?_
  exact bX12_load_26 hC  hI hl hf
set_option maxRecDepth 20000 in
theorem cX12_load_met (st : Nat → Nat) (l : Launch) (D : va_G) (ad : Nat → Nat) (cy : Nat → ClassId) (σ : zSt)  (res : zSt × Int32) (hf : fX12_load σ  = some res) (sz : Nat) : zMi st l yX12_load wzX12_load rmX12_load [.ref (ad 0)] D (tM cy) (wM ad cy) sz σ res :=
  zMi.of (cc := cX12_load) (maxL := 7) (ret := (some .int)) (by decide) rfl (Nat.le_of_ble_eq_true rfl) (fun p e s m args below meth c hC A hI ls hl => bX12_load hC hI hl hf)
theorem hdX12_load : yX12_load.cls = RX12 ∧ yX12_load.cls ≠ "java/lang/invoke/MethodHandle" ∧ yX12_load.cls ≠ "java/lang/invoke/VarHandle" ∧ (parseMethodDescriptor yX12_load.desc).map (fun d => d.parameters.length) = some 0 := by decide +kernel
def rmX12_tens : Room := { frames := 0, cells := 0, slots := 0, locals := 0 }
def wzX12_tens : List Cond := .code yX12_tens cX12_tens 2 (some .int) :: wsL_law
theorem hinX12_tens_X120 : ∀ w ∈ wsX120, w ∈ wzX12_tens := fun w h => List.mem_cons_of_mem _ (inlX12 w h)
def fX12_tens  (σ : zSt) (x1 : Int32) : Option (zSt × Int32) :=
  zck (zin x1 262144) (
  zck (zin x1 262144) (
  some (σ, (10 * (((zgi σ 2 x1.toNatClampNeg) >>> ((4 : Int32) &&& 31)) &&& 15)) + ((zgi σ 2 x1.toNatClampNeg) &&& 15))))
set_option maxRecDepth 20000 in
set_option maxHeartbeats 4000000 in
theorem bX12_tens {st : Nat → Nat} {p : Program} {l : Launch} {e : Env} {s : State} {m : MethodId} {args : Array Value} {below : List Frame} {meth : Method} {c : Code} {D : va_G} {A : Nat → Prop} {ad : Nat → Nat} {cy : Nat → ClassId} (hC : zC p m c cX12_tens 2 s args wzX12_tens RX12 meth (some .int))  {res : zSt × Int32} {H : Heap} {locs : List Loc} {σ : zSt} {ls : Array Slot} {x1 : Int32} (hI : zI st D (tM cy) (wM ad cy σ) A s H locs) (hl : lv_has ls 2 [(0, .ref (ad 0)), (1, .int x1)]) (hf : fX12_tens  σ x1 = some res) : W p l e rmX12_tens s m args below meth c H locs 0 0 (zQi below args s D (tM cy) (wM ad cy) A res) (F0 m 0 ls []) := by
  have hx := hC.1
  have hb := hC.2.1
  unfold fX12_tens at hf
  refine lv_bipush (v := 10) hx hb dX12_tens_0 (by decide) ?_
  refine lv_aload_n hx hb dX12_tens_2 rfl (lv_at hl 0 rfl) ?_
  refine z_get hC hI hinX12_tens_X120 0 (wM_e0 ad cy σ) rfl 4 (by decide) (List.mem_cons_of_mem _ zw9_5) rfl dX12_tens_3 ?_
  refine lv_iload_n hx hb dX12_tens_6 rfl (lv_at hl 1 rfl) ?_
  obtain ⟨q, hf⟩ := zck_use hf
  refine z_bald hC hI 2 1 (wM_e2 ad cy σ) (tM_t2 cy) q dX12_tens_7 ?_
  refine lv_iconst (v := 4) hx hb dX12_tens_8 (by decide) ?_
  refine lv_ishr hx hb dX12_tens_9 ?_
  refine lv_bipush (v := 15) hx hb dX12_tens_10 (by decide) ?_
  refine lv_iand hx hb dX12_tens_12 ?_
  refine lv_imul hx hb dX12_tens_13 ?_
  refine lv_aload_n hx hb dX12_tens_14 rfl (lv_at hl 0 rfl) ?_
  refine z_get hC hI hinX12_tens_X120 0 (wM_e0 ad cy σ) rfl 4 (by decide) (List.mem_cons_of_mem _ zw9_5) rfl dX12_tens_15 ?_
  refine lv_iload_n hx hb dX12_tens_18 rfl (lv_at hl 1 rfl) ?_
  obtain ⟨q, hf⟩ := zck_use hf
  refine z_bald hC hI 2 1 (wM_e2 ad cy σ) (tM_t2 cy) q dX12_tens_19 ?_
  refine lv_bipush (v := 15) hx hb dX12_tens_20 (by decide) ?_
  refine lv_iand hx hb dX12_tens_22 ?_
  refine lv_iadd hx hb dX12_tens_23 ?_
  exact z_ireturn hC hI hf dX12_tens_24
set_option maxRecDepth 20000 in
theorem cX12_tens_met (st : Nat → Nat) (l : Launch) (D : va_G) (ad : Nat → Nat) (cy : Nat → ClassId) (σ : zSt) (x1 : Int32) (res : zSt × Int32) (hf : fX12_tens σ x1 = some res) (sz : Nat) : zMi st l yX12_tens wzX12_tens rmX12_tens [.ref (ad 0), .int x1] D (tM cy) (wM ad cy) sz σ res :=
  zMi.of (cc := cX12_tens) (maxL := 2) (ret := (some .int)) (by decide) rfl (Nat.le_of_ble_eq_true rfl) (fun p e s m args below meth c hC A hI ls hl => bX12_tens hC hI hl hf)
theorem hdX12_tens : yX12_tens.cls = RX12 ∧ yX12_tens.cls ≠ "java/lang/invoke/MethodHandle" ∧ yX12_tens.cls ≠ "java/lang/invoke/VarHandle" ∧ (parseMethodDescriptor yX12_tens.desc).map (fun d => d.parameters.length) = some 1 := by decide +kernel
def rmX12_card : Room := { frames := 1, cells := 0, slots := 0, locals := 25 }
def wzX12_card : List Cond := .code yX12_card cX12_card 2 (some .int) :: wsL_law
theorem hinX12_card_X120 : ∀ w ∈ wsX120, w ∈ wzX12_card := fun w h => List.mem_cons_of_mem _ (inlX12 w h)
def fX12_card_59  (σ : zSt) (s0 : Int32) : Option (zSt × Int32) :=
  some (σ, s0)
def fX12_card_18  (σ : zSt) (x1 : Int32) (s0 : Int32) : Option (zSt × Int32) :=
  zbi (fX12_fails σ s0 1) (fun σ1 v2 =>
  if v2 = 0 then if 3 ≤ x1 then if 0 ≤ (zgi σ1 0 8) then if x1 = 3 then zbi (fX12_tens σ1 ((zgi σ1 0 8) + 12)) (fun σ3 v4 =>
  zbi (fX12_tens σ3 ((zgi σ3 0 8) + 13)) (fun σ5 v6 =>
  zck (zin ((zgi σ5 0 8) + 14) 262144) (
  some (σ5, (v4 + (100 * v6)) + (10000 * (((zgi σ5 2 ((zgi σ5 0 8) + 14).toNatClampNeg) >>> ((4 : Int32) &&& 31)) &&& 15)))))) else
  if x1 = 4 then zck (zin ((zgi σ1 0 8) + 15) 262144) (
  some (σ1, ((zgi σ1 2 ((zgi σ1 0 8) + 15).toNatClampNeg) >>> ((4 : Int32) &&& 31)) &&& 15)) else
  if x1 = 5 then zck (zin ((zgi σ1 0 8) + 15) 262144) (
  some (σ1, (zgi σ1 2 ((zgi σ1 0 8) + 15).toNatClampNeg) &&& 15)) else
  if x1 = 6 then zbi (fX12_bytesAt σ1 ((zgi σ1 0 8) + 10) 2) (fun σ7 v8 =>
  some (σ7, v8)) else
  some (σ1, zgi σ1 0 9) else
  some (σ1, 0) else
  if x1 = 0 then fX12_card_59 σ1 (zgi σ1 0 7) else
  if x1 = 1 then fX12_card_59 σ1 (zgi σ1 0 6) else
  fX12_card_59 σ1 (zgi σ1 0 8) else
  some (σ1, 0))
def fX12_card  (σ : zSt) (x1 : Int32) : Option (zSt × Int32) :=
  zbi (fX12_within σ (x1.toInt64) 0 7) (fun σ9 v10 =>
  if v10 = 0 then fX12_card_18 σ9 x1 1 else
  fX12_card_18 σ9 x1 0)
set_option maxRecDepth 20000 in
set_option maxHeartbeats 4000000 in
theorem bX12_card_59 {st : Nat → Nat} {p : Program} {l : Launch} {e : Env} {s : State} {m : MethodId} {args : Array Value} {below : List Frame} {meth : Method} {c : Code} {D : va_G} {A : Nat → Prop} {ad : Nat → Nat} {cy : Nat → ClassId} (hC : zC p m c cX12_card 2 s args wzX12_card RX12 meth (some .int))  {res : zSt × Int32} {H : Heap} {locs : List Loc} {σ : zSt} {ls : Array Slot} {s0 : Int32} (hI : zI st D (tM cy) (wM ad cy σ) A s H locs) (hl : lv_has ls 2 []) (hf : fX12_card_59  σ s0 = some res) : W p l e rmX12_card s m args below meth c H locs 0 0 (zQi below args s D (tM cy) (wM ad cy) A res) (F0 m 59 ls [.int s0]) := by
  have hx := hC.1
  have hb := hC.2.1
  unfold fX12_card_59 at hf
  exact z_ireturn hC hI hf dX12_card_59
set_option maxRecDepth 20000 in
set_option maxHeartbeats 4000000 in
theorem bX12_card_18 {st : Nat → Nat} {p : Program} {l : Launch} {e : Env} {s : State} {m : MethodId} {args : Array Value} {below : List Frame} {meth : Method} {c : Code} {D : va_G} {A : Nat → Prop} {ad : Nat → Nat} {cy : Nat → ClassId} (hC : zC p m c cX12_card 2 s args wzX12_card RX12 meth (some .int))  {res : zSt × Int32} {H : Heap} {locs : List Loc} {σ : zSt} {ls : Array Slot} {x1 : Int32} {s0 : Int32} (hI : zI st D (tM cy) (wM ad cy σ) A s H locs) (hl : lv_has ls 2 [(0, .ref (ad 0)), (1, .int x1)]) (hf : fX12_card_18  σ x1 s0 = some res) : W p l e rmX12_card s m args below meth c H locs 0 0 (zQi below args s D (tM cy) (wM ad cy) A res) (F0 m 18 ls [.int s0, .ref (ad 0)]) := by
  have hx := hC.1
  have hb := hC.2.1
  unfold fX12_card_18 at hf
  refine lv_iconst (v := 1) hx hb dX12_card_18 (by decide) ?_
  obtain ⟨σ1, v2, g1, hf⟩ := zbi_use hf
  refine z_callVi (As := [.int s0, .int 1]) (rest := []) hC hI (cX12_fails_met st l D ad cy σ s0 1 _ g1) (zgV zw11_21 zw11_22 zw11_23 zw1_5 zw12_0) rfl ⟨rfl, rfl⟩ 2 hdX12_fails ⟨Nat.le_of_ble_eq_true rfl, Nat.le_of_ble_eq_true rfl⟩ rfl rfl (wM_e0 ad cy σ) rfl hl rfl (Nat.le_of_ble_eq_true rfl) dX12_card_19 ⟨Nat.zero_le _, Nat.zero_le _⟩ (fun H locs hI => ?_)
  refine lv_if_eq (tgt := 27) hx hb dX12_card_22 (by decide) (fun q => ?_) (fun q => ?_)
  · replace hf := zif_t q hf
    refine lv_iload_n hx hb dX12_card_27 rfl (lv_at hl 1 rfl) ?_
    refine lv_iconst (v := 3) hx hb dX12_card_28 (by decide) ?_
    refine lv_icmp_ge (tgt := 60) hx hb dX12_card_29 (by decide) (fun q => ?_) (fun q => ?_)
    · replace hf := zif_t q hf
      refine lv_aload_n hx hb dX12_card_60 rfl (lv_at hl 0 rfl) ?_
      refine z_get hC hI hinX12_card_X120 0 (wM_e0 ad cy σ1) rfl 8 (by decide) (List.mem_cons_of_mem _ zw9_6) rfl dX12_card_61 ?_
      refine lv_if_ge (tgt := 69) hx hb dX12_card_64 (by decide) (fun q => ?_) (fun q => ?_)
      · replace hf := zif_t q hf
        refine lv_iload_n hx hb dX12_card_69 rfl (lv_at hl 1 rfl) ?_
        by_cases q0 : x1 = 3
        · replace hf := zif_t q0 hf
          refine lv_tableIn (tgt := 100) hx hb dX12_card_70 (by rw [q0]; decide) (by rw [q0]; decide) (by rw [q0]; rfl) (by decide) ?_
          refine lv_aload_n hx hb dX12_card_100 rfl (lv_at hl 0 rfl) ?_
          refine lv_aload_n hx hb dX12_card_101 rfl (lv_at hl 0 rfl) ?_
          refine z_get hC hI hinX12_card_X120 0 (wM_e0 ad cy σ1) rfl 8 (by decide) (List.mem_cons_of_mem _ zw9_6) rfl dX12_card_102 ?_
          refine lv_bipush (v := 12) hx hb dX12_card_105 (by decide) ?_
          refine lv_iadd hx hb dX12_card_107 ?_
          obtain ⟨σ3, v4, g3, hf⟩ := zbi_use hf
          refine z_callVi (As := [.int ((zgi σ1 0 8) + 12)]) (rest := []) hC hI (cX12_tens_met st l D ad cy σ1 ((zgi σ1 0 8) + 12) _ g3) (zgV zw17_22 zw17_23 zw18_0 zw1_5 zw18_1) rfl ⟨rfl, rfl⟩ 1 hdX12_tens ⟨Nat.le_of_ble_eq_true rfl, Nat.le_of_ble_eq_true rfl⟩ rfl rfl (wM_e0 ad cy σ1) rfl hl rfl (Nat.le_of_ble_eq_true rfl) dX12_card_108 ⟨Nat.zero_le _, Nat.zero_le _⟩ (fun H locs hI => ?_)
          refine lv_bipush (v := 100) hx hb dX12_card_111 (by decide) ?_
          refine lv_aload_n hx hb dX12_card_113 rfl (lv_at hl 0 rfl) ?_
          refine lv_aload_n hx hb dX12_card_114 rfl (lv_at hl 0 rfl) ?_
          refine z_get hC hI hinX12_card_X120 0 (wM_e0 ad cy σ3) rfl 8 (by decide) (List.mem_cons_of_mem _ zw9_6) rfl dX12_card_115 ?_
          refine lv_bipush (v := 13) hx hb dX12_card_118 (by decide) ?_
          refine lv_iadd hx hb dX12_card_120 ?_
          obtain ⟨σ5, v6, g5, hf⟩ := zbi_use hf
          refine z_callVi (As := [.int ((zgi σ3 0 8) + 13)]) (rest := [.int 100, .int v4]) hC hI (cX12_tens_met st l D ad cy σ3 ((zgi σ3 0 8) + 13) _ g5) (zgV zw17_22 zw17_23 zw18_0 zw1_5 zw18_1) rfl ⟨rfl, rfl⟩ 1 hdX12_tens ⟨Nat.le_of_ble_eq_true rfl, Nat.le_of_ble_eq_true rfl⟩ rfl rfl (wM_e0 ad cy σ3) rfl hl rfl (Nat.le_of_ble_eq_true rfl) dX12_card_121 ⟨Nat.zero_le _, Nat.zero_le _⟩ (fun H locs hI => ?_)
          refine lv_imul hx hb dX12_card_124 ?_
          refine lv_iadd hx hb dX12_card_125 ?_
          refine lv_sipush (v := 10000) hx hb dX12_card_126 (by decide) ?_
          refine lv_aload_n hx hb dX12_card_129 rfl (lv_at hl 0 rfl) ?_
          refine z_get hC hI hinX12_card_X120 0 (wM_e0 ad cy σ5) rfl 4 (by decide) (List.mem_cons_of_mem _ zw9_5) rfl dX12_card_130 ?_
          refine lv_aload_n hx hb dX12_card_133 rfl (lv_at hl 0 rfl) ?_
          refine z_get hC hI hinX12_card_X120 0 (wM_e0 ad cy σ5) rfl 8 (by decide) (List.mem_cons_of_mem _ zw9_6) rfl dX12_card_134 ?_
          refine lv_bipush (v := 14) hx hb dX12_card_137 (by decide) ?_
          refine lv_iadd hx hb dX12_card_139 ?_
          obtain ⟨q, hf⟩ := zck_use hf
          refine z_bald hC hI 2 1 (wM_e2 ad cy σ5) (tM_t2 cy) q dX12_card_140 ?_
          refine lv_iconst (v := 4) hx hb dX12_card_141 (by decide) ?_
          refine lv_ishr hx hb dX12_card_142 ?_
          refine lv_bipush (v := 15) hx hb dX12_card_143 (by decide) ?_
          refine lv_iand hx hb dX12_card_145 ?_
          refine lv_imul hx hb dX12_card_146 ?_
          refine lv_iadd hx hb dX12_card_147 ?_
          exact z_ireturn hC hI hf dX12_card_148
        replace hf := zif_f q0 hf
        by_cases q1 : x1 = 4
        · replace hf := zif_t q1 hf
          refine lv_tableIn (tgt := 149) hx hb dX12_card_70 (by rw [q1]; decide) (by rw [q1]; decide) (by rw [q1]; rfl) (by decide) ?_
          refine lv_aload_n hx hb dX12_card_149 rfl (lv_at hl 0 rfl) ?_
          refine z_get hC hI hinX12_card_X120 0 (wM_e0 ad cy σ1) rfl 4 (by decide) (List.mem_cons_of_mem _ zw9_5) rfl dX12_card_150 ?_
          refine lv_aload_n hx hb dX12_card_153 rfl (lv_at hl 0 rfl) ?_
          refine z_get hC hI hinX12_card_X120 0 (wM_e0 ad cy σ1) rfl 8 (by decide) (List.mem_cons_of_mem _ zw9_6) rfl dX12_card_154 ?_
          refine lv_bipush (v := 15) hx hb dX12_card_157 (by decide) ?_
          refine lv_iadd hx hb dX12_card_159 ?_
          obtain ⟨q, hf⟩ := zck_use hf
          refine z_bald hC hI 2 1 (wM_e2 ad cy σ1) (tM_t2 cy) q dX12_card_160 ?_
          refine lv_iconst (v := 4) hx hb dX12_card_161 (by decide) ?_
          refine lv_ishr hx hb dX12_card_162 ?_
          refine lv_bipush (v := 15) hx hb dX12_card_163 (by decide) ?_
          refine lv_iand hx hb dX12_card_165 ?_
          exact z_ireturn hC hI hf dX12_card_166
        replace hf := zif_f q1 hf
        by_cases q2 : x1 = 5
        · replace hf := zif_t q2 hf
          refine lv_tableIn (tgt := 167) hx hb dX12_card_70 (by rw [q2]; decide) (by rw [q2]; decide) (by rw [q2]; rfl) (by decide) ?_
          refine lv_aload_n hx hb dX12_card_167 rfl (lv_at hl 0 rfl) ?_
          refine z_get hC hI hinX12_card_X120 0 (wM_e0 ad cy σ1) rfl 4 (by decide) (List.mem_cons_of_mem _ zw9_5) rfl dX12_card_168 ?_
          refine lv_aload_n hx hb dX12_card_171 rfl (lv_at hl 0 rfl) ?_
          refine z_get hC hI hinX12_card_X120 0 (wM_e0 ad cy σ1) rfl 8 (by decide) (List.mem_cons_of_mem _ zw9_6) rfl dX12_card_172 ?_
          refine lv_bipush (v := 15) hx hb dX12_card_175 (by decide) ?_
          refine lv_iadd hx hb dX12_card_177 ?_
          obtain ⟨q, hf⟩ := zck_use hf
          refine z_bald hC hI 2 1 (wM_e2 ad cy σ1) (tM_t2 cy) q dX12_card_178 ?_
          refine lv_bipush (v := 15) hx hb dX12_card_179 (by decide) ?_
          refine lv_iand hx hb dX12_card_181 ?_
          exact z_ireturn hC hI hf dX12_card_182
        replace hf := zif_f q2 hf
        by_cases q3 : x1 = 6
        · replace hf := zif_t q3 hf
          refine lv_tableIn (tgt := 183) hx hb dX12_card_70 (by rw [q3]; decide) (by rw [q3]; decide) (by rw [q3]; rfl) (by decide) ?_
          refine lv_aload_n hx hb dX12_card_183 rfl (lv_at hl 0 rfl) ?_
          refine lv_aload_n hx hb dX12_card_184 rfl (lv_at hl 0 rfl) ?_
          refine z_get hC hI hinX12_card_X120 0 (wM_e0 ad cy σ1) rfl 8 (by decide) (List.mem_cons_of_mem _ zw9_6) rfl dX12_card_185 ?_
          refine lv_bipush (v := 10) hx hb dX12_card_188 (by decide) ?_
          refine lv_iadd hx hb dX12_card_190 ?_
          refine lv_iconst (v := 2) hx hb dX12_card_191 (by decide) ?_
          obtain ⟨σ7, v8, g7, hf⟩ := zbi_use hf
          refine z_callVi (As := [.int ((zgi σ1 0 8) + 10), .int 2]) (rest := []) hC hI (cX12_bytesAt_met st l D ad cy σ1 ((zgi σ1 0 8) + 10) 2 _ g7) (zgV zw16_17 zw16_18 zw16_19 zw1_5 zw16_20) rfl ⟨rfl, rfl⟩ 2 hdX12_bytesAt ⟨Nat.le_of_ble_eq_true rfl, Nat.le_of_ble_eq_true rfl⟩ rfl rfl (wM_e0 ad cy σ1) rfl hl rfl (Nat.le_of_ble_eq_true rfl) dX12_card_192 ⟨Nat.zero_le _, Nat.zero_le _⟩ (fun H locs hI => ?_)
          exact z_ireturn hC hI hf dX12_card_195
        replace hf := zif_f q3 hf
        refine lv_tableOut (tgt := 196) hx hb dX12_card_70 (zsw (fun k h1 h2 => by rcases (show k = 3 ∨ k = 4 ∨ k = 5 ∨ k = 6 by omega) with rfl | rfl | rfl | rfl <;> assumption)) (by decide) ?_
        refine lv_aload_n hx hb dX12_card_196 rfl (lv_at hl 0 rfl) ?_
        refine z_get hC hI hinX12_card_X120 0 (wM_e0 ad cy σ1) rfl 9 (by decide) (List.mem_cons_of_mem _ zw16_10) rfl dX12_card_197 ?_
        exact z_ireturn hC hI hf dX12_card_200
      replace hf := zif_f q hf
      refine lv_iconst (v := 0) hx hb dX12_card_67 (by decide) ?_
      exact z_ireturn hC hI hf dX12_card_68
    replace hf := zif_f q hf
    refine lv_iload_n hx hb dX12_card_32 rfl (lv_at hl 1 rfl) ?_
    refine lv_if_ne (tgt := 43) hx hb dX12_card_33 (by decide) (fun q => ?_) (fun q => ?_)
    · replace hf := zif_f q hf
      refine lv_iload_n hx hb dX12_card_43 rfl (lv_at hl 1 rfl) ?_
      refine lv_iconst (v := 1) hx hb dX12_card_44 (by decide) ?_
      refine lv_icmp_ne (tgt := 55) hx hb dX12_card_45 (by decide) (fun q => ?_) (fun q => ?_)
      · replace hf := zif_f q hf
        refine lv_aload_n hx hb dX12_card_55 rfl (lv_at hl 0 rfl) ?_
        refine z_get hC hI hinX12_card_X120 0 (wM_e0 ad cy σ1) rfl 8 (by decide) (List.mem_cons_of_mem _ zw9_6) rfl dX12_card_56 ?_
        exact bX12_card_59 hC  hI (lv_sub hl [] rfl) hf
      replace hf := zif_t q hf
      refine lv_aload_n hx hb dX12_card_48 rfl (lv_at hl 0 rfl) ?_
      refine z_get hC hI hinX12_card_X120 0 (wM_e0 ad cy σ1) rfl 6 (by decide) (List.mem_cons_of_mem _ zw16_7) rfl dX12_card_49 ?_
      refine lv_goto (tgt := 59) hx hb dX12_card_52 (by decide) ?_
      exact bX12_card_59 hC  hI (lv_sub hl [] rfl) hf
    replace hf := zif_t q hf
    refine lv_aload_n hx hb dX12_card_36 rfl (lv_at hl 0 rfl) ?_
    refine z_get hC hI hinX12_card_X120 0 (wM_e0 ad cy σ1) rfl 7 (by decide) (List.mem_cons_of_mem _ zw10_16) rfl dX12_card_37 ?_
    refine lv_goto (tgt := 59) hx hb dX12_card_40 (by decide) ?_
    exact bX12_card_59 hC  hI (lv_sub hl [] rfl) hf
  replace hf := zif_f q hf
  refine lv_iconst (v := 0) hx hb dX12_card_25 (by decide) ?_
  exact z_ireturn hC hI hf dX12_card_26
set_option maxRecDepth 20000 in
set_option maxHeartbeats 4000000 in
theorem bX12_card {st : Nat → Nat} {p : Program} {l : Launch} {e : Env} {s : State} {m : MethodId} {args : Array Value} {below : List Frame} {meth : Method} {c : Code} {D : va_G} {A : Nat → Prop} {ad : Nat → Nat} {cy : Nat → ClassId} (hC : zC p m c cX12_card 2 s args wzX12_card RX12 meth (some .int))  {res : zSt × Int32} {H : Heap} {locs : List Loc} {σ : zSt} {ls : Array Slot} {x1 : Int32} (hI : zI st D (tM cy) (wM ad cy σ) A s H locs) (hl : lv_has ls 2 [(0, .ref (ad 0)), (1, .int x1)]) (hf : fX12_card  σ x1 = some res) : W p l e rmX12_card s m args below meth c H locs 0 0 (zQi below args s D (tM cy) (wM ad cy) A res) (F0 m 0 ls []) := by
  have hx := hC.1
  have hb := hC.2.1
  unfold fX12_card at hf
  refine lv_aload_n hx hb dX12_card_0 rfl (lv_at hl 0 rfl) ?_
  refine lv_iload_n hx hb dX12_card_1 rfl (lv_at hl 1 rfl) ?_
  refine lv_i2l (v := x1.toInt64) hx hb dX12_card_2 rfl ?_
  refine lv_lconst (v := 0) hx hb dX12_card_3 (by decide) ?_
  refine lv_ldc2 (v := 7) hx hb hC.2.2.2.1 (hC.2.2.2.2.1 _ (List.mem_cons_of_mem _ zw17_21)) dX12_card_4 ?_
  obtain ⟨σ9, v10, g9, hf⟩ := zbi_use hf
  refine z_callSi (As := [.long (x1.toInt64), .long 0, .long 7]) (rest := [.ref (ad 0)]) hC hI (cX12_within_met st l D ad cy σ (x1.toInt64) 0 7 _ g9) (zgS zw11_18 zw11_19 zw1_5 zw11_20) rfl ⟨rfl, rfl⟩ 3 hdX12_within ⟨Nat.le_of_ble_eq_true rfl, Nat.le_of_ble_eq_true rfl⟩ rfl hl rfl (Nat.le_of_ble_eq_true rfl) dX12_card_7 ⟨Nat.zero_le _, Nat.zero_le _⟩ (fun H locs hI => ?_)
  refine lv_if_ne (tgt := 17) hx hb dX12_card_10 (by decide) (fun q => ?_) (fun q => ?_)
  · replace hf := zif_f q hf
    refine lv_iconst (v := 0) hx hb dX12_card_17 (by decide) ?_
    exact bX12_card_18 hC  hI hl hf
  replace hf := zif_t q hf
  refine lv_iconst (v := 1) hx hb dX12_card_13 (by decide) ?_
  refine lv_goto (tgt := 18) hx hb dX12_card_14 (by decide) ?_
  exact bX12_card_18 hC  hI hl hf
set_option maxRecDepth 20000 in
theorem cX12_card_met (st : Nat → Nat) (l : Launch) (D : va_G) (ad : Nat → Nat) (cy : Nat → ClassId) (σ : zSt) (x1 : Int32) (res : zSt × Int32) (hf : fX12_card σ x1 = some res) (sz : Nat) : zMi st l yX12_card wzX12_card rmX12_card [.ref (ad 0), .int x1] D (tM cy) (wM ad cy) sz σ res :=
  zMi.of (cc := cX12_card) (maxL := 2) (ret := (some .int)) (by decide) rfl (Nat.le_of_ble_eq_true rfl) (fun p e s m args below meth c hC A hI ls hl => bX12_card hC hI hl hf)
theorem hdX12_card : yX12_card.cls = RX12 ∧ yX12_card.cls ≠ "java/lang/invoke/MethodHandle" ∧ yX12_card.cls ≠ "java/lang/invoke/VarHandle" ∧ (parseMethodDescriptor yX12_card.desc).map (fun d => d.parameters.length) = some 1 := by decide +kernel
def rmX12_ofBank : Room := { frames := 0, cells := 0, slots := 0, locals := 0 }
def wzX12_ofBank : List Cond := .code yX12_ofBank cX12_ofBank 3 (some .int) :: wsL_law
theorem hinX12_ofBank_X120 : ∀ w ∈ wsX120, w ∈ wzX12_ofBank := fun w h => List.mem_cons_of_mem _ (inlX12 w h)
def fX12_ofBank  (σ : zSt) (x1 : Int32) (x2 : Int32) : Option (zSt × Int32) :=
  zck (decide (¬ (zgi σ 0 6) = 0)) (
  zck (decide (¬ 16384 = 0)) (
  zck (zin ((16384 * (zrem x1 (zgi σ 0 6))) + (zrem x2 16384)) 262144) (
  some (σ, (zgi σ 2 ((16384 * (zrem x1 (zgi σ 0 6))) + (zrem x2 16384)).toNatClampNeg) &&& 255))))
set_option maxRecDepth 20000 in
set_option maxHeartbeats 4000000 in
theorem bX12_ofBank {st : Nat → Nat} {p : Program} {l : Launch} {e : Env} {s : State} {m : MethodId} {args : Array Value} {below : List Frame} {meth : Method} {c : Code} {D : va_G} {A : Nat → Prop} {ad : Nat → Nat} {cy : Nat → ClassId} (hC : zC p m c cX12_ofBank 3 s args wzX12_ofBank RX12 meth (some .int))  {res : zSt × Int32} {H : Heap} {locs : List Loc} {σ : zSt} {ls : Array Slot} {x1 : Int32} {x2 : Int32} (hI : zI st D (tM cy) (wM ad cy σ) A s H locs) (hl : lv_has ls 3 [(0, .ref (ad 0)), (1, .int x1), (2, .int x2)]) (hf : fX12_ofBank  σ x1 x2 = some res) : W p l e rmX12_ofBank s m args below meth c H locs 0 0 (zQi below args s D (tM cy) (wM ad cy) A res) (F0 m 0 ls []) := by
  have hx := hC.1
  have hb := hC.2.1
  unfold fX12_ofBank at hf
  refine lv_aload_n hx hb dX12_ofBank_0 rfl (lv_at hl 0 rfl) ?_
  refine z_get hC hI hinX12_ofBank_X120 0 (wM_e0 ad cy σ) rfl 4 (by decide) (List.mem_cons_of_mem _ zw9_5) rfl dX12_ofBank_1 ?_
  refine lv_sipush (v := 16384) hx hb dX12_ofBank_4 (by decide) ?_
  refine lv_iload_n hx hb dX12_ofBank_7 rfl (lv_at hl 1 rfl) ?_
  refine lv_aload_n hx hb dX12_ofBank_8 rfl (lv_at hl 0 rfl) ?_
  refine z_get hC hI hinX12_ofBank_X120 0 (wM_e0 ad cy σ) rfl 6 (by decide) (List.mem_cons_of_mem _ zw16_7) rfl dX12_ofBank_9 ?_
  obtain ⟨q, hf⟩ := zck_use hf
  refine z_irem hx hb dX12_ofBank_12 (of_decide_eq_true q) ?_
  refine lv_imul hx hb dX12_ofBank_13 ?_
  refine lv_iload_n hx hb dX12_ofBank_14 rfl (lv_at hl 2 rfl) ?_
  refine lv_sipush (v := 16384) hx hb dX12_ofBank_15 (by decide) ?_
  obtain ⟨q, hf⟩ := zck_use hf
  refine z_irem hx hb dX12_ofBank_18 (of_decide_eq_true q) ?_
  refine lv_iadd hx hb dX12_ofBank_19 ?_
  obtain ⟨q, hf⟩ := zck_use hf
  refine z_bald hC hI 2 1 (wM_e2 ad cy σ) (tM_t2 cy) q dX12_ofBank_20 ?_
  refine lv_sipush (v := 255) hx hb dX12_ofBank_21 (by decide) ?_
  refine lv_iand hx hb dX12_ofBank_24 ?_
  exact z_ireturn hC hI hf dX12_ofBank_25
set_option maxRecDepth 20000 in
theorem cX12_ofBank_met (st : Nat → Nat) (l : Launch) (D : va_G) (ad : Nat → Nat) (cy : Nat → ClassId) (σ : zSt) (x1 : Int32) (x2 : Int32) (res : zSt × Int32) (hf : fX12_ofBank σ x1 x2 = some res) (sz : Nat) : zMi st l yX12_ofBank wzX12_ofBank rmX12_ofBank [.ref (ad 0), .int x1, .int x2] D (tM cy) (wM ad cy) sz σ res :=
  zMi.of (cc := cX12_ofBank) (maxL := 3) (ret := (some .int)) (by decide) rfl (Nat.le_of_ble_eq_true rfl) (fun p e s m args below meth c hC A hI ls hl => bX12_ofBank hC hI hl hf)
theorem hdX12_ofBank : yX12_ofBank.cls = RX12 ∧ yX12_ofBank.cls ≠ "java/lang/invoke/MethodHandle" ∧ yX12_ofBank.cls ≠ "java/lang/invoke/VarHandle" ∧ (parseMethodDescriptor yX12_ofBank.desc).map (fun d => d.parameters.length) = some 2 := by decide +kernel
def rmX12_isBattery : Room := { frames := 0, cells := 0, slots := 0, locals := 0 }
def wzX12_isBattery : List Cond := .code yX12_isBattery cX12_isBattery 2 (some .boolean) :: wsL_law
theorem hinX12_isBattery_X120 : ∀ w ∈ wsX120, w ∈ wzX12_isBattery := fun w h => List.mem_cons_of_mem _ (inlX12 w h)
def fX12_isBattery_38  (σ : zSt) (s0 : Int32) : Option (zSt × Int32) :=
  zck (zbo s0) (some (σ, s0))
def fX12_isBattery_37  (σ : zSt)  : Option (zSt × Int32) :=
  fX12_isBattery_38 σ 0
def fX12_isBattery  (σ : zSt) (x1 : Int32) : Option (zSt × Int32) :=
  if (zgi σ 0 7) = 1 then zck (zin 32 1048) (
  if ((zgi σ 3 (32 : Int32).toNatClampNeg) &&& 8) = 0 then fX12_isBattery_37 σ else
  if x1 < 32768 then fX12_isBattery_37 σ else
  if 49152 ≤ x1 then fX12_isBattery_37 σ else
  fX12_isBattery_38 σ 1) else
  fX12_isBattery_37 σ
set_option maxRecDepth 20000 in
set_option maxHeartbeats 4000000 in
theorem bX12_isBattery_38 {st : Nat → Nat} {p : Program} {l : Launch} {e : Env} {s : State} {m : MethodId} {args : Array Value} {below : List Frame} {meth : Method} {c : Code} {D : va_G} {A : Nat → Prop} {ad : Nat → Nat} {cy : Nat → ClassId} (hC : zC p m c cX12_isBattery 2 s args wzX12_isBattery RX12 meth (some .boolean))  {res : zSt × Int32} {H : Heap} {locs : List Loc} {σ : zSt} {ls : Array Slot} {s0 : Int32} (hI : zI st D (tM cy) (wM ad cy σ) A s H locs) (hl : lv_has ls 2 []) (hf : fX12_isBattery_38  σ s0 = some res) : W p l e rmX12_isBattery s m args below meth c H locs 0 0 (zQi below args s D (tM cy) (wM ad cy) A res) (F0 m 38 ls [.int s0]) := by
  have hx := hC.1
  have hb := hC.2.1
  unfold fX12_isBattery_38 at hf
  obtain ⟨q, hf⟩ := zck_use hf
  exact z_zreturn hC hI (zbo_n q) hf dX12_isBattery_38
set_option maxRecDepth 20000 in
set_option maxHeartbeats 4000000 in
theorem bX12_isBattery_37 {st : Nat → Nat} {p : Program} {l : Launch} {e : Env} {s : State} {m : MethodId} {args : Array Value} {below : List Frame} {meth : Method} {c : Code} {D : va_G} {A : Nat → Prop} {ad : Nat → Nat} {cy : Nat → ClassId} (hC : zC p m c cX12_isBattery 2 s args wzX12_isBattery RX12 meth (some .boolean))  {res : zSt × Int32} {H : Heap} {locs : List Loc} {σ : zSt} {ls : Array Slot}  (hI : zI st D (tM cy) (wM ad cy σ) A s H locs) (hl : lv_has ls 2 []) (hf : fX12_isBattery_37  σ  = some res) : W p l e rmX12_isBattery s m args below meth c H locs 0 0 (zQi below args s D (tM cy) (wM ad cy) A res) (F0 m 37 ls []) := by
  have hx := hC.1
  have hb := hC.2.1
  unfold fX12_isBattery_37 at hf
  refine lv_iconst (v := 0) hx hb dX12_isBattery_37 (by decide) ?_
  exact bX12_isBattery_38 hC  hI hl hf
set_option maxRecDepth 20000 in
set_option maxHeartbeats 4000000 in
theorem bX12_isBattery {st : Nat → Nat} {p : Program} {l : Launch} {e : Env} {s : State} {m : MethodId} {args : Array Value} {below : List Frame} {meth : Method} {c : Code} {D : va_G} {A : Nat → Prop} {ad : Nat → Nat} {cy : Nat → ClassId} (hC : zC p m c cX12_isBattery 2 s args wzX12_isBattery RX12 meth (some .boolean))  {res : zSt × Int32} {H : Heap} {locs : List Loc} {σ : zSt} {ls : Array Slot} {x1 : Int32} (hI : zI st D (tM cy) (wM ad cy σ) A s H locs) (hl : lv_has ls 2 [(0, .ref (ad 0)), (1, .int x1)]) (hf : fX12_isBattery  σ x1 = some res) : W p l e rmX12_isBattery s m args below meth c H locs 0 0 (zQi below args s D (tM cy) (wM ad cy) A res) (F0 m 0 ls []) := by
  have hx := hC.1
  have hb := hC.2.1
  unfold fX12_isBattery at hf
  refine lv_aload_n hx hb dX12_isBattery_0 rfl (lv_at hl 0 rfl) ?_
  refine z_get hC hI hinX12_isBattery_X120 0 (wM_e0 ad cy σ) rfl 7 (by decide) (List.mem_cons_of_mem _ zw10_16) rfl dX12_isBattery_1 ?_
  refine lv_iconst (v := 1) hx hb dX12_isBattery_4 (by decide) ?_
  refine lv_icmp_ne (tgt := 37) hx hb dX12_isBattery_5 (by decide) (fun q => ?_) (fun q => ?_)
  · replace hf := zif_f q hf
    exact bX12_isBattery_37 hC  hI (lv_sub hl [] rfl) hf
  replace hf := zif_t q hf
  refine lv_aload_n hx hb dX12_isBattery_8 rfl (lv_at hl 0 rfl) ?_
  refine z_get hC hI hinX12_isBattery_X120 0 (wM_e0 ad cy σ) rfl 10 (by decide) (List.mem_cons_of_mem _ zw9_7) rfl dX12_isBattery_9 ?_
  refine lv_bipush (v := 32) hx hb dX12_isBattery_12 (by decide) ?_
  obtain ⟨q, hf⟩ := zck_use hf
  refine z_iald hC hI 3 2 (wM_e3 ad cy σ) (tM_t3 cy) q dX12_isBattery_14 ?_
  refine lv_bipush (v := 8) hx hb dX12_isBattery_15 (by decide) ?_
  refine lv_iand hx hb dX12_isBattery_17 ?_
  refine lv_if_eq (tgt := 37) hx hb dX12_isBattery_18 (by decide) (fun q => ?_) (fun q => ?_)
  · replace hf := zif_t q hf
    exact bX12_isBattery_37 hC  hI (lv_sub hl [] rfl) hf
  replace hf := zif_f q hf
  refine lv_iload_n hx hb dX12_isBattery_21 rfl (lv_at hl 1 rfl) ?_
  refine lv_ldc (v := 32768) hx hb hC.2.2.2.1 (hC.2.2.2.2.1 _ (List.mem_cons_of_mem _ zw9_10)) dX12_isBattery_22 ?_
  refine lv_icmp_lt (tgt := 37) hx hb dX12_isBattery_24 (by decide) (fun q => ?_) (fun q => ?_)
  · replace hf := zif_t q hf
    exact bX12_isBattery_37 hC  hI (lv_sub hl [] rfl) hf
  replace hf := zif_f q hf
  refine lv_iload_n hx hb dX12_isBattery_27 rfl (lv_at hl 1 rfl) ?_
  refine lv_ldc (v := 49152) hx hb hC.2.2.2.1 (hC.2.2.2.2.1 _ (List.mem_cons_of_mem _ zw16_8)) dX12_isBattery_28 ?_
  refine lv_icmp_ge (tgt := 37) hx hb dX12_isBattery_30 (by decide) (fun q => ?_) (fun q => ?_)
  · replace hf := zif_t q hf
    exact bX12_isBattery_37 hC  hI (lv_sub hl [] rfl) hf
  replace hf := zif_f q hf
  refine lv_iconst (v := 1) hx hb dX12_isBattery_33 (by decide) ?_
  refine lv_goto (tgt := 38) hx hb dX12_isBattery_34 (by decide) ?_
  exact bX12_isBattery_38 hC  hI (lv_sub hl [] rfl) hf
set_option maxRecDepth 20000 in
theorem cX12_isBattery_met (st : Nat → Nat) (l : Launch) (D : va_G) (ad : Nat → Nat) (cy : Nat → ClassId) (σ : zSt) (x1 : Int32) (res : zSt × Int32) (hf : fX12_isBattery σ x1 = some res) (sz : Nat) : zMi st l yX12_isBattery wzX12_isBattery rmX12_isBattery [.ref (ad 0), .int x1] D (tM cy) (wM ad cy) sz σ res :=
  zMi.of (cc := cX12_isBattery) (maxL := 2) (ret := (some .boolean)) (by decide) rfl (Nat.le_of_ble_eq_true rfl) (fun p e s m args below meth c hC A hI ls hl => bX12_isBattery hC hI hl hf)
theorem hdX12_isBattery : yX12_isBattery.cls = RX12 ∧ yX12_isBattery.cls ≠ "java/lang/invoke/MethodHandle" ∧ yX12_isBattery.cls ≠ "java/lang/invoke/VarHandle" ∧ (parseMethodDescriptor yX12_isBattery.desc).map (fun d => d.parameters.length) = some 1 := by decide +kernel
def rmX12_batteryAt : Room := { frames := 0, cells := 0, slots := 0, locals := 0 }
def wzX12_batteryAt : List Cond := .code yX12_batteryAt cX12_batteryAt 2 (some .int) :: wsL_law
theorem hinX12_batteryAt_X120 : ∀ w ∈ wsX120, w ∈ wzX12_batteryAt := fun w h => List.mem_cons_of_mem _ (inlX12 w h)
def fX12_batteryAt_23  (σ : zSt) (s0 : Int32) (s1 : Int32) : Option (zSt × Int32) :=
  some (σ, s1 + s0)
def fX12_batteryAt  (σ : zSt) (x1 : Int32) : Option (zSt × Int32) :=
  zck (zin 32 1048) (
  if ((zgi σ 3 (32 : Int32).toNatClampNeg) &&& 4) = 0 then fX12_batteryAt_23 σ 0 (x1 - 32768) else
  fX12_batteryAt_23 σ 16384 (x1 - 32768))
set_option maxRecDepth 20000 in
set_option maxHeartbeats 4000000 in
theorem bX12_batteryAt_23 {st : Nat → Nat} {p : Program} {l : Launch} {e : Env} {s : State} {m : MethodId} {args : Array Value} {below : List Frame} {meth : Method} {c : Code} {D : va_G} {A : Nat → Prop} {ad : Nat → Nat} {cy : Nat → ClassId} (hC : zC p m c cX12_batteryAt 2 s args wzX12_batteryAt RX12 meth (some .int))  {res : zSt × Int32} {H : Heap} {locs : List Loc} {σ : zSt} {ls : Array Slot} {s0 : Int32} {s1 : Int32} (hI : zI st D (tM cy) (wM ad cy σ) A s H locs) (hl : lv_has ls 2 []) (hf : fX12_batteryAt_23  σ s0 s1 = some res) : W p l e rmX12_batteryAt s m args below meth c H locs 0 0 (zQi below args s D (tM cy) (wM ad cy) A res) (F0 m 23 ls [.int s0, .int s1]) := by
  have hx := hC.1
  have hb := hC.2.1
  unfold fX12_batteryAt_23 at hf
  refine lv_iadd hx hb dX12_batteryAt_23 ?_
  exact z_ireturn hC hI hf dX12_batteryAt_24
set_option maxRecDepth 20000 in
set_option maxHeartbeats 4000000 in
theorem bX12_batteryAt {st : Nat → Nat} {p : Program} {l : Launch} {e : Env} {s : State} {m : MethodId} {args : Array Value} {below : List Frame} {meth : Method} {c : Code} {D : va_G} {A : Nat → Prop} {ad : Nat → Nat} {cy : Nat → ClassId} (hC : zC p m c cX12_batteryAt 2 s args wzX12_batteryAt RX12 meth (some .int))  {res : zSt × Int32} {H : Heap} {locs : List Loc} {σ : zSt} {ls : Array Slot} {x1 : Int32} (hI : zI st D (tM cy) (wM ad cy σ) A s H locs) (hl : lv_has ls 2 [(0, .ref (ad 0)), (1, .int x1)]) (hf : fX12_batteryAt  σ x1 = some res) : W p l e rmX12_batteryAt s m args below meth c H locs 0 0 (zQi below args s D (tM cy) (wM ad cy) A res) (F0 m 0 ls []) := by
  have hx := hC.1
  have hb := hC.2.1
  unfold fX12_batteryAt at hf
  refine lv_iload_n hx hb dX12_batteryAt_0 rfl (lv_at hl 1 rfl) ?_
  refine lv_ldc (v := 32768) hx hb hC.2.2.2.1 (hC.2.2.2.2.1 _ (List.mem_cons_of_mem _ zw9_10)) dX12_batteryAt_1 ?_
  refine lv_isub hx hb dX12_batteryAt_3 ?_
  refine lv_aload_n hx hb dX12_batteryAt_4 rfl (lv_at hl 0 rfl) ?_
  refine z_get hC hI hinX12_batteryAt_X120 0 (wM_e0 ad cy σ) rfl 10 (by decide) (List.mem_cons_of_mem _ zw9_7) rfl dX12_batteryAt_5 ?_
  refine lv_bipush (v := 32) hx hb dX12_batteryAt_8 (by decide) ?_
  obtain ⟨q, hf⟩ := zck_use hf
  refine z_iald hC hI 3 2 (wM_e3 ad cy σ) (tM_t3 cy) q dX12_batteryAt_10 ?_
  refine lv_iconst (v := 4) hx hb dX12_batteryAt_11 (by decide) ?_
  refine lv_iand hx hb dX12_batteryAt_12 ?_
  refine lv_if_eq (tgt := 22) hx hb dX12_batteryAt_13 (by decide) (fun q => ?_) (fun q => ?_)
  · replace hf := zif_t q hf
    refine lv_iconst (v := 0) hx hb dX12_batteryAt_22 (by decide) ?_
    exact bX12_batteryAt_23 hC  hI (lv_sub hl [] rfl) hf
  replace hf := zif_f q hf
  refine lv_sipush (v := 16384) hx hb dX12_batteryAt_16 (by decide) ?_
  refine lv_goto (tgt := 23) hx hb dX12_batteryAt_19 (by decide) ?_
  exact bX12_batteryAt_23 hC  hI (lv_sub hl [] rfl) hf
set_option maxRecDepth 20000 in
theorem cX12_batteryAt_met (st : Nat → Nat) (l : Launch) (D : va_G) (ad : Nat → Nat) (cy : Nat → ClassId) (σ : zSt) (x1 : Int32) (res : zSt × Int32) (hf : fX12_batteryAt σ x1 = some res) (sz : Nat) : zMi st l yX12_batteryAt wzX12_batteryAt rmX12_batteryAt [.ref (ad 0), .int x1] D (tM cy) (wM ad cy) sz σ res :=
  zMi.of (cc := cX12_batteryAt) (maxL := 2) (ret := (some .int)) (by decide) rfl (Nat.le_of_ble_eq_true rfl) (fun p e s m args below meth c hC A hI ls hl => bX12_batteryAt hC hI hl hf)
theorem hdX12_batteryAt : yX12_batteryAt.cls = RX12 ∧ yX12_batteryAt.cls ≠ "java/lang/invoke/MethodHandle" ∧ yX12_batteryAt.cls ≠ "java/lang/invoke/VarHandle" ∧ (parseMethodDescriptor yX12_batteryAt.desc).map (fun d => d.parameters.length) = some 1 := by decide +kernel
def rmX12_read : Room := { frames := 1, cells := 0, slots := 0, locals := 22 }
def wzX12_read : List Cond := .code yX12_read cX12_read 3 (some .int) :: wsL_law
theorem hinX12_read_X120 : ∀ w ∈ wsX120, w ∈ wzX12_read := fun w h => List.mem_cons_of_mem _ (inlX12 w h)
def fX12_read_80  (σ : zSt) (s0 : Int32) : Option (zSt × Int32) :=
  some (σ, s0)
def fX12_read_111  (σ : zSt) (x2 : Int32) (s0 : Int32) : Option (zSt × Int32) :=
  zbi (fX12_ofBank σ s0 x2) (fun σ1 v2 =>
  some (σ1, v2))
def fX12_read_138  (σ : zSt) (x2 : Int32) : Option (zSt × Int32) :=
  zck (decide (¬ 16384 = 0)) (
  zck (zin (29 + (x2 / 16384)) 1048) (
  zbi (fX12_ofBank σ (zgi σ 3 (29 + (x2 / 16384)).toNatClampNeg) x2) (fun σ3 v4 =>
  some (σ3, v4))))
def fX12_read  (σ : zSt) (x1 : Int32) : Option (zSt × Int32) :=
  zbv (x1 &&& 65535) (fun v5 =>
  if v5 < 49152 then zbi (fX12_isBattery σ v5) (fun σ6 v7 =>
  if v7 = 0 then if (zgi σ6 0 7) = 0 then if (zgi σ6 0 5) ≤ v5 then fX12_read_80 σ6 255 else
  zck (zin v5 262144) (
  fX12_read_80 σ6 ((zgi σ6 2 v5.toNatClampNeg) &&& 255)) else
  if (zgi σ6 0 7) = 3 then if 32768 ≤ v5 then zck (zin 31 1048) (
  fX12_read_111 σ6 v5 (zgi σ6 3 (31 : Int32).toNatClampNeg)) else
  zck (decide (¬ 16384 = 0)) (
  fX12_read_111 σ6 v5 (v5 / 16384)) else
  if (zgi σ6 0 7) = 1 then if 1024 ≤ v5 then fX12_read_138 σ6 v5 else
  zbi (fX12_ofBank σ6 0 v5) (fun σ8 v9 =>
  some (σ8, v9)) else
  fX12_read_138 σ6 v5 else
  zbi (fX12_batteryAt σ6 v5) (fun σ10 v11 =>
  zck (zin v11 32768) (
  some (σ10, (zgi σ10 6 v11.toNatClampNeg) &&& 255)))) else
  zck (decide (¬ 8192 = 0)) (
  zck (zin (zrem v5 8192) 8192) (
  some (σ, (zgi σ 5 (zrem v5 8192).toNatClampNeg) &&& 255))))
set_option maxRecDepth 20000 in
set_option maxHeartbeats 4000000 in
theorem bX12_read_80 {st : Nat → Nat} {p : Program} {l : Launch} {e : Env} {s : State} {m : MethodId} {args : Array Value} {below : List Frame} {meth : Method} {c : Code} {D : va_G} {A : Nat → Prop} {ad : Nat → Nat} {cy : Nat → ClassId} (hC : zC p m c cX12_read 3 s args wzX12_read RX12 meth (some .int))  {res : zSt × Int32} {H : Heap} {locs : List Loc} {σ : zSt} {ls : Array Slot} {s0 : Int32} (hI : zI st D (tM cy) (wM ad cy σ) A s H locs) (hl : lv_has ls 3 []) (hf : fX12_read_80  σ s0 = some res) : W p l e rmX12_read s m args below meth c H locs 0 0 (zQi below args s D (tM cy) (wM ad cy) A res) (F0 m 80 ls [.int s0]) := by
  have hx := hC.1
  have hb := hC.2.1
  unfold fX12_read_80 at hf
  exact z_ireturn hC hI hf dX12_read_80
set_option maxRecDepth 20000 in
set_option maxHeartbeats 4000000 in
theorem bX12_read_111 {st : Nat → Nat} {p : Program} {l : Launch} {e : Env} {s : State} {m : MethodId} {args : Array Value} {below : List Frame} {meth : Method} {c : Code} {D : va_G} {A : Nat → Prop} {ad : Nat → Nat} {cy : Nat → ClassId} (hC : zC p m c cX12_read 3 s args wzX12_read RX12 meth (some .int))  {res : zSt × Int32} {H : Heap} {locs : List Loc} {σ : zSt} {ls : Array Slot} {x2 : Int32} {s0 : Int32} (hI : zI st D (tM cy) (wM ad cy σ) A s H locs) (hl : lv_has ls 3 [(2, .int x2)]) (hf : fX12_read_111  σ x2 s0 = some res) : W p l e rmX12_read s m args below meth c H locs 0 0 (zQi below args s D (tM cy) (wM ad cy) A res) (F0 m 111 ls [.int s0, .ref (ad 0)]) := by
  have hx := hC.1
  have hb := hC.2.1
  unfold fX12_read_111 at hf
  refine lv_iload_n hx hb dX12_read_111 rfl (lv_at hl 0 rfl) ?_
  obtain ⟨σ1, v2, g1, hf⟩ := zbi_use hf
  refine z_callVi (As := [.int s0, .int x2]) (rest := []) hC hI (cX12_ofBank_met st l D ad cy σ s0 x2 _ g1) (zgV zw49_12 zw49_13 zw49_14 zw1_5 zw49_15) rfl ⟨rfl, rfl⟩ 2 hdX12_ofBank ⟨Nat.le_of_ble_eq_true rfl, Nat.le_of_ble_eq_true rfl⟩ rfl rfl (wM_e0 ad cy σ) rfl hl rfl (Nat.le_of_ble_eq_true rfl) dX12_read_112 ⟨Nat.zero_le _, Nat.zero_le _⟩ (fun H locs hI => ?_)
  exact z_ireturn hC hI hf dX12_read_115
set_option maxRecDepth 20000 in
set_option maxHeartbeats 4000000 in
theorem bX12_read_138 {st : Nat → Nat} {p : Program} {l : Launch} {e : Env} {s : State} {m : MethodId} {args : Array Value} {below : List Frame} {meth : Method} {c : Code} {D : va_G} {A : Nat → Prop} {ad : Nat → Nat} {cy : Nat → ClassId} (hC : zC p m c cX12_read 3 s args wzX12_read RX12 meth (some .int))  {res : zSt × Int32} {H : Heap} {locs : List Loc} {σ : zSt} {ls : Array Slot} {x2 : Int32} (hI : zI st D (tM cy) (wM ad cy σ) A s H locs) (hl : lv_has ls 3 [(0, .ref (ad 0)), (2, .int x2)]) (hf : fX12_read_138  σ x2 = some res) : W p l e rmX12_read s m args below meth c H locs 0 0 (zQi below args s D (tM cy) (wM ad cy) A res) (F0 m 138 ls []) := by
  have hx := hC.1
  have hb := hC.2.1
  unfold fX12_read_138 at hf
  refine lv_aload_n hx hb dX12_read_138 rfl (lv_at hl 0 rfl) ?_
  refine lv_aload_n hx hb dX12_read_139 rfl (lv_at hl 0 rfl) ?_
  refine z_get hC hI hinX12_read_X120 0 (wM_e0 ad cy σ) rfl 10 (by decide) (List.mem_cons_of_mem _ zw9_7) rfl dX12_read_140 ?_
  refine lv_bipush (v := 29) hx hb dX12_read_143 (by decide) ?_
  refine lv_iload_n hx hb dX12_read_145 rfl (lv_at hl 1 rfl) ?_
  refine lv_sipush (v := 16384) hx hb dX12_read_146 (by decide) ?_
  obtain ⟨q, hf⟩ := zck_use hf
  refine lv_idiv hx hb dX12_read_149 (of_decide_eq_true q) ?_
  refine lv_iadd hx hb dX12_read_150 ?_
  obtain ⟨q, hf⟩ := zck_use hf
  refine z_iald hC hI 3 2 (wM_e3 ad cy σ) (tM_t3 cy) q dX12_read_151 ?_
  refine lv_iload_n hx hb dX12_read_152 rfl (lv_at hl 1 rfl) ?_
  obtain ⟨σ3, v4, g3, hf⟩ := zbi_use hf
  refine z_callVi (As := [.int (zgi σ 3 (29 + (x2 / 16384)).toNatClampNeg), .int x2]) (rest := []) hC hI (cX12_ofBank_met st l D ad cy σ (zgi σ 3 (29 + (x2 / 16384)).toNatClampNeg) x2 _ g3) (zgV zw49_12 zw49_13 zw49_14 zw1_5 zw49_15) rfl ⟨rfl, rfl⟩ 2 hdX12_ofBank ⟨Nat.le_of_ble_eq_true rfl, Nat.le_of_ble_eq_true rfl⟩ rfl rfl (wM_e0 ad cy σ) rfl hl rfl (Nat.le_of_ble_eq_true rfl) dX12_read_153 ⟨Nat.zero_le _, Nat.zero_le _⟩ (fun H locs hI => ?_)
  exact z_ireturn hC hI hf dX12_read_156
set_option maxRecDepth 20000 in
set_option maxHeartbeats 4000000 in
theorem bX12_read {st : Nat → Nat} {p : Program} {l : Launch} {e : Env} {s : State} {m : MethodId} {args : Array Value} {below : List Frame} {meth : Method} {c : Code} {D : va_G} {A : Nat → Prop} {ad : Nat → Nat} {cy : Nat → ClassId} (hC : zC p m c cX12_read 3 s args wzX12_read RX12 meth (some .int))  {res : zSt × Int32} {H : Heap} {locs : List Loc} {σ : zSt} {ls : Array Slot} {x1 : Int32} (hI : zI st D (tM cy) (wM ad cy σ) A s H locs) (hl : lv_has ls 3 [(0, .ref (ad 0)), (1, .int x1)]) (hf : fX12_read  σ x1 = some res) : W p l e rmX12_read s m args below meth c H locs 0 0 (zQi below args s D (tM cy) (wM ad cy) A res) (F0 m 0 ls []) := by
  have hx := hC.1
  have hb := hC.2.1
  unfold fX12_read at hf
  refine lv_iload_n hx hb dX12_read_0 rfl (lv_at hl 1 rfl) ?_
  refine lv_ldc (v := 65535) hx hb hC.2.2.2.1 (hC.2.2.2.2.1 _ (List.mem_cons_of_mem _ zw16_11)) dX12_read_1 ?_
  refine lv_iand hx hb dX12_read_3 ?_
  refine lv_topi (fun v5 ev5 => ?_)
  replace hf := zbv_use ev5 hf
  refine lv_istore_n (lv' := [(2, .int v5), (0, .ref (ad 0)), (1, .int x1)]) hx hb dX12_read_4 rfl hl (by decide) rfl (fun ls hl => ?_)
  refine lv_iload_n hx hb dX12_read_5 rfl (lv_at hl 0 rfl) ?_
  refine lv_ldc (v := 49152) hx hb hC.2.2.2.1 (hC.2.2.2.2.1 _ (List.mem_cons_of_mem _ zw16_8)) dX12_read_6 ?_
  refine lv_icmp_lt (tgt := 26) hx hb dX12_read_8 (by decide) (fun q => ?_) (fun q => ?_)
  · replace hf := zif_t q hf
    refine lv_aload_n hx hb dX12_read_26 rfl (lv_at hl 1 rfl) ?_
    refine lv_iload_n hx hb dX12_read_27 rfl (lv_at hl 0 rfl) ?_
    obtain ⟨σ6, v7, g6, hf⟩ := zbi_use hf
    refine z_callVi (As := [.int v5]) (rest := []) hC hI (cX12_isBattery_met st l D ad cy σ v5 _ g6) (zgV zw48_12 zw48_13 zw48_14 zw1_5 zw48_15) rfl ⟨rfl, rfl⟩ 1 hdX12_isBattery ⟨Nat.le_of_ble_eq_true rfl, Nat.le_of_ble_eq_true rfl⟩ rfl rfl (wM_e0 ad cy σ) rfl hl rfl (Nat.le_of_ble_eq_true rfl) dX12_read_28 ⟨Nat.zero_le _, Nat.zero_le _⟩ (fun H locs hI => ?_)
    refine lv_if_eq (tgt := 49) hx hb dX12_read_31 (by decide) (fun q => ?_) (fun q => ?_)
    · replace hf := zif_t q hf
      refine lv_aload_n hx hb dX12_read_49 rfl (lv_at hl 1 rfl) ?_
      refine z_get hC hI hinX12_read_X120 0 (wM_e0 ad cy σ6) rfl 7 (by decide) (List.mem_cons_of_mem _ zw10_16) rfl dX12_read_50 ?_
      refine lv_if_ne (tgt := 81) hx hb dX12_read_53 (by decide) (fun q => ?_) (fun q => ?_)
      · replace hf := zif_f q hf
        refine lv_aload_n hx hb dX12_read_81 rfl (lv_at hl 1 rfl) ?_
        refine z_get hC hI hinX12_read_X120 0 (wM_e0 ad cy σ6) rfl 7 (by decide) (List.mem_cons_of_mem _ zw10_16) rfl dX12_read_82 ?_
        refine lv_iconst (v := 3) hx hb dX12_read_85 (by decide) ?_
        refine lv_icmp_ne (tgt := 116) hx hb dX12_read_86 (by decide) (fun q => ?_) (fun q => ?_)
        · replace hf := zif_f q hf
          refine lv_aload_n hx hb dX12_read_116 rfl (lv_at hl 1 rfl) ?_
          refine z_get hC hI hinX12_read_X120 0 (wM_e0 ad cy σ6) rfl 7 (by decide) (List.mem_cons_of_mem _ zw10_16) rfl dX12_read_117 ?_
          refine lv_iconst (v := 1) hx hb dX12_read_120 (by decide) ?_
          refine lv_icmp_ne (tgt := 138) hx hb dX12_read_121 (by decide) (fun q => ?_) (fun q => ?_)
          · replace hf := zif_f q hf
            exact bX12_read_138 hC  hI (lv_sub hl [1, 0] rfl) hf
          replace hf := zif_t q hf
          refine lv_iload_n hx hb dX12_read_124 rfl (lv_at hl 0 rfl) ?_
          refine lv_sipush (v := 1024) hx hb dX12_read_125 (by decide) ?_
          refine lv_icmp_ge (tgt := 138) hx hb dX12_read_128 (by decide) (fun q => ?_) (fun q => ?_)
          · replace hf := zif_t q hf
            exact bX12_read_138 hC  hI (lv_sub hl [1, 0] rfl) hf
          replace hf := zif_f q hf
          refine lv_aload_n hx hb dX12_read_131 rfl (lv_at hl 1 rfl) ?_
          refine lv_iconst (v := 0) hx hb dX12_read_132 (by decide) ?_
          refine lv_iload_n hx hb dX12_read_133 rfl (lv_at hl 0 rfl) ?_
          obtain ⟨σ8, v9, g8, hf⟩ := zbi_use hf
          refine z_callVi (As := [.int 0, .int v5]) (rest := []) hC hI (cX12_ofBank_met st l D ad cy σ6 0 v5 _ g8) (zgV zw49_12 zw49_13 zw49_14 zw1_5 zw49_15) rfl ⟨rfl, rfl⟩ 2 hdX12_ofBank ⟨Nat.le_of_ble_eq_true rfl, Nat.le_of_ble_eq_true rfl⟩ rfl rfl (wM_e0 ad cy σ6) rfl hl rfl (Nat.le_of_ble_eq_true rfl) dX12_read_134 ⟨Nat.zero_le _, Nat.zero_le _⟩ (fun H locs hI => ?_)
          exact z_ireturn hC hI hf dX12_read_137
        replace hf := zif_t q hf
        refine lv_aload_n hx hb dX12_read_89 rfl (lv_at hl 1 rfl) ?_
        refine lv_iload_n hx hb dX12_read_90 rfl (lv_at hl 0 rfl) ?_
        refine lv_ldc (v := 32768) hx hb hC.2.2.2.1 (hC.2.2.2.2.1 _ (List.mem_cons_of_mem _ zw9_10)) dX12_read_91 ?_
        refine lv_icmp_ge (tgt := 104) hx hb dX12_read_93 (by decide) (fun q => ?_) (fun q => ?_)
        · replace hf := zif_t q hf
          refine lv_aload_n hx hb dX12_read_104 rfl (lv_at hl 1 rfl) ?_
          refine z_get hC hI hinX12_read_X120 0 (wM_e0 ad cy σ6) rfl 10 (by decide) (List.mem_cons_of_mem _ zw9_7) rfl dX12_read_105 ?_
          refine lv_bipush (v := 31) hx hb dX12_read_108 (by decide) ?_
          obtain ⟨q, hf⟩ := zck_use hf
          refine z_iald hC hI 3 2 (wM_e3 ad cy σ6) (tM_t3 cy) q dX12_read_110 ?_
          exact bX12_read_111 hC  hI (lv_sub hl [0] rfl) hf
        replace hf := zif_f q hf
        refine lv_iload_n hx hb dX12_read_96 rfl (lv_at hl 0 rfl) ?_
        refine lv_sipush (v := 16384) hx hb dX12_read_97 (by decide) ?_
        obtain ⟨q, hf⟩ := zck_use hf
        refine lv_idiv hx hb dX12_read_100 (of_decide_eq_true q) ?_
        refine lv_goto (tgt := 111) hx hb dX12_read_101 (by decide) ?_
        exact bX12_read_111 hC  hI (lv_sub hl [0] rfl) hf
      replace hf := zif_t q hf
      refine lv_iload_n hx hb dX12_read_56 rfl (lv_at hl 0 rfl) ?_
      refine lv_aload_n hx hb dX12_read_57 rfl (lv_at hl 1 rfl) ?_
      refine z_get hC hI hinX12_read_X120 0 (wM_e0 ad cy σ6) rfl 5 (by decide) (List.mem_cons_of_mem _ zw16_6) rfl dX12_read_58 ?_
      refine lv_icmp_ge (tgt := 77) hx hb dX12_read_61 (by decide) (fun q => ?_) (fun q => ?_)
      · replace hf := zif_t q hf
        refine lv_sipush (v := 255) hx hb dX12_read_77 (by decide) ?_
        exact bX12_read_80 hC  hI (lv_sub hl [] rfl) hf
      replace hf := zif_f q hf
      refine lv_aload_n hx hb dX12_read_64 rfl (lv_at hl 1 rfl) ?_
      refine z_get hC hI hinX12_read_X120 0 (wM_e0 ad cy σ6) rfl 4 (by decide) (List.mem_cons_of_mem _ zw9_5) rfl dX12_read_65 ?_
      refine lv_iload_n hx hb dX12_read_68 rfl (lv_at hl 0 rfl) ?_
      obtain ⟨q, hf⟩ := zck_use hf
      refine z_bald hC hI 2 1 (wM_e2 ad cy σ6) (tM_t2 cy) q dX12_read_69 ?_
      refine lv_sipush (v := 255) hx hb dX12_read_70 (by decide) ?_
      refine lv_iand hx hb dX12_read_73 ?_
      refine lv_goto (tgt := 80) hx hb dX12_read_74 (by decide) ?_
      exact bX12_read_80 hC  hI (lv_sub hl [] rfl) hf
    replace hf := zif_f q hf
    refine lv_aload_n hx hb dX12_read_34 rfl (lv_at hl 1 rfl) ?_
    refine z_get hC hI hinX12_read_X120 0 (wM_e0 ad cy σ6) rfl 13 (by decide) (List.mem_cons_of_mem _ zw9_11) rfl dX12_read_35 ?_
    refine lv_aload_n hx hb dX12_read_38 rfl (lv_at hl 1 rfl) ?_
    refine lv_iload_n hx hb dX12_read_39 rfl (lv_at hl 0 rfl) ?_
    obtain ⟨σ10, v11, g10, hf⟩ := zbi_use hf
    refine z_callVi (As := [.int v5]) (rest := [.ref (ad 6)]) hC hI (cX12_batteryAt_met st l D ad cy σ6 v5 _ g10) (zgV zw48_16 zw48_17 zw48_18 zw1_5 zw48_19) rfl ⟨rfl, rfl⟩ 1 hdX12_batteryAt ⟨Nat.le_of_ble_eq_true rfl, Nat.le_of_ble_eq_true rfl⟩ rfl rfl (wM_e0 ad cy σ6) rfl hl rfl (Nat.le_of_ble_eq_true rfl) dX12_read_40 ⟨Nat.zero_le _, Nat.zero_le _⟩ (fun H locs hI => ?_)
    obtain ⟨q, hf⟩ := zck_use hf
    refine z_bald hC hI 6 5 (wM_e6 ad cy σ10) (tM_t6 cy) q dX12_read_43 ?_
    refine lv_sipush (v := 255) hx hb dX12_read_44 (by decide) ?_
    refine lv_iand hx hb dX12_read_47 ?_
    exact z_ireturn hC hI hf dX12_read_48
  replace hf := zif_f q hf
  refine lv_aload_n hx hb dX12_read_11 rfl (lv_at hl 1 rfl) ?_
  refine z_get hC hI hinX12_read_X120 0 (wM_e0 ad cy σ) rfl 12 (by decide) (List.mem_cons_of_mem _ zw9_9) rfl dX12_read_12 ?_
  refine lv_iload_n hx hb dX12_read_15 rfl (lv_at hl 0 rfl) ?_
  refine lv_sipush (v := 8192) hx hb dX12_read_16 (by decide) ?_
  obtain ⟨q, hf⟩ := zck_use hf
  refine z_irem hx hb dX12_read_19 (of_decide_eq_true q) ?_
  obtain ⟨q, hf⟩ := zck_use hf
  refine z_bald hC hI 5 4 (wM_e5 ad cy σ) (tM_t5 cy) q dX12_read_20 ?_
  refine lv_sipush (v := 255) hx hb dX12_read_21 (by decide) ?_
  refine lv_iand hx hb dX12_read_24 ?_
  exact z_ireturn hC hI hf dX12_read_25
set_option maxRecDepth 20000 in
theorem cX12_read_met (st : Nat → Nat) (l : Launch) (D : va_G) (ad : Nat → Nat) (cy : Nat → ClassId) (σ : zSt) (x1 : Int32) (res : zSt × Int32) (hf : fX12_read σ x1 = some res) (sz : Nat) : zMi st l yX12_read wzX12_read rmX12_read [.ref (ad 0), .int x1] D (tM cy) (wM ad cy) sz σ res :=
  zMi.of (cc := cX12_read) (maxL := 3) (ret := (some .int)) (by decide) rfl (Nat.le_of_ble_eq_true rfl) (fun p e s m args below meth c hC A hI ls hl => bX12_read hC hI hl hf)
theorem hdX12_read : yX12_read.cls = RX12 ∧ yX12_read.cls ≠ "java/lang/invoke/MethodHandle" ∧ yX12_read.cls ≠ "java/lang/invoke/VarHandle" ∧ (parseMethodDescriptor yX12_read.desc).map (fun d => d.parameters.length) = some 1 := by decide +kernel
def rmX12_write : Room := { frames := 1, cells := 0, slots := 0, locals := 21 }
def wzX12_write : List Cond := .code yX12_write cX12_write 5 none :: wsL_law
theorem hinX12_write_X120 : ∀ w ∈ wsX120, w ∈ wzX12_write := fun w h => List.mem_cons_of_mem _ (inlX12 w h)
def fX12_write_163  (σ : zSt)  : Option (zSt) :=
  some σ
def fX12_write_140  (σ : zSt) (x3 : Int32) (x4 : Int32) : Option (zSt) :=
  if (zgi σ 0 7) = 3 then if x3 = 40960 then zck (zin 31 1048) (zbv (zsi σ 3 ((31 : Int32).toNatClampNeg) x4) (fun σ1 =>
  fX12_write_163 σ1)) else
  fX12_write_163 σ else
  fX12_write_163 σ
def fX12_write_103  (σ : zSt) (x3 : Int32) (x4 : Int32) : Option (zSt) :=
  if (zgi σ 0 7) = 2 then if 49152 ≤ x3 then fX12_write_140 σ x3 x4 else
  zck (decide (¬ 16384 = 0)) (
  if (zrem x3 16384) = 0 then zck (decide (¬ 16384 = 0)) (
  zck (zin (29 + (x3 / 16384)) 1048) (zbv (zsi σ 3 ((29 + (x3 / 16384)).toNatClampNeg) x4) (fun σ2 =>
  fX12_write_140 σ2 x3 x4))) else
  fX12_write_140 σ x3 x4) else
  fX12_write_140 σ x3 x4
def fX12_write_75  (σ : zSt) (x3 : Int32) (x4 : Int32) : Option (zSt) :=
  if (zgi σ 0 7) = 1 then if x3 ≤ 65532 then fX12_write_103 σ x3 x4 else
  zck (zin ((29 + x3) - 65533) 1048) (zbv (zsi σ 3 (((29 + x3) - 65533).toNatClampNeg) x4) (fun σ3 =>
  fX12_write_103 σ3 x3 x4)) else
  fX12_write_103 σ x3 x4
def fX12_write_52  (σ : zSt) (x3 : Int32) (x4 : Int32) : Option (zSt) :=
  if (zgi σ 0 7) = 1 then if x3 = 65532 then zck (zin 32 1048) (zbv (zsi σ 3 ((32 : Int32).toNatClampNeg) x4) (fun σ4 =>
  fX12_write_75 σ4 x3 x4)) else
  fX12_write_75 σ x3 x4 else
  fX12_write_75 σ x3 x4
def fX12_write_31  (σ : zSt) (x3 : Int32) (x4 : Int32) : Option (zSt) :=
  zbi (fX12_isBattery σ x3) (fun σ5 v6 =>
  if v6 = 0 then fX12_write_52 σ5 x3 x4 else
  zbi (fX12_batteryAt σ5 x3) (fun σ7 v8 =>
  zck (zin v8 32768) (zbv (zsi σ7 6 (v8.toNatClampNeg) (vp_nar .byte (x4.toInt8.toInt32))) (fun σ9 =>
  fX12_write_52 σ9 x3 x4))))
def fX12_write  (σ : zSt) (x1 : Int32) (x2 : Int32) : Option (zSt) :=
  zbv (x1 &&& 65535) (fun v10 =>
  zbv (x2 &&& 255) (fun v11 =>
  if v10 < 49152 then fX12_write_31 σ v10 v11 else
  zck (decide (¬ 8192 = 0)) (
  zck (zin (zrem v10 8192) 8192) (zbv (zsi σ 5 ((zrem v10 8192).toNatClampNeg) (vp_nar .byte (v11.toInt8.toInt32))) (fun σ12 =>
  fX12_write_31 σ12 v10 v11)))))
set_option maxRecDepth 20000 in
set_option maxHeartbeats 4000000 in
theorem bX12_write_163 {st : Nat → Nat} {p : Program} {l : Launch} {e : Env} {s : State} {m : MethodId} {args : Array Value} {below : List Frame} {meth : Method} {c : Code} {D : va_G} {A : Nat → Prop} {ad : Nat → Nat} {cy : Nat → ClassId} (hC : zC p m c cX12_write 5 s args wzX12_write RX12 meth none)  {res : zSt} {H : Heap} {locs : List Loc} {σ : zSt} {ls : Array Slot}  (hI : zI st D (tM cy) (wM ad cy σ) A s H locs) (hl : lv_has ls 5 []) (hf : fX12_write_163  σ  = some res) : W p l e rmX12_write s m args below meth c H locs 0 0 (zQu below args s D (tM cy) (wM ad cy) A res) (F0 m 163 ls []) := by
  have hx := hC.1
  have hb := hC.2.1
  unfold fX12_write_163 at hf
  exact z_return hC hI hf dX12_write_163
set_option maxRecDepth 20000 in
set_option maxHeartbeats 4000000 in
theorem bX12_write_140 {st : Nat → Nat} {p : Program} {l : Launch} {e : Env} {s : State} {m : MethodId} {args : Array Value} {below : List Frame} {meth : Method} {c : Code} {D : va_G} {A : Nat → Prop} {ad : Nat → Nat} {cy : Nat → ClassId} (hC : zC p m c cX12_write 5 s args wzX12_write RX12 meth none)  {res : zSt} {H : Heap} {locs : List Loc} {σ : zSt} {ls : Array Slot} {x3 : Int32} {x4 : Int32} (hI : zI st D (tM cy) (wM ad cy σ) A s H locs) (hl : lv_has ls 5 [(0, .ref (ad 0)), (3, .int x3), (4, .int x4)]) (hf : fX12_write_140  σ x3 x4 = some res) : W p l e rmX12_write s m args below meth c H locs 0 0 (zQu below args s D (tM cy) (wM ad cy) A res) (F0 m 140 ls []) := by
  have hx := hC.1
  have hb := hC.2.1
  unfold fX12_write_140 at hf
  refine lv_aload_n hx hb dX12_write_140 rfl (lv_at hl 0 rfl) ?_
  refine z_get hC hI hinX12_write_X120 0 (wM_e0 ad cy σ) rfl 7 (by decide) (List.mem_cons_of_mem _ zw10_16) rfl dX12_write_141 ?_
  refine lv_iconst (v := 3) hx hb dX12_write_144 (by decide) ?_
  refine lv_icmp_ne (tgt := 163) hx hb dX12_write_145 (by decide) (fun q => ?_) (fun q => ?_)
  · replace hf := zif_f q hf
    exact bX12_write_163 hC  hI (lv_sub hl [] rfl) hf
  replace hf := zif_t q hf
  refine lv_iload_n hx hb dX12_write_148 rfl (lv_at hl 1 rfl) ?_
  refine lv_ldc (v := 40960) hx hb hC.2.2.2.1 (hC.2.2.2.2.1 _ (List.mem_cons_of_mem _ zw48_11)) dX12_write_149 ?_
  refine lv_icmp_ne (tgt := 163) hx hb dX12_write_151 (by decide) (fun q => ?_) (fun q => ?_)
  · replace hf := zif_f q hf
    exact bX12_write_163 hC  hI (lv_sub hl [] rfl) hf
  replace hf := zif_t q hf
  refine lv_aload_n hx hb dX12_write_154 rfl (lv_at hl 0 rfl) ?_
  refine z_get hC hI hinX12_write_X120 0 (wM_e0 ad cy σ) rfl 10 (by decide) (List.mem_cons_of_mem _ zw9_7) rfl dX12_write_155 ?_
  refine lv_bipush (v := 31) hx hb dX12_write_158 (by decide) ?_
  refine lv_iload hx hb dX12_write_160 (lv_at hl 2 rfl) ?_
  obtain ⟨q, hf⟩ := zck_use hf
  obtain ⟨σ1, eσ1⟩ : ∃ z, z = zsi σ 3 ((31 : Int32).toNatClampNeg) x4 := ⟨_, rfl⟩
  replace hf := zbv_use eσ1 hf
  refine z_iast hC hI 3 2 (wM_e3 ad cy σ) (tM_t3 cy) q ((wM_s3 ad cy σ _ _).trans (congrArg (wM ad cy) eσ1.symm)) dX12_write_162 (fun H locs hI => ?_)
  exact bX12_write_163 hC  hI (lv_sub hl [] rfl) hf
set_option maxRecDepth 20000 in
set_option maxHeartbeats 4000000 in
theorem bX12_write_103 {st : Nat → Nat} {p : Program} {l : Launch} {e : Env} {s : State} {m : MethodId} {args : Array Value} {below : List Frame} {meth : Method} {c : Code} {D : va_G} {A : Nat → Prop} {ad : Nat → Nat} {cy : Nat → ClassId} (hC : zC p m c cX12_write 5 s args wzX12_write RX12 meth none)  {res : zSt} {H : Heap} {locs : List Loc} {σ : zSt} {ls : Array Slot} {x3 : Int32} {x4 : Int32} (hI : zI st D (tM cy) (wM ad cy σ) A s H locs) (hl : lv_has ls 5 [(0, .ref (ad 0)), (3, .int x3), (4, .int x4)]) (hf : fX12_write_103  σ x3 x4 = some res) : W p l e rmX12_write s m args below meth c H locs 0 0 (zQu below args s D (tM cy) (wM ad cy) A res) (F0 m 103 ls []) := by
  have hx := hC.1
  have hb := hC.2.1
  unfold fX12_write_103 at hf
  refine lv_aload_n hx hb dX12_write_103 rfl (lv_at hl 0 rfl) ?_
  refine z_get hC hI hinX12_write_X120 0 (wM_e0 ad cy σ) rfl 7 (by decide) (List.mem_cons_of_mem _ zw10_16) rfl dX12_write_104 ?_
  refine lv_iconst (v := 2) hx hb dX12_write_107 (by decide) ?_
  refine lv_icmp_ne (tgt := 140) hx hb dX12_write_108 (by decide) (fun q => ?_) (fun q => ?_)
  · replace hf := zif_f q hf
    exact bX12_write_140 hC  hI hl hf
  replace hf := zif_t q hf
  refine lv_iload_n hx hb dX12_write_111 rfl (lv_at hl 1 rfl) ?_
  refine lv_ldc (v := 49152) hx hb hC.2.2.2.1 (hC.2.2.2.2.1 _ (List.mem_cons_of_mem _ zw16_8)) dX12_write_112 ?_
  refine lv_icmp_ge (tgt := 140) hx hb dX12_write_114 (by decide) (fun q => ?_) (fun q => ?_)
  · replace hf := zif_t q hf
    exact bX12_write_140 hC  hI hl hf
  replace hf := zif_f q hf
  refine lv_iload_n hx hb dX12_write_117 rfl (lv_at hl 1 rfl) ?_
  refine lv_sipush (v := 16384) hx hb dX12_write_118 (by decide) ?_
  obtain ⟨q, hf⟩ := zck_use hf
  refine z_irem hx hb dX12_write_121 (of_decide_eq_true q) ?_
  refine lv_if_ne (tgt := 140) hx hb dX12_write_122 (by decide) (fun q => ?_) (fun q => ?_)
  · replace hf := zif_f q hf
    exact bX12_write_140 hC  hI hl hf
  replace hf := zif_t q hf
  refine lv_aload_n hx hb dX12_write_125 rfl (lv_at hl 0 rfl) ?_
  refine z_get hC hI hinX12_write_X120 0 (wM_e0 ad cy σ) rfl 10 (by decide) (List.mem_cons_of_mem _ zw9_7) rfl dX12_write_126 ?_
  refine lv_bipush (v := 29) hx hb dX12_write_129 (by decide) ?_
  refine lv_iload_n hx hb dX12_write_131 rfl (lv_at hl 1 rfl) ?_
  refine lv_sipush (v := 16384) hx hb dX12_write_132 (by decide) ?_
  obtain ⟨q, hf⟩ := zck_use hf
  refine lv_idiv hx hb dX12_write_135 (of_decide_eq_true q) ?_
  refine lv_iadd hx hb dX12_write_136 ?_
  refine lv_iload hx hb dX12_write_137 (lv_at hl 2 rfl) ?_
  obtain ⟨q, hf⟩ := zck_use hf
  obtain ⟨σ2, eσ2⟩ : ∃ z, z = zsi σ 3 ((29 + (x3 / 16384)).toNatClampNeg) x4 := ⟨_, rfl⟩
  replace hf := zbv_use eσ2 hf
  refine z_iast hC hI 3 2 (wM_e3 ad cy σ) (tM_t3 cy) q ((wM_s3 ad cy σ _ _).trans (congrArg (wM ad cy) eσ2.symm)) dX12_write_139 (fun H locs hI => ?_)
  exact bX12_write_140 hC  hI hl hf
set_option maxRecDepth 20000 in
set_option maxHeartbeats 4000000 in
theorem bX12_write_75 {st : Nat → Nat} {p : Program} {l : Launch} {e : Env} {s : State} {m : MethodId} {args : Array Value} {below : List Frame} {meth : Method} {c : Code} {D : va_G} {A : Nat → Prop} {ad : Nat → Nat} {cy : Nat → ClassId} (hC : zC p m c cX12_write 5 s args wzX12_write RX12 meth none)  {res : zSt} {H : Heap} {locs : List Loc} {σ : zSt} {ls : Array Slot} {x3 : Int32} {x4 : Int32} (hI : zI st D (tM cy) (wM ad cy σ) A s H locs) (hl : lv_has ls 5 [(0, .ref (ad 0)), (3, .int x3), (4, .int x4)]) (hf : fX12_write_75  σ x3 x4 = some res) : W p l e rmX12_write s m args below meth c H locs 0 0 (zQu below args s D (tM cy) (wM ad cy) A res) (F0 m 75 ls []) := by
  have hx := hC.1
  have hb := hC.2.1
  unfold fX12_write_75 at hf
  refine lv_aload_n hx hb dX12_write_75 rfl (lv_at hl 0 rfl) ?_
  refine z_get hC hI hinX12_write_X120 0 (wM_e0 ad cy σ) rfl 7 (by decide) (List.mem_cons_of_mem _ zw10_16) rfl dX12_write_76 ?_
  refine lv_iconst (v := 1) hx hb dX12_write_79 (by decide) ?_
  refine lv_icmp_ne (tgt := 103) hx hb dX12_write_80 (by decide) (fun q => ?_) (fun q => ?_)
  · replace hf := zif_f q hf
    exact bX12_write_103 hC  hI hl hf
  replace hf := zif_t q hf
  refine lv_iload_n hx hb dX12_write_83 rfl (lv_at hl 1 rfl) ?_
  refine lv_ldc (v := 65532) hx hb hC.2.2.2.1 (hC.2.2.2.2.1 _ (List.mem_cons_of_mem _ zw48_9)) dX12_write_84 ?_
  refine lv_icmp_le (tgt := 103) hx hb dX12_write_86 (by decide) (fun q => ?_) (fun q => ?_)
  · replace hf := zif_t q hf
    exact bX12_write_103 hC  hI hl hf
  replace hf := zif_f q hf
  refine lv_aload_n hx hb dX12_write_89 rfl (lv_at hl 0 rfl) ?_
  refine z_get hC hI hinX12_write_X120 0 (wM_e0 ad cy σ) rfl 10 (by decide) (List.mem_cons_of_mem _ zw9_7) rfl dX12_write_90 ?_
  refine lv_bipush (v := 29) hx hb dX12_write_93 (by decide) ?_
  refine lv_iload_n hx hb dX12_write_95 rfl (lv_at hl 1 rfl) ?_
  refine lv_iadd hx hb dX12_write_96 ?_
  refine lv_ldc (v := 65533) hx hb hC.2.2.2.1 (hC.2.2.2.2.1 _ (List.mem_cons_of_mem _ zw48_10)) dX12_write_97 ?_
  refine lv_isub hx hb dX12_write_99 ?_
  refine lv_iload hx hb dX12_write_100 (lv_at hl 2 rfl) ?_
  obtain ⟨q, hf⟩ := zck_use hf
  obtain ⟨σ3, eσ3⟩ : ∃ z, z = zsi σ 3 (((29 + x3) - 65533).toNatClampNeg) x4 := ⟨_, rfl⟩
  replace hf := zbv_use eσ3 hf
  refine z_iast hC hI 3 2 (wM_e3 ad cy σ) (tM_t3 cy) q ((wM_s3 ad cy σ _ _).trans (congrArg (wM ad cy) eσ3.symm)) dX12_write_102 (fun H locs hI => ?_)
  exact bX12_write_103 hC  hI hl hf
set_option maxRecDepth 20000 in
set_option maxHeartbeats 4000000 in
theorem bX12_write_52 {st : Nat → Nat} {p : Program} {l : Launch} {e : Env} {s : State} {m : MethodId} {args : Array Value} {below : List Frame} {meth : Method} {c : Code} {D : va_G} {A : Nat → Prop} {ad : Nat → Nat} {cy : Nat → ClassId} (hC : zC p m c cX12_write 5 s args wzX12_write RX12 meth none)  {res : zSt} {H : Heap} {locs : List Loc} {σ : zSt} {ls : Array Slot} {x3 : Int32} {x4 : Int32} (hI : zI st D (tM cy) (wM ad cy σ) A s H locs) (hl : lv_has ls 5 [(0, .ref (ad 0)), (3, .int x3), (4, .int x4)]) (hf : fX12_write_52  σ x3 x4 = some res) : W p l e rmX12_write s m args below meth c H locs 0 0 (zQu below args s D (tM cy) (wM ad cy) A res) (F0 m 52 ls []) := by
  have hx := hC.1
  have hb := hC.2.1
  unfold fX12_write_52 at hf
  refine lv_aload_n hx hb dX12_write_52 rfl (lv_at hl 0 rfl) ?_
  refine z_get hC hI hinX12_write_X120 0 (wM_e0 ad cy σ) rfl 7 (by decide) (List.mem_cons_of_mem _ zw10_16) rfl dX12_write_53 ?_
  refine lv_iconst (v := 1) hx hb dX12_write_56 (by decide) ?_
  refine lv_icmp_ne (tgt := 75) hx hb dX12_write_57 (by decide) (fun q => ?_) (fun q => ?_)
  · replace hf := zif_f q hf
    exact bX12_write_75 hC  hI hl hf
  replace hf := zif_t q hf
  refine lv_iload_n hx hb dX12_write_60 rfl (lv_at hl 1 rfl) ?_
  refine lv_ldc (v := 65532) hx hb hC.2.2.2.1 (hC.2.2.2.2.1 _ (List.mem_cons_of_mem _ zw48_9)) dX12_write_61 ?_
  refine lv_icmp_ne (tgt := 75) hx hb dX12_write_63 (by decide) (fun q => ?_) (fun q => ?_)
  · replace hf := zif_f q hf
    exact bX12_write_75 hC  hI hl hf
  replace hf := zif_t q hf
  refine lv_aload_n hx hb dX12_write_66 rfl (lv_at hl 0 rfl) ?_
  refine z_get hC hI hinX12_write_X120 0 (wM_e0 ad cy σ) rfl 10 (by decide) (List.mem_cons_of_mem _ zw9_7) rfl dX12_write_67 ?_
  refine lv_bipush (v := 32) hx hb dX12_write_70 (by decide) ?_
  refine lv_iload hx hb dX12_write_72 (lv_at hl 2 rfl) ?_
  obtain ⟨q, hf⟩ := zck_use hf
  obtain ⟨σ4, eσ4⟩ : ∃ z, z = zsi σ 3 ((32 : Int32).toNatClampNeg) x4 := ⟨_, rfl⟩
  replace hf := zbv_use eσ4 hf
  refine z_iast hC hI 3 2 (wM_e3 ad cy σ) (tM_t3 cy) q ((wM_s3 ad cy σ _ _).trans (congrArg (wM ad cy) eσ4.symm)) dX12_write_74 (fun H locs hI => ?_)
  exact bX12_write_75 hC  hI hl hf
set_option maxRecDepth 20000 in
set_option maxHeartbeats 4000000 in
theorem bX12_write_31 {st : Nat → Nat} {p : Program} {l : Launch} {e : Env} {s : State} {m : MethodId} {args : Array Value} {below : List Frame} {meth : Method} {c : Code} {D : va_G} {A : Nat → Prop} {ad : Nat → Nat} {cy : Nat → ClassId} (hC : zC p m c cX12_write 5 s args wzX12_write RX12 meth none)  {res : zSt} {H : Heap} {locs : List Loc} {σ : zSt} {ls : Array Slot} {x3 : Int32} {x4 : Int32} (hI : zI st D (tM cy) (wM ad cy σ) A s H locs) (hl : lv_has ls 5 [(0, .ref (ad 0)), (3, .int x3), (4, .int x4)]) (hf : fX12_write_31  σ x3 x4 = some res) : W p l e rmX12_write s m args below meth c H locs 0 0 (zQu below args s D (tM cy) (wM ad cy) A res) (F0 m 31 ls []) := by
  have hx := hC.1
  have hb := hC.2.1
  unfold fX12_write_31 at hf
  refine lv_aload_n hx hb dX12_write_31 rfl (lv_at hl 0 rfl) ?_
  refine lv_iload_n hx hb dX12_write_32 rfl (lv_at hl 1 rfl) ?_
  obtain ⟨σ5, v6, g5, hf⟩ := zbi_use hf
  refine z_callVi (As := [.int x3]) (rest := []) hC hI (cX12_isBattery_met st l D ad cy σ x3 _ g5) (zgV zw48_12 zw48_13 zw48_14 zw1_5 zw48_15) rfl ⟨rfl, rfl⟩ 1 hdX12_isBattery ⟨Nat.le_of_ble_eq_true rfl, Nat.le_of_ble_eq_true rfl⟩ rfl rfl (wM_e0 ad cy σ) rfl hl rfl (Nat.le_of_ble_eq_true rfl) dX12_write_33 ⟨Nat.zero_le _, Nat.zero_le _⟩ (fun H locs hI => ?_)
  refine lv_if_eq (tgt := 52) hx hb dX12_write_36 (by decide) (fun q => ?_) (fun q => ?_)
  · replace hf := zif_t q hf
    exact bX12_write_52 hC  hI hl hf
  replace hf := zif_f q hf
  refine lv_aload_n hx hb dX12_write_39 rfl (lv_at hl 0 rfl) ?_
  refine z_get hC hI hinX12_write_X120 0 (wM_e0 ad cy σ5) rfl 13 (by decide) (List.mem_cons_of_mem _ zw9_11) rfl dX12_write_40 ?_
  refine lv_aload_n hx hb dX12_write_43 rfl (lv_at hl 0 rfl) ?_
  refine lv_iload_n hx hb dX12_write_44 rfl (lv_at hl 1 rfl) ?_
  obtain ⟨σ7, v8, g7, hf⟩ := zbi_use hf
  refine z_callVi (As := [.int x3]) (rest := [.ref (ad 6)]) hC hI (cX12_batteryAt_met st l D ad cy σ5 x3 _ g7) (zgV zw48_16 zw48_17 zw48_18 zw1_5 zw48_19) rfl ⟨rfl, rfl⟩ 1 hdX12_batteryAt ⟨Nat.le_of_ble_eq_true rfl, Nat.le_of_ble_eq_true rfl⟩ rfl rfl (wM_e0 ad cy σ5) rfl hl rfl (Nat.le_of_ble_eq_true rfl) dX12_write_45 ⟨Nat.zero_le _, Nat.zero_le _⟩ (fun H locs hI => ?_)
  refine lv_iload hx hb dX12_write_48 (lv_at hl 2 rfl) ?_
  refine lv_i2b (v := x4.toInt8.toInt32) hx hb dX12_write_50 rfl ?_
  obtain ⟨q, hf⟩ := zck_use hf
  obtain ⟨σ9, eσ9⟩ : ∃ z, z = zsi σ7 6 (v8.toNatClampNeg) (vp_nar .byte (x4.toInt8.toInt32)) := ⟨_, rfl⟩
  replace hf := zbv_use eσ9 hf
  refine z_bast hC hI 6 5 (wM_e6 ad cy σ7) (tM_t6 cy) q ((wM_s6 ad cy σ7 _ _).trans (congrArg (wM ad cy) eσ9.symm)) dX12_write_51 (fun H locs hI => ?_)
  exact bX12_write_52 hC  hI hl hf
set_option maxRecDepth 20000 in
set_option maxHeartbeats 4000000 in
theorem bX12_write {st : Nat → Nat} {p : Program} {l : Launch} {e : Env} {s : State} {m : MethodId} {args : Array Value} {below : List Frame} {meth : Method} {c : Code} {D : va_G} {A : Nat → Prop} {ad : Nat → Nat} {cy : Nat → ClassId} (hC : zC p m c cX12_write 5 s args wzX12_write RX12 meth none)  {res : zSt} {H : Heap} {locs : List Loc} {σ : zSt} {ls : Array Slot} {x1 : Int32} {x2 : Int32} (hI : zI st D (tM cy) (wM ad cy σ) A s H locs) (hl : lv_has ls 5 [(0, .ref (ad 0)), (1, .int x1), (2, .int x2)]) (hf : fX12_write  σ x1 x2 = some res) : W p l e rmX12_write s m args below meth c H locs 0 0 (zQu below args s D (tM cy) (wM ad cy) A res) (F0 m 0 ls []) := by
  have hx := hC.1
  have hb := hC.2.1
  unfold fX12_write at hf
  refine lv_iload_n hx hb dX12_write_0 rfl (lv_at hl 1 rfl) ?_
  refine lv_ldc (v := 65535) hx hb hC.2.2.2.1 (hC.2.2.2.2.1 _ (List.mem_cons_of_mem _ zw16_11)) dX12_write_1 ?_
  refine lv_iand hx hb dX12_write_3 ?_
  refine lv_topi (fun v10 ev10 => ?_)
  replace hf := zbv_use ev10 hf
  refine lv_istore_n (lv' := [(3, .int v10), (0, .ref (ad 0)), (1, .int x1), (2, .int x2)]) hx hb dX12_write_4 rfl hl (by decide) rfl (fun ls hl => ?_)
  refine lv_iload_n hx hb dX12_write_5 rfl (lv_at hl 3 rfl) ?_
  refine lv_sipush (v := 255) hx hb dX12_write_6 (by decide) ?_
  refine lv_iand hx hb dX12_write_9 ?_
  refine lv_topi (fun v11 ev11 => ?_)
  replace hf := zbv_use ev11 hf
  refine lv_istore (lv' := [(4, .int v11), (3, .int v10), (0, .ref (ad 0)), (1, .int x1), (2, .int x2)]) hx hb dX12_write_10 hl (by decide) rfl (fun ls hl => ?_)
  refine lv_iload_n hx hb dX12_write_12 rfl (lv_at hl 1 rfl) ?_
  refine lv_ldc (v := 49152) hx hb hC.2.2.2.1 (hC.2.2.2.2.1 _ (List.mem_cons_of_mem _ zw16_8)) dX12_write_13 ?_
  refine lv_icmp_lt (tgt := 31) hx hb dX12_write_15 (by decide) (fun q => ?_) (fun q => ?_)
  · replace hf := zif_t q hf
    exact bX12_write_31 hC  hI (lv_sub hl [2, 1, 0] rfl) hf
  replace hf := zif_f q hf
  refine lv_aload_n hx hb dX12_write_18 rfl (lv_at hl 2 rfl) ?_
  refine z_get hC hI hinX12_write_X120 0 (wM_e0 ad cy σ) rfl 12 (by decide) (List.mem_cons_of_mem _ zw9_9) rfl dX12_write_19 ?_
  refine lv_iload_n hx hb dX12_write_22 rfl (lv_at hl 1 rfl) ?_
  refine lv_sipush (v := 8192) hx hb dX12_write_23 (by decide) ?_
  obtain ⟨q, hf⟩ := zck_use hf
  refine z_irem hx hb dX12_write_26 (of_decide_eq_true q) ?_
  refine lv_iload hx hb dX12_write_27 (lv_at hl 0 rfl) ?_
  refine lv_i2b (v := v11.toInt8.toInt32) hx hb dX12_write_29 rfl ?_
  obtain ⟨q, hf⟩ := zck_use hf
  obtain ⟨σ12, eσ12⟩ : ∃ z, z = zsi σ 5 ((zrem v10 8192).toNatClampNeg) (vp_nar .byte (v11.toInt8.toInt32)) := ⟨_, rfl⟩
  replace hf := zbv_use eσ12 hf
  refine z_bast hC hI 5 4 (wM_e5 ad cy σ) (tM_t5 cy) q ((wM_s5 ad cy σ _ _).trans (congrArg (wM ad cy) eσ12.symm)) dX12_write_30 (fun H locs hI => ?_)
  exact bX12_write_31 hC  hI (lv_sub hl [2, 1, 0] rfl) hf
set_option maxRecDepth 20000 in
theorem cX12_write_met (st : Nat → Nat) (l : Launch) (D : va_G) (ad : Nat → Nat) (cy : Nat → ClassId) (σ : zSt) (x1 : Int32) (x2 : Int32) (res : zSt) (hf : fX12_write σ x1 x2 = some res) (sz : Nat) : zMu st l yX12_write wzX12_write rmX12_write [.ref (ad 0), .int x1, .int x2] D (tM cy) (wM ad cy) sz σ res :=
  zMu.of (cc := cX12_write) (maxL := 5) (ret := none) (by decide) rfl (Nat.le_of_ble_eq_true rfl) (fun p e s m args below meth c hC A hI ls hl => bX12_write hC hI hl hf)
theorem hdX12_write : yX12_write.cls = RX12 ∧ yX12_write.cls ≠ "java/lang/invoke/MethodHandle" ∧ yX12_write.cls ≠ "java/lang/invoke/VarHandle" ∧ (parseMethodDescriptor yX12_write.desc).map (fun d => d.parameters.length) = some 2 := by decide +kernel
def rmX12_word : Room := { frames := 2, cells := 0, slots := 0, locals := 44 }
def wzX12_word : List Cond := .code yX12_word cX12_word 2 (some .int) :: wsL_law
def fX12_word  (σ : zSt) (x1 : Int32) : Option (zSt × Int32) :=
  zbi (fX12_read σ x1) (fun σ1 v2 =>
  zbi (fX12_read σ1 (x1 + 1)) (fun σ3 v4 =>
  some (σ3, v2 ||| (v4 <<< ((8 : Int32) &&& 31)))))
set_option maxRecDepth 20000 in
set_option maxHeartbeats 4000000 in
theorem bX12_word {st : Nat → Nat} {p : Program} {l : Launch} {e : Env} {s : State} {m : MethodId} {args : Array Value} {below : List Frame} {meth : Method} {c : Code} {D : va_G} {A : Nat → Prop} {ad : Nat → Nat} {cy : Nat → ClassId} (hC : zC p m c cX12_word 2 s args wzX12_word RX12 meth (some .int))  {res : zSt × Int32} {H : Heap} {locs : List Loc} {σ : zSt} {ls : Array Slot} {x1 : Int32} (hI : zI st D (tM cy) (wM ad cy σ) A s H locs) (hl : lv_has ls 2 [(0, .ref (ad 0)), (1, .int x1)]) (hf : fX12_word  σ x1 = some res) : W p l e rmX12_word s m args below meth c H locs 0 0 (zQi below args s D (tM cy) (wM ad cy) A res) (F0 m 0 ls []) := by
  have hx := hC.1
  have hb := hC.2.1
  unfold fX12_word at hf
  refine lv_aload_n hx hb dX12_word_0 rfl (lv_at hl 0 rfl) ?_
  refine lv_iload_n hx hb dX12_word_1 rfl (lv_at hl 1 rfl) ?_
  obtain ⟨σ1, v2, g1, hf⟩ := zbi_use hf
  refine z_callVi (As := [.int x1]) (rest := []) hC hI (cX12_read_met st l D ad cy σ x1 _ g1) (zgV zw49_8 zw49_9 zw49_10 zw1_5 zw49_11) rfl ⟨rfl, rfl⟩ 1 hdX12_read ⟨Nat.le_of_ble_eq_true rfl, Nat.le_of_ble_eq_true rfl⟩ rfl rfl (wM_e0 ad cy σ) rfl hl rfl (Nat.le_of_ble_eq_true rfl) dX12_word_2 ⟨Nat.zero_le _, Nat.zero_le _⟩ (fun H locs hI => ?_)
  refine lv_aload_n hx hb dX12_word_5 rfl (lv_at hl 0 rfl) ?_
  refine lv_iload_n hx hb dX12_word_6 rfl (lv_at hl 1 rfl) ?_
  refine lv_iconst (v := 1) hx hb dX12_word_7 (by decide) ?_
  refine lv_iadd hx hb dX12_word_8 ?_
  obtain ⟨σ3, v4, g3, hf⟩ := zbi_use hf
  refine z_callVi (As := [.int (x1 + 1)]) (rest := [.int v2]) hC hI (cX12_read_met st l D ad cy σ1 (x1 + 1) _ g3) (zgV zw49_8 zw49_9 zw49_10 zw1_5 zw49_11) rfl ⟨rfl, rfl⟩ 1 hdX12_read ⟨Nat.le_of_ble_eq_true rfl, Nat.le_of_ble_eq_true rfl⟩ rfl rfl (wM_e0 ad cy σ1) rfl hl rfl (Nat.le_of_ble_eq_true rfl) dX12_word_9 ⟨Nat.zero_le _, Nat.zero_le _⟩ (fun H locs hI => ?_)
  refine lv_bipush (v := 8) hx hb dX12_word_12 (by decide) ?_
  refine lv_ishl hx hb dX12_word_14 ?_
  refine lv_ior hx hb dX12_word_15 ?_
  exact z_ireturn hC hI hf dX12_word_16
set_option maxRecDepth 20000 in
theorem cX12_word_met (st : Nat → Nat) (l : Launch) (D : va_G) (ad : Nat → Nat) (cy : Nat → ClassId) (σ : zSt) (x1 : Int32) (res : zSt × Int32) (hf : fX12_word σ x1 = some res) (sz : Nat) : zMi st l yX12_word wzX12_word rmX12_word [.ref (ad 0), .int x1] D (tM cy) (wM ad cy) sz σ res :=
  zMi.of (cc := cX12_word) (maxL := 2) (ret := (some .int)) (by decide) rfl (Nat.le_of_ble_eq_true rfl) (fun p e s m args below meth c hC A hI ls hl => bX12_word hC hI hl hf)
theorem hdX12_word : yX12_word.cls = RX12 ∧ yX12_word.cls ≠ "java/lang/invoke/MethodHandle" ∧ yX12_word.cls ≠ "java/lang/invoke/VarHandle" ∧ (parseMethodDescriptor yX12_word.desc).map (fun d => d.parameters.length) = some 1 := by decide +kernel
def rmX12_wordTo : Room := { frames := 2, cells := 0, slots := 0, locals := 45 }
def wzX12_wordTo : List Cond := .code yX12_wordTo cX12_wordTo 3 none :: wsL_law
def fX12_wordTo  (σ : zSt) (x1 : Int32) (x2 : Int32) : Option (zSt) :=
  zbu (fX12_write σ x1 x2) (fun σ1 =>
  zbu (fX12_write σ1 (x1 + 1) (x2 >>> ((8 : Int32) &&& 31))) (fun σ2 =>
  some σ2))
set_option maxRecDepth 20000 in
set_option maxHeartbeats 4000000 in
theorem bX12_wordTo {st : Nat → Nat} {p : Program} {l : Launch} {e : Env} {s : State} {m : MethodId} {args : Array Value} {below : List Frame} {meth : Method} {c : Code} {D : va_G} {A : Nat → Prop} {ad : Nat → Nat} {cy : Nat → ClassId} (hC : zC p m c cX12_wordTo 3 s args wzX12_wordTo RX12 meth none)  {res : zSt} {H : Heap} {locs : List Loc} {σ : zSt} {ls : Array Slot} {x1 : Int32} {x2 : Int32} (hI : zI st D (tM cy) (wM ad cy σ) A s H locs) (hl : lv_has ls 3 [(0, .ref (ad 0)), (1, .int x1), (2, .int x2)]) (hf : fX12_wordTo  σ x1 x2 = some res) : W p l e rmX12_wordTo s m args below meth c H locs 0 0 (zQu below args s D (tM cy) (wM ad cy) A res) (F0 m 0 ls []) := by
  have hx := hC.1
  have hb := hC.2.1
  unfold fX12_wordTo at hf
  refine lv_aload_n hx hb dX12_wordTo_0 rfl (lv_at hl 0 rfl) ?_
  refine lv_iload_n hx hb dX12_wordTo_1 rfl (lv_at hl 1 rfl) ?_
  refine lv_iload_n hx hb dX12_wordTo_2 rfl (lv_at hl 2 rfl) ?_
  obtain ⟨σ1, g1, hf⟩ := zbu_use hf
  refine z_callVu (As := [.int x1, .int x2]) (rest := []) hC hI (cX12_write_met st l D ad cy σ x1 x2 _ g1) (zgV zw48_5 zw48_6 zw48_7 zw1_5 zw48_8) rfl ⟨rfl, rfl⟩ 2 hdX12_write ⟨Nat.le_of_ble_eq_true rfl, Nat.le_of_ble_eq_true rfl⟩ rfl rfl (wM_e0 ad cy σ) rfl hl rfl (Nat.le_of_ble_eq_true rfl) dX12_wordTo_3 ⟨Nat.zero_le _, Nat.zero_le _⟩ (fun H locs hI => ?_)
  refine lv_aload_n hx hb dX12_wordTo_6 rfl (lv_at hl 0 rfl) ?_
  refine lv_iload_n hx hb dX12_wordTo_7 rfl (lv_at hl 1 rfl) ?_
  refine lv_iconst (v := 1) hx hb dX12_wordTo_8 (by decide) ?_
  refine lv_iadd hx hb dX12_wordTo_9 ?_
  refine lv_iload_n hx hb dX12_wordTo_10 rfl (lv_at hl 2 rfl) ?_
  refine lv_bipush (v := 8) hx hb dX12_wordTo_11 (by decide) ?_
  refine lv_ishr hx hb dX12_wordTo_13 ?_
  obtain ⟨σ2, g2, hf⟩ := zbu_use hf
  refine z_callVu (As := [.int (x1 + 1), .int (x2 >>> ((8 : Int32) &&& 31))]) (rest := []) hC hI (cX12_write_met st l D ad cy σ1 (x1 + 1) (x2 >>> ((8 : Int32) &&& 31)) _ g2) (zgV zw48_5 zw48_6 zw48_7 zw1_5 zw48_8) rfl ⟨rfl, rfl⟩ 2 hdX12_write ⟨Nat.le_of_ble_eq_true rfl, Nat.le_of_ble_eq_true rfl⟩ rfl rfl (wM_e0 ad cy σ1) rfl hl rfl (Nat.le_of_ble_eq_true rfl) dX12_wordTo_14 ⟨Nat.zero_le _, Nat.zero_le _⟩ (fun H locs hI => ?_)
  exact z_return hC hI hf dX12_wordTo_17
set_option maxRecDepth 20000 in
theorem cX12_wordTo_met (st : Nat → Nat) (l : Launch) (D : va_G) (ad : Nat → Nat) (cy : Nat → ClassId) (σ : zSt) (x1 : Int32) (x2 : Int32) (res : zSt) (hf : fX12_wordTo σ x1 x2 = some res) (sz : Nat) : zMu st l yX12_wordTo wzX12_wordTo rmX12_wordTo [.ref (ad 0), .int x1, .int x2] D (tM cy) (wM ad cy) sz σ res :=
  zMu.of (cc := cX12_wordTo) (maxL := 3) (ret := none) (by decide) rfl (Nat.le_of_ble_eq_true rfl) (fun p e s m args below meth c hC A hI ls hl => bX12_wordTo hC hI hl hf)
theorem hdX12_wordTo : yX12_wordTo.cls = RX12 ∧ yX12_wordTo.cls ≠ "java/lang/invoke/MethodHandle" ∧ yX12_wordTo.cls ≠ "java/lang/invoke/VarHandle" ∧ (parseMethodDescriptor yX12_wordTo.desc).map (fun d => d.parameters.length) = some 2 := by decide +kernel
def rmX12_pair : Room := { frames := 0, cells := 0, slots := 0, locals := 0 }
def wzX12_pair : List Cond := .code yX12_pair cX12_pair 2 (some .int) :: wsL_law
theorem hinX12_pair_X120 : ∀ w ∈ wsX120, w ∈ wzX12_pair := fun w h => List.mem_cons_of_mem _ (inlX12 w h)
def fX12_pair  (σ : zSt) (x1 : Int32) : Option (zSt × Int32) :=
  zck (zin x1 1048) (
  zck (zin (x1 + 1) 1048) (
  some (σ, ((zgi σ 3 x1.toNatClampNeg) <<< ((8 : Int32) &&& 31)) ||| (zgi σ 3 (x1 + 1).toNatClampNeg))))
set_option maxRecDepth 20000 in
set_option maxHeartbeats 4000000 in
theorem bX12_pair {st : Nat → Nat} {p : Program} {l : Launch} {e : Env} {s : State} {m : MethodId} {args : Array Value} {below : List Frame} {meth : Method} {c : Code} {D : va_G} {A : Nat → Prop} {ad : Nat → Nat} {cy : Nat → ClassId} (hC : zC p m c cX12_pair 2 s args wzX12_pair RX12 meth (some .int))  {res : zSt × Int32} {H : Heap} {locs : List Loc} {σ : zSt} {ls : Array Slot} {x1 : Int32} (hI : zI st D (tM cy) (wM ad cy σ) A s H locs) (hl : lv_has ls 2 [(0, .ref (ad 0)), (1, .int x1)]) (hf : fX12_pair  σ x1 = some res) : W p l e rmX12_pair s m args below meth c H locs 0 0 (zQi below args s D (tM cy) (wM ad cy) A res) (F0 m 0 ls []) := by
  have hx := hC.1
  have hb := hC.2.1
  unfold fX12_pair at hf
  refine lv_aload_n hx hb dX12_pair_0 rfl (lv_at hl 0 rfl) ?_
  refine z_get hC hI hinX12_pair_X120 0 (wM_e0 ad cy σ) rfl 10 (by decide) (List.mem_cons_of_mem _ zw9_7) rfl dX12_pair_1 ?_
  refine lv_iload_n hx hb dX12_pair_4 rfl (lv_at hl 1 rfl) ?_
  obtain ⟨q, hf⟩ := zck_use hf
  refine z_iald hC hI 3 2 (wM_e3 ad cy σ) (tM_t3 cy) q dX12_pair_5 ?_
  refine lv_bipush (v := 8) hx hb dX12_pair_6 (by decide) ?_
  refine lv_ishl hx hb dX12_pair_8 ?_
  refine lv_aload_n hx hb dX12_pair_9 rfl (lv_at hl 0 rfl) ?_
  refine z_get hC hI hinX12_pair_X120 0 (wM_e0 ad cy σ) rfl 10 (by decide) (List.mem_cons_of_mem _ zw9_7) rfl dX12_pair_10 ?_
  refine lv_iload_n hx hb dX12_pair_13 rfl (lv_at hl 1 rfl) ?_
  refine lv_iconst (v := 1) hx hb dX12_pair_14 (by decide) ?_
  refine lv_iadd hx hb dX12_pair_15 ?_
  obtain ⟨q, hf⟩ := zck_use hf
  refine z_iald hC hI 3 2 (wM_e3 ad cy σ) (tM_t3 cy) q dX12_pair_16 ?_
  refine lv_ior hx hb dX12_pair_17 ?_
  exact z_ireturn hC hI hf dX12_pair_18
set_option maxRecDepth 20000 in
theorem cX12_pair_met (st : Nat → Nat) (l : Launch) (D : va_G) (ad : Nat → Nat) (cy : Nat → ClassId) (σ : zSt) (x1 : Int32) (res : zSt × Int32) (hf : fX12_pair σ x1 = some res) (sz : Nat) : zMi st l yX12_pair wzX12_pair rmX12_pair [.ref (ad 0), .int x1] D (tM cy) (wM ad cy) sz σ res :=
  zMi.of (cc := cX12_pair) (maxL := 2) (ret := (some .int)) (by decide) rfl (Nat.le_of_ble_eq_true rfl) (fun p e s m args below meth c hC A hI ls hl => bX12_pair hC hI hl hf)
theorem hdX12_pair : yX12_pair.cls = RX12 ∧ yX12_pair.cls ≠ "java/lang/invoke/MethodHandle" ∧ yX12_pair.cls ≠ "java/lang/invoke/VarHandle" ∧ (parseMethodDescriptor yX12_pair.desc).map (fun d => d.parameters.length) = some 1 := by decide +kernel
def rmX12_pairTo : Room := { frames := 0, cells := 0, slots := 0, locals := 0 }
def wzX12_pairTo : List Cond := .code yX12_pairTo cX12_pairTo 3 none :: wsL_law
theorem hinX12_pairTo_X120 : ∀ w ∈ wsX120, w ∈ wzX12_pairTo := fun w h => List.mem_cons_of_mem _ (inlX12 w h)
def fX12_pairTo  (σ : zSt) (x1 : Int32) (x2 : Int32) : Option (zSt) :=
  zck (zin x1 1048) (zbv (zsi σ 3 (x1.toNatClampNeg) ((x2 >>> ((8 : Int32) &&& 31)) &&& 255)) (fun σ1 =>
  zck (zin (x1 + 1) 1048) (zbv (zsi σ1 3 ((x1 + 1).toNatClampNeg) (x2 &&& 255)) (fun σ2 =>
  some σ2))))
set_option maxRecDepth 20000 in
set_option maxHeartbeats 4000000 in
theorem bX12_pairTo {st : Nat → Nat} {p : Program} {l : Launch} {e : Env} {s : State} {m : MethodId} {args : Array Value} {below : List Frame} {meth : Method} {c : Code} {D : va_G} {A : Nat → Prop} {ad : Nat → Nat} {cy : Nat → ClassId} (hC : zC p m c cX12_pairTo 3 s args wzX12_pairTo RX12 meth none)  {res : zSt} {H : Heap} {locs : List Loc} {σ : zSt} {ls : Array Slot} {x1 : Int32} {x2 : Int32} (hI : zI st D (tM cy) (wM ad cy σ) A s H locs) (hl : lv_has ls 3 [(0, .ref (ad 0)), (1, .int x1), (2, .int x2)]) (hf : fX12_pairTo  σ x1 x2 = some res) : W p l e rmX12_pairTo s m args below meth c H locs 0 0 (zQu below args s D (tM cy) (wM ad cy) A res) (F0 m 0 ls []) := by
  have hx := hC.1
  have hb := hC.2.1
  unfold fX12_pairTo at hf
  refine lv_aload_n hx hb dX12_pairTo_0 rfl (lv_at hl 0 rfl) ?_
  refine z_get hC hI hinX12_pairTo_X120 0 (wM_e0 ad cy σ) rfl 10 (by decide) (List.mem_cons_of_mem _ zw9_7) rfl dX12_pairTo_1 ?_
  refine lv_iload_n hx hb dX12_pairTo_4 rfl (lv_at hl 1 rfl) ?_
  refine lv_iload_n hx hb dX12_pairTo_5 rfl (lv_at hl 2 rfl) ?_
  refine lv_bipush (v := 8) hx hb dX12_pairTo_6 (by decide) ?_
  refine lv_ishr hx hb dX12_pairTo_8 ?_
  refine lv_sipush (v := 255) hx hb dX12_pairTo_9 (by decide) ?_
  refine lv_iand hx hb dX12_pairTo_12 ?_
  obtain ⟨q, hf⟩ := zck_use hf
  obtain ⟨σ1, eσ1⟩ : ∃ z, z = zsi σ 3 (x1.toNatClampNeg) ((x2 >>> ((8 : Int32) &&& 31)) &&& 255) := ⟨_, rfl⟩
  replace hf := zbv_use eσ1 hf
  refine z_iast hC hI 3 2 (wM_e3 ad cy σ) (tM_t3 cy) q ((wM_s3 ad cy σ _ _).trans (congrArg (wM ad cy) eσ1.symm)) dX12_pairTo_13 (fun H locs hI => ?_)
  refine lv_aload_n hx hb dX12_pairTo_14 rfl (lv_at hl 0 rfl) ?_
  refine z_get hC hI hinX12_pairTo_X120 0 (wM_e0 ad cy σ1) rfl 10 (by decide) (List.mem_cons_of_mem _ zw9_7) rfl dX12_pairTo_15 ?_
  refine lv_iload_n hx hb dX12_pairTo_18 rfl (lv_at hl 1 rfl) ?_
  refine lv_iconst (v := 1) hx hb dX12_pairTo_19 (by decide) ?_
  refine lv_iadd hx hb dX12_pairTo_20 ?_
  refine lv_iload_n hx hb dX12_pairTo_21 rfl (lv_at hl 2 rfl) ?_
  refine lv_sipush (v := 255) hx hb dX12_pairTo_22 (by decide) ?_
  refine lv_iand hx hb dX12_pairTo_25 ?_
  obtain ⟨q, hf⟩ := zck_use hf
  obtain ⟨σ2, eσ2⟩ : ∃ z, z = zsi σ1 3 ((x1 + 1).toNatClampNeg) (x2 &&& 255) := ⟨_, rfl⟩
  replace hf := zbv_use eσ2 hf
  refine z_iast hC hI 3 2 (wM_e3 ad cy σ1) (tM_t3 cy) q ((wM_s3 ad cy σ1 _ _).trans (congrArg (wM ad cy) eσ2.symm)) dX12_pairTo_26 (fun H locs hI => ?_)
  exact z_return hC hI hf dX12_pairTo_27
set_option maxRecDepth 20000 in
theorem cX12_pairTo_met (st : Nat → Nat) (l : Launch) (D : va_G) (ad : Nat → Nat) (cy : Nat → ClassId) (σ : zSt) (x1 : Int32) (x2 : Int32) (res : zSt) (hf : fX12_pairTo σ x1 x2 = some res) (sz : Nat) : zMu st l yX12_pairTo wzX12_pairTo rmX12_pairTo [.ref (ad 0), .int x1, .int x2] D (tM cy) (wM ad cy) sz σ res :=
  zMu.of (cc := cX12_pairTo) (maxL := 3) (ret := none) (by decide) rfl (Nat.le_of_ble_eq_true rfl) (fun p e s m args below meth c hC A hI ls hl => bX12_pairTo hC hI hl hf)
theorem hdX12_pairTo : yX12_pairTo.cls = RX12 ∧ yX12_pairTo.cls ≠ "java/lang/invoke/MethodHandle" ∧ yX12_pairTo.cls ≠ "java/lang/invoke/VarHandle" ∧ (parseMethodDescriptor yX12_pairTo.desc).map (fun d => d.parameters.length) = some 2 := by decide +kernel
def rmX12_hl : Room := { frames := 1, cells := 0, slots := 0, locals := 21 }
def wzX12_hl : List Cond := .code yX12_hl cX12_hl 1 (some .int) :: wsL_law
theorem hinX12_hl_X120 : ∀ w ∈ wsX120, w ∈ wzX12_hl := fun w h => List.mem_cons_of_mem _ (inlX12 w h)
def fX12_hl_25  (σ : zSt) (s0 : Int32) : Option (zSt × Int32) :=
  some (σ, s0)
def fX12_hl  (σ : zSt)  : Option (zSt × Int32) :=
  if (zgi σ 0 31) = 0 then zbi (fX12_pair σ 6) (fun σ1 v2 =>
  fX12_hl_25 σ1 v2) else
  zck (zin (zgi σ 0 31) 1048) (
  fX12_hl_25 σ (zgi σ 3 (zgi σ 0 31).toNatClampNeg))
set_option maxRecDepth 20000 in
set_option maxHeartbeats 4000000 in
theorem bX12_hl_25 {st : Nat → Nat} {p : Program} {l : Launch} {e : Env} {s : State} {m : MethodId} {args : Array Value} {below : List Frame} {meth : Method} {c : Code} {D : va_G} {A : Nat → Prop} {ad : Nat → Nat} {cy : Nat → ClassId} (hC : zC p m c cX12_hl 1 s args wzX12_hl RX12 meth (some .int))  {res : zSt × Int32} {H : Heap} {locs : List Loc} {σ : zSt} {ls : Array Slot} {s0 : Int32} (hI : zI st D (tM cy) (wM ad cy σ) A s H locs) (hl : lv_has ls 1 []) (hf : fX12_hl_25  σ s0 = some res) : W p l e rmX12_hl s m args below meth c H locs 0 0 (zQi below args s D (tM cy) (wM ad cy) A res) (F0 m 25 ls [.int s0]) := by
  have hx := hC.1
  have hb := hC.2.1
  unfold fX12_hl_25 at hf
  exact z_ireturn hC hI hf dX12_hl_25
set_option maxRecDepth 20000 in
set_option maxHeartbeats 4000000 in
theorem bX12_hl {st : Nat → Nat} {p : Program} {l : Launch} {e : Env} {s : State} {m : MethodId} {args : Array Value} {below : List Frame} {meth : Method} {c : Code} {D : va_G} {A : Nat → Prop} {ad : Nat → Nat} {cy : Nat → ClassId} (hC : zC p m c cX12_hl 1 s args wzX12_hl RX12 meth (some .int))  {res : zSt × Int32} {H : Heap} {locs : List Loc} {σ : zSt} {ls : Array Slot}  (hI : zI st D (tM cy) (wM ad cy σ) A s H locs) (hl : lv_has ls 1 [(0, .ref (ad 0))]) (hf : fX12_hl  σ  = some res) : W p l e rmX12_hl s m args below meth c H locs 0 0 (zQi below args s D (tM cy) (wM ad cy) A res) (F0 m 0 ls []) := by
  have hx := hC.1
  have hb := hC.2.1
  unfold fX12_hl at hf
  refine lv_aload_n hx hb dX12_hl_0 rfl (lv_at hl 0 rfl) ?_
  refine z_get hC hI hinX12_hl_X120 0 (wM_e0 ad cy σ) rfl 31 (by decide) (List.mem_cons_of_mem _ zw49_20) rfl dX12_hl_1 ?_
  refine lv_if_ne (tgt := 16) hx hb dX12_hl_4 (by decide) (fun q => ?_) (fun q => ?_)
  · replace hf := zif_f q hf
    refine lv_aload_n hx hb dX12_hl_16 rfl (lv_at hl 0 rfl) ?_
    refine z_get hC hI hinX12_hl_X120 0 (wM_e0 ad cy σ) rfl 10 (by decide) (List.mem_cons_of_mem _ zw9_7) rfl dX12_hl_17 ?_
    refine lv_aload_n hx hb dX12_hl_20 rfl (lv_at hl 0 rfl) ?_
    refine z_get hC hI hinX12_hl_X120 0 (wM_e0 ad cy σ) rfl 31 (by decide) (List.mem_cons_of_mem _ zw49_20) rfl dX12_hl_21 ?_
    obtain ⟨q, hf⟩ := zck_use hf
    refine z_iald hC hI 3 2 (wM_e3 ad cy σ) (tM_t3 cy) q dX12_hl_24 ?_
    exact bX12_hl_25 hC  hI (lv_sub hl [] rfl) hf
  replace hf := zif_t q hf
  refine lv_aload_n hx hb dX12_hl_7 rfl (lv_at hl 0 rfl) ?_
  refine lv_bipush (v := 6) hx hb dX12_hl_8 (by decide) ?_
  obtain ⟨σ1, v2, g1, hf⟩ := zbi_use hf
  refine z_callVi (As := [.int 6]) (rest := []) hC hI (cX12_pair_met st l D ad cy σ 6 _ g1) (zgV zw52_5 zw52_6 zw52_7 zw1_5 zw52_8) rfl ⟨rfl, rfl⟩ 1 hdX12_pair ⟨Nat.le_of_ble_eq_true rfl, Nat.le_of_ble_eq_true rfl⟩ rfl rfl (wM_e0 ad cy σ) rfl hl rfl (Nat.le_of_ble_eq_true rfl) dX12_hl_10 ⟨Nat.zero_le _, Nat.zero_le _⟩ (fun H locs hI => ?_)
  refine lv_goto (tgt := 25) hx hb dX12_hl_13 (by decide) ?_
  exact bX12_hl_25 hC  hI (lv_sub hl [] rfl) hf
set_option maxRecDepth 20000 in
theorem cX12_hl_met (st : Nat → Nat) (l : Launch) (D : va_G) (ad : Nat → Nat) (cy : Nat → ClassId) (σ : zSt)  (res : zSt × Int32) (hf : fX12_hl σ  = some res) (sz : Nat) : zMi st l yX12_hl wzX12_hl rmX12_hl [.ref (ad 0)] D (tM cy) (wM ad cy) sz σ res :=
  zMi.of (cc := cX12_hl) (maxL := 1) (ret := (some .int)) (by decide) rfl (Nat.le_of_ble_eq_true rfl) (fun p e s m args below meth c hC A hI ls hl => bX12_hl hC hI hl hf)
theorem hdX12_hl : yX12_hl.cls = RX12 ∧ yX12_hl.cls ≠ "java/lang/invoke/MethodHandle" ∧ yX12_hl.cls ≠ "java/lang/invoke/VarHandle" ∧ (parseMethodDescriptor yX12_hl.desc).map (fun d => d.parameters.length) = some 0 := by decide +kernel
def rmX12_hlTo : Room := { frames := 1, cells := 0, slots := 0, locals := 22 }
def wzX12_hlTo : List Cond := .code yX12_hlTo cX12_hlTo 2 none :: wsL_law
theorem hinX12_hlTo_X120 : ∀ w ∈ wsX120, w ∈ wzX12_hlTo := fun w h => List.mem_cons_of_mem _ (inlX12 w h)
def fX12_hlTo_30  (σ : zSt)  : Option (zSt) :=
  some σ
def fX12_hlTo  (σ : zSt) (x1 : Int32) : Option (zSt) :=
  if (zgi σ 0 31) = 0 then zbu (fX12_pairTo σ 6 x1) (fun σ2 =>
  fX12_hlTo_30 σ2) else
  zck (zin (zgi σ 0 31) 1048) (zbv (zsi σ 3 ((zgi σ 0 31).toNatClampNeg) (x1 &&& 65535)) (fun σ1 =>
  fX12_hlTo_30 σ1))
set_option maxRecDepth 20000 in
set_option maxHeartbeats 4000000 in
theorem bX12_hlTo_30 {st : Nat → Nat} {p : Program} {l : Launch} {e : Env} {s : State} {m : MethodId} {args : Array Value} {below : List Frame} {meth : Method} {c : Code} {D : va_G} {A : Nat → Prop} {ad : Nat → Nat} {cy : Nat → ClassId} (hC : zC p m c cX12_hlTo 2 s args wzX12_hlTo RX12 meth none)  {res : zSt} {H : Heap} {locs : List Loc} {σ : zSt} {ls : Array Slot}  (hI : zI st D (tM cy) (wM ad cy σ) A s H locs) (hl : lv_has ls 2 []) (hf : fX12_hlTo_30  σ  = some res) : W p l e rmX12_hlTo s m args below meth c H locs 0 0 (zQu below args s D (tM cy) (wM ad cy) A res) (F0 m 30 ls []) := by
  have hx := hC.1
  have hb := hC.2.1
  unfold fX12_hlTo_30 at hf
  exact z_return hC hI hf dX12_hlTo_30
set_option maxRecDepth 20000 in
set_option maxHeartbeats 4000000 in
theorem bX12_hlTo {st : Nat → Nat} {p : Program} {l : Launch} {e : Env} {s : State} {m : MethodId} {args : Array Value} {below : List Frame} {meth : Method} {c : Code} {D : va_G} {A : Nat → Prop} {ad : Nat → Nat} {cy : Nat → ClassId} (hC : zC p m c cX12_hlTo 2 s args wzX12_hlTo RX12 meth none)  {res : zSt} {H : Heap} {locs : List Loc} {σ : zSt} {ls : Array Slot} {x1 : Int32} (hI : zI st D (tM cy) (wM ad cy σ) A s H locs) (hl : lv_has ls 2 [(0, .ref (ad 0)), (1, .int x1)]) (hf : fX12_hlTo  σ x1 = some res) : W p l e rmX12_hlTo s m args below meth c H locs 0 0 (zQu below args s D (tM cy) (wM ad cy) A res) (F0 m 0 ls []) := by
  have hx := hC.1
  have hb := hC.2.1
  unfold fX12_hlTo at hf
  refine lv_aload_n hx hb dX12_hlTo_0 rfl (lv_at hl 0 rfl) ?_
  refine z_get hC hI hinX12_hlTo_X120 0 (wM_e0 ad cy σ) rfl 31 (by decide) (List.mem_cons_of_mem _ zw49_20) rfl dX12_hlTo_1 ?_
  refine lv_if_ne (tgt := 17) hx hb dX12_hlTo_4 (by decide) (fun q => ?_) (fun q => ?_)
  · replace hf := zif_f q hf
    refine lv_aload_n hx hb dX12_hlTo_17 rfl (lv_at hl 0 rfl) ?_
    refine z_get hC hI hinX12_hlTo_X120 0 (wM_e0 ad cy σ) rfl 10 (by decide) (List.mem_cons_of_mem _ zw9_7) rfl dX12_hlTo_18 ?_
    refine lv_aload_n hx hb dX12_hlTo_21 rfl (lv_at hl 0 rfl) ?_
    refine z_get hC hI hinX12_hlTo_X120 0 (wM_e0 ad cy σ) rfl 31 (by decide) (List.mem_cons_of_mem _ zw49_20) rfl dX12_hlTo_22 ?_
    refine lv_iload_n hx hb dX12_hlTo_25 rfl (lv_at hl 1 rfl) ?_
    refine lv_ldc (v := 65535) hx hb hC.2.2.2.1 (hC.2.2.2.2.1 _ (List.mem_cons_of_mem _ zw16_11)) dX12_hlTo_26 ?_
    refine lv_iand hx hb dX12_hlTo_28 ?_
    obtain ⟨q, hf⟩ := zck_use hf
    obtain ⟨σ1, eσ1⟩ : ∃ z, z = zsi σ 3 ((zgi σ 0 31).toNatClampNeg) (x1 &&& 65535) := ⟨_, rfl⟩
    replace hf := zbv_use eσ1 hf
    refine z_iast hC hI 3 2 (wM_e3 ad cy σ) (tM_t3 cy) q ((wM_s3 ad cy σ _ _).trans (congrArg (wM ad cy) eσ1.symm)) dX12_hlTo_29 (fun H locs hI => ?_)
    exact bX12_hlTo_30 hC  hI (lv_sub hl [] rfl) hf
  replace hf := zif_t q hf
  refine lv_aload_n hx hb dX12_hlTo_7 rfl (lv_at hl 0 rfl) ?_
  refine lv_bipush (v := 6) hx hb dX12_hlTo_8 (by decide) ?_
  refine lv_iload_n hx hb dX12_hlTo_10 rfl (lv_at hl 1 rfl) ?_
  obtain ⟨σ2, g2, hf⟩ := zbu_use hf
  refine z_callVu (As := [.int 6, .int x1]) (rest := []) hC hI (cX12_pairTo_met st l D ad cy σ 6 x1 _ g2) (zgV zw51_17 zw51_18 zw51_19 zw1_5 zw51_20) rfl ⟨rfl, rfl⟩ 2 hdX12_pairTo ⟨Nat.le_of_ble_eq_true rfl, Nat.le_of_ble_eq_true rfl⟩ rfl rfl (wM_e0 ad cy σ) rfl hl rfl (Nat.le_of_ble_eq_true rfl) dX12_hlTo_11 ⟨Nat.zero_le _, Nat.zero_le _⟩ (fun H locs hI => ?_)
  refine lv_goto (tgt := 30) hx hb dX12_hlTo_14 (by decide) ?_
  exact bX12_hlTo_30 hC  hI (lv_sub hl [] rfl) hf
set_option maxRecDepth 20000 in
theorem cX12_hlTo_met (st : Nat → Nat) (l : Launch) (D : va_G) (ad : Nat → Nat) (cy : Nat → ClassId) (σ : zSt) (x1 : Int32) (res : zSt) (hf : fX12_hlTo σ x1 = some res) (sz : Nat) : zMu st l yX12_hlTo wzX12_hlTo rmX12_hlTo [.ref (ad 0), .int x1] D (tM cy) (wM ad cy) sz σ res :=
  zMu.of (cc := cX12_hlTo) (maxL := 2) (ret := none) (by decide) rfl (Nat.le_of_ble_eq_true rfl) (fun p e s m args below meth c hC A hI ls hl => bX12_hlTo hC hI hl hf)
theorem hdX12_hlTo : yX12_hlTo.cls = RX12 ∧ yX12_hlTo.cls ≠ "java/lang/invoke/MethodHandle" ∧ yX12_hlTo.cls ≠ "java/lang/invoke/VarHandle" ∧ (parseMethodDescriptor yX12_hlTo.desc).map (fun d => d.parameters.length) = some 1 := by decide +kernel
def rmX12_rp : Room := { frames := 2, cells := 0, slots := 0, locals := 41 }
def wzX12_rp : List Cond := .code yX12_rp cX12_rp 2 (some .int) :: wsL_law
theorem hinX12_rp_X120 : ∀ w ∈ wsX120, w ∈ wzX12_rp := fun w h => List.mem_cons_of_mem _ (inlX12 w h)
def fX12_rp_44  (σ : zSt) (s0 : Int32) : Option (zSt × Int32) :=
  some (σ, s0)
def fX12_rp  (σ : zSt) (x1 : Int32) : Option (zSt × Int32) :=
  if x1 = 0 then zbi (fX12_pair σ 2) (fun σ5 v6 =>
  fX12_rp_44 σ5 v6) else
  if x1 = 1 then zbi (fX12_pair σ 4) (fun σ3 v4 =>
  fX12_rp_44 σ3 v4) else
  if x1 = 2 then zbi (fX12_hl σ ) (fun σ1 v2 =>
  fX12_rp_44 σ1 v2) else
  zck (zin 18 1048) (
  fX12_rp_44 σ (zgi σ 3 (18 : Int32).toNatClampNeg))
set_option maxRecDepth 20000 in
set_option maxHeartbeats 4000000 in
theorem bX12_rp_44 {st : Nat → Nat} {p : Program} {l : Launch} {e : Env} {s : State} {m : MethodId} {args : Array Value} {below : List Frame} {meth : Method} {c : Code} {D : va_G} {A : Nat → Prop} {ad : Nat → Nat} {cy : Nat → ClassId} (hC : zC p m c cX12_rp 2 s args wzX12_rp RX12 meth (some .int))  {res : zSt × Int32} {H : Heap} {locs : List Loc} {σ : zSt} {ls : Array Slot} {s0 : Int32} (hI : zI st D (tM cy) (wM ad cy σ) A s H locs) (hl : lv_has ls 2 []) (hf : fX12_rp_44  σ s0 = some res) : W p l e rmX12_rp s m args below meth c H locs 0 0 (zQi below args s D (tM cy) (wM ad cy) A res) (F0 m 44 ls [.int s0]) := by
  have hx := hC.1
  have hb := hC.2.1
  unfold fX12_rp_44 at hf
  exact z_ireturn hC hI hf dX12_rp_44
set_option maxRecDepth 20000 in
set_option maxHeartbeats 4000000 in
theorem bX12_rp {st : Nat → Nat} {p : Program} {l : Launch} {e : Env} {s : State} {m : MethodId} {args : Array Value} {below : List Frame} {meth : Method} {c : Code} {D : va_G} {A : Nat → Prop} {ad : Nat → Nat} {cy : Nat → ClassId} (hC : zC p m c cX12_rp 2 s args wzX12_rp RX12 meth (some .int))  {res : zSt × Int32} {H : Heap} {locs : List Loc} {σ : zSt} {ls : Array Slot} {x1 : Int32} (hI : zI st D (tM cy) (wM ad cy σ) A s H locs) (hl : lv_has ls 2 [(0, .ref (ad 0)), (1, .int x1)]) (hf : fX12_rp  σ x1 = some res) : W p l e rmX12_rp s m args below meth c H locs 0 0 (zQi below args s D (tM cy) (wM ad cy) A res) (F0 m 0 ls []) := by
  have hx := hC.1
  have hb := hC.2.1
  unfold fX12_rp at hf
  refine lv_iload_n hx hb dX12_rp_0 rfl (lv_at hl 1 rfl) ?_
  refine lv_if_ne (tgt := 12) hx hb dX12_rp_1 (by decide) (fun q => ?_) (fun q => ?_)
  · replace hf := zif_f q hf
    refine lv_iload_n hx hb dX12_rp_12 rfl (lv_at hl 1 rfl) ?_
    refine lv_iconst (v := 1) hx hb dX12_rp_13 (by decide) ?_
    refine lv_icmp_ne (tgt := 25) hx hb dX12_rp_14 (by decide) (fun q => ?_) (fun q => ?_)
    · replace hf := zif_f q hf
      refine lv_iload_n hx hb dX12_rp_25 rfl (lv_at hl 1 rfl) ?_
      refine lv_iconst (v := 2) hx hb dX12_rp_26 (by decide) ?_
      refine lv_icmp_ne (tgt := 37) hx hb dX12_rp_27 (by decide) (fun q => ?_) (fun q => ?_)
      · replace hf := zif_f q hf
        refine lv_aload_n hx hb dX12_rp_37 rfl (lv_at hl 0 rfl) ?_
        refine z_get hC hI hinX12_rp_X120 0 (wM_e0 ad cy σ) rfl 10 (by decide) (List.mem_cons_of_mem _ zw9_7) rfl dX12_rp_38 ?_
        refine lv_bipush (v := 18) hx hb dX12_rp_41 (by decide) ?_
        obtain ⟨q, hf⟩ := zck_use hf
        refine z_iald hC hI 3 2 (wM_e3 ad cy σ) (tM_t3 cy) q dX12_rp_43 ?_
        exact bX12_rp_44 hC  hI (lv_sub hl [] rfl) hf
      replace hf := zif_t q hf
      refine lv_aload_n hx hb dX12_rp_30 rfl (lv_at hl 0 rfl) ?_
      obtain ⟨σ1, v2, g1, hf⟩ := zbi_use hf
      refine z_callVi (As := []) (rest := []) hC hI (cX12_hl_met st l D ad cy σ  _ g1) (zgV zw52_1 zw52_2 zw52_3 zw1_5 zw52_4) rfl ⟨rfl, rfl⟩ 0 hdX12_hl ⟨Nat.le_of_ble_eq_true rfl, Nat.le_of_ble_eq_true rfl⟩ rfl rfl (wM_e0 ad cy σ) rfl hl rfl (Nat.le_of_ble_eq_true rfl) dX12_rp_31 ⟨Nat.zero_le _, Nat.zero_le _⟩ (fun H locs hI => ?_)
      refine lv_goto (tgt := 44) hx hb dX12_rp_34 (by decide) ?_
      exact bX12_rp_44 hC  hI (lv_sub hl [] rfl) hf
    replace hf := zif_t q hf
    refine lv_aload_n hx hb dX12_rp_17 rfl (lv_at hl 0 rfl) ?_
    refine lv_iconst (v := 4) hx hb dX12_rp_18 (by decide) ?_
    obtain ⟨σ3, v4, g3, hf⟩ := zbi_use hf
    refine z_callVi (As := [.int 4]) (rest := []) hC hI (cX12_pair_met st l D ad cy σ 4 _ g3) (zgV zw52_5 zw52_6 zw52_7 zw1_5 zw52_8) rfl ⟨rfl, rfl⟩ 1 hdX12_pair ⟨Nat.le_of_ble_eq_true rfl, Nat.le_of_ble_eq_true rfl⟩ rfl rfl (wM_e0 ad cy σ) rfl hl rfl (Nat.le_of_ble_eq_true rfl) dX12_rp_19 ⟨Nat.zero_le _, Nat.zero_le _⟩ (fun H locs hI => ?_)
    refine lv_goto (tgt := 44) hx hb dX12_rp_22 (by decide) ?_
    exact bX12_rp_44 hC  hI (lv_sub hl [] rfl) hf
  replace hf := zif_t q hf
  refine lv_aload_n hx hb dX12_rp_4 rfl (lv_at hl 0 rfl) ?_
  refine lv_iconst (v := 2) hx hb dX12_rp_5 (by decide) ?_
  obtain ⟨σ5, v6, g5, hf⟩ := zbi_use hf
  refine z_callVi (As := [.int 2]) (rest := []) hC hI (cX12_pair_met st l D ad cy σ 2 _ g5) (zgV zw52_5 zw52_6 zw52_7 zw1_5 zw52_8) rfl ⟨rfl, rfl⟩ 1 hdX12_pair ⟨Nat.le_of_ble_eq_true rfl, Nat.le_of_ble_eq_true rfl⟩ rfl rfl (wM_e0 ad cy σ) rfl hl rfl (Nat.le_of_ble_eq_true rfl) dX12_rp_6 ⟨Nat.zero_le _, Nat.zero_le _⟩ (fun H locs hI => ?_)
  refine lv_goto (tgt := 44) hx hb dX12_rp_9 (by decide) ?_
  exact bX12_rp_44 hC  hI (lv_sub hl [] rfl) hf
set_option maxRecDepth 20000 in
theorem cX12_rp_met (st : Nat → Nat) (l : Launch) (D : va_G) (ad : Nat → Nat) (cy : Nat → ClassId) (σ : zSt) (x1 : Int32) (res : zSt × Int32) (hf : fX12_rp σ x1 = some res) (sz : Nat) : zMi st l yX12_rp wzX12_rp rmX12_rp [.ref (ad 0), .int x1] D (tM cy) (wM ad cy) sz σ res :=
  zMi.of (cc := cX12_rp) (maxL := 2) (ret := (some .int)) (by decide) rfl (Nat.le_of_ble_eq_true rfl) (fun p e s m args below meth c hC A hI ls hl => bX12_rp hC hI hl hf)
theorem hdX12_rp : yX12_rp.cls = RX12 ∧ yX12_rp.cls ≠ "java/lang/invoke/MethodHandle" ∧ yX12_rp.cls ≠ "java/lang/invoke/VarHandle" ∧ (parseMethodDescriptor yX12_rp.desc).map (fun d => d.parameters.length) = some 1 := by decide +kernel
def rmX12_rpTo : Room := { frames := 2, cells := 0, slots := 0, locals := 43 }
def wzX12_rpTo : List Cond := .code yX12_rpTo cX12_rpTo 3 none :: wsL_law
theorem hinX12_rpTo_X120 : ∀ w ∈ wsX120, w ∈ wzX12_rpTo := fun w h => List.mem_cons_of_mem _ (inlX12 w h)
def fX12_rpTo_51  (σ : zSt)  : Option (zSt) :=
  some σ
def fX12_rpTo  (σ : zSt) (x1 : Int32) (x2 : Int32) : Option (zSt) :=
  if x1 = 0 then zbu (fX12_pairTo σ 2 x2) (fun σ4 =>
  fX12_rpTo_51 σ4) else
  if x1 = 1 then zbu (fX12_pairTo σ 4 x2) (fun σ3 =>
  fX12_rpTo_51 σ3) else
  if x1 = 2 then zbu (fX12_hlTo σ x2) (fun σ2 =>
  fX12_rpTo_51 σ2) else
  zck (zin 18 1048) (zbv (zsi σ 3 ((18 : Int32).toNatClampNeg) (x2 &&& 65535)) (fun σ1 =>
  fX12_rpTo_51 σ1))
set_option maxRecDepth 20000 in
set_option maxHeartbeats 4000000 in
theorem bX12_rpTo_51 {st : Nat → Nat} {p : Program} {l : Launch} {e : Env} {s : State} {m : MethodId} {args : Array Value} {below : List Frame} {meth : Method} {c : Code} {D : va_G} {A : Nat → Prop} {ad : Nat → Nat} {cy : Nat → ClassId} (hC : zC p m c cX12_rpTo 3 s args wzX12_rpTo RX12 meth none)  {res : zSt} {H : Heap} {locs : List Loc} {σ : zSt} {ls : Array Slot}  (hI : zI st D (tM cy) (wM ad cy σ) A s H locs) (hl : lv_has ls 3 []) (hf : fX12_rpTo_51  σ  = some res) : W p l e rmX12_rpTo s m args below meth c H locs 0 0 (zQu below args s D (tM cy) (wM ad cy) A res) (F0 m 51 ls []) := by
  have hx := hC.1
  have hb := hC.2.1
  unfold fX12_rpTo_51 at hf
  exact z_return hC hI hf dX12_rpTo_51
set_option maxRecDepth 20000 in
set_option maxHeartbeats 4000000 in
theorem bX12_rpTo {st : Nat → Nat} {p : Program} {l : Launch} {e : Env} {s : State} {m : MethodId} {args : Array Value} {below : List Frame} {meth : Method} {c : Code} {D : va_G} {A : Nat → Prop} {ad : Nat → Nat} {cy : Nat → ClassId} (hC : zC p m c cX12_rpTo 3 s args wzX12_rpTo RX12 meth none)  {res : zSt} {H : Heap} {locs : List Loc} {σ : zSt} {ls : Array Slot} {x1 : Int32} {x2 : Int32} (hI : zI st D (tM cy) (wM ad cy σ) A s H locs) (hl : lv_has ls 3 [(0, .ref (ad 0)), (1, .int x1), (2, .int x2)]) (hf : fX12_rpTo  σ x1 x2 = some res) : W p l e rmX12_rpTo s m args below meth c H locs 0 0 (zQu below args s D (tM cy) (wM ad cy) A res) (F0 m 0 ls []) := by
  have hx := hC.1
  have hb := hC.2.1
  unfold fX12_rpTo at hf
  refine lv_iload_n hx hb dX12_rpTo_0 rfl (lv_at hl 1 rfl) ?_
  refine lv_if_ne (tgt := 13) hx hb dX12_rpTo_1 (by decide) (fun q => ?_) (fun q => ?_)
  · replace hf := zif_f q hf
    refine lv_iload_n hx hb dX12_rpTo_13 rfl (lv_at hl 1 rfl) ?_
    refine lv_iconst (v := 1) hx hb dX12_rpTo_14 (by decide) ?_
    refine lv_icmp_ne (tgt := 27) hx hb dX12_rpTo_15 (by decide) (fun q => ?_) (fun q => ?_)
    · replace hf := zif_f q hf
      refine lv_iload_n hx hb dX12_rpTo_27 rfl (lv_at hl 1 rfl) ?_
      refine lv_iconst (v := 2) hx hb dX12_rpTo_28 (by decide) ?_
      refine lv_icmp_ne (tgt := 40) hx hb dX12_rpTo_29 (by decide) (fun q => ?_) (fun q => ?_)
      · replace hf := zif_f q hf
        refine lv_aload_n hx hb dX12_rpTo_40 rfl (lv_at hl 0 rfl) ?_
        refine z_get hC hI hinX12_rpTo_X120 0 (wM_e0 ad cy σ) rfl 10 (by decide) (List.mem_cons_of_mem _ zw9_7) rfl dX12_rpTo_41 ?_
        refine lv_bipush (v := 18) hx hb dX12_rpTo_44 (by decide) ?_
        refine lv_iload_n hx hb dX12_rpTo_46 rfl (lv_at hl 2 rfl) ?_
        refine lv_ldc (v := 65535) hx hb hC.2.2.2.1 (hC.2.2.2.2.1 _ (List.mem_cons_of_mem _ zw16_11)) dX12_rpTo_47 ?_
        refine lv_iand hx hb dX12_rpTo_49 ?_
        obtain ⟨q, hf⟩ := zck_use hf
        obtain ⟨σ1, eσ1⟩ : ∃ z, z = zsi σ 3 ((18 : Int32).toNatClampNeg) (x2 &&& 65535) := ⟨_, rfl⟩
        replace hf := zbv_use eσ1 hf
        refine z_iast hC hI 3 2 (wM_e3 ad cy σ) (tM_t3 cy) q ((wM_s3 ad cy σ _ _).trans (congrArg (wM ad cy) eσ1.symm)) dX12_rpTo_50 (fun H locs hI => ?_)
        exact bX12_rpTo_51 hC  hI (lv_sub hl [] rfl) hf
      replace hf := zif_t q hf
      refine lv_aload_n hx hb dX12_rpTo_32 rfl (lv_at hl 0 rfl) ?_
      refine lv_iload_n hx hb dX12_rpTo_33 rfl (lv_at hl 2 rfl) ?_
      obtain ⟨σ2, g2, hf⟩ := zbu_use hf
      refine z_callVu (As := [.int x2]) (rest := []) hC hI (cX12_hlTo_met st l D ad cy σ x2 _ g2) (zgV zw51_21 zw51_22 zw51_23 zw1_5 zw52_0) rfl ⟨rfl, rfl⟩ 1 hdX12_hlTo ⟨Nat.le_of_ble_eq_true rfl, Nat.le_of_ble_eq_true rfl⟩ rfl rfl (wM_e0 ad cy σ) rfl hl rfl (Nat.le_of_ble_eq_true rfl) dX12_rpTo_34 ⟨Nat.zero_le _, Nat.zero_le _⟩ (fun H locs hI => ?_)
      refine lv_goto (tgt := 51) hx hb dX12_rpTo_37 (by decide) ?_
      exact bX12_rpTo_51 hC  hI (lv_sub hl [] rfl) hf
    replace hf := zif_t q hf
    refine lv_aload_n hx hb dX12_rpTo_18 rfl (lv_at hl 0 rfl) ?_
    refine lv_iconst (v := 4) hx hb dX12_rpTo_19 (by decide) ?_
    refine lv_iload_n hx hb dX12_rpTo_20 rfl (lv_at hl 2 rfl) ?_
    obtain ⟨σ3, g3, hf⟩ := zbu_use hf
    refine z_callVu (As := [.int 4, .int x2]) (rest := []) hC hI (cX12_pairTo_met st l D ad cy σ 4 x2 _ g3) (zgV zw51_17 zw51_18 zw51_19 zw1_5 zw51_20) rfl ⟨rfl, rfl⟩ 2 hdX12_pairTo ⟨Nat.le_of_ble_eq_true rfl, Nat.le_of_ble_eq_true rfl⟩ rfl rfl (wM_e0 ad cy σ) rfl hl rfl (Nat.le_of_ble_eq_true rfl) dX12_rpTo_21 ⟨Nat.zero_le _, Nat.zero_le _⟩ (fun H locs hI => ?_)
    refine lv_goto (tgt := 51) hx hb dX12_rpTo_24 (by decide) ?_
    exact bX12_rpTo_51 hC  hI (lv_sub hl [] rfl) hf
  replace hf := zif_t q hf
  refine lv_aload_n hx hb dX12_rpTo_4 rfl (lv_at hl 0 rfl) ?_
  refine lv_iconst (v := 2) hx hb dX12_rpTo_5 (by decide) ?_
  refine lv_iload_n hx hb dX12_rpTo_6 rfl (lv_at hl 2 rfl) ?_
  obtain ⟨σ4, g4, hf⟩ := zbu_use hf
  refine z_callVu (As := [.int 2, .int x2]) (rest := []) hC hI (cX12_pairTo_met st l D ad cy σ 2 x2 _ g4) (zgV zw51_17 zw51_18 zw51_19 zw1_5 zw51_20) rfl ⟨rfl, rfl⟩ 2 hdX12_pairTo ⟨Nat.le_of_ble_eq_true rfl, Nat.le_of_ble_eq_true rfl⟩ rfl rfl (wM_e0 ad cy σ) rfl hl rfl (Nat.le_of_ble_eq_true rfl) dX12_rpTo_7 ⟨Nat.zero_le _, Nat.zero_le _⟩ (fun H locs hI => ?_)
  refine lv_goto (tgt := 51) hx hb dX12_rpTo_10 (by decide) ?_
  exact bX12_rpTo_51 hC  hI (lv_sub hl [] rfl) hf
set_option maxRecDepth 20000 in
theorem cX12_rpTo_met (st : Nat → Nat) (l : Launch) (D : va_G) (ad : Nat → Nat) (cy : Nat → ClassId) (σ : zSt) (x1 : Int32) (x2 : Int32) (res : zSt) (hf : fX12_rpTo σ x1 x2 = some res) (sz : Nat) : zMu st l yX12_rpTo wzX12_rpTo rmX12_rpTo [.ref (ad 0), .int x1, .int x2] D (tM cy) (wM ad cy) sz σ res :=
  zMu.of (cc := cX12_rpTo) (maxL := 3) (ret := none) (by decide) rfl (Nat.le_of_ble_eq_true rfl) (fun p e s m args below meth c hC A hI ls hl => bX12_rpTo hC hI hl hf)
theorem hdX12_rpTo : yX12_rpTo.cls = RX12 ∧ yX12_rpTo.cls ≠ "java/lang/invoke/MethodHandle" ∧ yX12_rpTo.cls ≠ "java/lang/invoke/VarHandle" ∧ (parseMethodDescriptor yX12_rpTo.desc).map (fun d => d.parameters.length) = some 2 := by decide +kernel
def rmX12_m : Room := { frames := 1, cells := 0, slots := 0, locals := 21 }
def wzX12_m : List Cond := .code yX12_m cX12_m 1 (some .int) :: wsL_law
theorem hinX12_m_X120 : ∀ w ∈ wsX120, w ∈ wzX12_m := fun w h => List.mem_cons_of_mem _ (inlX12 w h)
def fX12_m_23  (σ : zSt) (s0 : Int32) : Option (zSt × Int32) :=
  some (σ, s0)
def fX12_m  (σ : zSt)  : Option (zSt × Int32) :=
  if (zgi σ 0 32) = 0 then zbi (fX12_pair σ 6) (fun σ1 v2 =>
  fX12_m_23 σ1 v2) else
  zck (zin 20 1048) (
  fX12_m_23 σ (zgi σ 3 (20 : Int32).toNatClampNeg))
set_option maxRecDepth 20000 in
set_option maxHeartbeats 4000000 in
theorem bX12_m_23 {st : Nat → Nat} {p : Program} {l : Launch} {e : Env} {s : State} {m : MethodId} {args : Array Value} {below : List Frame} {meth : Method} {c : Code} {D : va_G} {A : Nat → Prop} {ad : Nat → Nat} {cy : Nat → ClassId} (hC : zC p m c cX12_m 1 s args wzX12_m RX12 meth (some .int))  {res : zSt × Int32} {H : Heap} {locs : List Loc} {σ : zSt} {ls : Array Slot} {s0 : Int32} (hI : zI st D (tM cy) (wM ad cy σ) A s H locs) (hl : lv_has ls 1 []) (hf : fX12_m_23  σ s0 = some res) : W p l e rmX12_m s m args below meth c H locs 0 0 (zQi below args s D (tM cy) (wM ad cy) A res) (F0 m 23 ls [.int s0]) := by
  have hx := hC.1
  have hb := hC.2.1
  unfold fX12_m_23 at hf
  exact z_ireturn hC hI hf dX12_m_23
set_option maxRecDepth 20000 in
set_option maxHeartbeats 4000000 in
theorem bX12_m {st : Nat → Nat} {p : Program} {l : Launch} {e : Env} {s : State} {m : MethodId} {args : Array Value} {below : List Frame} {meth : Method} {c : Code} {D : va_G} {A : Nat → Prop} {ad : Nat → Nat} {cy : Nat → ClassId} (hC : zC p m c cX12_m 1 s args wzX12_m RX12 meth (some .int))  {res : zSt × Int32} {H : Heap} {locs : List Loc} {σ : zSt} {ls : Array Slot}  (hI : zI st D (tM cy) (wM ad cy σ) A s H locs) (hl : lv_has ls 1 [(0, .ref (ad 0))]) (hf : fX12_m  σ  = some res) : W p l e rmX12_m s m args below meth c H locs 0 0 (zQi below args s D (tM cy) (wM ad cy) A res) (F0 m 0 ls []) := by
  have hx := hC.1
  have hb := hC.2.1
  unfold fX12_m at hf
  refine lv_aload_n hx hb dX12_m_0 rfl (lv_at hl 0 rfl) ?_
  refine z_get hC hI hinX12_m_X120 0 (wM_e0 ad cy σ) rfl 32 (by decide) (List.mem_cons_of_mem _ zw49_21) rfl dX12_m_1 ?_
  refine lv_if_eq (tgt := 17) hx hb dX12_m_4 (by decide) (fun q => ?_) (fun q => ?_)
  · replace hf := zif_t q hf
    refine lv_aload_n hx hb dX12_m_17 rfl (lv_at hl 0 rfl) ?_
    refine lv_bipush (v := 6) hx hb dX12_m_18 (by decide) ?_
    obtain ⟨σ1, v2, g1, hf⟩ := zbi_use hf
    refine z_callVi (As := [.int 6]) (rest := []) hC hI (cX12_pair_met st l D ad cy σ 6 _ g1) (zgV zw52_5 zw52_6 zw52_7 zw1_5 zw52_8) rfl ⟨rfl, rfl⟩ 1 hdX12_pair ⟨Nat.le_of_ble_eq_true rfl, Nat.le_of_ble_eq_true rfl⟩ rfl rfl (wM_e0 ad cy σ) rfl hl rfl (Nat.le_of_ble_eq_true rfl) dX12_m_20 ⟨Nat.zero_le _, Nat.zero_le _⟩ (fun H locs hI => ?_)
    exact bX12_m_23 hC  hI (lv_sub hl [] rfl) hf
  replace hf := zif_f q hf
  refine lv_aload_n hx hb dX12_m_7 rfl (lv_at hl 0 rfl) ?_
  refine z_get hC hI hinX12_m_X120 0 (wM_e0 ad cy σ) rfl 10 (by decide) (List.mem_cons_of_mem _ zw9_7) rfl dX12_m_8 ?_
  refine lv_bipush (v := 20) hx hb dX12_m_11 (by decide) ?_
  obtain ⟨q, hf⟩ := zck_use hf
  refine z_iald hC hI 3 2 (wM_e3 ad cy σ) (tM_t3 cy) q dX12_m_13 ?_
  refine lv_goto (tgt := 23) hx hb dX12_m_14 (by decide) ?_
  exact bX12_m_23 hC  hI (lv_sub hl [] rfl) hf
set_option maxRecDepth 20000 in
theorem cX12_m_met (st : Nat → Nat) (l : Launch) (D : va_G) (ad : Nat → Nat) (cy : Nat → ClassId) (σ : zSt)  (res : zSt × Int32) (hf : fX12_m σ  = some res) (sz : Nat) : zMi st l yX12_m wzX12_m rmX12_m [.ref (ad 0)] D (tM cy) (wM ad cy) sz σ res :=
  zMi.of (cc := cX12_m) (maxL := 1) (ret := (some .int)) (by decide) rfl (Nat.le_of_ble_eq_true rfl) (fun p e s m args below meth c hC A hI ls hl => bX12_m hC hI hl hf)
theorem hdX12_m : yX12_m.cls = RX12 ∧ yX12_m.cls ≠ "java/lang/invoke/MethodHandle" ∧ yX12_m.cls ≠ "java/lang/invoke/VarHandle" ∧ (parseMethodDescriptor yX12_m.desc).map (fun d => d.parameters.length) = some 0 := by decide +kernel
