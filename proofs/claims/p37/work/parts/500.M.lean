section ZJN0
noncomputable def kn_cX12_thrown : Nat := 0xac6900b42a
theorem zk_cX12_thrown : zkd cX12_thrown.data.toList kn_cX12_thrown = true := by decide +kernel
theorem zn_cX12_thrown : cX12_thrown.data.toList.length = 5 := by decide +kernel
theorem dX12_thrown_0 : decode cX12_thrown 0 = .ok (.aload_n 0, 1) := zo_42 (zkb zk_cX12_thrown zn_cX12_thrown rfl)
theorem dX12_thrown_1 : decode cX12_thrown 1 = .ok (.getfield 105, 3) := zo_180 (b1 := 0) (b2 := 105) (zkb3 zk_cX12_thrown zn_cX12_thrown rfl) rfl
theorem dX12_thrown_4 : decode cX12_thrown 4 = .ok (.ireturn, 1) := zo_172 (zkb zk_cX12_thrown zn_cX12_thrown rfl)
noncomputable def kn_cX12_fails : Nat := 0xac1b6900b5030400a71c0700991b2a
theorem zk_cX12_fails : zkd cX12_fails.data.toList kn_cX12_fails = true := by decide +kernel
theorem zn_cX12_fails : cX12_fails.data.toList.length = 15 := by decide +kernel
theorem dX12_fails_0 : decode cX12_fails 0 = .ok (.aload_n 0, 1) := zo_42 (zkb zk_cX12_fails zn_cX12_fails rfl)
theorem dX12_fails_1 : decode cX12_fails 1 = .ok (.iload_n 1, 1) := zo_27 (zkb zk_cX12_fails zn_cX12_fails rfl)
theorem dX12_fails_2 : decode cX12_fails 2 = .ok (.ifCond .eq 7, 3) := zo_153 (b1 := 0) (b2 := 7) (zkb3 zk_cX12_fails zn_cX12_fails rfl) rfl
theorem dX12_fails_5 : decode cX12_fails 5 = .ok (.iload_n 2, 1) := zo_28 (zkb zk_cX12_fails zn_cX12_fails rfl)
theorem dX12_fails_6 : decode cX12_fails 6 = .ok (.goto 4, 3) := zo_167 (b1 := 0) (b2 := 4) (zkb3 zk_cX12_fails zn_cX12_fails rfl) rfl
theorem dX12_fails_9 : decode cX12_fails 9 = .ok (.iconst 0, 1) := zo_3 (zkb zk_cX12_fails zn_cX12_fails rfl)
theorem dX12_fails_10 : decode cX12_fails 10 = .ok (.putfield 105, 3) := zo_181 (b1 := 0) (b2 := 105) (zkb3 zk_cX12_fails zn_cX12_fails rfl) rfl
theorem dX12_fails_13 : decode cX12_fails 13 = .ok (.iload_n 1, 1) := zo_27 (zkb zk_cX12_fails zn_cX12_fails rfl)
theorem dX12_fails_14 : decode cX12_fails 14 = .ok (.ireturn, 1) := zo_172 (zkb zk_cX12_fails zn_cX12_fails rfl)
noncomputable def kn_cX12_within : Nat := 0xac030400a70407009d9404161e0e009b94201e
theorem zk_cX12_within : zkd cX12_within.data.toList kn_cX12_within = true := by decide +kernel
theorem zn_cX12_within : cX12_within.data.toList.length = 19 := by decide +kernel
theorem dX12_within_0 : decode cX12_within 0 = .ok (.lload_n 0, 1) := zo_30 (zkb zk_cX12_within zn_cX12_within rfl)
theorem dX12_within_1 : decode cX12_within 1 = .ok (.lload_n 2, 1) := zo_32 (zkb zk_cX12_within zn_cX12_within rfl)
theorem dX12_within_2 : decode cX12_within 2 = .ok (.lcmp, 1) := zo_148 (zkb zk_cX12_within zn_cX12_within rfl)
theorem dX12_within_3 : decode cX12_within 3 = .ok (.ifCond .lt 14, 3) := zo_155 (b1 := 0) (b2 := 14) (zkb3 zk_cX12_within zn_cX12_within rfl) rfl
theorem dX12_within_6 : decode cX12_within 6 = .ok (.lload_n 0, 1) := zo_30 (zkb zk_cX12_within zn_cX12_within rfl)
theorem dX12_within_7 : decode cX12_within 7 = .ok (.lload 4, 2) := zo_22 (b1 := 4) (zkb2 zk_cX12_within zn_cX12_within rfl)
theorem dX12_within_9 : decode cX12_within 9 = .ok (.lcmp, 1) := zo_148 (zkb zk_cX12_within zn_cX12_within rfl)
theorem dX12_within_10 : decode cX12_within 10 = .ok (.ifCond .gt 7, 3) := zo_157 (b1 := 0) (b2 := 7) (zkb3 zk_cX12_within zn_cX12_within rfl) rfl
theorem dX12_within_13 : decode cX12_within 13 = .ok (.iconst 1, 1) := zo_4 (zkb zk_cX12_within zn_cX12_within rfl)
theorem dX12_within_14 : decode cX12_within 14 = .ok (.goto 4, 3) := zo_167 (b1 := 0) (b2 := 4) (zkb3 zk_cX12_within zn_cX12_within rfl) rfl
theorem dX12_within_17 : decode cX12_within 17 = .ok (.iconst 0, 1) := zo_3 (zkb zk_cX12_within zn_cX12_within rfl)
theorem dX12_within_18 : decode cX12_within 18 = .ok (.ireturn, 1) := zo_172 (zkb zk_cX12_within zn_cX12_within rfl)
noncomputable def kn_cX12_feed : Nat := 0xac7600b42ac0ffa70108847600b560047600b4592a5491887b687008100815081006160500a704160800a2101008151100a7200700a2081008157600b42a0a00b42a4000a21b0815083603ac030500997200b605030400a7040700a40912601b7600b42a2a1b009a7200b604030400a70407009a6e00b86c00140a851b2a
theorem zk_cX12_feed : zkd cX12_feed.data.toList kn_cX12_feed = true := by decide +kernel
theorem zn_cX12_feed : cX12_feed.data.toList.length = 126 := by decide +kernel
theorem dX12_feed_0 : decode cX12_feed 0 = .ok (.aload_n 0, 1) := zo_42 (zkb zk_cX12_feed zn_cX12_feed rfl)
theorem dX12_feed_1 : decode cX12_feed 1 = .ok (.iload_n 1, 1) := zo_27 (zkb zk_cX12_feed zn_cX12_feed rfl)
theorem dX12_feed_2 : decode cX12_feed 2 = .ok (.i2l, 1) := zo_133 (zkb zk_cX12_feed zn_cX12_feed rfl)
theorem dX12_feed_3 : decode cX12_feed 3 = .ok (.lconst 1, 1) := zo_10 (zkb zk_cX12_feed zn_cX12_feed rfl)
theorem dX12_feed_4 : decode cX12_feed 4 = .ok (.ldc2_w 108, 3) := by decide +kernel
theorem dX12_feed_7 : decode cX12_feed 7 = .ok (.invokestatic 110, 3) := zo_184 (b1 := 0) (b2 := 110) (zkb3 zk_cX12_feed zn_cX12_feed rfl) rfl
theorem dX12_feed_10 : decode cX12_feed 10 = .ok (.ifCond .ne 7, 3) := zo_154 (b1 := 0) (b2 := 7) (zkb3 zk_cX12_feed zn_cX12_feed rfl) rfl
theorem dX12_feed_13 : decode cX12_feed 13 = .ok (.iconst 1, 1) := zo_4 (zkb zk_cX12_feed zn_cX12_feed rfl)
theorem dX12_feed_14 : decode cX12_feed 14 = .ok (.goto 4, 3) := zo_167 (b1 := 0) (b2 := 4) (zkb3 zk_cX12_feed zn_cX12_feed rfl) rfl
theorem dX12_feed_17 : decode cX12_feed 17 = .ok (.iconst 0, 1) := zo_3 (zkb zk_cX12_feed zn_cX12_feed rfl)
theorem dX12_feed_18 : decode cX12_feed 18 = .ok (.iconst 1, 1) := zo_4 (zkb zk_cX12_feed zn_cX12_feed rfl)
theorem dX12_feed_19 : decode cX12_feed 19 = .ok (.invokevirtual 114, 3) := zo_182 (b1 := 0) (b2 := 114) (zkb3 zk_cX12_feed zn_cX12_feed rfl) rfl
theorem dX12_feed_22 : decode cX12_feed 22 = .ok (.ifCond .ne 27, 3) := zo_154 (b1 := 0) (b2 := 27) (zkb3 zk_cX12_feed zn_cX12_feed rfl) rfl
theorem dX12_feed_25 : decode cX12_feed 25 = .ok (.aload_n 0, 1) := zo_42 (zkb zk_cX12_feed zn_cX12_feed rfl)
theorem dX12_feed_26 : decode cX12_feed 26 = .ok (.aload_n 0, 1) := zo_42 (zkb zk_cX12_feed zn_cX12_feed rfl)
theorem dX12_feed_27 : decode cX12_feed 27 = .ok (.getfield 118, 3) := zo_180 (b1 := 0) (b2 := 118) (zkb3 zk_cX12_feed zn_cX12_feed rfl) rfl
theorem dX12_feed_30 : decode cX12_feed 30 = .ok (.iload_n 1, 1) := zo_27 (zkb zk_cX12_feed zn_cX12_feed rfl)
theorem dX12_feed_31 : decode cX12_feed 31 = .ok (.iadd, 1) := zo_96 (zkb zk_cX12_feed zn_cX12_feed rfl)
theorem dX12_feed_32 : decode cX12_feed 32 = .ok (.ldc 9, 2) := zo_18 (b1 := 9) (zkb2 zk_cX12_feed zn_cX12_feed rfl)
theorem dX12_feed_34 : decode cX12_feed 34 = .ok (.if_icmp .le 7, 3) := zo_164 (b1 := 0) (b2 := 7) (zkb3 zk_cX12_feed zn_cX12_feed rfl) rfl
theorem dX12_feed_37 : decode cX12_feed 37 = .ok (.iconst 1, 1) := zo_4 (zkb zk_cX12_feed zn_cX12_feed rfl)
theorem dX12_feed_38 : decode cX12_feed 38 = .ok (.goto 4, 3) := zo_167 (b1 := 0) (b2 := 4) (zkb3 zk_cX12_feed zn_cX12_feed rfl) rfl
theorem dX12_feed_41 : decode cX12_feed 41 = .ok (.iconst 0, 1) := zo_3 (zkb zk_cX12_feed zn_cX12_feed rfl)
theorem dX12_feed_42 : decode cX12_feed 42 = .ok (.iconst 2, 1) := zo_5 (zkb zk_cX12_feed zn_cX12_feed rfl)
theorem dX12_feed_43 : decode cX12_feed 43 = .ok (.invokevirtual 114, 3) := zo_182 (b1 := 0) (b2 := 114) (zkb3 zk_cX12_feed zn_cX12_feed rfl) rfl
theorem dX12_feed_46 : decode cX12_feed 46 = .ok (.ifCond .eq 5, 3) := zo_153 (b1 := 0) (b2 := 5) (zkb3 zk_cX12_feed zn_cX12_feed rfl) rfl
theorem dX12_feed_49 : decode cX12_feed 49 = .ok (.iconst 0, 1) := zo_3 (zkb zk_cX12_feed zn_cX12_feed rfl)
theorem dX12_feed_50 : decode cX12_feed 50 = .ok (.ireturn, 1) := zo_172 (zkb zk_cX12_feed zn_cX12_feed rfl)
theorem dX12_feed_51 : decode cX12_feed 51 = .ok (.iconst 0, 1) := zo_3 (zkb zk_cX12_feed zn_cX12_feed rfl)
theorem dX12_feed_52 : decode cX12_feed 52 = .ok (.istore 8, 2) := zo_54 (b1 := 8) (zkb2 zk_cX12_feed zn_cX12_feed rfl)
theorem dX12_feed_54 : decode cX12_feed 54 = .ok (.iload 8, 2) := zo_21 (b1 := 8) (zkb2 zk_cX12_feed zn_cX12_feed rfl)
theorem dX12_feed_56 : decode cX12_feed 56 = .ok (.iload_n 1, 1) := zo_27 (zkb zk_cX12_feed zn_cX12_feed rfl)
theorem dX12_feed_57 : decode cX12_feed 57 = .ok (.if_icmp .ge 64, 3) := zo_162 (b1 := 0) (b2 := 64) (zkb3 zk_cX12_feed zn_cX12_feed rfl) rfl
theorem dX12_feed_60 : decode cX12_feed 60 = .ok (.aload_n 0, 1) := zo_42 (zkb zk_cX12_feed zn_cX12_feed rfl)
theorem dX12_feed_61 : decode cX12_feed 61 = .ok (.getfield 10, 3) := zo_180 (b1 := 0) (b2 := 10) (zkb3 zk_cX12_feed zn_cX12_feed rfl) rfl
theorem dX12_feed_64 : decode cX12_feed 64 = .ok (.aload_n 0, 1) := zo_42 (zkb zk_cX12_feed zn_cX12_feed rfl)
theorem dX12_feed_65 : decode cX12_feed 65 = .ok (.getfield 118, 3) := zo_180 (b1 := 0) (b2 := 118) (zkb3 zk_cX12_feed zn_cX12_feed rfl) rfl
theorem dX12_feed_68 : decode cX12_feed 68 = .ok (.iload 8, 2) := zo_21 (b1 := 8) (zkb2 zk_cX12_feed zn_cX12_feed rfl)
theorem dX12_feed_70 : decode cX12_feed 70 = .ok (.bipush 8, 2) := zo_16 (b1 := 8) (zkb2 zk_cX12_feed zn_cX12_feed rfl) rfl
theorem dX12_feed_72 : decode cX12_feed 72 = .ok (.if_icmp .ge 7, 3) := zo_162 (b1 := 0) (b2 := 7) (zkb3 zk_cX12_feed zn_cX12_feed rfl) rfl
theorem dX12_feed_75 : decode cX12_feed 75 = .ok (.lload_n 2, 1) := zo_32 (zkb zk_cX12_feed zn_cX12_feed rfl)
theorem dX12_feed_76 : decode cX12_feed 76 = .ok (.goto 17, 3) := zo_167 (b1 := 0) (b2 := 17) (zkb3 zk_cX12_feed zn_cX12_feed rfl) rfl
theorem dX12_feed_79 : decode cX12_feed 79 = .ok (.iload 8, 2) := zo_21 (b1 := 8) (zkb2 zk_cX12_feed zn_cX12_feed rfl)
theorem dX12_feed_81 : decode cX12_feed 81 = .ok (.bipush 16, 2) := zo_16 (b1 := 16) (zkb2 zk_cX12_feed zn_cX12_feed rfl) rfl
theorem dX12_feed_83 : decode cX12_feed 83 = .ok (.if_icmp .ge 8, 3) := zo_162 (b1 := 0) (b2 := 8) (zkb3 zk_cX12_feed zn_cX12_feed rfl) rfl
theorem dX12_feed_86 : decode cX12_feed 86 = .ok (.lload 4, 2) := zo_22 (b1 := 4) (zkb2 zk_cX12_feed zn_cX12_feed rfl)
theorem dX12_feed_88 : decode cX12_feed 88 = .ok (.goto 5, 3) := zo_167 (b1 := 0) (b2 := 5) (zkb3 zk_cX12_feed zn_cX12_feed rfl) rfl
theorem dX12_feed_91 : decode cX12_feed 91 = .ok (.lload 6, 2) := zo_22 (b1 := 6) (zkb2 zk_cX12_feed zn_cX12_feed rfl)
theorem dX12_feed_93 : decode cX12_feed 93 = .ok (.bipush 8, 2) := zo_16 (b1 := 8) (zkb2 zk_cX12_feed zn_cX12_feed rfl) rfl
theorem dX12_feed_95 : decode cX12_feed 95 = .ok (.iload 8, 2) := zo_21 (b1 := 8) (zkb2 zk_cX12_feed zn_cX12_feed rfl)
theorem dX12_feed_97 : decode cX12_feed 97 = .ok (.bipush 8, 2) := zo_16 (b1 := 8) (zkb2 zk_cX12_feed zn_cX12_feed rfl) rfl
theorem dX12_feed_99 : decode cX12_feed 99 = .ok (.irem, 1) := zo_112 (zkb zk_cX12_feed zn_cX12_feed rfl)
theorem dX12_feed_100 : decode cX12_feed 100 = .ok (.imul, 1) := zo_104 (zkb zk_cX12_feed zn_cX12_feed rfl)
theorem dX12_feed_101 : decode cX12_feed 101 = .ok (.lshr, 1) := zo_123 (zkb zk_cX12_feed zn_cX12_feed rfl)
theorem dX12_feed_102 : decode cX12_feed 102 = .ok (.l2i, 1) := zo_136 (zkb zk_cX12_feed zn_cX12_feed rfl)
theorem dX12_feed_103 : decode cX12_feed 103 = .ok (.i2b, 1) := zo_145 (zkb zk_cX12_feed zn_cX12_feed rfl)
theorem dX12_feed_104 : decode cX12_feed 104 = .ok (.bastore, 1) := zo_84 (zkb zk_cX12_feed zn_cX12_feed rfl)
theorem dX12_feed_105 : decode cX12_feed 105 = .ok (.aload_n 0, 1) := zo_42 (zkb zk_cX12_feed zn_cX12_feed rfl)
theorem dX12_feed_106 : decode cX12_feed 106 = .ok (.dup, 1) := zo_89 (zkb zk_cX12_feed zn_cX12_feed rfl)
theorem dX12_feed_107 : decode cX12_feed 107 = .ok (.getfield 118, 3) := zo_180 (b1 := 0) (b2 := 118) (zkb3 zk_cX12_feed zn_cX12_feed rfl) rfl
theorem dX12_feed_110 : decode cX12_feed 110 = .ok (.iconst 1, 1) := zo_4 (zkb zk_cX12_feed zn_cX12_feed rfl)
theorem dX12_feed_111 : decode cX12_feed 111 = .ok (.iadd, 1) := zo_96 (zkb zk_cX12_feed zn_cX12_feed rfl)
theorem dX12_feed_112 : decode cX12_feed 112 = .ok (.putfield 118, 3) := zo_181 (b1 := 0) (b2 := 118) (zkb3 zk_cX12_feed zn_cX12_feed rfl) rfl
theorem dX12_feed_115 : decode cX12_feed 115 = .ok (.iinc 8 1, 3) := zo_132 (b1 := 8) (b2 := 1) (zkb3 zk_cX12_feed zn_cX12_feed rfl) rfl
theorem dX12_feed_118 : decode cX12_feed 118 = .ok (.goto (-64), 3) := zo_167 (b1 := 255) (b2 := 192) (zkb3 zk_cX12_feed zn_cX12_feed rfl) rfl
theorem dX12_feed_121 : decode cX12_feed 121 = .ok (.aload_n 0, 1) := zo_42 (zkb zk_cX12_feed zn_cX12_feed rfl)
theorem dX12_feed_122 : decode cX12_feed 122 = .ok (.getfield 118, 3) := zo_180 (b1 := 0) (b2 := 118) (zkb3 zk_cX12_feed zn_cX12_feed rfl) rfl
theorem dX12_feed_125 : decode cX12_feed 125 = .ok (.ireturn, 1) := zo_172 (zkb zk_cX12_feed zn_cX12_feed rfl)
noncomputable def kn_cX12_grow : Nat := 0xac1cdaffa77600b560047600b4592a5433701c7600b42a0a00b42a7600b42a0a00b42a2400a21b7600b42a3d7600b42aac030500997200b605030400a70407009a7600b42a2a17009a7200b604030400a7040700a409121b0900a17600b42a1b2a
theorem zk_cX12_grow : zkd cX12_grow.data.toList kn_cX12_grow = true := by decide +kernel
theorem zn_cX12_grow : cX12_grow.data.toList.length = 97 := by decide +kernel
theorem dX12_grow_0 : decode cX12_grow 0 = .ok (.aload_n 0, 1) := zo_42 (zkb zk_cX12_grow zn_cX12_grow rfl)
theorem dX12_grow_1 : decode cX12_grow 1 = .ok (.iload_n 1, 1) := zo_27 (zkb zk_cX12_grow zn_cX12_grow rfl)
theorem dX12_grow_2 : decode cX12_grow 2 = .ok (.aload_n 0, 1) := zo_42 (zkb zk_cX12_grow zn_cX12_grow rfl)
theorem dX12_grow_3 : decode cX12_grow 3 = .ok (.getfield 118, 3) := zo_180 (b1 := 0) (b2 := 118) (zkb3 zk_cX12_grow zn_cX12_grow rfl) rfl
theorem dX12_grow_6 : decode cX12_grow 6 = .ok (.if_icmp .lt 9, 3) := zo_161 (b1 := 0) (b2 := 9) (zkb3 zk_cX12_grow zn_cX12_grow rfl) rfl
theorem dX12_grow_9 : decode cX12_grow 9 = .ok (.iload_n 1, 1) := zo_27 (zkb zk_cX12_grow zn_cX12_grow rfl)
theorem dX12_grow_10 : decode cX12_grow 10 = .ok (.ldc 9, 2) := zo_18 (b1 := 9) (zkb2 zk_cX12_grow zn_cX12_grow rfl)
theorem dX12_grow_12 : decode cX12_grow 12 = .ok (.if_icmp .le 7, 3) := zo_164 (b1 := 0) (b2 := 7) (zkb3 zk_cX12_grow zn_cX12_grow rfl) rfl
theorem dX12_grow_15 : decode cX12_grow 15 = .ok (.iconst 1, 1) := zo_4 (zkb zk_cX12_grow zn_cX12_grow rfl)
theorem dX12_grow_16 : decode cX12_grow 16 = .ok (.goto 4, 3) := zo_167 (b1 := 0) (b2 := 4) (zkb3 zk_cX12_grow zn_cX12_grow rfl) rfl
theorem dX12_grow_19 : decode cX12_grow 19 = .ok (.iconst 0, 1) := zo_3 (zkb zk_cX12_grow zn_cX12_grow rfl)
theorem dX12_grow_20 : decode cX12_grow 20 = .ok (.iconst 1, 1) := zo_4 (zkb zk_cX12_grow zn_cX12_grow rfl)
theorem dX12_grow_21 : decode cX12_grow 21 = .ok (.invokevirtual 114, 3) := zo_182 (b1 := 0) (b2 := 114) (zkb3 zk_cX12_grow zn_cX12_grow rfl) rfl
theorem dX12_grow_24 : decode cX12_grow 24 = .ok (.ifCond .ne 23, 3) := zo_154 (b1 := 0) (b2 := 23) (zkb3 zk_cX12_grow zn_cX12_grow rfl) rfl
theorem dX12_grow_27 : decode cX12_grow 27 = .ok (.aload_n 0, 1) := zo_42 (zkb zk_cX12_grow zn_cX12_grow rfl)
theorem dX12_grow_28 : decode cX12_grow 28 = .ok (.aload_n 0, 1) := zo_42 (zkb zk_cX12_grow zn_cX12_grow rfl)
theorem dX12_grow_29 : decode cX12_grow 29 = .ok (.getfield 118, 3) := zo_180 (b1 := 0) (b2 := 118) (zkb3 zk_cX12_grow zn_cX12_grow rfl) rfl
theorem dX12_grow_32 : decode cX12_grow 32 = .ok (.ifCond .ne 7, 3) := zo_154 (b1 := 0) (b2 := 7) (zkb3 zk_cX12_grow zn_cX12_grow rfl) rfl
theorem dX12_grow_35 : decode cX12_grow 35 = .ok (.iconst 1, 1) := zo_4 (zkb zk_cX12_grow zn_cX12_grow rfl)
theorem dX12_grow_36 : decode cX12_grow 36 = .ok (.goto 4, 3) := zo_167 (b1 := 0) (b2 := 4) (zkb3 zk_cX12_grow zn_cX12_grow rfl) rfl
theorem dX12_grow_39 : decode cX12_grow 39 = .ok (.iconst 0, 1) := zo_3 (zkb zk_cX12_grow zn_cX12_grow rfl)
theorem dX12_grow_40 : decode cX12_grow 40 = .ok (.iconst 2, 1) := zo_5 (zkb zk_cX12_grow zn_cX12_grow rfl)
theorem dX12_grow_41 : decode cX12_grow 41 = .ok (.invokevirtual 114, 3) := zo_182 (b1 := 0) (b2 := 114) (zkb3 zk_cX12_grow zn_cX12_grow rfl) rfl
theorem dX12_grow_44 : decode cX12_grow 44 = .ok (.ifCond .eq 5, 3) := zo_153 (b1 := 0) (b2 := 5) (zkb3 zk_cX12_grow zn_cX12_grow rfl) rfl
theorem dX12_grow_47 : decode cX12_grow 47 = .ok (.iconst 0, 1) := zo_3 (zkb zk_cX12_grow zn_cX12_grow rfl)
theorem dX12_grow_48 : decode cX12_grow 48 = .ok (.ireturn, 1) := zo_172 (zkb zk_cX12_grow zn_cX12_grow rfl)
theorem dX12_grow_49 : decode cX12_grow 49 = .ok (.aload_n 0, 1) := zo_42 (zkb zk_cX12_grow zn_cX12_grow rfl)
theorem dX12_grow_50 : decode cX12_grow 50 = .ok (.getfield 118, 3) := zo_180 (b1 := 0) (b2 := 118) (zkb3 zk_cX12_grow zn_cX12_grow rfl) rfl
theorem dX12_grow_53 : decode cX12_grow 53 = .ok (.istore_n 2, 1) := zo_61 (zkb zk_cX12_grow zn_cX12_grow rfl)
theorem dX12_grow_54 : decode cX12_grow 54 = .ok (.aload_n 0, 1) := zo_42 (zkb zk_cX12_grow zn_cX12_grow rfl)
theorem dX12_grow_55 : decode cX12_grow 55 = .ok (.getfield 118, 3) := zo_180 (b1 := 0) (b2 := 118) (zkb3 zk_cX12_grow zn_cX12_grow rfl) rfl
theorem dX12_grow_58 : decode cX12_grow 58 = .ok (.iload_n 1, 1) := zo_27 (zkb zk_cX12_grow zn_cX12_grow rfl)
theorem dX12_grow_59 : decode cX12_grow 59 = .ok (.if_icmp .ge 36, 3) := zo_162 (b1 := 0) (b2 := 36) (zkb3 zk_cX12_grow zn_cX12_grow rfl) rfl
theorem dX12_grow_62 : decode cX12_grow 62 = .ok (.aload_n 0, 1) := zo_42 (zkb zk_cX12_grow zn_cX12_grow rfl)
theorem dX12_grow_63 : decode cX12_grow 63 = .ok (.getfield 10, 3) := zo_180 (b1 := 0) (b2 := 10) (zkb3 zk_cX12_grow zn_cX12_grow rfl) rfl
theorem dX12_grow_66 : decode cX12_grow 66 = .ok (.aload_n 0, 1) := zo_42 (zkb zk_cX12_grow zn_cX12_grow rfl)
theorem dX12_grow_67 : decode cX12_grow 67 = .ok (.getfield 118, 3) := zo_180 (b1 := 0) (b2 := 118) (zkb3 zk_cX12_grow zn_cX12_grow rfl) rfl
theorem dX12_grow_70 : decode cX12_grow 70 = .ok (.aload_n 0, 1) := zo_42 (zkb zk_cX12_grow zn_cX12_grow rfl)
theorem dX12_grow_71 : decode cX12_grow 71 = .ok (.getfield 10, 3) := zo_180 (b1 := 0) (b2 := 10) (zkb3 zk_cX12_grow zn_cX12_grow rfl) rfl
theorem dX12_grow_74 : decode cX12_grow 74 = .ok (.aload_n 0, 1) := zo_42 (zkb zk_cX12_grow zn_cX12_grow rfl)
theorem dX12_grow_75 : decode cX12_grow 75 = .ok (.getfield 118, 3) := zo_180 (b1 := 0) (b2 := 118) (zkb3 zk_cX12_grow zn_cX12_grow rfl) rfl
theorem dX12_grow_78 : decode cX12_grow 78 = .ok (.iload_n 2, 1) := zo_28 (zkb zk_cX12_grow zn_cX12_grow rfl)
theorem dX12_grow_79 : decode cX12_grow 79 = .ok (.irem, 1) := zo_112 (zkb zk_cX12_grow zn_cX12_grow rfl)
theorem dX12_grow_80 : decode cX12_grow 80 = .ok (.baload, 1) := zo_51 (zkb zk_cX12_grow zn_cX12_grow rfl)
theorem dX12_grow_81 : decode cX12_grow 81 = .ok (.bastore, 1) := zo_84 (zkb zk_cX12_grow zn_cX12_grow rfl)
theorem dX12_grow_82 : decode cX12_grow 82 = .ok (.aload_n 0, 1) := zo_42 (zkb zk_cX12_grow zn_cX12_grow rfl)
theorem dX12_grow_83 : decode cX12_grow 83 = .ok (.dup, 1) := zo_89 (zkb zk_cX12_grow zn_cX12_grow rfl)
theorem dX12_grow_84 : decode cX12_grow 84 = .ok (.getfield 118, 3) := zo_180 (b1 := 0) (b2 := 118) (zkb3 zk_cX12_grow zn_cX12_grow rfl) rfl
theorem dX12_grow_87 : decode cX12_grow 87 = .ok (.iconst 1, 1) := zo_4 (zkb zk_cX12_grow zn_cX12_grow rfl)
theorem dX12_grow_88 : decode cX12_grow 88 = .ok (.iadd, 1) := zo_96 (zkb zk_cX12_grow zn_cX12_grow rfl)
theorem dX12_grow_89 : decode cX12_grow 89 = .ok (.putfield 118, 3) := zo_181 (b1 := 0) (b2 := 118) (zkb3 zk_cX12_grow zn_cX12_grow rfl) rfl
theorem dX12_grow_92 : decode cX12_grow 92 = .ok (.goto (-38), 3) := zo_167 (b1 := 255) (b2 := 218) (zkb3 zk_cX12_grow zn_cX12_grow rfl) rfl
theorem dX12_grow_95 : decode cX12_grow 95 = .ok (.iload_n 2, 1) := zo_28 (zkb zk_cX12_grow zn_cX12_grow rfl)
theorem dX12_grow_96 : decode cX12_grow 96 = .ok (.ireturn, 1) := zo_172 (zkb zk_cX12_grow zn_cX12_grow rfl)
noncomputable def kn_cX12_patch : Nat := 0xb1e4ffa70104845491887b6804150810206004151b0a00b42a1b00a208100415043603b10400997200b604030400a7040700a46408107600b42a1b0e009b1b2a
theorem zk_cX12_patch : zkd cX12_patch.data.toList kn_cX12_patch = true := by decide +kernel
theorem zn_cX12_patch : cX12_patch.data.toList.length = 64 := by decide +kernel
theorem dX12_patch_0 : decode cX12_patch 0 = .ok (.aload_n 0, 1) := zo_42 (zkb zk_cX12_patch zn_cX12_patch rfl)
theorem dX12_patch_1 : decode cX12_patch 1 = .ok (.iload_n 1, 1) := zo_27 (zkb zk_cX12_patch zn_cX12_patch rfl)
theorem dX12_patch_2 : decode cX12_patch 2 = .ok (.ifCond .lt 14, 3) := zo_155 (b1 := 0) (b2 := 14) (zkb3 zk_cX12_patch zn_cX12_patch rfl) rfl
theorem dX12_patch_5 : decode cX12_patch 5 = .ok (.iload_n 1, 1) := zo_27 (zkb zk_cX12_patch zn_cX12_patch rfl)
theorem dX12_patch_6 : decode cX12_patch 6 = .ok (.aload_n 0, 1) := zo_42 (zkb zk_cX12_patch zn_cX12_patch rfl)
theorem dX12_patch_7 : decode cX12_patch 7 = .ok (.getfield 118, 3) := zo_180 (b1 := 0) (b2 := 118) (zkb3 zk_cX12_patch zn_cX12_patch rfl) rfl
theorem dX12_patch_10 : decode cX12_patch 10 = .ok (.bipush 8, 2) := zo_16 (b1 := 8) (zkb2 zk_cX12_patch zn_cX12_patch rfl) rfl
theorem dX12_patch_12 : decode cX12_patch 12 = .ok (.isub, 1) := zo_100 (zkb zk_cX12_patch zn_cX12_patch rfl)
theorem dX12_patch_13 : decode cX12_patch 13 = .ok (.if_icmp .le 7, 3) := zo_164 (b1 := 0) (b2 := 7) (zkb3 zk_cX12_patch zn_cX12_patch rfl) rfl
theorem dX12_patch_16 : decode cX12_patch 16 = .ok (.iconst 1, 1) := zo_4 (zkb zk_cX12_patch zn_cX12_patch rfl)
theorem dX12_patch_17 : decode cX12_patch 17 = .ok (.goto 4, 3) := zo_167 (b1 := 0) (b2 := 4) (zkb3 zk_cX12_patch zn_cX12_patch rfl) rfl
theorem dX12_patch_20 : decode cX12_patch 20 = .ok (.iconst 0, 1) := zo_3 (zkb zk_cX12_patch zn_cX12_patch rfl)
theorem dX12_patch_21 : decode cX12_patch 21 = .ok (.iconst 1, 1) := zo_4 (zkb zk_cX12_patch zn_cX12_patch rfl)
theorem dX12_patch_22 : decode cX12_patch 22 = .ok (.invokevirtual 114, 3) := zo_182 (b1 := 0) (b2 := 114) (zkb3 zk_cX12_patch zn_cX12_patch rfl) rfl
theorem dX12_patch_25 : decode cX12_patch 25 = .ok (.ifCond .eq 4, 3) := zo_153 (b1 := 0) (b2 := 4) (zkb3 zk_cX12_patch zn_cX12_patch rfl) rfl
theorem dX12_patch_28 : decode cX12_patch 28 = .ok (.return_, 1) := zo_177 (zkb zk_cX12_patch zn_cX12_patch rfl)
theorem dX12_patch_29 : decode cX12_patch 29 = .ok (.iconst 0, 1) := zo_3 (zkb zk_cX12_patch zn_cX12_patch rfl)
theorem dX12_patch_30 : decode cX12_patch 30 = .ok (.istore 4, 2) := zo_54 (b1 := 4) (zkb2 zk_cX12_patch zn_cX12_patch rfl)
theorem dX12_patch_32 : decode cX12_patch 32 = .ok (.iload 4, 2) := zo_21 (b1 := 4) (zkb2 zk_cX12_patch zn_cX12_patch rfl)
theorem dX12_patch_34 : decode cX12_patch 34 = .ok (.bipush 8, 2) := zo_16 (b1 := 8) (zkb2 zk_cX12_patch zn_cX12_patch rfl) rfl
theorem dX12_patch_36 : decode cX12_patch 36 = .ok (.if_icmp .ge 27, 3) := zo_162 (b1 := 0) (b2 := 27) (zkb3 zk_cX12_patch zn_cX12_patch rfl) rfl
theorem dX12_patch_39 : decode cX12_patch 39 = .ok (.aload_n 0, 1) := zo_42 (zkb zk_cX12_patch zn_cX12_patch rfl)
theorem dX12_patch_40 : decode cX12_patch 40 = .ok (.getfield 10, 3) := zo_180 (b1 := 0) (b2 := 10) (zkb3 zk_cX12_patch zn_cX12_patch rfl) rfl
theorem dX12_patch_43 : decode cX12_patch 43 = .ok (.iload_n 1, 1) := zo_27 (zkb zk_cX12_patch zn_cX12_patch rfl)
theorem dX12_patch_44 : decode cX12_patch 44 = .ok (.iload 4, 2) := zo_21 (b1 := 4) (zkb2 zk_cX12_patch zn_cX12_patch rfl)
theorem dX12_patch_46 : decode cX12_patch 46 = .ok (.iadd, 1) := zo_96 (zkb zk_cX12_patch zn_cX12_patch rfl)
theorem dX12_patch_47 : decode cX12_patch 47 = .ok (.lload_n 2, 1) := zo_32 (zkb zk_cX12_patch zn_cX12_patch rfl)
theorem dX12_patch_48 : decode cX12_patch 48 = .ok (.bipush 8, 2) := zo_16 (b1 := 8) (zkb2 zk_cX12_patch zn_cX12_patch rfl) rfl
theorem dX12_patch_50 : decode cX12_patch 50 = .ok (.iload 4, 2) := zo_21 (b1 := 4) (zkb2 zk_cX12_patch zn_cX12_patch rfl)
theorem dX12_patch_52 : decode cX12_patch 52 = .ok (.imul, 1) := zo_104 (zkb zk_cX12_patch zn_cX12_patch rfl)
theorem dX12_patch_53 : decode cX12_patch 53 = .ok (.lshr, 1) := zo_123 (zkb zk_cX12_patch zn_cX12_patch rfl)
theorem dX12_patch_54 : decode cX12_patch 54 = .ok (.l2i, 1) := zo_136 (zkb zk_cX12_patch zn_cX12_patch rfl)
theorem dX12_patch_55 : decode cX12_patch 55 = .ok (.i2b, 1) := zo_145 (zkb zk_cX12_patch zn_cX12_patch rfl)
theorem dX12_patch_56 : decode cX12_patch 56 = .ok (.bastore, 1) := zo_84 (zkb zk_cX12_patch zn_cX12_patch rfl)
theorem dX12_patch_57 : decode cX12_patch 57 = .ok (.iinc 4 1, 3) := zo_132 (b1 := 4) (b2 := 1) (zkb3 zk_cX12_patch zn_cX12_patch rfl) rfl
theorem dX12_patch_60 : decode cX12_patch 60 = .ok (.goto (-28), 3) := zo_167 (b1 := 255) (b2 := 228) (zkb3 zk_cX12_patch zn_cX12_patch rfl) rfl
theorem dX12_patch_63 : decode cX12_patch 63 = .ok (.return_, 1) := zo_177 (zkb zk_cX12_patch zn_cX12_patch rfl)
noncomputable def kn_cX12_bytesAt : Nat := 0xac1de5ffa7ff04843e807eff0011336004151b0f00b42a7808101d1c009b0415043664041c3e03
theorem zk_cX12_bytesAt : zkd cX12_bytesAt.data.toList kn_cX12_bytesAt = true := by decide +kernel
theorem zn_cX12_bytesAt : cX12_bytesAt.data.toList.length = 39 := by decide +kernel
theorem dX12_bytesAt_0 : decode cX12_bytesAt 0 = .ok (.iconst 0, 1) := zo_3 (zkb zk_cX12_bytesAt zn_cX12_bytesAt rfl)
theorem dX12_bytesAt_1 : decode cX12_bytesAt 1 = .ok (.istore_n 3, 1) := zo_62 (zkb zk_cX12_bytesAt zn_cX12_bytesAt rfl)
theorem dX12_bytesAt_2 : decode cX12_bytesAt 2 = .ok (.iload_n 2, 1) := zo_28 (zkb zk_cX12_bytesAt zn_cX12_bytesAt rfl)
theorem dX12_bytesAt_3 : decode cX12_bytesAt 3 = .ok (.iconst 1, 1) := zo_4 (zkb zk_cX12_bytesAt zn_cX12_bytesAt rfl)
theorem dX12_bytesAt_4 : decode cX12_bytesAt 4 = .ok (.isub, 1) := zo_100 (zkb zk_cX12_bytesAt zn_cX12_bytesAt rfl)
theorem dX12_bytesAt_5 : decode cX12_bytesAt 5 = .ok (.istore 4, 2) := zo_54 (b1 := 4) (zkb2 zk_cX12_bytesAt zn_cX12_bytesAt rfl)
theorem dX12_bytesAt_7 : decode cX12_bytesAt 7 = .ok (.iload 4, 2) := zo_21 (b1 := 4) (zkb2 zk_cX12_bytesAt zn_cX12_bytesAt rfl)
theorem dX12_bytesAt_9 : decode cX12_bytesAt 9 = .ok (.ifCond .lt 28, 3) := zo_155 (b1 := 0) (b2 := 28) (zkb3 zk_cX12_bytesAt zn_cX12_bytesAt rfl) rfl
theorem dX12_bytesAt_12 : decode cX12_bytesAt 12 = .ok (.iload_n 3, 1) := zo_29 (zkb zk_cX12_bytesAt zn_cX12_bytesAt rfl)
theorem dX12_bytesAt_13 : decode cX12_bytesAt 13 = .ok (.bipush 8, 2) := zo_16 (b1 := 8) (zkb2 zk_cX12_bytesAt zn_cX12_bytesAt rfl) rfl
theorem dX12_bytesAt_15 : decode cX12_bytesAt 15 = .ok (.ishl, 1) := zo_120 (zkb zk_cX12_bytesAt zn_cX12_bytesAt rfl)
theorem dX12_bytesAt_16 : decode cX12_bytesAt 16 = .ok (.aload_n 0, 1) := zo_42 (zkb zk_cX12_bytesAt zn_cX12_bytesAt rfl)
theorem dX12_bytesAt_17 : decode cX12_bytesAt 17 = .ok (.getfield 15, 3) := zo_180 (b1 := 0) (b2 := 15) (zkb3 zk_cX12_bytesAt zn_cX12_bytesAt rfl) rfl
theorem dX12_bytesAt_20 : decode cX12_bytesAt 20 = .ok (.iload_n 1, 1) := zo_27 (zkb zk_cX12_bytesAt zn_cX12_bytesAt rfl)
theorem dX12_bytesAt_21 : decode cX12_bytesAt 21 = .ok (.iload 4, 2) := zo_21 (b1 := 4) (zkb2 zk_cX12_bytesAt zn_cX12_bytesAt rfl)
theorem dX12_bytesAt_23 : decode cX12_bytesAt 23 = .ok (.iadd, 1) := zo_96 (zkb zk_cX12_bytesAt zn_cX12_bytesAt rfl)
theorem dX12_bytesAt_24 : decode cX12_bytesAt 24 = .ok (.baload, 1) := zo_51 (zkb zk_cX12_bytesAt zn_cX12_bytesAt rfl)
theorem dX12_bytesAt_25 : decode cX12_bytesAt 25 = .ok (.sipush 255, 3) := zo_17 (b1 := 0) (b2 := 255) (zkb3 zk_cX12_bytesAt zn_cX12_bytesAt rfl) rfl
theorem dX12_bytesAt_28 : decode cX12_bytesAt 28 = .ok (.iand, 1) := zo_126 (zkb zk_cX12_bytesAt zn_cX12_bytesAt rfl)
theorem dX12_bytesAt_29 : decode cX12_bytesAt 29 = .ok (.ior, 1) := zo_128 (zkb zk_cX12_bytesAt zn_cX12_bytesAt rfl)
theorem dX12_bytesAt_30 : decode cX12_bytesAt 30 = .ok (.istore_n 3, 1) := zo_62 (zkb zk_cX12_bytesAt zn_cX12_bytesAt rfl)
theorem dX12_bytesAt_31 : decode cX12_bytesAt 31 = .ok (.iinc 4 (-1), 3) := zo_132 (b1 := 4) (b2 := 255) (zkb3 zk_cX12_bytesAt zn_cX12_bytesAt rfl) rfl
theorem dX12_bytesAt_34 : decode cX12_bytesAt 34 = .ok (.goto (-27), 3) := zo_167 (b1 := 255) (b2 := 229) (zkb3 zk_cX12_bytesAt zn_cX12_bytesAt rfl) rfl
theorem dX12_bytesAt_37 : decode cX12_bytesAt 37 = .ok (.iload_n 3, 1) := zo_29 (zkb zk_cX12_bytesAt zn_cX12_bytesAt rfl)
theorem dX12_bytesAt_38 : decode cX12_bytesAt 38 = .ok (.ireturn, 1) := zo_172 (zkb zk_cX12_bytesAt zn_cX12_bytesAt rfl)
noncomputable def kn_cX12_load : Nat := 0xac039000b5032aedffa7010684540306151e00b42a1100a200201106150636036600b62a8c00b57e8f128c00b42a0a00a70307009c1200b42a2ad3ffa70106848c00b5607eff00113306150f00b42a8c00b4592a1d00a20605150900a30d1005152a00a27900b42a061506362112e0ffa70106848c00b5607eff00113306150f00b42a8c00b4592a1d00a21200b42a061506360305367e0f1033600f101200b42a0f00b42a1200a70607009c1200b42a8c00b5032a8900b5040400a70607009c1200b42a0f00a7050700a088126004151d10009e1d2000a7030700a383127900b42a2a0436030400a78400b605e87f112a0e00a483127900b42a3e030400a78400b605e67f112a0e00a483127900b42ae6ffa73e601010681d051200b51d2a0800997f00b61d2a1a00a221121d3ef01f111200b5022ad7ffa701038454020400a733601d1b0a00b42a0e00a27900b42a1d1d0f00b42a2300a2687c00b42a0040111d3e037c00b56c00401160ff3f117900b42a2a7900b51c2aac060500a40e121cac05050099700020111cac040500a20020111c7600b5032a3d641b7600b42a3c030400a70002110900a0000211700040117600b42a6900b5032a
theorem zk_cX12_load : zkd cX12_load.data.toList kn_cX12_load = true := by decide +kernel
theorem zn_cX12_load : cX12_load.data.toList.length = 443 := by decide +kernel
theorem dX12_load_0 : decode cX12_load 0 = .ok (.aload_n 0, 1) := zo_42 (zkb zk_cX12_load zn_cX12_load rfl)
theorem dX12_load_1 : decode cX12_load 1 = .ok (.iconst 0, 1) := zo_3 (zkb zk_cX12_load zn_cX12_load rfl)
theorem dX12_load_2 : decode cX12_load 2 = .ok (.putfield 105, 3) := zo_181 (b1 := 0) (b2 := 105) (zkb3 zk_cX12_load zn_cX12_load rfl) rfl
theorem dX12_load_5 : decode cX12_load 5 = .ok (.aload_n 0, 1) := zo_42 (zkb zk_cX12_load zn_cX12_load rfl)
theorem dX12_load_6 : decode cX12_load 6 = .ok (.getfield 118, 3) := zo_180 (b1 := 0) (b2 := 118) (zkb3 zk_cX12_load zn_cX12_load rfl) rfl
theorem dX12_load_9 : decode cX12_load 9 = .ok (.sipush 16384, 3) := zo_17 (b1 := 64) (b2 := 0) (zkb3 zk_cX12_load zn_cX12_load rfl) rfl
theorem dX12_load_12 : decode cX12_load 12 = .ok (.irem, 1) := zo_112 (zkb zk_cX12_load zn_cX12_load rfl)
theorem dX12_load_13 : decode cX12_load 13 = .ok (.sipush 512, 3) := zo_17 (b1 := 2) (b2 := 0) (zkb3 zk_cX12_load zn_cX12_load rfl) rfl
theorem dX12_load_16 : decode cX12_load 16 = .ok (.if_icmp .ne 9, 3) := zo_160 (b1 := 0) (b2 := 9) (zkb3 zk_cX12_load zn_cX12_load rfl) rfl
theorem dX12_load_19 : decode cX12_load 19 = .ok (.sipush 512, 3) := zo_17 (b1 := 2) (b2 := 0) (zkb3 zk_cX12_load zn_cX12_load rfl) rfl
theorem dX12_load_22 : decode cX12_load 22 = .ok (.goto 4, 3) := zo_167 (b1 := 0) (b2 := 4) (zkb3 zk_cX12_load zn_cX12_load rfl) rfl
theorem dX12_load_25 : decode cX12_load 25 = .ok (.iconst 0, 1) := zo_3 (zkb zk_cX12_load zn_cX12_load rfl)
theorem dX12_load_26 : decode cX12_load 26 = .ok (.istore_n 1, 1) := zo_60 (zkb zk_cX12_load zn_cX12_load rfl)
theorem dX12_load_27 : decode cX12_load 27 = .ok (.aload_n 0, 1) := zo_42 (zkb zk_cX12_load zn_cX12_load rfl)
theorem dX12_load_28 : decode cX12_load 28 = .ok (.getfield 118, 3) := zo_180 (b1 := 0) (b2 := 118) (zkb3 zk_cX12_load zn_cX12_load rfl) rfl
theorem dX12_load_31 : decode cX12_load 31 = .ok (.iload_n 1, 1) := zo_27 (zkb zk_cX12_load zn_cX12_load rfl)
theorem dX12_load_32 : decode cX12_load 32 = .ok (.isub, 1) := zo_100 (zkb zk_cX12_load zn_cX12_load rfl)
theorem dX12_load_33 : decode cX12_load 33 = .ok (.istore_n 2, 1) := zo_61 (zkb zk_cX12_load zn_cX12_load rfl)
theorem dX12_load_34 : decode cX12_load 34 = .ok (.aload_n 0, 1) := zo_42 (zkb zk_cX12_load zn_cX12_load rfl)
theorem dX12_load_35 : decode cX12_load 35 = .ok (.iconst 0, 1) := zo_3 (zkb zk_cX12_load zn_cX12_load rfl)
theorem dX12_load_36 : decode cX12_load 36 = .ok (.putfield 118, 3) := zo_181 (b1 := 0) (b2 := 118) (zkb3 zk_cX12_load zn_cX12_load rfl) rfl
theorem dX12_load_39 : decode cX12_load 39 = .ok (.iload_n 2, 1) := zo_28 (zkb zk_cX12_load zn_cX12_load rfl)
theorem dX12_load_40 : decode cX12_load 40 = .ok (.sipush 8192, 3) := zo_17 (b1 := 32) (b2 := 0) (zkb3 zk_cX12_load zn_cX12_load rfl) rfl
theorem dX12_load_43 : decode cX12_load 43 = .ok (.if_icmp .ge 5, 3) := zo_162 (b1 := 0) (b2 := 5) (zkb3 zk_cX12_load zn_cX12_load rfl) rfl
theorem dX12_load_46 : decode cX12_load 46 = .ok (.iconst 1, 1) := zo_4 (zkb zk_cX12_load zn_cX12_load rfl)
theorem dX12_load_47 : decode cX12_load 47 = .ok (.ireturn, 1) := zo_172 (zkb zk_cX12_load zn_cX12_load rfl)
theorem dX12_load_48 : decode cX12_load 48 = .ok (.iload_n 2, 1) := zo_28 (zkb zk_cX12_load zn_cX12_load rfl)
theorem dX12_load_49 : decode cX12_load 49 = .ok (.sipush 8192, 3) := zo_17 (b1 := 32) (b2 := 0) (zkb3 zk_cX12_load zn_cX12_load rfl) rfl
theorem dX12_load_52 : decode cX12_load 52 = .ok (.irem, 1) := zo_112 (zkb zk_cX12_load zn_cX12_load rfl)
theorem dX12_load_53 : decode cX12_load 53 = .ok (.ifCond .eq 5, 3) := zo_153 (b1 := 0) (b2 := 5) (zkb3 zk_cX12_load zn_cX12_load rfl) rfl
theorem dX12_load_56 : decode cX12_load 56 = .ok (.iconst 2, 1) := zo_5 (zkb zk_cX12_load zn_cX12_load rfl)
theorem dX12_load_57 : decode cX12_load 57 = .ok (.ireturn, 1) := zo_172 (zkb zk_cX12_load zn_cX12_load rfl)
theorem dX12_load_58 : decode cX12_load 58 = .ok (.iload_n 2, 1) := zo_28 (zkb zk_cX12_load zn_cX12_load rfl)
theorem dX12_load_59 : decode cX12_load 59 = .ok (.ldc 14, 2) := zo_18 (b1 := 14) (zkb2 zk_cX12_load zn_cX12_load rfl)
theorem dX12_load_61 : decode cX12_load 61 = .ok (.if_icmp .le 5, 3) := zo_164 (b1 := 0) (b2 := 5) (zkb3 zk_cX12_load zn_cX12_load rfl) rfl
theorem dX12_load_64 : decode cX12_load 64 = .ok (.iconst 3, 1) := zo_6 (zkb zk_cX12_load zn_cX12_load rfl)
theorem dX12_load_65 : decode cX12_load 65 = .ok (.ireturn, 1) := zo_172 (zkb zk_cX12_load zn_cX12_load rfl)
theorem dX12_load_66 : decode cX12_load 66 = .ok (.aload_n 0, 1) := zo_42 (zkb zk_cX12_load zn_cX12_load rfl)
theorem dX12_load_67 : decode cX12_load 67 = .ok (.iload_n 2, 1) := zo_28 (zkb zk_cX12_load zn_cX12_load rfl)
theorem dX12_load_68 : decode cX12_load 68 = .ok (.putfield 121, 3) := zo_181 (b1 := 0) (b2 := 121) (zkb3 zk_cX12_load zn_cX12_load rfl) rfl
theorem dX12_load_71 : decode cX12_load 71 = .ok (.aload_n 0, 1) := zo_42 (zkb zk_cX12_load zn_cX12_load rfl)
theorem dX12_load_72 : decode cX12_load 72 = .ok (.aload_n 0, 1) := zo_42 (zkb zk_cX12_load zn_cX12_load rfl)
theorem dX12_load_73 : decode cX12_load 73 = .ok (.getfield 121, 3) := zo_180 (b1 := 0) (b2 := 121) (zkb3 zk_cX12_load zn_cX12_load rfl) rfl
theorem dX12_load_76 : decode cX12_load 76 = .ok (.sipush 16383, 3) := zo_17 (b1 := 63) (b2 := 255) (zkb3 zk_cX12_load zn_cX12_load rfl) rfl
theorem dX12_load_79 : decode cX12_load 79 = .ok (.iadd, 1) := zo_96 (zkb zk_cX12_load zn_cX12_load rfl)
theorem dX12_load_80 : decode cX12_load 80 = .ok (.sipush 16384, 3) := zo_17 (b1 := 64) (b2 := 0) (zkb3 zk_cX12_load zn_cX12_load rfl) rfl
theorem dX12_load_83 : decode cX12_load 83 = .ok (.idiv, 1) := zo_108 (zkb zk_cX12_load zn_cX12_load rfl)
theorem dX12_load_84 : decode cX12_load 84 = .ok (.putfield 124, 3) := zo_181 (b1 := 0) (b2 := 124) (zkb3 zk_cX12_load zn_cX12_load rfl) rfl
theorem dX12_load_87 : decode cX12_load 87 = .ok (.iconst 0, 1) := zo_3 (zkb zk_cX12_load zn_cX12_load rfl)
theorem dX12_load_88 : decode cX12_load 88 = .ok (.istore_n 3, 1) := zo_62 (zkb zk_cX12_load zn_cX12_load rfl)
theorem dX12_load_89 : decode cX12_load 89 = .ok (.iload_n 3, 1) := zo_29 (zkb zk_cX12_load zn_cX12_load rfl)
theorem dX12_load_90 : decode cX12_load 90 = .ok (.sipush 16384, 3) := zo_17 (b1 := 64) (b2 := 0) (zkb3 zk_cX12_load zn_cX12_load rfl) rfl
theorem dX12_load_93 : decode cX12_load 93 = .ok (.aload_n 0, 1) := zo_42 (zkb zk_cX12_load zn_cX12_load rfl)
theorem dX12_load_94 : decode cX12_load 94 = .ok (.getfield 124, 3) := zo_180 (b1 := 0) (b2 := 124) (zkb3 zk_cX12_load zn_cX12_load rfl) rfl
theorem dX12_load_97 : decode cX12_load 97 = .ok (.imul, 1) := zo_104 (zkb zk_cX12_load zn_cX12_load rfl)
theorem dX12_load_98 : decode cX12_load 98 = .ok (.if_icmp .ge 35, 3) := zo_162 (b1 := 0) (b2 := 35) (zkb3 zk_cX12_load zn_cX12_load rfl) rfl
theorem dX12_load_101 : decode cX12_load 101 = .ok (.aload_n 0, 1) := zo_42 (zkb zk_cX12_load zn_cX12_load rfl)
theorem dX12_load_102 : decode cX12_load 102 = .ok (.getfield 15, 3) := zo_180 (b1 := 0) (b2 := 15) (zkb3 zk_cX12_load zn_cX12_load rfl) rfl
theorem dX12_load_105 : decode cX12_load 105 = .ok (.iload_n 3, 1) := zo_29 (zkb zk_cX12_load zn_cX12_load rfl)
theorem dX12_load_106 : decode cX12_load 106 = .ok (.iload_n 3, 1) := zo_29 (zkb zk_cX12_load zn_cX12_load rfl)
theorem dX12_load_107 : decode cX12_load 107 = .ok (.aload_n 0, 1) := zo_42 (zkb zk_cX12_load zn_cX12_load rfl)
theorem dX12_load_108 : decode cX12_load 108 = .ok (.getfield 121, 3) := zo_180 (b1 := 0) (b2 := 121) (zkb3 zk_cX12_load zn_cX12_load rfl) rfl
theorem dX12_load_111 : decode cX12_load 111 = .ok (.if_icmp .ge 14, 3) := zo_162 (b1 := 0) (b2 := 14) (zkb3 zk_cX12_load zn_cX12_load rfl) rfl
theorem dX12_load_114 : decode cX12_load 114 = .ok (.aload_n 0, 1) := zo_42 (zkb zk_cX12_load zn_cX12_load rfl)
theorem dX12_load_115 : decode cX12_load 115 = .ok (.getfield 10, 3) := zo_180 (b1 := 0) (b2 := 10) (zkb3 zk_cX12_load zn_cX12_load rfl) rfl
theorem dX12_load_118 : decode cX12_load 118 = .ok (.iload_n 1, 1) := zo_27 (zkb zk_cX12_load zn_cX12_load rfl)
theorem dX12_load_119 : decode cX12_load 119 = .ok (.iload_n 3, 1) := zo_29 (zkb zk_cX12_load zn_cX12_load rfl)
theorem dX12_load_120 : decode cX12_load 120 = .ok (.iadd, 1) := zo_96 (zkb zk_cX12_load zn_cX12_load rfl)
theorem dX12_load_121 : decode cX12_load 121 = .ok (.baload, 1) := zo_51 (zkb zk_cX12_load zn_cX12_load rfl)
theorem dX12_load_122 : decode cX12_load 122 = .ok (.goto 4, 3) := zo_167 (b1 := 0) (b2 := 4) (zkb3 zk_cX12_load zn_cX12_load rfl) rfl
theorem dX12_load_125 : decode cX12_load 125 = .ok (.iconst (-1), 1) := zo_2 (zkb zk_cX12_load zn_cX12_load rfl)
theorem dX12_load_126 : decode cX12_load 126 = .ok (.bastore, 1) := zo_84 (zkb zk_cX12_load zn_cX12_load rfl)
theorem dX12_load_127 : decode cX12_load 127 = .ok (.iinc 3 1, 3) := zo_132 (b1 := 3) (b2 := 1) (zkb3 zk_cX12_load zn_cX12_load rfl) rfl
theorem dX12_load_130 : decode cX12_load 130 = .ok (.goto (-41), 3) := zo_167 (b1 := 255) (b2 := 215) (zkb3 zk_cX12_load zn_cX12_load rfl) rfl
theorem dX12_load_133 : decode cX12_load 133 = .ok (.aload_n 0, 1) := zo_42 (zkb zk_cX12_load zn_cX12_load rfl)
theorem dX12_load_134 : decode cX12_load 134 = .ok (.iconst (-1), 1) := zo_2 (zkb zk_cX12_load zn_cX12_load rfl)
theorem dX12_load_135 : decode cX12_load 135 = .ok (.putfield 18, 3) := zo_181 (b1 := 0) (b2 := 18) (zkb3 zk_cX12_load zn_cX12_load rfl) rfl
theorem dX12_load_138 : decode cX12_load 138 = .ok (.sipush 8176, 3) := zo_17 (b1 := 31) (b2 := 240) (zkb3 zk_cX12_load zn_cX12_load rfl) rfl
theorem dX12_load_141 : decode cX12_load 141 = .ok (.istore_n 3, 1) := zo_62 (zkb zk_cX12_load zn_cX12_load rfl)
theorem dX12_load_142 : decode cX12_load 142 = .ok (.iload_n 3, 1) := zo_29 (zkb zk_cX12_load zn_cX12_load rfl)
theorem dX12_load_143 : decode cX12_load 143 = .ok (.ldc 33, 2) := zo_18 (b1 := 33) (zkb2 zk_cX12_load zn_cX12_load rfl)
theorem dX12_load_145 : decode cX12_load 145 = .ok (.if_icmp .ge 26, 3) := zo_162 (b1 := 0) (b2 := 26) (zkb3 zk_cX12_load zn_cX12_load rfl) rfl
theorem dX12_load_148 : decode cX12_load 148 = .ok (.aload_n 0, 1) := zo_42 (zkb zk_cX12_load zn_cX12_load rfl)
theorem dX12_load_149 : decode cX12_load 149 = .ok (.iload_n 3, 1) := zo_29 (zkb zk_cX12_load zn_cX12_load rfl)
theorem dX12_load_150 : decode cX12_load 150 = .ok (.invokevirtual 127, 3) := zo_182 (b1 := 0) (b2 := 127) (zkb3 zk_cX12_load zn_cX12_load rfl) rfl
theorem dX12_load_153 : decode cX12_load 153 = .ok (.ifCond .eq 8, 3) := zo_153 (b1 := 0) (b2 := 8) (zkb3 zk_cX12_load zn_cX12_load rfl) rfl
theorem dX12_load_156 : decode cX12_load 156 = .ok (.aload_n 0, 1) := zo_42 (zkb zk_cX12_load zn_cX12_load rfl)
theorem dX12_load_157 : decode cX12_load 157 = .ok (.iload_n 3, 1) := zo_29 (zkb zk_cX12_load zn_cX12_load rfl)
theorem dX12_load_158 : decode cX12_load 158 = .ok (.putfield 18, 3) := zo_181 (b1 := 0) (b2 := 18) (zkb3 zk_cX12_load zn_cX12_load rfl) rfl
theorem dX12_load_161 : decode cX12_load 161 = .ok (.iconst 2, 1) := zo_5 (zkb zk_cX12_load zn_cX12_load rfl)
theorem dX12_load_162 : decode cX12_load 162 = .ok (.iload_n 3, 1) := zo_29 (zkb zk_cX12_load zn_cX12_load rfl)
theorem dX12_load_163 : decode cX12_load 163 = .ok (.imul, 1) := zo_104 (zkb zk_cX12_load zn_cX12_load rfl)
theorem dX12_load_164 : decode cX12_load 164 = .ok (.bipush 16, 2) := zo_16 (b1 := 16) (zkb2 zk_cX12_load zn_cX12_load rfl) rfl
theorem dX12_load_166 : decode cX12_load 166 = .ok (.iadd, 1) := zo_96 (zkb zk_cX12_load zn_cX12_load rfl)
theorem dX12_load_167 : decode cX12_load 167 = .ok (.istore_n 3, 1) := zo_62 (zkb zk_cX12_load zn_cX12_load rfl)
theorem dX12_load_168 : decode cX12_load 168 = .ok (.goto (-26), 3) := zo_167 (b1 := 255) (b2 := 230) (zkb3 zk_cX12_load zn_cX12_load rfl) rfl
theorem dX12_load_171 : decode cX12_load 171 = .ok (.aload_n 0, 1) := zo_42 (zkb zk_cX12_load zn_cX12_load rfl)
theorem dX12_load_172 : decode cX12_load 172 = .ok (.getfield 121, 3) := zo_180 (b1 := 0) (b2 := 121) (zkb3 zk_cX12_load zn_cX12_load rfl) rfl
theorem dX12_load_175 : decode cX12_load 175 = .ok (.ldc 131, 2) := zo_18 (b1 := 131) (zkb2 zk_cX12_load zn_cX12_load rfl)
theorem dX12_load_177 : decode cX12_load 177 = .ok (.if_icmp .le 14, 3) := zo_164 (b1 := 0) (b2 := 14) (zkb3 zk_cX12_load zn_cX12_load rfl) rfl
theorem dX12_load_180 : decode cX12_load 180 = .ok (.aload_n 0, 1) := zo_42 (zkb zk_cX12_load zn_cX12_load rfl)
theorem dX12_load_181 : decode cX12_load 181 = .ok (.sipush 32742, 3) := zo_17 (b1 := 127) (b2 := 230) (zkb3 zk_cX12_load zn_cX12_load rfl) rfl
theorem dX12_load_184 : decode cX12_load 184 = .ok (.iconst 2, 1) := zo_5 (zkb zk_cX12_load zn_cX12_load rfl)
theorem dX12_load_185 : decode cX12_load 185 = .ok (.invokevirtual 132, 3) := zo_182 (b1 := 0) (b2 := 132) (zkb3 zk_cX12_load zn_cX12_load rfl) rfl
theorem dX12_load_188 : decode cX12_load 188 = .ok (.goto 4, 3) := zo_167 (b1 := 0) (b2 := 4) (zkb3 zk_cX12_load zn_cX12_load rfl) rfl
theorem dX12_load_191 : decode cX12_load 191 = .ok (.iconst 0, 1) := zo_3 (zkb zk_cX12_load zn_cX12_load rfl)
theorem dX12_load_192 : decode cX12_load 192 = .ok (.istore_n 3, 1) := zo_62 (zkb zk_cX12_load zn_cX12_load rfl)
theorem dX12_load_193 : decode cX12_load 193 = .ok (.aload_n 0, 1) := zo_42 (zkb zk_cX12_load zn_cX12_load rfl)
theorem dX12_load_194 : decode cX12_load 194 = .ok (.getfield 121, 3) := zo_180 (b1 := 0) (b2 := 121) (zkb3 zk_cX12_load zn_cX12_load rfl) rfl
theorem dX12_load_197 : decode cX12_load 197 = .ok (.ldc 131, 2) := zo_18 (b1 := 131) (zkb2 zk_cX12_load zn_cX12_load rfl)
theorem dX12_load_199 : decode cX12_load 199 = .ok (.if_icmp .le 14, 3) := zo_164 (b1 := 0) (b2 := 14) (zkb3 zk_cX12_load zn_cX12_load rfl) rfl
theorem dX12_load_202 : decode cX12_load 202 = .ok (.aload_n 0, 1) := zo_42 (zkb zk_cX12_load zn_cX12_load rfl)
theorem dX12_load_203 : decode cX12_load 203 = .ok (.sipush 32744, 3) := zo_17 (b1 := 127) (b2 := 232) (zkb3 zk_cX12_load zn_cX12_load rfl) rfl
theorem dX12_load_206 : decode cX12_load 206 = .ok (.iconst 2, 1) := zo_5 (zkb zk_cX12_load zn_cX12_load rfl)
theorem dX12_load_207 : decode cX12_load 207 = .ok (.invokevirtual 132, 3) := zo_182 (b1 := 0) (b2 := 132) (zkb3 zk_cX12_load zn_cX12_load rfl) rfl
theorem dX12_load_210 : decode cX12_load 210 = .ok (.goto 4, 3) := zo_167 (b1 := 0) (b2 := 4) (zkb3 zk_cX12_load zn_cX12_load rfl) rfl
theorem dX12_load_213 : decode cX12_load 213 = .ok (.iconst 0, 1) := zo_3 (zkb zk_cX12_load zn_cX12_load rfl)
theorem dX12_load_214 : decode cX12_load 214 = .ok (.istore 4, 2) := zo_54 (b1 := 4) (zkb2 zk_cX12_load zn_cX12_load rfl)
theorem dX12_load_216 : decode cX12_load 216 = .ok (.aload_n 0, 1) := zo_42 (zkb zk_cX12_load zn_cX12_load rfl)
theorem dX12_load_217 : decode cX12_load 217 = .ok (.aload_n 0, 1) := zo_42 (zkb zk_cX12_load zn_cX12_load rfl)
theorem dX12_load_218 : decode cX12_load 218 = .ok (.getfield 121, 3) := zo_180 (b1 := 0) (b2 := 121) (zkb3 zk_cX12_load zn_cX12_load rfl) rfl
theorem dX12_load_221 : decode cX12_load 221 = .ok (.ldc 131, 2) := zo_18 (b1 := 131) (zkb2 zk_cX12_load zn_cX12_load rfl)
theorem dX12_load_223 : decode cX12_load 223 = .ok (.if_icmp .gt 7, 3) := zo_163 (b1 := 0) (b2 := 7) (zkb3 zk_cX12_load zn_cX12_load rfl) rfl
theorem dX12_load_226 : decode cX12_load 226 = .ok (.iconst 0, 1) := zo_3 (zkb zk_cX12_load zn_cX12_load rfl)
theorem dX12_load_227 : decode cX12_load 227 = .ok (.goto 32, 3) := zo_167 (b1 := 0) (b2 := 32) (zkb3 zk_cX12_load zn_cX12_load rfl) rfl
theorem dX12_load_230 : decode cX12_load 230 = .ok (.iload_n 3, 1) := zo_29 (zkb zk_cX12_load zn_cX12_load rfl)
theorem dX12_load_231 : decode cX12_load 231 = .ok (.ifCond .le 16, 3) := zo_158 (b1 := 0) (b2 := 16) (zkb3 zk_cX12_load zn_cX12_load rfl) rfl
theorem dX12_load_234 : decode cX12_load 234 = .ok (.iload_n 3, 1) := zo_29 (zkb zk_cX12_load zn_cX12_load rfl)
theorem dX12_load_235 : decode cX12_load 235 = .ok (.iload 4, 2) := zo_21 (b1 := 4) (zkb2 zk_cX12_load zn_cX12_load rfl)
theorem dX12_load_237 : decode cX12_load 237 = .ok (.iadd, 1) := zo_96 (zkb zk_cX12_load zn_cX12_load rfl)
theorem dX12_load_238 : decode cX12_load 238 = .ok (.ldc 136, 2) := zo_18 (b1 := 136) (zkb2 zk_cX12_load zn_cX12_load rfl)
theorem dX12_load_240 : decode cX12_load 240 = .ok (.if_icmp .ne 7, 3) := zo_160 (b1 := 0) (b2 := 7) (zkb3 zk_cX12_load zn_cX12_load rfl) rfl
theorem dX12_load_243 : decode cX12_load 243 = .ok (.iconst 2, 1) := zo_5 (zkb zk_cX12_load zn_cX12_load rfl)
theorem dX12_load_244 : decode cX12_load 244 = .ok (.goto 15, 3) := zo_167 (b1 := 0) (b2 := 15) (zkb3 zk_cX12_load zn_cX12_load rfl) rfl
theorem dX12_load_247 : decode cX12_load 247 = .ok (.aload_n 0, 1) := zo_42 (zkb zk_cX12_load zn_cX12_load rfl)
theorem dX12_load_248 : decode cX12_load 248 = .ok (.getfield 18, 3) := zo_180 (b1 := 0) (b2 := 18) (zkb3 zk_cX12_load zn_cX12_load rfl) rfl
theorem dX12_load_251 : decode cX12_load 251 = .ok (.ifCond .ge 7, 3) := zo_156 (b1 := 0) (b2 := 7) (zkb3 zk_cX12_load zn_cX12_load rfl) rfl
theorem dX12_load_254 : decode cX12_load 254 = .ok (.iconst 3, 1) := zo_6 (zkb zk_cX12_load zn_cX12_load rfl)
theorem dX12_load_255 : decode cX12_load 255 = .ok (.goto 4, 3) := zo_167 (b1 := 0) (b2 := 4) (zkb3 zk_cX12_load zn_cX12_load rfl) rfl
theorem dX12_load_258 : decode cX12_load 258 = .ok (.iconst 1, 1) := zo_4 (zkb zk_cX12_load zn_cX12_load rfl)
theorem dX12_load_259 : decode cX12_load 259 = .ok (.putfield 137, 3) := zo_181 (b1 := 0) (b2 := 137) (zkb3 zk_cX12_load zn_cX12_load rfl) rfl
theorem dX12_load_262 : decode cX12_load 262 = .ok (.aload_n 0, 1) := zo_42 (zkb zk_cX12_load zn_cX12_load rfl)
theorem dX12_load_263 : decode cX12_load 263 = .ok (.iconst 0, 1) := zo_3 (zkb zk_cX12_load zn_cX12_load rfl)
theorem dX12_load_264 : decode cX12_load 264 = .ok (.putfield 140, 3) := zo_181 (b1 := 0) (b2 := 140) (zkb3 zk_cX12_load zn_cX12_load rfl) rfl
theorem dX12_load_267 : decode cX12_load 267 = .ok (.aload_n 0, 1) := zo_42 (zkb zk_cX12_load zn_cX12_load rfl)
theorem dX12_load_268 : decode cX12_load 268 = .ok (.getfield 18, 3) := zo_180 (b1 := 0) (b2 := 18) (zkb3 zk_cX12_load zn_cX12_load rfl) rfl
theorem dX12_load_271 : decode cX12_load 271 = .ok (.ifCond .ge 7, 3) := zo_156 (b1 := 0) (b2 := 7) (zkb3 zk_cX12_load zn_cX12_load rfl) rfl
theorem dX12_load_274 : decode cX12_load 274 = .ok (.iconst 3, 1) := zo_6 (zkb zk_cX12_load zn_cX12_load rfl)
theorem dX12_load_275 : decode cX12_load 275 = .ok (.goto 18, 3) := zo_167 (b1 := 0) (b2 := 18) (zkb3 zk_cX12_load zn_cX12_load rfl) rfl
theorem dX12_load_278 : decode cX12_load 278 = .ok (.aload_n 0, 1) := zo_42 (zkb zk_cX12_load zn_cX12_load rfl)
theorem dX12_load_279 : decode cX12_load 279 = .ok (.getfield 15, 3) := zo_180 (b1 := 0) (b2 := 15) (zkb3 zk_cX12_load zn_cX12_load rfl) rfl
theorem dX12_load_282 : decode cX12_load 282 = .ok (.aload_n 0, 1) := zo_42 (zkb zk_cX12_load zn_cX12_load rfl)
theorem dX12_load_283 : decode cX12_load 283 = .ok (.getfield 18, 3) := zo_180 (b1 := 0) (b2 := 18) (zkb3 zk_cX12_load zn_cX12_load rfl) rfl
theorem dX12_load_286 : decode cX12_load 286 = .ok (.bipush 15, 2) := zo_16 (b1 := 15) (zkb2 zk_cX12_load zn_cX12_load rfl) rfl
theorem dX12_load_288 : decode cX12_load 288 = .ok (.iadd, 1) := zo_96 (zkb zk_cX12_load zn_cX12_load rfl)
theorem dX12_load_289 : decode cX12_load 289 = .ok (.baload, 1) := zo_51 (zkb zk_cX12_load zn_cX12_load rfl)
theorem dX12_load_290 : decode cX12_load 290 = .ok (.bipush 15, 2) := zo_16 (b1 := 15) (zkb2 zk_cX12_load zn_cX12_load rfl) rfl
theorem dX12_load_292 : decode cX12_load 292 = .ok (.iand, 1) := zo_126 (zkb zk_cX12_load zn_cX12_load rfl)
theorem dX12_load_293 : decode cX12_load 293 = .ok (.istore 5, 2) := zo_54 (b1 := 5) (zkb2 zk_cX12_load zn_cX12_load rfl)
theorem dX12_load_295 : decode cX12_load 295 = .ok (.iconst 0, 1) := zo_3 (zkb zk_cX12_load zn_cX12_load rfl)
theorem dX12_load_296 : decode cX12_load 296 = .ok (.istore 6, 2) := zo_54 (b1 := 6) (zkb2 zk_cX12_load zn_cX12_load rfl)
theorem dX12_load_298 : decode cX12_load 298 = .ok (.iload 6, 2) := zo_21 (b1 := 6) (zkb2 zk_cX12_load zn_cX12_load rfl)
theorem dX12_load_300 : decode cX12_load 300 = .ok (.aload_n 0, 1) := zo_42 (zkb zk_cX12_load zn_cX12_load rfl)
theorem dX12_load_301 : decode cX12_load 301 = .ok (.getfield 18, 3) := zo_180 (b1 := 0) (b2 := 18) (zkb3 zk_cX12_load zn_cX12_load rfl) rfl
theorem dX12_load_304 : decode cX12_load 304 = .ok (.if_icmp .ge 29, 3) := zo_162 (b1 := 0) (b2 := 29) (zkb3 zk_cX12_load zn_cX12_load rfl) rfl
theorem dX12_load_307 : decode cX12_load 307 = .ok (.aload_n 0, 1) := zo_42 (zkb zk_cX12_load zn_cX12_load rfl)
theorem dX12_load_308 : decode cX12_load 308 = .ok (.dup, 1) := zo_89 (zkb zk_cX12_load zn_cX12_load rfl)
theorem dX12_load_309 : decode cX12_load 309 = .ok (.getfield 140, 3) := zo_180 (b1 := 0) (b2 := 140) (zkb3 zk_cX12_load zn_cX12_load rfl) rfl
theorem dX12_load_312 : decode cX12_load 312 = .ok (.aload_n 0, 1) := zo_42 (zkb zk_cX12_load zn_cX12_load rfl)
theorem dX12_load_313 : decode cX12_load 313 = .ok (.getfield 15, 3) := zo_180 (b1 := 0) (b2 := 15) (zkb3 zk_cX12_load zn_cX12_load rfl) rfl
theorem dX12_load_316 : decode cX12_load 316 = .ok (.iload 6, 2) := zo_21 (b1 := 6) (zkb2 zk_cX12_load zn_cX12_load rfl)
theorem dX12_load_318 : decode cX12_load 318 = .ok (.baload, 1) := zo_51 (zkb zk_cX12_load zn_cX12_load rfl)
theorem dX12_load_319 : decode cX12_load 319 = .ok (.sipush 255, 3) := zo_17 (b1 := 0) (b2 := 255) (zkb3 zk_cX12_load zn_cX12_load rfl) rfl
theorem dX12_load_322 : decode cX12_load 322 = .ok (.iand, 1) := zo_126 (zkb zk_cX12_load zn_cX12_load rfl)
theorem dX12_load_323 : decode cX12_load 323 = .ok (.iadd, 1) := zo_96 (zkb zk_cX12_load zn_cX12_load rfl)
theorem dX12_load_324 : decode cX12_load 324 = .ok (.putfield 140, 3) := zo_181 (b1 := 0) (b2 := 140) (zkb3 zk_cX12_load zn_cX12_load rfl) rfl
theorem dX12_load_327 : decode cX12_load 327 = .ok (.iinc 6 1, 3) := zo_132 (b1 := 6) (b2 := 1) (zkb3 zk_cX12_load zn_cX12_load rfl) rfl
theorem dX12_load_330 : decode cX12_load 330 = .ok (.goto (-32), 3) := zo_167 (b1 := 255) (b2 := 224) (zkb3 zk_cX12_load zn_cX12_load rfl) rfl
theorem dX12_load_333 : decode cX12_load 333 = .ok (.ldc 33, 2) := zo_18 (b1 := 33) (zkb2 zk_cX12_load zn_cX12_load rfl)
theorem dX12_load_335 : decode cX12_load 335 = .ok (.istore 6, 2) := zo_54 (b1 := 6) (zkb2 zk_cX12_load zn_cX12_load rfl)
theorem dX12_load_337 : decode cX12_load 337 = .ok (.iload 6, 2) := zo_21 (b1 := 6) (zkb2 zk_cX12_load zn_cX12_load rfl)
theorem dX12_load_339 : decode cX12_load 339 = .ok (.aload_n 0, 1) := zo_42 (zkb zk_cX12_load zn_cX12_load rfl)
theorem dX12_load_340 : decode cX12_load 340 = .ok (.getfield 121, 3) := zo_180 (b1 := 0) (b2 := 121) (zkb3 zk_cX12_load zn_cX12_load rfl) rfl
theorem dX12_load_343 : decode cX12_load 343 = .ok (.if_icmp .ge 42, 3) := zo_162 (b1 := 0) (b2 := 42) (zkb3 zk_cX12_load zn_cX12_load rfl) rfl
theorem dX12_load_346 : decode cX12_load 346 = .ok (.iload 5, 2) := zo_21 (b1 := 5) (zkb2 zk_cX12_load zn_cX12_load rfl)
theorem dX12_load_348 : decode cX12_load 348 = .ok (.bipush 13, 2) := zo_16 (b1 := 13) (zkb2 zk_cX12_load zn_cX12_load rfl) rfl
theorem dX12_load_350 : decode cX12_load 350 = .ok (.if_icmp .gt 9, 3) := zo_163 (b1 := 0) (b2 := 9) (zkb3 zk_cX12_load zn_cX12_load rfl) rfl
theorem dX12_load_353 : decode cX12_load 353 = .ok (.iload 5, 2) := zo_21 (b1 := 5) (zkb2 zk_cX12_load zn_cX12_load rfl)
theorem dX12_load_355 : decode cX12_load 355 = .ok (.iconst 3, 1) := zo_6 (zkb zk_cX12_load zn_cX12_load rfl)
theorem dX12_load_356 : decode cX12_load 356 = .ok (.if_icmp .ge 29, 3) := zo_162 (b1 := 0) (b2 := 29) (zkb3 zk_cX12_load zn_cX12_load rfl) rfl
theorem dX12_load_359 : decode cX12_load 359 = .ok (.aload_n 0, 1) := zo_42 (zkb zk_cX12_load zn_cX12_load rfl)
theorem dX12_load_360 : decode cX12_load 360 = .ok (.dup, 1) := zo_89 (zkb zk_cX12_load zn_cX12_load rfl)
theorem dX12_load_361 : decode cX12_load 361 = .ok (.getfield 140, 3) := zo_180 (b1 := 0) (b2 := 140) (zkb3 zk_cX12_load zn_cX12_load rfl) rfl
theorem dX12_load_364 : decode cX12_load 364 = .ok (.aload_n 0, 1) := zo_42 (zkb zk_cX12_load zn_cX12_load rfl)
theorem dX12_load_365 : decode cX12_load 365 = .ok (.getfield 15, 3) := zo_180 (b1 := 0) (b2 := 15) (zkb3 zk_cX12_load zn_cX12_load rfl) rfl
theorem dX12_load_368 : decode cX12_load 368 = .ok (.iload 6, 2) := zo_21 (b1 := 6) (zkb2 zk_cX12_load zn_cX12_load rfl)
theorem dX12_load_370 : decode cX12_load 370 = .ok (.baload, 1) := zo_51 (zkb zk_cX12_load zn_cX12_load rfl)
theorem dX12_load_371 : decode cX12_load 371 = .ok (.sipush 255, 3) := zo_17 (b1 := 0) (b2 := 255) (zkb3 zk_cX12_load zn_cX12_load rfl) rfl
theorem dX12_load_374 : decode cX12_load 374 = .ok (.iand, 1) := zo_126 (zkb zk_cX12_load zn_cX12_load rfl)
theorem dX12_load_375 : decode cX12_load 375 = .ok (.iadd, 1) := zo_96 (zkb zk_cX12_load zn_cX12_load rfl)
theorem dX12_load_376 : decode cX12_load 376 = .ok (.putfield 140, 3) := zo_181 (b1 := 0) (b2 := 140) (zkb3 zk_cX12_load zn_cX12_load rfl) rfl
theorem dX12_load_379 : decode cX12_load 379 = .ok (.iinc 6 1, 3) := zo_132 (b1 := 6) (b2 := 1) (zkb3 zk_cX12_load zn_cX12_load rfl) rfl
theorem dX12_load_382 : decode cX12_load 382 = .ok (.goto (-45), 3) := zo_167 (b1 := 255) (b2 := 211) (zkb3 zk_cX12_load zn_cX12_load rfl) rfl
theorem dX12_load_385 : decode cX12_load 385 = .ok (.aload_n 0, 1) := zo_42 (zkb zk_cX12_load zn_cX12_load rfl)
theorem dX12_load_386 : decode cX12_load 386 = .ok (.aload_n 0, 1) := zo_42 (zkb zk_cX12_load zn_cX12_load rfl)
theorem dX12_load_387 : decode cX12_load 387 = .ok (.getfield 18, 3) := zo_180 (b1 := 0) (b2 := 18) (zkb3 zk_cX12_load zn_cX12_load rfl) rfl
theorem dX12_load_390 : decode cX12_load 390 = .ok (.ifCond .ge 7, 3) := zo_156 (b1 := 0) (b2 := 7) (zkb3 zk_cX12_load zn_cX12_load rfl) rfl
theorem dX12_load_393 : decode cX12_load 393 = .ok (.iconst 0, 1) := zo_3 (zkb zk_cX12_load zn_cX12_load rfl)
theorem dX12_load_394 : decode cX12_load 394 = .ok (.goto 10, 3) := zo_167 (b1 := 0) (b2 := 10) (zkb3 zk_cX12_load zn_cX12_load rfl) rfl
theorem dX12_load_397 : decode cX12_load 397 = .ok (.aload_n 0, 1) := zo_42 (zkb zk_cX12_load zn_cX12_load rfl)
theorem dX12_load_398 : decode cX12_load 398 = .ok (.getfield 140, 3) := zo_180 (b1 := 0) (b2 := 140) (zkb3 zk_cX12_load zn_cX12_load rfl) rfl
theorem dX12_load_401 : decode cX12_load 401 = .ok (.ldc 143, 2) := zo_18 (b1 := 143) (zkb2 zk_cX12_load zn_cX12_load rfl)
theorem dX12_load_403 : decode cX12_load 403 = .ok (.iand, 1) := zo_126 (zkb zk_cX12_load zn_cX12_load rfl)
theorem dX12_load_404 : decode cX12_load 404 = .ok (.putfield 140, 3) := zo_181 (b1 := 0) (b2 := 140) (zkb3 zk_cX12_load zn_cX12_load rfl) rfl
theorem dX12_load_407 : decode cX12_load 407 = .ok (.aload_n 0, 1) := zo_42 (zkb zk_cX12_load zn_cX12_load rfl)
theorem dX12_load_408 : decode cX12_load 408 = .ok (.invokevirtual 102, 3) := zo_182 (b1 := 0) (b2 := 102) (zkb3 zk_cX12_load zn_cX12_load rfl) rfl
theorem dX12_load_411 : decode cX12_load 411 = .ok (.iconst 0, 1) := zo_3 (zkb zk_cX12_load zn_cX12_load rfl)
theorem dX12_load_412 : decode cX12_load 412 = .ok (.istore 6, 2) := zo_54 (b1 := 6) (zkb2 zk_cX12_load zn_cX12_load rfl)
theorem dX12_load_414 : decode cX12_load 414 = .ok (.iload 6, 2) := zo_21 (b1 := 6) (zkb2 zk_cX12_load zn_cX12_load rfl)
theorem dX12_load_416 : decode cX12_load 416 = .ok (.sipush 8192, 3) := zo_17 (b1 := 32) (b2 := 0) (zkb3 zk_cX12_load zn_cX12_load rfl) rfl
theorem dX12_load_419 : decode cX12_load 419 = .ok (.if_icmp .ge 17, 3) := zo_162 (b1 := 0) (b2 := 17) (zkb3 zk_cX12_load zn_cX12_load rfl) rfl
theorem dX12_load_422 : decode cX12_load 422 = .ok (.aload_n 0, 1) := zo_42 (zkb zk_cX12_load zn_cX12_load rfl)
theorem dX12_load_423 : decode cX12_load 423 = .ok (.getfield 30, 3) := zo_180 (b1 := 0) (b2 := 30) (zkb3 zk_cX12_load zn_cX12_load rfl) rfl
theorem dX12_load_426 : decode cX12_load 426 = .ok (.iload 6, 2) := zo_21 (b1 := 6) (zkb2 zk_cX12_load zn_cX12_load rfl)
theorem dX12_load_428 : decode cX12_load 428 = .ok (.iconst 0, 1) := zo_3 (zkb zk_cX12_load zn_cX12_load rfl)
theorem dX12_load_429 : decode cX12_load 429 = .ok (.bastore, 1) := zo_84 (zkb zk_cX12_load zn_cX12_load rfl)
theorem dX12_load_430 : decode cX12_load 430 = .ok (.iinc 6 1, 3) := zo_132 (b1 := 6) (b2 := 1) (zkb3 zk_cX12_load zn_cX12_load rfl) rfl
theorem dX12_load_433 : decode cX12_load 433 = .ok (.goto (-19), 3) := zo_167 (b1 := 255) (b2 := 237) (zkb3 zk_cX12_load zn_cX12_load rfl) rfl
theorem dX12_load_436 : decode cX12_load 436 = .ok (.aload_n 0, 1) := zo_42 (zkb zk_cX12_load zn_cX12_load rfl)
theorem dX12_load_437 : decode cX12_load 437 = .ok (.iconst 0, 1) := zo_3 (zkb zk_cX12_load zn_cX12_load rfl)
theorem dX12_load_438 : decode cX12_load 438 = .ok (.putfield 144, 3) := zo_181 (b1 := 0) (b2 := 144) (zkb3 zk_cX12_load zn_cX12_load rfl) rfl
theorem dX12_load_441 : decode cX12_load 441 = .ok (.iconst 0, 1) := zo_3 (zkb zk_cX12_load zn_cX12_load rfl)
theorem dX12_load_442 : decode cX12_load 442 = .ok (.ireturn, 1) := zo_172 (zkb zk_cX12_load zn_cX12_load rfl)
noncomputable def kn_cX12_isHeader : Nat := 0xac030400a7040700a008101ca0ffa70102840900a041100500a747100800a006101c1000a745100800a0081c1a00a753100800a0071c2400a720100800a0061c2e00a752100800a0051c3800a74d100800a0041c4200a7541008009a1c7eff001133601c1b0f00b42a6000a208101c3d03ac030500a47900b42a6010101b
theorem zk_cX12_isHeader : zkd cX12_isHeader.data.toList kn_cX12_isHeader = true := by decide +kernel
theorem zn_cX12_isHeader : cX12_isHeader.data.toList.length = 126 := by decide +kernel
theorem dX12_isHeader_0 : decode cX12_isHeader 0 = .ok (.iload_n 1, 1) := zo_27 (zkb zk_cX12_isHeader zn_cX12_isHeader rfl)
theorem dX12_isHeader_1 : decode cX12_isHeader 1 = .ok (.bipush 16, 2) := zo_16 (b1 := 16) (zkb2 zk_cX12_isHeader zn_cX12_isHeader rfl) rfl
theorem dX12_isHeader_3 : decode cX12_isHeader 3 = .ok (.iadd, 1) := zo_96 (zkb zk_cX12_isHeader zn_cX12_isHeader rfl)
theorem dX12_isHeader_4 : decode cX12_isHeader 4 = .ok (.aload_n 0, 1) := zo_42 (zkb zk_cX12_isHeader zn_cX12_isHeader rfl)
theorem dX12_isHeader_5 : decode cX12_isHeader 5 = .ok (.getfield 121, 3) := zo_180 (b1 := 0) (b2 := 121) (zkb3 zk_cX12_isHeader zn_cX12_isHeader rfl) rfl
theorem dX12_isHeader_8 : decode cX12_isHeader 8 = .ok (.if_icmp .le 5, 3) := zo_164 (b1 := 0) (b2 := 5) (zkb3 zk_cX12_isHeader zn_cX12_isHeader rfl) rfl
theorem dX12_isHeader_11 : decode cX12_isHeader 11 = .ok (.iconst 0, 1) := zo_3 (zkb zk_cX12_isHeader zn_cX12_isHeader rfl)
theorem dX12_isHeader_12 : decode cX12_isHeader 12 = .ok (.ireturn, 1) := zo_172 (zkb zk_cX12_isHeader zn_cX12_isHeader rfl)
theorem dX12_isHeader_13 : decode cX12_isHeader 13 = .ok (.iconst 0, 1) := zo_3 (zkb zk_cX12_isHeader zn_cX12_isHeader rfl)
theorem dX12_isHeader_14 : decode cX12_isHeader 14 = .ok (.istore_n 2, 1) := zo_61 (zkb zk_cX12_isHeader zn_cX12_isHeader rfl)
theorem dX12_isHeader_15 : decode cX12_isHeader 15 = .ok (.iload_n 2, 1) := zo_28 (zkb zk_cX12_isHeader zn_cX12_isHeader rfl)
theorem dX12_isHeader_16 : decode cX12_isHeader 16 = .ok (.bipush 8, 2) := zo_16 (b1 := 8) (zkb2 zk_cX12_isHeader zn_cX12_isHeader rfl) rfl
theorem dX12_isHeader_18 : decode cX12_isHeader 18 = .ok (.if_icmp .ge 96, 3) := zo_162 (b1 := 0) (b2 := 96) (zkb3 zk_cX12_isHeader zn_cX12_isHeader rfl) rfl
theorem dX12_isHeader_21 : decode cX12_isHeader 21 = .ok (.aload_n 0, 1) := zo_42 (zkb zk_cX12_isHeader zn_cX12_isHeader rfl)
theorem dX12_isHeader_22 : decode cX12_isHeader 22 = .ok (.getfield 15, 3) := zo_180 (b1 := 0) (b2 := 15) (zkb3 zk_cX12_isHeader zn_cX12_isHeader rfl) rfl
theorem dX12_isHeader_25 : decode cX12_isHeader 25 = .ok (.iload_n 1, 1) := zo_27 (zkb zk_cX12_isHeader zn_cX12_isHeader rfl)
theorem dX12_isHeader_26 : decode cX12_isHeader 26 = .ok (.iload_n 2, 1) := zo_28 (zkb zk_cX12_isHeader zn_cX12_isHeader rfl)
theorem dX12_isHeader_27 : decode cX12_isHeader 27 = .ok (.iadd, 1) := zo_96 (zkb zk_cX12_isHeader zn_cX12_isHeader rfl)
theorem dX12_isHeader_28 : decode cX12_isHeader 28 = .ok (.baload, 1) := zo_51 (zkb zk_cX12_isHeader zn_cX12_isHeader rfl)
theorem dX12_isHeader_29 : decode cX12_isHeader 29 = .ok (.sipush 255, 3) := zo_17 (b1 := 0) (b2 := 255) (zkb3 zk_cX12_isHeader zn_cX12_isHeader rfl) rfl
theorem dX12_isHeader_32 : decode cX12_isHeader 32 = .ok (.iand, 1) := zo_126 (zkb zk_cX12_isHeader zn_cX12_isHeader rfl)
theorem dX12_isHeader_33 : decode cX12_isHeader 33 = .ok (.iload_n 2, 1) := zo_28 (zkb zk_cX12_isHeader zn_cX12_isHeader rfl)
theorem dX12_isHeader_34 : decode cX12_isHeader 34 = .ok (.ifCond .ne 8, 3) := zo_154 (b1 := 0) (b2 := 8) (zkb3 zk_cX12_isHeader zn_cX12_isHeader rfl) rfl
theorem dX12_isHeader_37 : decode cX12_isHeader 37 = .ok (.bipush 84, 2) := zo_16 (b1 := 84) (zkb2 zk_cX12_isHeader zn_cX12_isHeader rfl) rfl
theorem dX12_isHeader_39 : decode cX12_isHeader 39 = .ok (.goto 66, 3) := zo_167 (b1 := 0) (b2 := 66) (zkb3 zk_cX12_isHeader zn_cX12_isHeader rfl) rfl
theorem dX12_isHeader_42 : decode cX12_isHeader 42 = .ok (.iload_n 2, 1) := zo_28 (zkb zk_cX12_isHeader zn_cX12_isHeader rfl)
theorem dX12_isHeader_43 : decode cX12_isHeader 43 = .ok (.iconst 1, 1) := zo_4 (zkb zk_cX12_isHeader zn_cX12_isHeader rfl)
theorem dX12_isHeader_44 : decode cX12_isHeader 44 = .ok (.if_icmp .ne 8, 3) := zo_160 (b1 := 0) (b2 := 8) (zkb3 zk_cX12_isHeader zn_cX12_isHeader rfl) rfl
theorem dX12_isHeader_47 : decode cX12_isHeader 47 = .ok (.bipush 77, 2) := zo_16 (b1 := 77) (zkb2 zk_cX12_isHeader zn_cX12_isHeader rfl) rfl
theorem dX12_isHeader_49 : decode cX12_isHeader 49 = .ok (.goto 56, 3) := zo_167 (b1 := 0) (b2 := 56) (zkb3 zk_cX12_isHeader zn_cX12_isHeader rfl) rfl
theorem dX12_isHeader_52 : decode cX12_isHeader 52 = .ok (.iload_n 2, 1) := zo_28 (zkb zk_cX12_isHeader zn_cX12_isHeader rfl)
theorem dX12_isHeader_53 : decode cX12_isHeader 53 = .ok (.iconst 2, 1) := zo_5 (zkb zk_cX12_isHeader zn_cX12_isHeader rfl)
theorem dX12_isHeader_54 : decode cX12_isHeader 54 = .ok (.if_icmp .ne 8, 3) := zo_160 (b1 := 0) (b2 := 8) (zkb3 zk_cX12_isHeader zn_cX12_isHeader rfl) rfl
theorem dX12_isHeader_57 : decode cX12_isHeader 57 = .ok (.bipush 82, 2) := zo_16 (b1 := 82) (zkb2 zk_cX12_isHeader zn_cX12_isHeader rfl) rfl
theorem dX12_isHeader_59 : decode cX12_isHeader 59 = .ok (.goto 46, 3) := zo_167 (b1 := 0) (b2 := 46) (zkb3 zk_cX12_isHeader zn_cX12_isHeader rfl) rfl
theorem dX12_isHeader_62 : decode cX12_isHeader 62 = .ok (.iload_n 2, 1) := zo_28 (zkb zk_cX12_isHeader zn_cX12_isHeader rfl)
theorem dX12_isHeader_63 : decode cX12_isHeader 63 = .ok (.iconst 3, 1) := zo_6 (zkb zk_cX12_isHeader zn_cX12_isHeader rfl)
theorem dX12_isHeader_64 : decode cX12_isHeader 64 = .ok (.if_icmp .ne 8, 3) := zo_160 (b1 := 0) (b2 := 8) (zkb3 zk_cX12_isHeader zn_cX12_isHeader rfl) rfl
theorem dX12_isHeader_67 : decode cX12_isHeader 67 = .ok (.bipush 32, 2) := zo_16 (b1 := 32) (zkb2 zk_cX12_isHeader zn_cX12_isHeader rfl) rfl
theorem dX12_isHeader_69 : decode cX12_isHeader 69 = .ok (.goto 36, 3) := zo_167 (b1 := 0) (b2 := 36) (zkb3 zk_cX12_isHeader zn_cX12_isHeader rfl) rfl
theorem dX12_isHeader_72 : decode cX12_isHeader 72 = .ok (.iload_n 2, 1) := zo_28 (zkb zk_cX12_isHeader zn_cX12_isHeader rfl)
theorem dX12_isHeader_73 : decode cX12_isHeader 73 = .ok (.iconst 4, 1) := zo_7 (zkb zk_cX12_isHeader zn_cX12_isHeader rfl)
theorem dX12_isHeader_74 : decode cX12_isHeader 74 = .ok (.if_icmp .ne 8, 3) := zo_160 (b1 := 0) (b2 := 8) (zkb3 zk_cX12_isHeader zn_cX12_isHeader rfl) rfl
theorem dX12_isHeader_77 : decode cX12_isHeader 77 = .ok (.bipush 83, 2) := zo_16 (b1 := 83) (zkb2 zk_cX12_isHeader zn_cX12_isHeader rfl) rfl
theorem dX12_isHeader_79 : decode cX12_isHeader 79 = .ok (.goto 26, 3) := zo_167 (b1 := 0) (b2 := 26) (zkb3 zk_cX12_isHeader zn_cX12_isHeader rfl) rfl
theorem dX12_isHeader_82 : decode cX12_isHeader 82 = .ok (.iload_n 2, 1) := zo_28 (zkb zk_cX12_isHeader zn_cX12_isHeader rfl)
theorem dX12_isHeader_83 : decode cX12_isHeader 83 = .ok (.iconst 5, 1) := zo_8 (zkb zk_cX12_isHeader zn_cX12_isHeader rfl)
theorem dX12_isHeader_84 : decode cX12_isHeader 84 = .ok (.if_icmp .ne 8, 3) := zo_160 (b1 := 0) (b2 := 8) (zkb3 zk_cX12_isHeader zn_cX12_isHeader rfl) rfl
theorem dX12_isHeader_87 : decode cX12_isHeader 87 = .ok (.bipush 69, 2) := zo_16 (b1 := 69) (zkb2 zk_cX12_isHeader zn_cX12_isHeader rfl) rfl
theorem dX12_isHeader_89 : decode cX12_isHeader 89 = .ok (.goto 16, 3) := zo_167 (b1 := 0) (b2 := 16) (zkb3 zk_cX12_isHeader zn_cX12_isHeader rfl) rfl
theorem dX12_isHeader_92 : decode cX12_isHeader 92 = .ok (.iload_n 2, 1) := zo_28 (zkb zk_cX12_isHeader zn_cX12_isHeader rfl)
theorem dX12_isHeader_93 : decode cX12_isHeader 93 = .ok (.bipush 6, 2) := zo_16 (b1 := 6) (zkb2 zk_cX12_isHeader zn_cX12_isHeader rfl) rfl
theorem dX12_isHeader_95 : decode cX12_isHeader 95 = .ok (.if_icmp .ne 8, 3) := zo_160 (b1 := 0) (b2 := 8) (zkb3 zk_cX12_isHeader zn_cX12_isHeader rfl) rfl
theorem dX12_isHeader_98 : decode cX12_isHeader 98 = .ok (.bipush 71, 2) := zo_16 (b1 := 71) (zkb2 zk_cX12_isHeader zn_cX12_isHeader rfl) rfl
theorem dX12_isHeader_100 : decode cX12_isHeader 100 = .ok (.goto 5, 3) := zo_167 (b1 := 0) (b2 := 5) (zkb3 zk_cX12_isHeader zn_cX12_isHeader rfl) rfl
theorem dX12_isHeader_103 : decode cX12_isHeader 103 = .ok (.bipush 65, 2) := zo_16 (b1 := 65) (zkb2 zk_cX12_isHeader zn_cX12_isHeader rfl) rfl
theorem dX12_isHeader_105 : decode cX12_isHeader 105 = .ok (.if_icmp .ne 9, 3) := zo_160 (b1 := 0) (b2 := 9) (zkb3 zk_cX12_isHeader zn_cX12_isHeader rfl) rfl
theorem dX12_isHeader_108 : decode cX12_isHeader 108 = .ok (.iinc 2 1, 3) := zo_132 (b1 := 2) (b2 := 1) (zkb3 zk_cX12_isHeader zn_cX12_isHeader rfl) rfl
theorem dX12_isHeader_111 : decode cX12_isHeader 111 = .ok (.goto (-96), 3) := zo_167 (b1 := 255) (b2 := 160) (zkb3 zk_cX12_isHeader zn_cX12_isHeader rfl) rfl
theorem dX12_isHeader_114 : decode cX12_isHeader 114 = .ok (.iload_n 2, 1) := zo_28 (zkb zk_cX12_isHeader zn_cX12_isHeader rfl)
theorem dX12_isHeader_115 : decode cX12_isHeader 115 = .ok (.bipush 8, 2) := zo_16 (b1 := 8) (zkb2 zk_cX12_isHeader zn_cX12_isHeader rfl) rfl
theorem dX12_isHeader_117 : decode cX12_isHeader 117 = .ok (.if_icmp .ne 7, 3) := zo_160 (b1 := 0) (b2 := 7) (zkb3 zk_cX12_isHeader zn_cX12_isHeader rfl) rfl
theorem dX12_isHeader_120 : decode cX12_isHeader 120 = .ok (.iconst 1, 1) := zo_4 (zkb zk_cX12_isHeader zn_cX12_isHeader rfl)
theorem dX12_isHeader_121 : decode cX12_isHeader 121 = .ok (.goto 4, 3) := zo_167 (b1 := 0) (b2 := 4) (zkb3 zk_cX12_isHeader zn_cX12_isHeader rfl) rfl
theorem dX12_isHeader_124 : decode cX12_isHeader 124 = .ok (.iconst 0, 1) := zo_3 (zkb zk_cX12_isHeader zn_cX12_isHeader rfl)
theorem dX12_isHeader_125 : decode cX12_isHeader 125 = .ok (.ireturn, 1) := zo_172 (zkb zk_cX12_isHeader zn_cX12_isHeader rfl)
noncomputable def kn_cX12_tens : Nat := 0xac607e0f10331b0f00b42a687e0f107a07331b0f00b42a0a10
theorem zk_cX12_tens : zkd cX12_tens.data.toList kn_cX12_tens = true := by decide +kernel
theorem zn_cX12_tens : cX12_tens.data.toList.length = 25 := by decide +kernel
theorem dX12_tens_0 : decode cX12_tens 0 = .ok (.bipush 10, 2) := zo_16 (b1 := 10) (zkb2 zk_cX12_tens zn_cX12_tens rfl) rfl
theorem dX12_tens_2 : decode cX12_tens 2 = .ok (.aload_n 0, 1) := zo_42 (zkb zk_cX12_tens zn_cX12_tens rfl)
theorem dX12_tens_3 : decode cX12_tens 3 = .ok (.getfield 15, 3) := zo_180 (b1 := 0) (b2 := 15) (zkb3 zk_cX12_tens zn_cX12_tens rfl) rfl
theorem dX12_tens_6 : decode cX12_tens 6 = .ok (.iload_n 1, 1) := zo_27 (zkb zk_cX12_tens zn_cX12_tens rfl)
theorem dX12_tens_7 : decode cX12_tens 7 = .ok (.baload, 1) := zo_51 (zkb zk_cX12_tens zn_cX12_tens rfl)
theorem dX12_tens_8 : decode cX12_tens 8 = .ok (.iconst 4, 1) := zo_7 (zkb zk_cX12_tens zn_cX12_tens rfl)
theorem dX12_tens_9 : decode cX12_tens 9 = .ok (.ishr, 1) := zo_122 (zkb zk_cX12_tens zn_cX12_tens rfl)
theorem dX12_tens_10 : decode cX12_tens 10 = .ok (.bipush 15, 2) := zo_16 (b1 := 15) (zkb2 zk_cX12_tens zn_cX12_tens rfl) rfl
theorem dX12_tens_12 : decode cX12_tens 12 = .ok (.iand, 1) := zo_126 (zkb zk_cX12_tens zn_cX12_tens rfl)
theorem dX12_tens_13 : decode cX12_tens 13 = .ok (.imul, 1) := zo_104 (zkb zk_cX12_tens zn_cX12_tens rfl)
theorem dX12_tens_14 : decode cX12_tens 14 = .ok (.aload_n 0, 1) := zo_42 (zkb zk_cX12_tens zn_cX12_tens rfl)
theorem dX12_tens_15 : decode cX12_tens 15 = .ok (.getfield 15, 3) := zo_180 (b1 := 0) (b2 := 15) (zkb3 zk_cX12_tens zn_cX12_tens rfl) rfl
theorem dX12_tens_18 : decode cX12_tens 18 = .ok (.iload_n 1, 1) := zo_27 (zkb zk_cX12_tens zn_cX12_tens rfl)
theorem dX12_tens_19 : decode cX12_tens 19 = .ok (.baload, 1) := zo_51 (zkb zk_cX12_tens zn_cX12_tens rfl)
theorem dX12_tens_20 : decode cX12_tens 20 = .ok (.bipush 15, 2) := zo_16 (b1 := 15) (zkb2 zk_cX12_tens zn_cX12_tens rfl) rfl
theorem dX12_tens_22 : decode cX12_tens 22 = .ok (.iand, 1) := zo_126 (zkb zk_cX12_tens zn_cX12_tens rfl)
theorem dX12_tens_23 : decode cX12_tens 23 = .ok (.iadd, 1) := zo_96 (zkb zk_cX12_tens zn_cX12_tens rfl)
theorem dX12_tens_24 : decode cX12_tens 24 = .ok (.ireturn, 1) := zo_172 (zkb zk_cX12_tens zn_cX12_tens rfl)
noncomputable def kn_cX12_card : Nat := 0xac8c00b42aac8400b605600a101200b42a2aac7e0f1033600f101200b42a0f00b42aac7e0f107a0733600f101200b42a0f00b42aac60687e0f107a0733600e101200b42a0f00b42a10271160689600b6600d101200b42a2a64109600b6600c101200b42a2a71000000610000004f0000001e00000006000000030000007e00000000aa1bac0305009c1200b42aac1200b42a0700a77c00b42a0a00a0041b1300a78900b42a0a009a1b1f00a2061bac030500997200b604030400a70407009a6e00b894001409851b2a
theorem zk_cX12_card : zkd cX12_card.data.toList kn_cX12_card = true := by decide +kernel
theorem zn_cX12_card : cX12_card.data.toList.length = 201 := by decide +kernel
theorem dX12_card_0 : decode cX12_card 0 = .ok (.aload_n 0, 1) := zo_42 (zkb zk_cX12_card zn_cX12_card rfl)
theorem dX12_card_1 : decode cX12_card 1 = .ok (.iload_n 1, 1) := zo_27 (zkb zk_cX12_card zn_cX12_card rfl)
theorem dX12_card_2 : decode cX12_card 2 = .ok (.i2l, 1) := zo_133 (zkb zk_cX12_card zn_cX12_card rfl)
theorem dX12_card_3 : decode cX12_card 3 = .ok (.lconst 0, 1) := zo_9 (zkb zk_cX12_card zn_cX12_card rfl)
theorem dX12_card_4 : decode cX12_card 4 = .ok (.ldc2_w 148, 3) := by decide +kernel
theorem dX12_card_7 : decode cX12_card 7 = .ok (.invokestatic 110, 3) := zo_184 (b1 := 0) (b2 := 110) (zkb3 zk_cX12_card zn_cX12_card rfl) rfl
theorem dX12_card_10 : decode cX12_card 10 = .ok (.ifCond .ne 7, 3) := zo_154 (b1 := 0) (b2 := 7) (zkb3 zk_cX12_card zn_cX12_card rfl) rfl
theorem dX12_card_13 : decode cX12_card 13 = .ok (.iconst 1, 1) := zo_4 (zkb zk_cX12_card zn_cX12_card rfl)
theorem dX12_card_14 : decode cX12_card 14 = .ok (.goto 4, 3) := zo_167 (b1 := 0) (b2 := 4) (zkb3 zk_cX12_card zn_cX12_card rfl) rfl
theorem dX12_card_17 : decode cX12_card 17 = .ok (.iconst 0, 1) := zo_3 (zkb zk_cX12_card zn_cX12_card rfl)
theorem dX12_card_18 : decode cX12_card 18 = .ok (.iconst 1, 1) := zo_4 (zkb zk_cX12_card zn_cX12_card rfl)
theorem dX12_card_19 : decode cX12_card 19 = .ok (.invokevirtual 114, 3) := zo_182 (b1 := 0) (b2 := 114) (zkb3 zk_cX12_card zn_cX12_card rfl) rfl
theorem dX12_card_22 : decode cX12_card 22 = .ok (.ifCond .eq 5, 3) := zo_153 (b1 := 0) (b2 := 5) (zkb3 zk_cX12_card zn_cX12_card rfl) rfl
theorem dX12_card_25 : decode cX12_card 25 = .ok (.iconst 0, 1) := zo_3 (zkb zk_cX12_card zn_cX12_card rfl)
theorem dX12_card_26 : decode cX12_card 26 = .ok (.ireturn, 1) := zo_172 (zkb zk_cX12_card zn_cX12_card rfl)
theorem dX12_card_27 : decode cX12_card 27 = .ok (.iload_n 1, 1) := zo_27 (zkb zk_cX12_card zn_cX12_card rfl)
theorem dX12_card_28 : decode cX12_card 28 = .ok (.iconst 3, 1) := zo_6 (zkb zk_cX12_card zn_cX12_card rfl)
theorem dX12_card_29 : decode cX12_card 29 = .ok (.if_icmp .ge 31, 3) := zo_162 (b1 := 0) (b2 := 31) (zkb3 zk_cX12_card zn_cX12_card rfl) rfl
theorem dX12_card_32 : decode cX12_card 32 = .ok (.iload_n 1, 1) := zo_27 (zkb zk_cX12_card zn_cX12_card rfl)
theorem dX12_card_33 : decode cX12_card 33 = .ok (.ifCond .ne 10, 3) := zo_154 (b1 := 0) (b2 := 10) (zkb3 zk_cX12_card zn_cX12_card rfl) rfl
theorem dX12_card_36 : decode cX12_card 36 = .ok (.aload_n 0, 1) := zo_42 (zkb zk_cX12_card zn_cX12_card rfl)
theorem dX12_card_37 : decode cX12_card 37 = .ok (.getfield 137, 3) := zo_180 (b1 := 0) (b2 := 137) (zkb3 zk_cX12_card zn_cX12_card rfl) rfl
theorem dX12_card_40 : decode cX12_card 40 = .ok (.goto 19, 3) := zo_167 (b1 := 0) (b2 := 19) (zkb3 zk_cX12_card zn_cX12_card rfl) rfl
theorem dX12_card_43 : decode cX12_card 43 = .ok (.iload_n 1, 1) := zo_27 (zkb zk_cX12_card zn_cX12_card rfl)
theorem dX12_card_44 : decode cX12_card 44 = .ok (.iconst 1, 1) := zo_4 (zkb zk_cX12_card zn_cX12_card rfl)
theorem dX12_card_45 : decode cX12_card 45 = .ok (.if_icmp .ne 10, 3) := zo_160 (b1 := 0) (b2 := 10) (zkb3 zk_cX12_card zn_cX12_card rfl) rfl
theorem dX12_card_48 : decode cX12_card 48 = .ok (.aload_n 0, 1) := zo_42 (zkb zk_cX12_card zn_cX12_card rfl)
theorem dX12_card_49 : decode cX12_card 49 = .ok (.getfield 124, 3) := zo_180 (b1 := 0) (b2 := 124) (zkb3 zk_cX12_card zn_cX12_card rfl) rfl
theorem dX12_card_52 : decode cX12_card 52 = .ok (.goto 7, 3) := zo_167 (b1 := 0) (b2 := 7) (zkb3 zk_cX12_card zn_cX12_card rfl) rfl
theorem dX12_card_55 : decode cX12_card 55 = .ok (.aload_n 0, 1) := zo_42 (zkb zk_cX12_card zn_cX12_card rfl)
theorem dX12_card_56 : decode cX12_card 56 = .ok (.getfield 18, 3) := zo_180 (b1 := 0) (b2 := 18) (zkb3 zk_cX12_card zn_cX12_card rfl) rfl
theorem dX12_card_59 : decode cX12_card 59 = .ok (.ireturn, 1) := zo_172 (zkb zk_cX12_card zn_cX12_card rfl)
theorem dX12_card_60 : decode cX12_card 60 = .ok (.aload_n 0, 1) := zo_42 (zkb zk_cX12_card zn_cX12_card rfl)
theorem dX12_card_61 : decode cX12_card 61 = .ok (.getfield 18, 3) := zo_180 (b1 := 0) (b2 := 18) (zkb3 zk_cX12_card zn_cX12_card rfl) rfl
theorem dX12_card_64 : decode cX12_card 64 = .ok (.ifCond .ge 5, 3) := zo_156 (b1 := 0) (b2 := 5) (zkb3 zk_cX12_card zn_cX12_card rfl) rfl
theorem dX12_card_67 : decode cX12_card 67 = .ok (.iconst 0, 1) := zo_3 (zkb zk_cX12_card zn_cX12_card rfl)
theorem dX12_card_68 : decode cX12_card 68 = .ok (.ireturn, 1) := zo_172 (zkb zk_cX12_card zn_cX12_card rfl)
theorem dX12_card_69 : decode cX12_card 69 = .ok (.iload_n 1, 1) := zo_27 (zkb zk_cX12_card zn_cX12_card rfl)
theorem dX12_card_70 : decode cX12_card 70 = .ok (.tableswitch 126 3 6 #[30, 79, 97, 113], 30) := by decide +kernel
theorem dX12_card_100 : decode cX12_card 100 = .ok (.aload_n 0, 1) := zo_42 (zkb zk_cX12_card zn_cX12_card rfl)
theorem dX12_card_101 : decode cX12_card 101 = .ok (.aload_n 0, 1) := zo_42 (zkb zk_cX12_card zn_cX12_card rfl)
theorem dX12_card_102 : decode cX12_card 102 = .ok (.getfield 18, 3) := zo_180 (b1 := 0) (b2 := 18) (zkb3 zk_cX12_card zn_cX12_card rfl) rfl
theorem dX12_card_105 : decode cX12_card 105 = .ok (.bipush 12, 2) := zo_16 (b1 := 12) (zkb2 zk_cX12_card zn_cX12_card rfl) rfl
theorem dX12_card_107 : decode cX12_card 107 = .ok (.iadd, 1) := zo_96 (zkb zk_cX12_card zn_cX12_card rfl)
theorem dX12_card_108 : decode cX12_card 108 = .ok (.invokevirtual 150, 3) := zo_182 (b1 := 0) (b2 := 150) (zkb3 zk_cX12_card zn_cX12_card rfl) rfl
theorem dX12_card_111 : decode cX12_card 111 = .ok (.bipush 100, 2) := zo_16 (b1 := 100) (zkb2 zk_cX12_card zn_cX12_card rfl) rfl
theorem dX12_card_113 : decode cX12_card 113 = .ok (.aload_n 0, 1) := zo_42 (zkb zk_cX12_card zn_cX12_card rfl)
theorem dX12_card_114 : decode cX12_card 114 = .ok (.aload_n 0, 1) := zo_42 (zkb zk_cX12_card zn_cX12_card rfl)
theorem dX12_card_115 : decode cX12_card 115 = .ok (.getfield 18, 3) := zo_180 (b1 := 0) (b2 := 18) (zkb3 zk_cX12_card zn_cX12_card rfl) rfl
theorem dX12_card_118 : decode cX12_card 118 = .ok (.bipush 13, 2) := zo_16 (b1 := 13) (zkb2 zk_cX12_card zn_cX12_card rfl) rfl
theorem dX12_card_120 : decode cX12_card 120 = .ok (.iadd, 1) := zo_96 (zkb zk_cX12_card zn_cX12_card rfl)
theorem dX12_card_121 : decode cX12_card 121 = .ok (.invokevirtual 150, 3) := zo_182 (b1 := 0) (b2 := 150) (zkb3 zk_cX12_card zn_cX12_card rfl) rfl
theorem dX12_card_124 : decode cX12_card 124 = .ok (.imul, 1) := zo_104 (zkb zk_cX12_card zn_cX12_card rfl)
theorem dX12_card_125 : decode cX12_card 125 = .ok (.iadd, 1) := zo_96 (zkb zk_cX12_card zn_cX12_card rfl)
theorem dX12_card_126 : decode cX12_card 126 = .ok (.sipush 10000, 3) := zo_17 (b1 := 39) (b2 := 16) (zkb3 zk_cX12_card zn_cX12_card rfl) rfl
theorem dX12_card_129 : decode cX12_card 129 = .ok (.aload_n 0, 1) := zo_42 (zkb zk_cX12_card zn_cX12_card rfl)
theorem dX12_card_130 : decode cX12_card 130 = .ok (.getfield 15, 3) := zo_180 (b1 := 0) (b2 := 15) (zkb3 zk_cX12_card zn_cX12_card rfl) rfl
theorem dX12_card_133 : decode cX12_card 133 = .ok (.aload_n 0, 1) := zo_42 (zkb zk_cX12_card zn_cX12_card rfl)
theorem dX12_card_134 : decode cX12_card 134 = .ok (.getfield 18, 3) := zo_180 (b1 := 0) (b2 := 18) (zkb3 zk_cX12_card zn_cX12_card rfl) rfl
theorem dX12_card_137 : decode cX12_card 137 = .ok (.bipush 14, 2) := zo_16 (b1 := 14) (zkb2 zk_cX12_card zn_cX12_card rfl) rfl
theorem dX12_card_139 : decode cX12_card 139 = .ok (.iadd, 1) := zo_96 (zkb zk_cX12_card zn_cX12_card rfl)
theorem dX12_card_140 : decode cX12_card 140 = .ok (.baload, 1) := zo_51 (zkb zk_cX12_card zn_cX12_card rfl)
theorem dX12_card_141 : decode cX12_card 141 = .ok (.iconst 4, 1) := zo_7 (zkb zk_cX12_card zn_cX12_card rfl)
theorem dX12_card_142 : decode cX12_card 142 = .ok (.ishr, 1) := zo_122 (zkb zk_cX12_card zn_cX12_card rfl)
theorem dX12_card_143 : decode cX12_card 143 = .ok (.bipush 15, 2) := zo_16 (b1 := 15) (zkb2 zk_cX12_card zn_cX12_card rfl) rfl
theorem dX12_card_145 : decode cX12_card 145 = .ok (.iand, 1) := zo_126 (zkb zk_cX12_card zn_cX12_card rfl)
theorem dX12_card_146 : decode cX12_card 146 = .ok (.imul, 1) := zo_104 (zkb zk_cX12_card zn_cX12_card rfl)
theorem dX12_card_147 : decode cX12_card 147 = .ok (.iadd, 1) := zo_96 (zkb zk_cX12_card zn_cX12_card rfl)
theorem dX12_card_148 : decode cX12_card 148 = .ok (.ireturn, 1) := zo_172 (zkb zk_cX12_card zn_cX12_card rfl)
theorem dX12_card_149 : decode cX12_card 149 = .ok (.aload_n 0, 1) := zo_42 (zkb zk_cX12_card zn_cX12_card rfl)
theorem dX12_card_150 : decode cX12_card 150 = .ok (.getfield 15, 3) := zo_180 (b1 := 0) (b2 := 15) (zkb3 zk_cX12_card zn_cX12_card rfl) rfl
theorem dX12_card_153 : decode cX12_card 153 = .ok (.aload_n 0, 1) := zo_42 (zkb zk_cX12_card zn_cX12_card rfl)
theorem dX12_card_154 : decode cX12_card 154 = .ok (.getfield 18, 3) := zo_180 (b1 := 0) (b2 := 18) (zkb3 zk_cX12_card zn_cX12_card rfl) rfl
theorem dX12_card_157 : decode cX12_card 157 = .ok (.bipush 15, 2) := zo_16 (b1 := 15) (zkb2 zk_cX12_card zn_cX12_card rfl) rfl
theorem dX12_card_159 : decode cX12_card 159 = .ok (.iadd, 1) := zo_96 (zkb zk_cX12_card zn_cX12_card rfl)
theorem dX12_card_160 : decode cX12_card 160 = .ok (.baload, 1) := zo_51 (zkb zk_cX12_card zn_cX12_card rfl)
theorem dX12_card_161 : decode cX12_card 161 = .ok (.iconst 4, 1) := zo_7 (zkb zk_cX12_card zn_cX12_card rfl)
theorem dX12_card_162 : decode cX12_card 162 = .ok (.ishr, 1) := zo_122 (zkb zk_cX12_card zn_cX12_card rfl)
theorem dX12_card_163 : decode cX12_card 163 = .ok (.bipush 15, 2) := zo_16 (b1 := 15) (zkb2 zk_cX12_card zn_cX12_card rfl) rfl
theorem dX12_card_165 : decode cX12_card 165 = .ok (.iand, 1) := zo_126 (zkb zk_cX12_card zn_cX12_card rfl)
theorem dX12_card_166 : decode cX12_card 166 = .ok (.ireturn, 1) := zo_172 (zkb zk_cX12_card zn_cX12_card rfl)
theorem dX12_card_167 : decode cX12_card 167 = .ok (.aload_n 0, 1) := zo_42 (zkb zk_cX12_card zn_cX12_card rfl)
theorem dX12_card_168 : decode cX12_card 168 = .ok (.getfield 15, 3) := zo_180 (b1 := 0) (b2 := 15) (zkb3 zk_cX12_card zn_cX12_card rfl) rfl
theorem dX12_card_171 : decode cX12_card 171 = .ok (.aload_n 0, 1) := zo_42 (zkb zk_cX12_card zn_cX12_card rfl)
theorem dX12_card_172 : decode cX12_card 172 = .ok (.getfield 18, 3) := zo_180 (b1 := 0) (b2 := 18) (zkb3 zk_cX12_card zn_cX12_card rfl) rfl
theorem dX12_card_175 : decode cX12_card 175 = .ok (.bipush 15, 2) := zo_16 (b1 := 15) (zkb2 zk_cX12_card zn_cX12_card rfl) rfl
theorem dX12_card_177 : decode cX12_card 177 = .ok (.iadd, 1) := zo_96 (zkb zk_cX12_card zn_cX12_card rfl)
theorem dX12_card_178 : decode cX12_card 178 = .ok (.baload, 1) := zo_51 (zkb zk_cX12_card zn_cX12_card rfl)
theorem dX12_card_179 : decode cX12_card 179 = .ok (.bipush 15, 2) := zo_16 (b1 := 15) (zkb2 zk_cX12_card zn_cX12_card rfl) rfl
theorem dX12_card_181 : decode cX12_card 181 = .ok (.iand, 1) := zo_126 (zkb zk_cX12_card zn_cX12_card rfl)
theorem dX12_card_182 : decode cX12_card 182 = .ok (.ireturn, 1) := zo_172 (zkb zk_cX12_card zn_cX12_card rfl)
theorem dX12_card_183 : decode cX12_card 183 = .ok (.aload_n 0, 1) := zo_42 (zkb zk_cX12_card zn_cX12_card rfl)
theorem dX12_card_184 : decode cX12_card 184 = .ok (.aload_n 0, 1) := zo_42 (zkb zk_cX12_card zn_cX12_card rfl)
theorem dX12_card_185 : decode cX12_card 185 = .ok (.getfield 18, 3) := zo_180 (b1 := 0) (b2 := 18) (zkb3 zk_cX12_card zn_cX12_card rfl) rfl
theorem dX12_card_188 : decode cX12_card 188 = .ok (.bipush 10, 2) := zo_16 (b1 := 10) (zkb2 zk_cX12_card zn_cX12_card rfl) rfl
theorem dX12_card_190 : decode cX12_card 190 = .ok (.iadd, 1) := zo_96 (zkb zk_cX12_card zn_cX12_card rfl)
theorem dX12_card_191 : decode cX12_card 191 = .ok (.iconst 2, 1) := zo_5 (zkb zk_cX12_card zn_cX12_card rfl)
theorem dX12_card_192 : decode cX12_card 192 = .ok (.invokevirtual 132, 3) := zo_182 (b1 := 0) (b2 := 132) (zkb3 zk_cX12_card zn_cX12_card rfl) rfl
theorem dX12_card_195 : decode cX12_card 195 = .ok (.ireturn, 1) := zo_172 (zkb zk_cX12_card zn_cX12_card rfl)
theorem dX12_card_196 : decode cX12_card 196 = .ok (.aload_n 0, 1) := zo_42 (zkb zk_cX12_card zn_cX12_card rfl)
theorem dX12_card_197 : decode cX12_card 197 = .ok (.getfield 140, 3) := zo_180 (b1 := 0) (b2 := 140) (zkb3 zk_cX12_card zn_cX12_card rfl) rfl
theorem dX12_card_200 : decode cX12_card 200 = .ok (.ireturn, 1) := zo_172 (zkb zk_cX12_card zn_cX12_card rfl)
noncomputable def kn_cX12_ofBank : Nat := 0xac7eff00113360700040111c68707c00b42a1b0040110f00b42a
theorem zk_cX12_ofBank : zkd cX12_ofBank.data.toList kn_cX12_ofBank = true := by decide +kernel
theorem zn_cX12_ofBank : cX12_ofBank.data.toList.length = 26 := by decide +kernel
theorem dX12_ofBank_0 : decode cX12_ofBank 0 = .ok (.aload_n 0, 1) := zo_42 (zkb zk_cX12_ofBank zn_cX12_ofBank rfl)
theorem dX12_ofBank_1 : decode cX12_ofBank 1 = .ok (.getfield 15, 3) := zo_180 (b1 := 0) (b2 := 15) (zkb3 zk_cX12_ofBank zn_cX12_ofBank rfl) rfl
theorem dX12_ofBank_4 : decode cX12_ofBank 4 = .ok (.sipush 16384, 3) := zo_17 (b1 := 64) (b2 := 0) (zkb3 zk_cX12_ofBank zn_cX12_ofBank rfl) rfl
theorem dX12_ofBank_7 : decode cX12_ofBank 7 = .ok (.iload_n 1, 1) := zo_27 (zkb zk_cX12_ofBank zn_cX12_ofBank rfl)
theorem dX12_ofBank_8 : decode cX12_ofBank 8 = .ok (.aload_n 0, 1) := zo_42 (zkb zk_cX12_ofBank zn_cX12_ofBank rfl)
theorem dX12_ofBank_9 : decode cX12_ofBank 9 = .ok (.getfield 124, 3) := zo_180 (b1 := 0) (b2 := 124) (zkb3 zk_cX12_ofBank zn_cX12_ofBank rfl) rfl
theorem dX12_ofBank_12 : decode cX12_ofBank 12 = .ok (.irem, 1) := zo_112 (zkb zk_cX12_ofBank zn_cX12_ofBank rfl)
theorem dX12_ofBank_13 : decode cX12_ofBank 13 = .ok (.imul, 1) := zo_104 (zkb zk_cX12_ofBank zn_cX12_ofBank rfl)
theorem dX12_ofBank_14 : decode cX12_ofBank 14 = .ok (.iload_n 2, 1) := zo_28 (zkb zk_cX12_ofBank zn_cX12_ofBank rfl)
theorem dX12_ofBank_15 : decode cX12_ofBank 15 = .ok (.sipush 16384, 3) := zo_17 (b1 := 64) (b2 := 0) (zkb3 zk_cX12_ofBank zn_cX12_ofBank rfl) rfl
theorem dX12_ofBank_18 : decode cX12_ofBank 18 = .ok (.irem, 1) := zo_112 (zkb zk_cX12_ofBank zn_cX12_ofBank rfl)
theorem dX12_ofBank_19 : decode cX12_ofBank 19 = .ok (.iadd, 1) := zo_96 (zkb zk_cX12_ofBank zn_cX12_ofBank rfl)
theorem dX12_ofBank_20 : decode cX12_ofBank 20 = .ok (.baload, 1) := zo_51 (zkb zk_cX12_ofBank zn_cX12_ofBank rfl)
theorem dX12_ofBank_21 : decode cX12_ofBank 21 = .ok (.sipush 255, 3) := zo_17 (b1 := 0) (b2 := 255) (zkb3 zk_cX12_ofBank zn_cX12_ofBank rfl) rfl
theorem dX12_ofBank_24 : decode cX12_ofBank 24 = .ok (.iand, 1) := zo_126 (zkb zk_cX12_ofBank zn_cX12_ofBank rfl)
theorem dX12_ofBank_25 : decode cX12_ofBank 25 = .ok (.ireturn, 1) := zo_172 (zkb zk_cX12_ofBank zn_cX12_ofBank rfl)
noncomputable def kn_cX12_isBattery : Nat := 0xac030400a7040700a283121b0d00a121121b1300997e08102e20101600b42a2000a0048900b42a
theorem zk_cX12_isBattery : zkd cX12_isBattery.data.toList kn_cX12_isBattery = true := by decide +kernel
theorem zn_cX12_isBattery : cX12_isBattery.data.toList.length = 39 := by decide +kernel
theorem dX12_isBattery_0 : decode cX12_isBattery 0 = .ok (.aload_n 0, 1) := zo_42 (zkb zk_cX12_isBattery zn_cX12_isBattery rfl)
theorem dX12_isBattery_1 : decode cX12_isBattery 1 = .ok (.getfield 137, 3) := zo_180 (b1 := 0) (b2 := 137) (zkb3 zk_cX12_isBattery zn_cX12_isBattery rfl) rfl
theorem dX12_isBattery_4 : decode cX12_isBattery 4 = .ok (.iconst 1, 1) := zo_4 (zkb zk_cX12_isBattery zn_cX12_isBattery rfl)
theorem dX12_isBattery_5 : decode cX12_isBattery 5 = .ok (.if_icmp .ne 32, 3) := zo_160 (b1 := 0) (b2 := 32) (zkb3 zk_cX12_isBattery zn_cX12_isBattery rfl) rfl
theorem dX12_isBattery_8 : decode cX12_isBattery 8 = .ok (.aload_n 0, 1) := zo_42 (zkb zk_cX12_isBattery zn_cX12_isBattery rfl)
theorem dX12_isBattery_9 : decode cX12_isBattery 9 = .ok (.getfield 22, 3) := zo_180 (b1 := 0) (b2 := 22) (zkb3 zk_cX12_isBattery zn_cX12_isBattery rfl) rfl
theorem dX12_isBattery_12 : decode cX12_isBattery 12 = .ok (.bipush 32, 2) := zo_16 (b1 := 32) (zkb2 zk_cX12_isBattery zn_cX12_isBattery rfl) rfl
theorem dX12_isBattery_14 : decode cX12_isBattery 14 = .ok (.iaload, 1) := zo_46 (zkb zk_cX12_isBattery zn_cX12_isBattery rfl)
theorem dX12_isBattery_15 : decode cX12_isBattery 15 = .ok (.bipush 8, 2) := zo_16 (b1 := 8) (zkb2 zk_cX12_isBattery zn_cX12_isBattery rfl) rfl
theorem dX12_isBattery_17 : decode cX12_isBattery 17 = .ok (.iand, 1) := zo_126 (zkb zk_cX12_isBattery zn_cX12_isBattery rfl)
theorem dX12_isBattery_18 : decode cX12_isBattery 18 = .ok (.ifCond .eq 19, 3) := zo_153 (b1 := 0) (b2 := 19) (zkb3 zk_cX12_isBattery zn_cX12_isBattery rfl) rfl
theorem dX12_isBattery_21 : decode cX12_isBattery 21 = .ok (.iload_n 1, 1) := zo_27 (zkb zk_cX12_isBattery zn_cX12_isBattery rfl)
theorem dX12_isBattery_22 : decode cX12_isBattery 22 = .ok (.ldc 33, 2) := zo_18 (b1 := 33) (zkb2 zk_cX12_isBattery zn_cX12_isBattery rfl)
theorem dX12_isBattery_24 : decode cX12_isBattery 24 = .ok (.if_icmp .lt 13, 3) := zo_161 (b1 := 0) (b2 := 13) (zkb3 zk_cX12_isBattery zn_cX12_isBattery rfl) rfl
theorem dX12_isBattery_27 : decode cX12_isBattery 27 = .ok (.iload_n 1, 1) := zo_27 (zkb zk_cX12_isBattery zn_cX12_isBattery rfl)
theorem dX12_isBattery_28 : decode cX12_isBattery 28 = .ok (.ldc 131, 2) := zo_18 (b1 := 131) (zkb2 zk_cX12_isBattery zn_cX12_isBattery rfl)
theorem dX12_isBattery_30 : decode cX12_isBattery 30 = .ok (.if_icmp .ge 7, 3) := zo_162 (b1 := 0) (b2 := 7) (zkb3 zk_cX12_isBattery zn_cX12_isBattery rfl) rfl
theorem dX12_isBattery_33 : decode cX12_isBattery 33 = .ok (.iconst 1, 1) := zo_4 (zkb zk_cX12_isBattery zn_cX12_isBattery rfl)
theorem dX12_isBattery_34 : decode cX12_isBattery 34 = .ok (.goto 4, 3) := zo_167 (b1 := 0) (b2 := 4) (zkb3 zk_cX12_isBattery zn_cX12_isBattery rfl) rfl
theorem dX12_isBattery_37 : decode cX12_isBattery 37 = .ok (.iconst 0, 1) := zo_3 (zkb zk_cX12_isBattery zn_cX12_isBattery rfl)
theorem dX12_isBattery_38 : decode cX12_isBattery 38 = .ok (.ireturn, 1) := zo_172 (zkb zk_cX12_isBattery zn_cX12_isBattery rfl)
noncomputable def kn_cX12_batteryAt : Nat := 0xac60030400a70040110900997e072e20101600b42a6421121b
theorem zk_cX12_batteryAt : zkd cX12_batteryAt.data.toList kn_cX12_batteryAt = true := by decide +kernel
theorem zn_cX12_batteryAt : cX12_batteryAt.data.toList.length = 25 := by decide +kernel
theorem dX12_batteryAt_0 : decode cX12_batteryAt 0 = .ok (.iload_n 1, 1) := zo_27 (zkb zk_cX12_batteryAt zn_cX12_batteryAt rfl)
theorem dX12_batteryAt_1 : decode cX12_batteryAt 1 = .ok (.ldc 33, 2) := zo_18 (b1 := 33) (zkb2 zk_cX12_batteryAt zn_cX12_batteryAt rfl)
theorem dX12_batteryAt_3 : decode cX12_batteryAt 3 = .ok (.isub, 1) := zo_100 (zkb zk_cX12_batteryAt zn_cX12_batteryAt rfl)
theorem dX12_batteryAt_4 : decode cX12_batteryAt 4 = .ok (.aload_n 0, 1) := zo_42 (zkb zk_cX12_batteryAt zn_cX12_batteryAt rfl)
theorem dX12_batteryAt_5 : decode cX12_batteryAt 5 = .ok (.getfield 22, 3) := zo_180 (b1 := 0) (b2 := 22) (zkb3 zk_cX12_batteryAt zn_cX12_batteryAt rfl) rfl
theorem dX12_batteryAt_8 : decode cX12_batteryAt 8 = .ok (.bipush 32, 2) := zo_16 (b1 := 32) (zkb2 zk_cX12_batteryAt zn_cX12_batteryAt rfl) rfl
theorem dX12_batteryAt_10 : decode cX12_batteryAt 10 = .ok (.iaload, 1) := zo_46 (zkb zk_cX12_batteryAt zn_cX12_batteryAt rfl)
theorem dX12_batteryAt_11 : decode cX12_batteryAt 11 = .ok (.iconst 4, 1) := zo_7 (zkb zk_cX12_batteryAt zn_cX12_batteryAt rfl)
theorem dX12_batteryAt_12 : decode cX12_batteryAt 12 = .ok (.iand, 1) := zo_126 (zkb zk_cX12_batteryAt zn_cX12_batteryAt rfl)
theorem dX12_batteryAt_13 : decode cX12_batteryAt 13 = .ok (.ifCond .eq 9, 3) := zo_153 (b1 := 0) (b2 := 9) (zkb3 zk_cX12_batteryAt zn_cX12_batteryAt rfl) rfl
theorem dX12_batteryAt_16 : decode cX12_batteryAt 16 = .ok (.sipush 16384, 3) := zo_17 (b1 := 64) (b2 := 0) (zkb3 zk_cX12_batteryAt zn_cX12_batteryAt rfl) rfl
theorem dX12_batteryAt_19 : decode cX12_batteryAt 19 = .ok (.goto 4, 3) := zo_167 (b1 := 0) (b2 := 4) (zkb3 zk_cX12_batteryAt zn_cX12_batteryAt rfl) rfl
theorem dX12_batteryAt_22 : decode cX12_batteryAt 22 = .ok (.iconst 0, 1) := zo_3 (zkb zk_cX12_batteryAt zn_cX12_batteryAt rfl)
theorem dX12_batteryAt_23 : decode cX12_batteryAt 23 = .ok (.iadd, 1) := zo_96 (zkb zk_cX12_batteryAt zn_cX12_batteryAt rfl)
theorem dX12_batteryAt_24 : decode cX12_batteryAt 24 = .ok (.ireturn, 1) := zo_172 (zkb zk_cX12_batteryAt zn_cX12_batteryAt rfl)
noncomputable def kn_cX12_read : Nat := 0xaca000b61c2e606c0040111c1d101600b42a2aaca000b61c032a0a00a20004111c1100a0048900b42aaca000b61c2e1f101600b42a0a00a76c0040111c0b00a221121c2a1e00a0068900b42aacff00110600a77eff0011331c0f00b42a1000a27900b42a1c1c009a8900b42aac7eff0011339d00b61c2a2200b42a1200999a00b61c2aac7eff001133700020111c1e00b42a1200a183121c3d7e8f121b
theorem zk_cX12_read : zkd cX12_read.data.toList kn_cX12_read = true := by decide +kernel
theorem zn_cX12_read : cX12_read.data.toList.length = 157 := by decide +kernel
theorem dX12_read_0 : decode cX12_read 0 = .ok (.iload_n 1, 1) := zo_27 (zkb zk_cX12_read zn_cX12_read rfl)
theorem dX12_read_1 : decode cX12_read 1 = .ok (.ldc 143, 2) := zo_18 (b1 := 143) (zkb2 zk_cX12_read zn_cX12_read rfl)
theorem dX12_read_3 : decode cX12_read 3 = .ok (.iand, 1) := zo_126 (zkb zk_cX12_read zn_cX12_read rfl)
theorem dX12_read_4 : decode cX12_read 4 = .ok (.istore_n 2, 1) := zo_61 (zkb zk_cX12_read zn_cX12_read rfl)
theorem dX12_read_5 : decode cX12_read 5 = .ok (.iload_n 2, 1) := zo_28 (zkb zk_cX12_read zn_cX12_read rfl)
theorem dX12_read_6 : decode cX12_read 6 = .ok (.ldc 131, 2) := zo_18 (b1 := 131) (zkb2 zk_cX12_read zn_cX12_read rfl)
theorem dX12_read_8 : decode cX12_read 8 = .ok (.if_icmp .lt 18, 3) := zo_161 (b1 := 0) (b2 := 18) (zkb3 zk_cX12_read zn_cX12_read rfl) rfl
theorem dX12_read_11 : decode cX12_read 11 = .ok (.aload_n 0, 1) := zo_42 (zkb zk_cX12_read zn_cX12_read rfl)
theorem dX12_read_12 : decode cX12_read 12 = .ok (.getfield 30, 3) := zo_180 (b1 := 0) (b2 := 30) (zkb3 zk_cX12_read zn_cX12_read rfl) rfl
theorem dX12_read_15 : decode cX12_read 15 = .ok (.iload_n 2, 1) := zo_28 (zkb zk_cX12_read zn_cX12_read rfl)
theorem dX12_read_16 : decode cX12_read 16 = .ok (.sipush 8192, 3) := zo_17 (b1 := 32) (b2 := 0) (zkb3 zk_cX12_read zn_cX12_read rfl) rfl
theorem dX12_read_19 : decode cX12_read 19 = .ok (.irem, 1) := zo_112 (zkb zk_cX12_read zn_cX12_read rfl)
theorem dX12_read_20 : decode cX12_read 20 = .ok (.baload, 1) := zo_51 (zkb zk_cX12_read zn_cX12_read rfl)
theorem dX12_read_21 : decode cX12_read 21 = .ok (.sipush 255, 3) := zo_17 (b1 := 0) (b2 := 255) (zkb3 zk_cX12_read zn_cX12_read rfl) rfl
theorem dX12_read_24 : decode cX12_read 24 = .ok (.iand, 1) := zo_126 (zkb zk_cX12_read zn_cX12_read rfl)
theorem dX12_read_25 : decode cX12_read 25 = .ok (.ireturn, 1) := zo_172 (zkb zk_cX12_read zn_cX12_read rfl)
theorem dX12_read_26 : decode cX12_read 26 = .ok (.aload_n 0, 1) := zo_42 (zkb zk_cX12_read zn_cX12_read rfl)
theorem dX12_read_27 : decode cX12_read 27 = .ok (.iload_n 2, 1) := zo_28 (zkb zk_cX12_read zn_cX12_read rfl)
theorem dX12_read_28 : decode cX12_read 28 = .ok (.invokevirtual 154, 3) := zo_182 (b1 := 0) (b2 := 154) (zkb3 zk_cX12_read zn_cX12_read rfl) rfl
theorem dX12_read_31 : decode cX12_read 31 = .ok (.ifCond .eq 18, 3) := zo_153 (b1 := 0) (b2 := 18) (zkb3 zk_cX12_read zn_cX12_read rfl) rfl
theorem dX12_read_34 : decode cX12_read 34 = .ok (.aload_n 0, 1) := zo_42 (zkb zk_cX12_read zn_cX12_read rfl)
theorem dX12_read_35 : decode cX12_read 35 = .ok (.getfield 34, 3) := zo_180 (b1 := 0) (b2 := 34) (zkb3 zk_cX12_read zn_cX12_read rfl) rfl
theorem dX12_read_38 : decode cX12_read 38 = .ok (.aload_n 0, 1) := zo_42 (zkb zk_cX12_read zn_cX12_read rfl)
theorem dX12_read_39 : decode cX12_read 39 = .ok (.iload_n 2, 1) := zo_28 (zkb zk_cX12_read zn_cX12_read rfl)
theorem dX12_read_40 : decode cX12_read 40 = .ok (.invokevirtual 157, 3) := zo_182 (b1 := 0) (b2 := 157) (zkb3 zk_cX12_read zn_cX12_read rfl) rfl
theorem dX12_read_43 : decode cX12_read 43 = .ok (.baload, 1) := zo_51 (zkb zk_cX12_read zn_cX12_read rfl)
theorem dX12_read_44 : decode cX12_read 44 = .ok (.sipush 255, 3) := zo_17 (b1 := 0) (b2 := 255) (zkb3 zk_cX12_read zn_cX12_read rfl) rfl
theorem dX12_read_47 : decode cX12_read 47 = .ok (.iand, 1) := zo_126 (zkb zk_cX12_read zn_cX12_read rfl)
theorem dX12_read_48 : decode cX12_read 48 = .ok (.ireturn, 1) := zo_172 (zkb zk_cX12_read zn_cX12_read rfl)
theorem dX12_read_49 : decode cX12_read 49 = .ok (.aload_n 0, 1) := zo_42 (zkb zk_cX12_read zn_cX12_read rfl)
theorem dX12_read_50 : decode cX12_read 50 = .ok (.getfield 137, 3) := zo_180 (b1 := 0) (b2 := 137) (zkb3 zk_cX12_read zn_cX12_read rfl) rfl
theorem dX12_read_53 : decode cX12_read 53 = .ok (.ifCond .ne 28, 3) := zo_154 (b1 := 0) (b2 := 28) (zkb3 zk_cX12_read zn_cX12_read rfl) rfl
theorem dX12_read_56 : decode cX12_read 56 = .ok (.iload_n 2, 1) := zo_28 (zkb zk_cX12_read zn_cX12_read rfl)
theorem dX12_read_57 : decode cX12_read 57 = .ok (.aload_n 0, 1) := zo_42 (zkb zk_cX12_read zn_cX12_read rfl)
theorem dX12_read_58 : decode cX12_read 58 = .ok (.getfield 121, 3) := zo_180 (b1 := 0) (b2 := 121) (zkb3 zk_cX12_read zn_cX12_read rfl) rfl
theorem dX12_read_61 : decode cX12_read 61 = .ok (.if_icmp .ge 16, 3) := zo_162 (b1 := 0) (b2 := 16) (zkb3 zk_cX12_read zn_cX12_read rfl) rfl
theorem dX12_read_64 : decode cX12_read 64 = .ok (.aload_n 0, 1) := zo_42 (zkb zk_cX12_read zn_cX12_read rfl)
theorem dX12_read_65 : decode cX12_read 65 = .ok (.getfield 15, 3) := zo_180 (b1 := 0) (b2 := 15) (zkb3 zk_cX12_read zn_cX12_read rfl) rfl
theorem dX12_read_68 : decode cX12_read 68 = .ok (.iload_n 2, 1) := zo_28 (zkb zk_cX12_read zn_cX12_read rfl)
theorem dX12_read_69 : decode cX12_read 69 = .ok (.baload, 1) := zo_51 (zkb zk_cX12_read zn_cX12_read rfl)
theorem dX12_read_70 : decode cX12_read 70 = .ok (.sipush 255, 3) := zo_17 (b1 := 0) (b2 := 255) (zkb3 zk_cX12_read zn_cX12_read rfl) rfl
theorem dX12_read_73 : decode cX12_read 73 = .ok (.iand, 1) := zo_126 (zkb zk_cX12_read zn_cX12_read rfl)
theorem dX12_read_74 : decode cX12_read 74 = .ok (.goto 6, 3) := zo_167 (b1 := 0) (b2 := 6) (zkb3 zk_cX12_read zn_cX12_read rfl) rfl
theorem dX12_read_77 : decode cX12_read 77 = .ok (.sipush 255, 3) := zo_17 (b1 := 0) (b2 := 255) (zkb3 zk_cX12_read zn_cX12_read rfl) rfl
theorem dX12_read_80 : decode cX12_read 80 = .ok (.ireturn, 1) := zo_172 (zkb zk_cX12_read zn_cX12_read rfl)
theorem dX12_read_81 : decode cX12_read 81 = .ok (.aload_n 0, 1) := zo_42 (zkb zk_cX12_read zn_cX12_read rfl)
theorem dX12_read_82 : decode cX12_read 82 = .ok (.getfield 137, 3) := zo_180 (b1 := 0) (b2 := 137) (zkb3 zk_cX12_read zn_cX12_read rfl) rfl
theorem dX12_read_85 : decode cX12_read 85 = .ok (.iconst 3, 1) := zo_6 (zkb zk_cX12_read zn_cX12_read rfl)
theorem dX12_read_86 : decode cX12_read 86 = .ok (.if_icmp .ne 30, 3) := zo_160 (b1 := 0) (b2 := 30) (zkb3 zk_cX12_read zn_cX12_read rfl) rfl
theorem dX12_read_89 : decode cX12_read 89 = .ok (.aload_n 0, 1) := zo_42 (zkb zk_cX12_read zn_cX12_read rfl)
theorem dX12_read_90 : decode cX12_read 90 = .ok (.iload_n 2, 1) := zo_28 (zkb zk_cX12_read zn_cX12_read rfl)
theorem dX12_read_91 : decode cX12_read 91 = .ok (.ldc 33, 2) := zo_18 (b1 := 33) (zkb2 zk_cX12_read zn_cX12_read rfl)
theorem dX12_read_93 : decode cX12_read 93 = .ok (.if_icmp .ge 11, 3) := zo_162 (b1 := 0) (b2 := 11) (zkb3 zk_cX12_read zn_cX12_read rfl) rfl
theorem dX12_read_96 : decode cX12_read 96 = .ok (.iload_n 2, 1) := zo_28 (zkb zk_cX12_read zn_cX12_read rfl)
theorem dX12_read_97 : decode cX12_read 97 = .ok (.sipush 16384, 3) := zo_17 (b1 := 64) (b2 := 0) (zkb3 zk_cX12_read zn_cX12_read rfl) rfl
theorem dX12_read_100 : decode cX12_read 100 = .ok (.idiv, 1) := zo_108 (zkb zk_cX12_read zn_cX12_read rfl)
theorem dX12_read_101 : decode cX12_read 101 = .ok (.goto 10, 3) := zo_167 (b1 := 0) (b2 := 10) (zkb3 zk_cX12_read zn_cX12_read rfl) rfl
theorem dX12_read_104 : decode cX12_read 104 = .ok (.aload_n 0, 1) := zo_42 (zkb zk_cX12_read zn_cX12_read rfl)
theorem dX12_read_105 : decode cX12_read 105 = .ok (.getfield 22, 3) := zo_180 (b1 := 0) (b2 := 22) (zkb3 zk_cX12_read zn_cX12_read rfl) rfl
theorem dX12_read_108 : decode cX12_read 108 = .ok (.bipush 31, 2) := zo_16 (b1 := 31) (zkb2 zk_cX12_read zn_cX12_read rfl) rfl
theorem dX12_read_110 : decode cX12_read 110 = .ok (.iaload, 1) := zo_46 (zkb zk_cX12_read zn_cX12_read rfl)
theorem dX12_read_111 : decode cX12_read 111 = .ok (.iload_n 2, 1) := zo_28 (zkb zk_cX12_read zn_cX12_read rfl)
theorem dX12_read_112 : decode cX12_read 112 = .ok (.invokevirtual 160, 3) := zo_182 (b1 := 0) (b2 := 160) (zkb3 zk_cX12_read zn_cX12_read rfl) rfl
theorem dX12_read_115 : decode cX12_read 115 = .ok (.ireturn, 1) := zo_172 (zkb zk_cX12_read zn_cX12_read rfl)
theorem dX12_read_116 : decode cX12_read 116 = .ok (.aload_n 0, 1) := zo_42 (zkb zk_cX12_read zn_cX12_read rfl)
theorem dX12_read_117 : decode cX12_read 117 = .ok (.getfield 137, 3) := zo_180 (b1 := 0) (b2 := 137) (zkb3 zk_cX12_read zn_cX12_read rfl) rfl
theorem dX12_read_120 : decode cX12_read 120 = .ok (.iconst 1, 1) := zo_4 (zkb zk_cX12_read zn_cX12_read rfl)
theorem dX12_read_121 : decode cX12_read 121 = .ok (.if_icmp .ne 17, 3) := zo_160 (b1 := 0) (b2 := 17) (zkb3 zk_cX12_read zn_cX12_read rfl) rfl
theorem dX12_read_124 : decode cX12_read 124 = .ok (.iload_n 2, 1) := zo_28 (zkb zk_cX12_read zn_cX12_read rfl)
theorem dX12_read_125 : decode cX12_read 125 = .ok (.sipush 1024, 3) := zo_17 (b1 := 4) (b2 := 0) (zkb3 zk_cX12_read zn_cX12_read rfl) rfl
theorem dX12_read_128 : decode cX12_read 128 = .ok (.if_icmp .ge 10, 3) := zo_162 (b1 := 0) (b2 := 10) (zkb3 zk_cX12_read zn_cX12_read rfl) rfl
theorem dX12_read_131 : decode cX12_read 131 = .ok (.aload_n 0, 1) := zo_42 (zkb zk_cX12_read zn_cX12_read rfl)
theorem dX12_read_132 : decode cX12_read 132 = .ok (.iconst 0, 1) := zo_3 (zkb zk_cX12_read zn_cX12_read rfl)
theorem dX12_read_133 : decode cX12_read 133 = .ok (.iload_n 2, 1) := zo_28 (zkb zk_cX12_read zn_cX12_read rfl)
theorem dX12_read_134 : decode cX12_read 134 = .ok (.invokevirtual 160, 3) := zo_182 (b1 := 0) (b2 := 160) (zkb3 zk_cX12_read zn_cX12_read rfl) rfl
theorem dX12_read_137 : decode cX12_read 137 = .ok (.ireturn, 1) := zo_172 (zkb zk_cX12_read zn_cX12_read rfl)
theorem dX12_read_138 : decode cX12_read 138 = .ok (.aload_n 0, 1) := zo_42 (zkb zk_cX12_read zn_cX12_read rfl)
theorem dX12_read_139 : decode cX12_read 139 = .ok (.aload_n 0, 1) := zo_42 (zkb zk_cX12_read zn_cX12_read rfl)
theorem dX12_read_140 : decode cX12_read 140 = .ok (.getfield 22, 3) := zo_180 (b1 := 0) (b2 := 22) (zkb3 zk_cX12_read zn_cX12_read rfl) rfl
theorem dX12_read_143 : decode cX12_read 143 = .ok (.bipush 29, 2) := zo_16 (b1 := 29) (zkb2 zk_cX12_read zn_cX12_read rfl) rfl
theorem dX12_read_145 : decode cX12_read 145 = .ok (.iload_n 2, 1) := zo_28 (zkb zk_cX12_read zn_cX12_read rfl)
theorem dX12_read_146 : decode cX12_read 146 = .ok (.sipush 16384, 3) := zo_17 (b1 := 64) (b2 := 0) (zkb3 zk_cX12_read zn_cX12_read rfl) rfl
theorem dX12_read_149 : decode cX12_read 149 = .ok (.idiv, 1) := zo_108 (zkb zk_cX12_read zn_cX12_read rfl)
theorem dX12_read_150 : decode cX12_read 150 = .ok (.iadd, 1) := zo_96 (zkb zk_cX12_read zn_cX12_read rfl)
theorem dX12_read_151 : decode cX12_read 151 = .ok (.iaload, 1) := zo_46 (zkb zk_cX12_read zn_cX12_read rfl)
theorem dX12_read_152 : decode cX12_read 152 = .ok (.iload_n 2, 1) := zo_28 (zkb zk_cX12_read zn_cX12_read rfl)
theorem dX12_read_153 : decode cX12_read 153 = .ok (.invokevirtual 160, 3) := zo_182 (b1 := 0) (b2 := 160) (zkb3 zk_cX12_read zn_cX12_read rfl) rfl
theorem dX12_read_156 : decode cX12_read 156 = .ok (.ireturn, 1) := zo_172 (zkb zk_cX12_read zn_cX12_read rfl)
noncomputable def kn_cX12_write : Nat := 0xb14f04151f101600b42a0c00a0a5121d1200a0068900b42a4f0415606c0040111d1d101600b42a12009a700040111d1a00a283121d2000a0058900b42a4f041564a412601d1d101600b42a1100a4a3121d1700a0048900b42a4f041520101600b42a0c00a0a3121d1200a0048900b42a549104159d00b61d2a2200b42a1000999a00b61d2a54910415700020111d1e00b42a1000a183121d04367eff00111c3e7e8f121b
theorem zk_cX12_write : zkd cX12_write.data.toList kn_cX12_write = true := by decide +kernel
theorem zn_cX12_write : cX12_write.data.toList.length = 164 := by decide +kernel
theorem dX12_write_0 : decode cX12_write 0 = .ok (.iload_n 1, 1) := zo_27 (zkb zk_cX12_write zn_cX12_write rfl)
theorem dX12_write_1 : decode cX12_write 1 = .ok (.ldc 143, 2) := zo_18 (b1 := 143) (zkb2 zk_cX12_write zn_cX12_write rfl)
theorem dX12_write_3 : decode cX12_write 3 = .ok (.iand, 1) := zo_126 (zkb zk_cX12_write zn_cX12_write rfl)
theorem dX12_write_4 : decode cX12_write 4 = .ok (.istore_n 3, 1) := zo_62 (zkb zk_cX12_write zn_cX12_write rfl)
theorem dX12_write_5 : decode cX12_write 5 = .ok (.iload_n 2, 1) := zo_28 (zkb zk_cX12_write zn_cX12_write rfl)
theorem dX12_write_6 : decode cX12_write 6 = .ok (.sipush 255, 3) := zo_17 (b1 := 0) (b2 := 255) (zkb3 zk_cX12_write zn_cX12_write rfl) rfl
theorem dX12_write_9 : decode cX12_write 9 = .ok (.iand, 1) := zo_126 (zkb zk_cX12_write zn_cX12_write rfl)
theorem dX12_write_10 : decode cX12_write 10 = .ok (.istore 4, 2) := zo_54 (b1 := 4) (zkb2 zk_cX12_write zn_cX12_write rfl)
theorem dX12_write_12 : decode cX12_write 12 = .ok (.iload_n 3, 1) := zo_29 (zkb zk_cX12_write zn_cX12_write rfl)
theorem dX12_write_13 : decode cX12_write 13 = .ok (.ldc 131, 2) := zo_18 (b1 := 131) (zkb2 zk_cX12_write zn_cX12_write rfl)
theorem dX12_write_15 : decode cX12_write 15 = .ok (.if_icmp .lt 16, 3) := zo_161 (b1 := 0) (b2 := 16) (zkb3 zk_cX12_write zn_cX12_write rfl) rfl
theorem dX12_write_18 : decode cX12_write 18 = .ok (.aload_n 0, 1) := zo_42 (zkb zk_cX12_write zn_cX12_write rfl)
theorem dX12_write_19 : decode cX12_write 19 = .ok (.getfield 30, 3) := zo_180 (b1 := 0) (b2 := 30) (zkb3 zk_cX12_write zn_cX12_write rfl) rfl
theorem dX12_write_22 : decode cX12_write 22 = .ok (.iload_n 3, 1) := zo_29 (zkb zk_cX12_write zn_cX12_write rfl)
theorem dX12_write_23 : decode cX12_write 23 = .ok (.sipush 8192, 3) := zo_17 (b1 := 32) (b2 := 0) (zkb3 zk_cX12_write zn_cX12_write rfl) rfl
theorem dX12_write_26 : decode cX12_write 26 = .ok (.irem, 1) := zo_112 (zkb zk_cX12_write zn_cX12_write rfl)
theorem dX12_write_27 : decode cX12_write 27 = .ok (.iload 4, 2) := zo_21 (b1 := 4) (zkb2 zk_cX12_write zn_cX12_write rfl)
theorem dX12_write_29 : decode cX12_write 29 = .ok (.i2b, 1) := zo_145 (zkb zk_cX12_write zn_cX12_write rfl)
theorem dX12_write_30 : decode cX12_write 30 = .ok (.bastore, 1) := zo_84 (zkb zk_cX12_write zn_cX12_write rfl)
theorem dX12_write_31 : decode cX12_write 31 = .ok (.aload_n 0, 1) := zo_42 (zkb zk_cX12_write zn_cX12_write rfl)
theorem dX12_write_32 : decode cX12_write 32 = .ok (.iload_n 3, 1) := zo_29 (zkb zk_cX12_write zn_cX12_write rfl)
theorem dX12_write_33 : decode cX12_write 33 = .ok (.invokevirtual 154, 3) := zo_182 (b1 := 0) (b2 := 154) (zkb3 zk_cX12_write zn_cX12_write rfl) rfl
theorem dX12_write_36 : decode cX12_write 36 = .ok (.ifCond .eq 16, 3) := zo_153 (b1 := 0) (b2 := 16) (zkb3 zk_cX12_write zn_cX12_write rfl) rfl
theorem dX12_write_39 : decode cX12_write 39 = .ok (.aload_n 0, 1) := zo_42 (zkb zk_cX12_write zn_cX12_write rfl)
theorem dX12_write_40 : decode cX12_write 40 = .ok (.getfield 34, 3) := zo_180 (b1 := 0) (b2 := 34) (zkb3 zk_cX12_write zn_cX12_write rfl) rfl
theorem dX12_write_43 : decode cX12_write 43 = .ok (.aload_n 0, 1) := zo_42 (zkb zk_cX12_write zn_cX12_write rfl)
theorem dX12_write_44 : decode cX12_write 44 = .ok (.iload_n 3, 1) := zo_29 (zkb zk_cX12_write zn_cX12_write rfl)
theorem dX12_write_45 : decode cX12_write 45 = .ok (.invokevirtual 157, 3) := zo_182 (b1 := 0) (b2 := 157) (zkb3 zk_cX12_write zn_cX12_write rfl) rfl
theorem dX12_write_48 : decode cX12_write 48 = .ok (.iload 4, 2) := zo_21 (b1 := 4) (zkb2 zk_cX12_write zn_cX12_write rfl)
theorem dX12_write_50 : decode cX12_write 50 = .ok (.i2b, 1) := zo_145 (zkb zk_cX12_write zn_cX12_write rfl)
theorem dX12_write_51 : decode cX12_write 51 = .ok (.bastore, 1) := zo_84 (zkb zk_cX12_write zn_cX12_write rfl)
theorem dX12_write_52 : decode cX12_write 52 = .ok (.aload_n 0, 1) := zo_42 (zkb zk_cX12_write zn_cX12_write rfl)
theorem dX12_write_53 : decode cX12_write 53 = .ok (.getfield 137, 3) := zo_180 (b1 := 0) (b2 := 137) (zkb3 zk_cX12_write zn_cX12_write rfl) rfl
theorem dX12_write_56 : decode cX12_write 56 = .ok (.iconst 1, 1) := zo_4 (zkb zk_cX12_write zn_cX12_write rfl)
theorem dX12_write_57 : decode cX12_write 57 = .ok (.if_icmp .ne 18, 3) := zo_160 (b1 := 0) (b2 := 18) (zkb3 zk_cX12_write zn_cX12_write rfl) rfl
theorem dX12_write_60 : decode cX12_write 60 = .ok (.iload_n 3, 1) := zo_29 (zkb zk_cX12_write zn_cX12_write rfl)
theorem dX12_write_61 : decode cX12_write 61 = .ok (.ldc 163, 2) := zo_18 (b1 := 163) (zkb2 zk_cX12_write zn_cX12_write rfl)
theorem dX12_write_63 : decode cX12_write 63 = .ok (.if_icmp .ne 12, 3) := zo_160 (b1 := 0) (b2 := 12) (zkb3 zk_cX12_write zn_cX12_write rfl) rfl
theorem dX12_write_66 : decode cX12_write 66 = .ok (.aload_n 0, 1) := zo_42 (zkb zk_cX12_write zn_cX12_write rfl)
theorem dX12_write_67 : decode cX12_write 67 = .ok (.getfield 22, 3) := zo_180 (b1 := 0) (b2 := 22) (zkb3 zk_cX12_write zn_cX12_write rfl) rfl
theorem dX12_write_70 : decode cX12_write 70 = .ok (.bipush 32, 2) := zo_16 (b1 := 32) (zkb2 zk_cX12_write zn_cX12_write rfl) rfl
theorem dX12_write_72 : decode cX12_write 72 = .ok (.iload 4, 2) := zo_21 (b1 := 4) (zkb2 zk_cX12_write zn_cX12_write rfl)
theorem dX12_write_74 : decode cX12_write 74 = .ok (.iastore, 1) := zo_79 (zkb zk_cX12_write zn_cX12_write rfl)
theorem dX12_write_75 : decode cX12_write 75 = .ok (.aload_n 0, 1) := zo_42 (zkb zk_cX12_write zn_cX12_write rfl)
theorem dX12_write_76 : decode cX12_write 76 = .ok (.getfield 137, 3) := zo_180 (b1 := 0) (b2 := 137) (zkb3 zk_cX12_write zn_cX12_write rfl) rfl
theorem dX12_write_79 : decode cX12_write 79 = .ok (.iconst 1, 1) := zo_4 (zkb zk_cX12_write zn_cX12_write rfl)
theorem dX12_write_80 : decode cX12_write 80 = .ok (.if_icmp .ne 23, 3) := zo_160 (b1 := 0) (b2 := 23) (zkb3 zk_cX12_write zn_cX12_write rfl) rfl
theorem dX12_write_83 : decode cX12_write 83 = .ok (.iload_n 3, 1) := zo_29 (zkb zk_cX12_write zn_cX12_write rfl)
theorem dX12_write_84 : decode cX12_write 84 = .ok (.ldc 163, 2) := zo_18 (b1 := 163) (zkb2 zk_cX12_write zn_cX12_write rfl)
theorem dX12_write_86 : decode cX12_write 86 = .ok (.if_icmp .le 17, 3) := zo_164 (b1 := 0) (b2 := 17) (zkb3 zk_cX12_write zn_cX12_write rfl) rfl
theorem dX12_write_89 : decode cX12_write 89 = .ok (.aload_n 0, 1) := zo_42 (zkb zk_cX12_write zn_cX12_write rfl)
theorem dX12_write_90 : decode cX12_write 90 = .ok (.getfield 22, 3) := zo_180 (b1 := 0) (b2 := 22) (zkb3 zk_cX12_write zn_cX12_write rfl) rfl
theorem dX12_write_93 : decode cX12_write 93 = .ok (.bipush 29, 2) := zo_16 (b1 := 29) (zkb2 zk_cX12_write zn_cX12_write rfl) rfl
theorem dX12_write_95 : decode cX12_write 95 = .ok (.iload_n 3, 1) := zo_29 (zkb zk_cX12_write zn_cX12_write rfl)
theorem dX12_write_96 : decode cX12_write 96 = .ok (.iadd, 1) := zo_96 (zkb zk_cX12_write zn_cX12_write rfl)
theorem dX12_write_97 : decode cX12_write 97 = .ok (.ldc 164, 2) := zo_18 (b1 := 164) (zkb2 zk_cX12_write zn_cX12_write rfl)
theorem dX12_write_99 : decode cX12_write 99 = .ok (.isub, 1) := zo_100 (zkb zk_cX12_write zn_cX12_write rfl)
theorem dX12_write_100 : decode cX12_write 100 = .ok (.iload 4, 2) := zo_21 (b1 := 4) (zkb2 zk_cX12_write zn_cX12_write rfl)
theorem dX12_write_102 : decode cX12_write 102 = .ok (.iastore, 1) := zo_79 (zkb zk_cX12_write zn_cX12_write rfl)
theorem dX12_write_103 : decode cX12_write 103 = .ok (.aload_n 0, 1) := zo_42 (zkb zk_cX12_write zn_cX12_write rfl)
theorem dX12_write_104 : decode cX12_write 104 = .ok (.getfield 137, 3) := zo_180 (b1 := 0) (b2 := 137) (zkb3 zk_cX12_write zn_cX12_write rfl) rfl
theorem dX12_write_107 : decode cX12_write 107 = .ok (.iconst 2, 1) := zo_5 (zkb zk_cX12_write zn_cX12_write rfl)
theorem dX12_write_108 : decode cX12_write 108 = .ok (.if_icmp .ne 32, 3) := zo_160 (b1 := 0) (b2 := 32) (zkb3 zk_cX12_write zn_cX12_write rfl) rfl
theorem dX12_write_111 : decode cX12_write 111 = .ok (.iload_n 3, 1) := zo_29 (zkb zk_cX12_write zn_cX12_write rfl)
theorem dX12_write_112 : decode cX12_write 112 = .ok (.ldc 131, 2) := zo_18 (b1 := 131) (zkb2 zk_cX12_write zn_cX12_write rfl)
theorem dX12_write_114 : decode cX12_write 114 = .ok (.if_icmp .ge 26, 3) := zo_162 (b1 := 0) (b2 := 26) (zkb3 zk_cX12_write zn_cX12_write rfl) rfl
theorem dX12_write_117 : decode cX12_write 117 = .ok (.iload_n 3, 1) := zo_29 (zkb zk_cX12_write zn_cX12_write rfl)
theorem dX12_write_118 : decode cX12_write 118 = .ok (.sipush 16384, 3) := zo_17 (b1 := 64) (b2 := 0) (zkb3 zk_cX12_write zn_cX12_write rfl) rfl
theorem dX12_write_121 : decode cX12_write 121 = .ok (.irem, 1) := zo_112 (zkb zk_cX12_write zn_cX12_write rfl)
theorem dX12_write_122 : decode cX12_write 122 = .ok (.ifCond .ne 18, 3) := zo_154 (b1 := 0) (b2 := 18) (zkb3 zk_cX12_write zn_cX12_write rfl) rfl
theorem dX12_write_125 : decode cX12_write 125 = .ok (.aload_n 0, 1) := zo_42 (zkb zk_cX12_write zn_cX12_write rfl)
theorem dX12_write_126 : decode cX12_write 126 = .ok (.getfield 22, 3) := zo_180 (b1 := 0) (b2 := 22) (zkb3 zk_cX12_write zn_cX12_write rfl) rfl
theorem dX12_write_129 : decode cX12_write 129 = .ok (.bipush 29, 2) := zo_16 (b1 := 29) (zkb2 zk_cX12_write zn_cX12_write rfl) rfl
theorem dX12_write_131 : decode cX12_write 131 = .ok (.iload_n 3, 1) := zo_29 (zkb zk_cX12_write zn_cX12_write rfl)
theorem dX12_write_132 : decode cX12_write 132 = .ok (.sipush 16384, 3) := zo_17 (b1 := 64) (b2 := 0) (zkb3 zk_cX12_write zn_cX12_write rfl) rfl
theorem dX12_write_135 : decode cX12_write 135 = .ok (.idiv, 1) := zo_108 (zkb zk_cX12_write zn_cX12_write rfl)
theorem dX12_write_136 : decode cX12_write 136 = .ok (.iadd, 1) := zo_96 (zkb zk_cX12_write zn_cX12_write rfl)
theorem dX12_write_137 : decode cX12_write 137 = .ok (.iload 4, 2) := zo_21 (b1 := 4) (zkb2 zk_cX12_write zn_cX12_write rfl)
theorem dX12_write_139 : decode cX12_write 139 = .ok (.iastore, 1) := zo_79 (zkb zk_cX12_write zn_cX12_write rfl)
theorem dX12_write_140 : decode cX12_write 140 = .ok (.aload_n 0, 1) := zo_42 (zkb zk_cX12_write zn_cX12_write rfl)
theorem dX12_write_141 : decode cX12_write 141 = .ok (.getfield 137, 3) := zo_180 (b1 := 0) (b2 := 137) (zkb3 zk_cX12_write zn_cX12_write rfl) rfl
theorem dX12_write_144 : decode cX12_write 144 = .ok (.iconst 3, 1) := zo_6 (zkb zk_cX12_write zn_cX12_write rfl)
theorem dX12_write_145 : decode cX12_write 145 = .ok (.if_icmp .ne 18, 3) := zo_160 (b1 := 0) (b2 := 18) (zkb3 zk_cX12_write zn_cX12_write rfl) rfl
theorem dX12_write_148 : decode cX12_write 148 = .ok (.iload_n 3, 1) := zo_29 (zkb zk_cX12_write zn_cX12_write rfl)
theorem dX12_write_149 : decode cX12_write 149 = .ok (.ldc 165, 2) := zo_18 (b1 := 165) (zkb2 zk_cX12_write zn_cX12_write rfl)
theorem dX12_write_151 : decode cX12_write 151 = .ok (.if_icmp .ne 12, 3) := zo_160 (b1 := 0) (b2 := 12) (zkb3 zk_cX12_write zn_cX12_write rfl) rfl
theorem dX12_write_154 : decode cX12_write 154 = .ok (.aload_n 0, 1) := zo_42 (zkb zk_cX12_write zn_cX12_write rfl)
theorem dX12_write_155 : decode cX12_write 155 = .ok (.getfield 22, 3) := zo_180 (b1 := 0) (b2 := 22) (zkb3 zk_cX12_write zn_cX12_write rfl) rfl
theorem dX12_write_158 : decode cX12_write 158 = .ok (.bipush 31, 2) := zo_16 (b1 := 31) (zkb2 zk_cX12_write zn_cX12_write rfl) rfl
theorem dX12_write_160 : decode cX12_write 160 = .ok (.iload 4, 2) := zo_21 (b1 := 4) (zkb2 zk_cX12_write zn_cX12_write rfl)
theorem dX12_write_162 : decode cX12_write 162 = .ok (.iastore, 1) := zo_79 (zkb zk_cX12_write zn_cX12_write rfl)
theorem dX12_write_163 : decode cX12_write 163 = .ok (.return_, 1) := zo_177 (zkb zk_cX12_write zn_cX12_write rfl)
noncomputable def kn_cX12_word : Nat := 0xac80780810a600b660041b2aa600b61b2a
theorem zk_cX12_word : zkd cX12_word.data.toList kn_cX12_word = true := by decide +kernel
theorem zn_cX12_word : cX12_word.data.toList.length = 17 := by decide +kernel
theorem dX12_word_0 : decode cX12_word 0 = .ok (.aload_n 0, 1) := zo_42 (zkb zk_cX12_word zn_cX12_word rfl)
theorem dX12_word_1 : decode cX12_word 1 = .ok (.iload_n 1, 1) := zo_27 (zkb zk_cX12_word zn_cX12_word rfl)
theorem dX12_word_2 : decode cX12_word 2 = .ok (.invokevirtual 166, 3) := zo_182 (b1 := 0) (b2 := 166) (zkb3 zk_cX12_word zn_cX12_word rfl) rfl
theorem dX12_word_5 : decode cX12_word 5 = .ok (.aload_n 0, 1) := zo_42 (zkb zk_cX12_word zn_cX12_word rfl)
theorem dX12_word_6 : decode cX12_word 6 = .ok (.iload_n 1, 1) := zo_27 (zkb zk_cX12_word zn_cX12_word rfl)
theorem dX12_word_7 : decode cX12_word 7 = .ok (.iconst 1, 1) := zo_4 (zkb zk_cX12_word zn_cX12_word rfl)
theorem dX12_word_8 : decode cX12_word 8 = .ok (.iadd, 1) := zo_96 (zkb zk_cX12_word zn_cX12_word rfl)
theorem dX12_word_9 : decode cX12_word 9 = .ok (.invokevirtual 166, 3) := zo_182 (b1 := 0) (b2 := 166) (zkb3 zk_cX12_word zn_cX12_word rfl) rfl
theorem dX12_word_12 : decode cX12_word 12 = .ok (.bipush 8, 2) := zo_16 (b1 := 8) (zkb2 zk_cX12_word zn_cX12_word rfl) rfl
theorem dX12_word_14 : decode cX12_word 14 = .ok (.ishl, 1) := zo_120 (zkb zk_cX12_word zn_cX12_word rfl)
theorem dX12_word_15 : decode cX12_word 15 = .ok (.ior, 1) := zo_128 (zkb zk_cX12_word zn_cX12_word rfl)
theorem dX12_word_16 : decode cX12_word 16 = .ok (.ireturn, 1) := zo_172 (zkb zk_cX12_word zn_cX12_word rfl)
noncomputable def kn_cX12_wordTo : Nat := 0xb1a900b67a08101c60041b2aa900b61c1b2a
theorem zk_cX12_wordTo : zkd cX12_wordTo.data.toList kn_cX12_wordTo = true := by decide +kernel
theorem zn_cX12_wordTo : cX12_wordTo.data.toList.length = 18 := by decide +kernel
theorem dX12_wordTo_0 : decode cX12_wordTo 0 = .ok (.aload_n 0, 1) := zo_42 (zkb zk_cX12_wordTo zn_cX12_wordTo rfl)
theorem dX12_wordTo_1 : decode cX12_wordTo 1 = .ok (.iload_n 1, 1) := zo_27 (zkb zk_cX12_wordTo zn_cX12_wordTo rfl)
theorem dX12_wordTo_2 : decode cX12_wordTo 2 = .ok (.iload_n 2, 1) := zo_28 (zkb zk_cX12_wordTo zn_cX12_wordTo rfl)
theorem dX12_wordTo_3 : decode cX12_wordTo 3 = .ok (.invokevirtual 169, 3) := zo_182 (b1 := 0) (b2 := 169) (zkb3 zk_cX12_wordTo zn_cX12_wordTo rfl) rfl
theorem dX12_wordTo_6 : decode cX12_wordTo 6 = .ok (.aload_n 0, 1) := zo_42 (zkb zk_cX12_wordTo zn_cX12_wordTo rfl)
theorem dX12_wordTo_7 : decode cX12_wordTo 7 = .ok (.iload_n 1, 1) := zo_27 (zkb zk_cX12_wordTo zn_cX12_wordTo rfl)
theorem dX12_wordTo_8 : decode cX12_wordTo 8 = .ok (.iconst 1, 1) := zo_4 (zkb zk_cX12_wordTo zn_cX12_wordTo rfl)
theorem dX12_wordTo_9 : decode cX12_wordTo 9 = .ok (.iadd, 1) := zo_96 (zkb zk_cX12_wordTo zn_cX12_wordTo rfl)
theorem dX12_wordTo_10 : decode cX12_wordTo 10 = .ok (.iload_n 2, 1) := zo_28 (zkb zk_cX12_wordTo zn_cX12_wordTo rfl)
theorem dX12_wordTo_11 : decode cX12_wordTo 11 = .ok (.bipush 8, 2) := zo_16 (b1 := 8) (zkb2 zk_cX12_wordTo zn_cX12_wordTo rfl) rfl
theorem dX12_wordTo_13 : decode cX12_wordTo 13 = .ok (.ishr, 1) := zo_122 (zkb zk_cX12_wordTo zn_cX12_wordTo rfl)
theorem dX12_wordTo_14 : decode cX12_wordTo 14 = .ok (.invokevirtual 169, 3) := zo_182 (b1 := 0) (b2 := 169) (zkb3 zk_cX12_wordTo zn_cX12_wordTo rfl) rfl
theorem dX12_wordTo_17 : decode cX12_wordTo 17 = .ok (.return_, 1) := zo_177 (zkb zk_cX12_wordTo zn_cX12_wordTo rfl)
noncomputable def kn_cX12_anew : Nat := 0xb1f0ffa701018454031b2800b42a1000a240101b3c03efffa701018454031b2500b42a1000a20040111b3c03d4ffa70101844f030400a7070700a0047006101b1000a77f1008009a7006101b601bac00111600b42a2c00a26c101b3c034f04a400111600b42aefffa70101844f031b1600b42a1000a2a600111b3c62104f211255101600b42aedffa70101844f0f10601b4e101600b42a1400a2071b3c034fff001128101600b42a4fff001126101600b42a4f7f1025101600b42a4fff001122101600b42a4fff001121101600b42a4f050400a7030700a0058900b42a1f101600b42a4f041e101600b42a4fad1212101600b42af0ffa70101844f031b1600b42a1000a257101b3c2f10f0ffa70101844f031b1600b42a1000a22a101b3c03
theorem zk_cX12_anew : zkd cX12_anew.data.toList kn_cX12_anew = true := by decide +kernel
theorem zn_cX12_anew : cX12_anew.data.toList.length = 287 := by decide +kernel
theorem dX12_anew_0 : decode cX12_anew 0 = .ok (.iconst 0, 1) := zo_3 (zkb zk_cX12_anew zn_cX12_anew rfl)
theorem dX12_anew_1 : decode cX12_anew 1 = .ok (.istore_n 1, 1) := zo_60 (zkb zk_cX12_anew zn_cX12_anew rfl)
theorem dX12_anew_2 : decode cX12_anew 2 = .ok (.iload_n 1, 1) := zo_27 (zkb zk_cX12_anew zn_cX12_anew rfl)
theorem dX12_anew_3 : decode cX12_anew 3 = .ok (.bipush 42, 2) := zo_16 (b1 := 42) (zkb2 zk_cX12_anew zn_cX12_anew rfl) rfl
theorem dX12_anew_5 : decode cX12_anew 5 = .ok (.if_icmp .ge 16, 3) := zo_162 (b1 := 0) (b2 := 16) (zkb3 zk_cX12_anew zn_cX12_anew rfl) rfl
theorem dX12_anew_8 : decode cX12_anew 8 = .ok (.aload_n 0, 1) := zo_42 (zkb zk_cX12_anew zn_cX12_anew rfl)
theorem dX12_anew_9 : decode cX12_anew 9 = .ok (.getfield 22, 3) := zo_180 (b1 := 0) (b2 := 22) (zkb3 zk_cX12_anew zn_cX12_anew rfl) rfl
theorem dX12_anew_12 : decode cX12_anew 12 = .ok (.iload_n 1, 1) := zo_27 (zkb zk_cX12_anew zn_cX12_anew rfl)
theorem dX12_anew_13 : decode cX12_anew 13 = .ok (.iconst 0, 1) := zo_3 (zkb zk_cX12_anew zn_cX12_anew rfl)
theorem dX12_anew_14 : decode cX12_anew 14 = .ok (.iastore, 1) := zo_79 (zkb zk_cX12_anew zn_cX12_anew rfl)
theorem dX12_anew_15 : decode cX12_anew 15 = .ok (.iinc 1 1, 3) := zo_132 (b1 := 1) (b2 := 1) (zkb3 zk_cX12_anew zn_cX12_anew rfl) rfl
theorem dX12_anew_18 : decode cX12_anew 18 = .ok (.goto (-16), 3) := zo_167 (b1 := 255) (b2 := 240) (zkb3 zk_cX12_anew zn_cX12_anew rfl) rfl
theorem dX12_anew_21 : decode cX12_anew 21 = .ok (.bipush 47, 2) := zo_16 (b1 := 47) (zkb2 zk_cX12_anew zn_cX12_anew rfl) rfl
theorem dX12_anew_23 : decode cX12_anew 23 = .ok (.istore_n 1, 1) := zo_60 (zkb zk_cX12_anew zn_cX12_anew rfl)
theorem dX12_anew_24 : decode cX12_anew 24 = .ok (.iload_n 1, 1) := zo_27 (zkb zk_cX12_anew zn_cX12_anew rfl)
theorem dX12_anew_25 : decode cX12_anew 25 = .ok (.bipush 87, 2) := zo_16 (b1 := 87) (zkb2 zk_cX12_anew zn_cX12_anew rfl) rfl
theorem dX12_anew_27 : decode cX12_anew 27 = .ok (.if_icmp .ge 16, 3) := zo_162 (b1 := 0) (b2 := 16) (zkb3 zk_cX12_anew zn_cX12_anew rfl) rfl
theorem dX12_anew_30 : decode cX12_anew 30 = .ok (.aload_n 0, 1) := zo_42 (zkb zk_cX12_anew zn_cX12_anew rfl)
theorem dX12_anew_31 : decode cX12_anew 31 = .ok (.getfield 22, 3) := zo_180 (b1 := 0) (b2 := 22) (zkb3 zk_cX12_anew zn_cX12_anew rfl) rfl
theorem dX12_anew_34 : decode cX12_anew 34 = .ok (.iload_n 1, 1) := zo_27 (zkb zk_cX12_anew zn_cX12_anew rfl)
theorem dX12_anew_35 : decode cX12_anew 35 = .ok (.iconst 0, 1) := zo_3 (zkb zk_cX12_anew zn_cX12_anew rfl)
theorem dX12_anew_36 : decode cX12_anew 36 = .ok (.iastore, 1) := zo_79 (zkb zk_cX12_anew zn_cX12_anew rfl)
theorem dX12_anew_37 : decode cX12_anew 37 = .ok (.iinc 1 1, 3) := zo_132 (b1 := 1) (b2 := 1) (zkb3 zk_cX12_anew zn_cX12_anew rfl) rfl
theorem dX12_anew_40 : decode cX12_anew 40 = .ok (.goto (-16), 3) := zo_167 (b1 := 255) (b2 := 240) (zkb3 zk_cX12_anew zn_cX12_anew rfl) rfl
theorem dX12_anew_43 : decode cX12_anew 43 = .ok (.aload_n 0, 1) := zo_42 (zkb zk_cX12_anew zn_cX12_anew rfl)
theorem dX12_anew_44 : decode cX12_anew 44 = .ok (.getfield 22, 3) := zo_180 (b1 := 0) (b2 := 22) (zkb3 zk_cX12_anew zn_cX12_anew rfl) rfl
theorem dX12_anew_47 : decode cX12_anew 47 = .ok (.bipush 18, 2) := zo_16 (b1 := 18) (zkb2 zk_cX12_anew zn_cX12_anew rfl) rfl
theorem dX12_anew_49 : decode cX12_anew 49 = .ok (.ldc 173, 2) := zo_18 (b1 := 173) (zkb2 zk_cX12_anew zn_cX12_anew rfl)
theorem dX12_anew_51 : decode cX12_anew 51 = .ok (.iastore, 1) := zo_79 (zkb zk_cX12_anew zn_cX12_anew rfl)
theorem dX12_anew_52 : decode cX12_anew 52 = .ok (.aload_n 0, 1) := zo_42 (zkb zk_cX12_anew zn_cX12_anew rfl)
theorem dX12_anew_53 : decode cX12_anew 53 = .ok (.getfield 22, 3) := zo_180 (b1 := 0) (b2 := 22) (zkb3 zk_cX12_anew zn_cX12_anew rfl) rfl
theorem dX12_anew_56 : decode cX12_anew 56 = .ok (.bipush 30, 2) := zo_16 (b1 := 30) (zkb2 zk_cX12_anew zn_cX12_anew rfl) rfl
theorem dX12_anew_58 : decode cX12_anew 58 = .ok (.iconst 1, 1) := zo_4 (zkb zk_cX12_anew zn_cX12_anew rfl)
theorem dX12_anew_59 : decode cX12_anew 59 = .ok (.iastore, 1) := zo_79 (zkb zk_cX12_anew zn_cX12_anew rfl)
theorem dX12_anew_60 : decode cX12_anew 60 = .ok (.aload_n 0, 1) := zo_42 (zkb zk_cX12_anew zn_cX12_anew rfl)
theorem dX12_anew_61 : decode cX12_anew 61 = .ok (.getfield 22, 3) := zo_180 (b1 := 0) (b2 := 22) (zkb3 zk_cX12_anew zn_cX12_anew rfl) rfl
theorem dX12_anew_64 : decode cX12_anew 64 = .ok (.bipush 31, 2) := zo_16 (b1 := 31) (zkb2 zk_cX12_anew zn_cX12_anew rfl) rfl
theorem dX12_anew_66 : decode cX12_anew 66 = .ok (.aload_n 0, 1) := zo_42 (zkb zk_cX12_anew zn_cX12_anew rfl)
theorem dX12_anew_67 : decode cX12_anew 67 = .ok (.getfield 137, 3) := zo_180 (b1 := 0) (b2 := 137) (zkb3 zk_cX12_anew zn_cX12_anew rfl) rfl
theorem dX12_anew_70 : decode cX12_anew 70 = .ok (.iconst 2, 1) := zo_5 (zkb zk_cX12_anew zn_cX12_anew rfl)
theorem dX12_anew_71 : decode cX12_anew 71 = .ok (.if_icmp .ne 7, 3) := zo_160 (b1 := 0) (b2 := 7) (zkb3 zk_cX12_anew zn_cX12_anew rfl) rfl
theorem dX12_anew_74 : decode cX12_anew 74 = .ok (.iconst 0, 1) := zo_3 (zkb zk_cX12_anew zn_cX12_anew rfl)
theorem dX12_anew_75 : decode cX12_anew 75 = .ok (.goto 4, 3) := zo_167 (b1 := 0) (b2 := 4) (zkb3 zk_cX12_anew zn_cX12_anew rfl) rfl
theorem dX12_anew_78 : decode cX12_anew 78 = .ok (.iconst 2, 1) := zo_5 (zkb zk_cX12_anew zn_cX12_anew rfl)
theorem dX12_anew_79 : decode cX12_anew 79 = .ok (.iastore, 1) := zo_79 (zkb zk_cX12_anew zn_cX12_anew rfl)
theorem dX12_anew_80 : decode cX12_anew 80 = .ok (.aload_n 0, 1) := zo_42 (zkb zk_cX12_anew zn_cX12_anew rfl)
theorem dX12_anew_81 : decode cX12_anew 81 = .ok (.getfield 22, 3) := zo_180 (b1 := 0) (b2 := 22) (zkb3 zk_cX12_anew zn_cX12_anew rfl) rfl
theorem dX12_anew_84 : decode cX12_anew 84 = .ok (.bipush 33, 2) := zo_16 (b1 := 33) (zkb2 zk_cX12_anew zn_cX12_anew rfl) rfl
theorem dX12_anew_86 : decode cX12_anew 86 = .ok (.sipush 255, 3) := zo_17 (b1 := 0) (b2 := 255) (zkb3 zk_cX12_anew zn_cX12_anew rfl) rfl
theorem dX12_anew_89 : decode cX12_anew 89 = .ok (.iastore, 1) := zo_79 (zkb zk_cX12_anew zn_cX12_anew rfl)
theorem dX12_anew_90 : decode cX12_anew 90 = .ok (.aload_n 0, 1) := zo_42 (zkb zk_cX12_anew zn_cX12_anew rfl)
theorem dX12_anew_91 : decode cX12_anew 91 = .ok (.getfield 22, 3) := zo_180 (b1 := 0) (b2 := 22) (zkb3 zk_cX12_anew zn_cX12_anew rfl) rfl
theorem dX12_anew_94 : decode cX12_anew 94 = .ok (.bipush 34, 2) := zo_16 (b1 := 34) (zkb2 zk_cX12_anew zn_cX12_anew rfl) rfl
theorem dX12_anew_96 : decode cX12_anew 96 = .ok (.sipush 255, 3) := zo_17 (b1 := 0) (b2 := 255) (zkb3 zk_cX12_anew zn_cX12_anew rfl) rfl
theorem dX12_anew_99 : decode cX12_anew 99 = .ok (.iastore, 1) := zo_79 (zkb zk_cX12_anew zn_cX12_anew rfl)
theorem dX12_anew_100 : decode cX12_anew 100 = .ok (.aload_n 0, 1) := zo_42 (zkb zk_cX12_anew zn_cX12_anew rfl)
theorem dX12_anew_101 : decode cX12_anew 101 = .ok (.getfield 22, 3) := zo_180 (b1 := 0) (b2 := 22) (zkb3 zk_cX12_anew zn_cX12_anew rfl) rfl
theorem dX12_anew_104 : decode cX12_anew 104 = .ok (.bipush 37, 2) := zo_16 (b1 := 37) (zkb2 zk_cX12_anew zn_cX12_anew rfl) rfl
theorem dX12_anew_106 : decode cX12_anew 106 = .ok (.bipush 127, 2) := zo_16 (b1 := 127) (zkb2 zk_cX12_anew zn_cX12_anew rfl) rfl
theorem dX12_anew_108 : decode cX12_anew 108 = .ok (.iastore, 1) := zo_79 (zkb zk_cX12_anew zn_cX12_anew rfl)
theorem dX12_anew_109 : decode cX12_anew 109 = .ok (.aload_n 0, 1) := zo_42 (zkb zk_cX12_anew zn_cX12_anew rfl)
theorem dX12_anew_110 : decode cX12_anew 110 = .ok (.getfield 22, 3) := zo_180 (b1 := 0) (b2 := 22) (zkb3 zk_cX12_anew zn_cX12_anew rfl) rfl
theorem dX12_anew_113 : decode cX12_anew 113 = .ok (.bipush 38, 2) := zo_16 (b1 := 38) (zkb2 zk_cX12_anew zn_cX12_anew rfl) rfl
theorem dX12_anew_115 : decode cX12_anew 115 = .ok (.sipush 255, 3) := zo_17 (b1 := 0) (b2 := 255) (zkb3 zk_cX12_anew zn_cX12_anew rfl) rfl
theorem dX12_anew_118 : decode cX12_anew 118 = .ok (.iastore, 1) := zo_79 (zkb zk_cX12_anew zn_cX12_anew rfl)
theorem dX12_anew_119 : decode cX12_anew 119 = .ok (.aload_n 0, 1) := zo_42 (zkb zk_cX12_anew zn_cX12_anew rfl)
theorem dX12_anew_120 : decode cX12_anew 120 = .ok (.getfield 22, 3) := zo_180 (b1 := 0) (b2 := 22) (zkb3 zk_cX12_anew zn_cX12_anew rfl) rfl
theorem dX12_anew_123 : decode cX12_anew 123 = .ok (.bipush 40, 2) := zo_16 (b1 := 40) (zkb2 zk_cX12_anew zn_cX12_anew rfl) rfl
theorem dX12_anew_125 : decode cX12_anew 125 = .ok (.sipush 255, 3) := zo_17 (b1 := 0) (b2 := 255) (zkb3 zk_cX12_anew zn_cX12_anew rfl) rfl
theorem dX12_anew_128 : decode cX12_anew 128 = .ok (.iastore, 1) := zo_79 (zkb zk_cX12_anew zn_cX12_anew rfl)
theorem dX12_anew_129 : decode cX12_anew 129 = .ok (.iconst 0, 1) := zo_3 (zkb zk_cX12_anew zn_cX12_anew rfl)
theorem dX12_anew_130 : decode cX12_anew 130 = .ok (.istore_n 1, 1) := zo_60 (zkb zk_cX12_anew zn_cX12_anew rfl)
theorem dX12_anew_131 : decode cX12_anew 131 = .ok (.iload_n 1, 1) := zo_27 (zkb zk_cX12_anew zn_cX12_anew rfl)
theorem dX12_anew_132 : decode cX12_anew 132 = .ok (.iconst 4, 1) := zo_7 (zkb zk_cX12_anew zn_cX12_anew rfl)
theorem dX12_anew_133 : decode cX12_anew 133 = .ok (.if_icmp .ge 20, 3) := zo_162 (b1 := 0) (b2 := 20) (zkb3 zk_cX12_anew zn_cX12_anew rfl) rfl
theorem dX12_anew_136 : decode cX12_anew 136 = .ok (.aload_n 0, 1) := zo_42 (zkb zk_cX12_anew zn_cX12_anew rfl)
theorem dX12_anew_137 : decode cX12_anew 137 = .ok (.getfield 22, 3) := zo_180 (b1 := 0) (b2 := 22) (zkb3 zk_cX12_anew zn_cX12_anew rfl) rfl
theorem dX12_anew_140 : decode cX12_anew 140 = .ok (.bipush 78, 2) := zo_16 (b1 := 78) (zkb2 zk_cX12_anew zn_cX12_anew rfl) rfl
theorem dX12_anew_142 : decode cX12_anew 142 = .ok (.iload_n 1, 1) := zo_27 (zkb zk_cX12_anew zn_cX12_anew rfl)
theorem dX12_anew_143 : decode cX12_anew 143 = .ok (.iadd, 1) := zo_96 (zkb zk_cX12_anew zn_cX12_anew rfl)
theorem dX12_anew_144 : decode cX12_anew 144 = .ok (.bipush 15, 2) := zo_16 (b1 := 15) (zkb2 zk_cX12_anew zn_cX12_anew rfl) rfl
theorem dX12_anew_146 : decode cX12_anew 146 = .ok (.iastore, 1) := zo_79 (zkb zk_cX12_anew zn_cX12_anew rfl)
theorem dX12_anew_147 : decode cX12_anew 147 = .ok (.iinc 1 1, 3) := zo_132 (b1 := 1) (b2 := 1) (zkb3 zk_cX12_anew zn_cX12_anew rfl) rfl
theorem dX12_anew_150 : decode cX12_anew 150 = .ok (.goto (-19), 3) := zo_167 (b1 := 255) (b2 := 237) (zkb3 zk_cX12_anew zn_cX12_anew rfl) rfl
theorem dX12_anew_153 : decode cX12_anew 153 = .ok (.aload_n 0, 1) := zo_42 (zkb zk_cX12_anew zn_cX12_anew rfl)
theorem dX12_anew_154 : decode cX12_anew 154 = .ok (.getfield 22, 3) := zo_180 (b1 := 0) (b2 := 22) (zkb3 zk_cX12_anew zn_cX12_anew rfl) rfl
theorem dX12_anew_157 : decode cX12_anew 157 = .ok (.bipush 85, 2) := zo_16 (b1 := 85) (zkb2 zk_cX12_anew zn_cX12_anew rfl) rfl
theorem dX12_anew_159 : decode cX12_anew 159 = .ok (.ldc 33, 2) := zo_18 (b1 := 33) (zkb2 zk_cX12_anew zn_cX12_anew rfl)
theorem dX12_anew_161 : decode cX12_anew 161 = .ok (.iastore, 1) := zo_79 (zkb zk_cX12_anew zn_cX12_anew rfl)
theorem dX12_anew_162 : decode cX12_anew 162 = .ok (.bipush 98, 2) := zo_16 (b1 := 98) (zkb2 zk_cX12_anew zn_cX12_anew rfl) rfl
theorem dX12_anew_164 : decode cX12_anew 164 = .ok (.istore_n 1, 1) := zo_60 (zkb zk_cX12_anew zn_cX12_anew rfl)
theorem dX12_anew_165 : decode cX12_anew 165 = .ok (.iload_n 1, 1) := zo_27 (zkb zk_cX12_anew zn_cX12_anew rfl)
theorem dX12_anew_166 : decode cX12_anew 166 = .ok (.sipush 166, 3) := zo_17 (b1 := 0) (b2 := 166) (zkb3 zk_cX12_anew zn_cX12_anew rfl) rfl
theorem dX12_anew_169 : decode cX12_anew 169 = .ok (.if_icmp .ge 16, 3) := zo_162 (b1 := 0) (b2 := 16) (zkb3 zk_cX12_anew zn_cX12_anew rfl) rfl
theorem dX12_anew_172 : decode cX12_anew 172 = .ok (.aload_n 0, 1) := zo_42 (zkb zk_cX12_anew zn_cX12_anew rfl)
theorem dX12_anew_173 : decode cX12_anew 173 = .ok (.getfield 22, 3) := zo_180 (b1 := 0) (b2 := 22) (zkb3 zk_cX12_anew zn_cX12_anew rfl) rfl
theorem dX12_anew_176 : decode cX12_anew 176 = .ok (.iload_n 1, 1) := zo_27 (zkb zk_cX12_anew zn_cX12_anew rfl)
theorem dX12_anew_177 : decode cX12_anew 177 = .ok (.iconst 0, 1) := zo_3 (zkb zk_cX12_anew zn_cX12_anew rfl)
theorem dX12_anew_178 : decode cX12_anew 178 = .ok (.iastore, 1) := zo_79 (zkb zk_cX12_anew zn_cX12_anew rfl)
theorem dX12_anew_179 : decode cX12_anew 179 = .ok (.iinc 1 1, 3) := zo_132 (b1 := 1) (b2 := 1) (zkb3 zk_cX12_anew zn_cX12_anew rfl) rfl
theorem dX12_anew_182 : decode cX12_anew 182 = .ok (.goto (-17), 3) := zo_167 (b1 := 255) (b2 := 239) (zkb3 zk_cX12_anew zn_cX12_anew rfl) rfl
theorem dX12_anew_185 : decode cX12_anew 185 = .ok (.aload_n 0, 1) := zo_42 (zkb zk_cX12_anew zn_cX12_anew rfl)
theorem dX12_anew_186 : decode cX12_anew 186 = .ok (.getfield 22, 3) := zo_180 (b1 := 0) (b2 := 22) (zkb3 zk_cX12_anew zn_cX12_anew rfl) rfl
theorem dX12_anew_189 : decode cX12_anew 189 = .ok (.sipush 164, 3) := zo_17 (b1 := 0) (b2 := 164) (zkb3 zk_cX12_anew zn_cX12_anew rfl) rfl
theorem dX12_anew_192 : decode cX12_anew 192 = .ok (.iconst 1, 1) := zo_4 (zkb zk_cX12_anew zn_cX12_anew rfl)
theorem dX12_anew_193 : decode cX12_anew 193 = .ok (.iastore, 1) := zo_79 (zkb zk_cX12_anew zn_cX12_anew rfl)
theorem dX12_anew_194 : decode cX12_anew 194 = .ok (.iconst 0, 1) := zo_3 (zkb zk_cX12_anew zn_cX12_anew rfl)
theorem dX12_anew_195 : decode cX12_anew 195 = .ok (.istore_n 1, 1) := zo_60 (zkb zk_cX12_anew zn_cX12_anew rfl)
theorem dX12_anew_196 : decode cX12_anew 196 = .ok (.iload_n 1, 1) := zo_27 (zkb zk_cX12_anew zn_cX12_anew rfl)
theorem dX12_anew_197 : decode cX12_anew 197 = .ok (.bipush 108, 2) := zo_16 (b1 := 108) (zkb2 zk_cX12_anew zn_cX12_anew rfl) rfl
theorem dX12_anew_199 : decode cX12_anew 199 = .ok (.if_icmp .ge 44, 3) := zo_162 (b1 := 0) (b2 := 44) (zkb3 zk_cX12_anew zn_cX12_anew rfl) rfl
theorem dX12_anew_202 : decode cX12_anew 202 = .ok (.aload_n 0, 1) := zo_42 (zkb zk_cX12_anew zn_cX12_anew rfl)
theorem dX12_anew_203 : decode cX12_anew 203 = .ok (.getfield 22, 3) := zo_180 (b1 := 0) (b2 := 22) (zkb3 zk_cX12_anew zn_cX12_anew rfl) rfl
theorem dX12_anew_206 : decode cX12_anew 206 = .ok (.sipush 172, 3) := zo_17 (b1 := 0) (b2 := 172) (zkb3 zk_cX12_anew zn_cX12_anew rfl) rfl
theorem dX12_anew_209 : decode cX12_anew 209 = .ok (.iload_n 1, 1) := zo_27 (zkb zk_cX12_anew zn_cX12_anew rfl)
theorem dX12_anew_210 : decode cX12_anew 210 = .ok (.iadd, 1) := zo_96 (zkb zk_cX12_anew zn_cX12_anew rfl)
theorem dX12_anew_211 : decode cX12_anew 211 = .ok (.iload_n 1, 1) := zo_27 (zkb zk_cX12_anew zn_cX12_anew rfl)
theorem dX12_anew_212 : decode cX12_anew 212 = .ok (.bipush 6, 2) := zo_16 (b1 := 6) (zkb2 zk_cX12_anew zn_cX12_anew rfl) rfl
theorem dX12_anew_214 : decode cX12_anew 214 = .ok (.irem, 1) := zo_112 (zkb zk_cX12_anew zn_cX12_anew rfl)
theorem dX12_anew_215 : decode cX12_anew 215 = .ok (.ifCond .ne 8, 3) := zo_154 (b1 := 0) (b2 := 8) (zkb3 zk_cX12_anew zn_cX12_anew rfl) rfl
theorem dX12_anew_218 : decode cX12_anew 218 = .ok (.bipush 127, 2) := zo_16 (b1 := 127) (zkb2 zk_cX12_anew zn_cX12_anew rfl) rfl
theorem dX12_anew_220 : decode cX12_anew 220 = .ok (.goto 16, 3) := zo_167 (b1 := 0) (b2 := 16) (zkb3 zk_cX12_anew zn_cX12_anew rfl) rfl
theorem dX12_anew_223 : decode cX12_anew 223 = .ok (.iload_n 1, 1) := zo_27 (zkb zk_cX12_anew zn_cX12_anew rfl)
theorem dX12_anew_224 : decode cX12_anew 224 = .ok (.bipush 6, 2) := zo_16 (b1 := 6) (zkb2 zk_cX12_anew zn_cX12_anew rfl) rfl
theorem dX12_anew_226 : decode cX12_anew 226 = .ok (.irem, 1) := zo_112 (zkb zk_cX12_anew zn_cX12_anew rfl)
theorem dX12_anew_227 : decode cX12_anew 227 = .ok (.iconst 1, 1) := zo_4 (zkb zk_cX12_anew zn_cX12_anew rfl)
theorem dX12_anew_228 : decode cX12_anew 228 = .ok (.if_icmp .ne 7, 3) := zo_160 (b1 := 0) (b2 := 7) (zkb3 zk_cX12_anew zn_cX12_anew rfl) rfl
theorem dX12_anew_231 : decode cX12_anew 231 = .ok (.iconst 4, 1) := zo_7 (zkb zk_cX12_anew zn_cX12_anew rfl)
theorem dX12_anew_232 : decode cX12_anew 232 = .ok (.goto 4, 3) := zo_167 (b1 := 0) (b2 := 4) (zkb3 zk_cX12_anew zn_cX12_anew rfl) rfl
theorem dX12_anew_235 : decode cX12_anew 235 = .ok (.iconst 0, 1) := zo_3 (zkb zk_cX12_anew zn_cX12_anew rfl)
theorem dX12_anew_236 : decode cX12_anew 236 = .ok (.iastore, 1) := zo_79 (zkb zk_cX12_anew zn_cX12_anew rfl)
theorem dX12_anew_237 : decode cX12_anew 237 = .ok (.iinc 1 1, 3) := zo_132 (b1 := 1) (b2 := 1) (zkb3 zk_cX12_anew zn_cX12_anew rfl) rfl
theorem dX12_anew_240 : decode cX12_anew 240 = .ok (.goto (-44), 3) := zo_167 (b1 := 255) (b2 := 212) (zkb3 zk_cX12_anew zn_cX12_anew rfl) rfl
theorem dX12_anew_243 : decode cX12_anew 243 = .ok (.iconst 0, 1) := zo_3 (zkb zk_cX12_anew zn_cX12_anew rfl)
theorem dX12_anew_244 : decode cX12_anew 244 = .ok (.istore_n 1, 1) := zo_60 (zkb zk_cX12_anew zn_cX12_anew rfl)
theorem dX12_anew_245 : decode cX12_anew 245 = .ok (.iload_n 1, 1) := zo_27 (zkb zk_cX12_anew zn_cX12_anew rfl)
theorem dX12_anew_246 : decode cX12_anew 246 = .ok (.sipush 16384, 3) := zo_17 (b1 := 64) (b2 := 0) (zkb3 zk_cX12_anew zn_cX12_anew rfl) rfl
theorem dX12_anew_249 : decode cX12_anew 249 = .ok (.if_icmp .ge 16, 3) := zo_162 (b1 := 0) (b2 := 16) (zkb3 zk_cX12_anew zn_cX12_anew rfl) rfl
theorem dX12_anew_252 : decode cX12_anew 252 = .ok (.aload_n 0, 1) := zo_42 (zkb zk_cX12_anew zn_cX12_anew rfl)
theorem dX12_anew_253 : decode cX12_anew 253 = .ok (.getfield 37, 3) := zo_180 (b1 := 0) (b2 := 37) (zkb3 zk_cX12_anew zn_cX12_anew rfl) rfl
theorem dX12_anew_256 : decode cX12_anew 256 = .ok (.iload_n 1, 1) := zo_27 (zkb zk_cX12_anew zn_cX12_anew rfl)
theorem dX12_anew_257 : decode cX12_anew 257 = .ok (.iconst 0, 1) := zo_3 (zkb zk_cX12_anew zn_cX12_anew rfl)
theorem dX12_anew_258 : decode cX12_anew 258 = .ok (.bastore, 1) := zo_84 (zkb zk_cX12_anew zn_cX12_anew rfl)
theorem dX12_anew_259 : decode cX12_anew 259 = .ok (.iinc 1 1, 3) := zo_132 (b1 := 1) (b2 := 1) (zkb3 zk_cX12_anew zn_cX12_anew rfl) rfl
theorem dX12_anew_262 : decode cX12_anew 262 = .ok (.goto (-17), 3) := zo_167 (b1 := 255) (b2 := 239) (zkb3 zk_cX12_anew zn_cX12_anew rfl) rfl
theorem dX12_anew_265 : decode cX12_anew 265 = .ok (.iconst 0, 1) := zo_3 (zkb zk_cX12_anew zn_cX12_anew rfl)
theorem dX12_anew_266 : decode cX12_anew 266 = .ok (.istore_n 1, 1) := zo_60 (zkb zk_cX12_anew zn_cX12_anew rfl)
theorem dX12_anew_267 : decode cX12_anew 267 = .ok (.iload_n 1, 1) := zo_27 (zkb zk_cX12_anew zn_cX12_anew rfl)
theorem dX12_anew_268 : decode cX12_anew 268 = .ok (.bipush 64, 2) := zo_16 (b1 := 64) (zkb2 zk_cX12_anew zn_cX12_anew rfl) rfl
theorem dX12_anew_270 : decode cX12_anew 270 = .ok (.if_icmp .ge 16, 3) := zo_162 (b1 := 0) (b2 := 16) (zkb3 zk_cX12_anew zn_cX12_anew rfl) rfl
theorem dX12_anew_273 : decode cX12_anew 273 = .ok (.aload_n 0, 1) := zo_42 (zkb zk_cX12_anew zn_cX12_anew rfl)
theorem dX12_anew_274 : decode cX12_anew 274 = .ok (.getfield 40, 3) := zo_180 (b1 := 0) (b2 := 40) (zkb3 zk_cX12_anew zn_cX12_anew rfl) rfl
theorem dX12_anew_277 : decode cX12_anew 277 = .ok (.iload_n 1, 1) := zo_27 (zkb zk_cX12_anew zn_cX12_anew rfl)
theorem dX12_anew_278 : decode cX12_anew 278 = .ok (.iconst 0, 1) := zo_3 (zkb zk_cX12_anew zn_cX12_anew rfl)
theorem dX12_anew_279 : decode cX12_anew 279 = .ok (.bastore, 1) := zo_84 (zkb zk_cX12_anew zn_cX12_anew rfl)
theorem dX12_anew_280 : decode cX12_anew 280 = .ok (.iinc 1 1, 3) := zo_132 (b1 := 1) (b2 := 1) (zkb3 zk_cX12_anew zn_cX12_anew rfl) rfl
theorem dX12_anew_283 : decode cX12_anew 283 = .ok (.goto (-16), 3) := zo_167 (b1 := 255) (b2 := 240) (zkb3 zk_cX12_anew zn_cX12_anew rfl) rfl
theorem dX12_anew_286 : decode cX12_anew 286 = .ok (.return_, 1) := zo_177 (zkb zk_cX12_anew zn_cX12_anew rfl)
noncomputable def kn_cX12_pair : Nat := 0xac802e60041b1600b42a7808102e1b1600b42a
theorem zk_cX12_pair : zkd cX12_pair.data.toList kn_cX12_pair = true := by decide +kernel
theorem zn_cX12_pair : cX12_pair.data.toList.length = 19 := by decide +kernel
theorem dX12_pair_0 : decode cX12_pair 0 = .ok (.aload_n 0, 1) := zo_42 (zkb zk_cX12_pair zn_cX12_pair rfl)
theorem dX12_pair_1 : decode cX12_pair 1 = .ok (.getfield 22, 3) := zo_180 (b1 := 0) (b2 := 22) (zkb3 zk_cX12_pair zn_cX12_pair rfl) rfl
theorem dX12_pair_4 : decode cX12_pair 4 = .ok (.iload_n 1, 1) := zo_27 (zkb zk_cX12_pair zn_cX12_pair rfl)
theorem dX12_pair_5 : decode cX12_pair 5 = .ok (.iaload, 1) := zo_46 (zkb zk_cX12_pair zn_cX12_pair rfl)
theorem dX12_pair_6 : decode cX12_pair 6 = .ok (.bipush 8, 2) := zo_16 (b1 := 8) (zkb2 zk_cX12_pair zn_cX12_pair rfl) rfl
theorem dX12_pair_8 : decode cX12_pair 8 = .ok (.ishl, 1) := zo_120 (zkb zk_cX12_pair zn_cX12_pair rfl)
theorem dX12_pair_9 : decode cX12_pair 9 = .ok (.aload_n 0, 1) := zo_42 (zkb zk_cX12_pair zn_cX12_pair rfl)
theorem dX12_pair_10 : decode cX12_pair 10 = .ok (.getfield 22, 3) := zo_180 (b1 := 0) (b2 := 22) (zkb3 zk_cX12_pair zn_cX12_pair rfl) rfl
theorem dX12_pair_13 : decode cX12_pair 13 = .ok (.iload_n 1, 1) := zo_27 (zkb zk_cX12_pair zn_cX12_pair rfl)
theorem dX12_pair_14 : decode cX12_pair 14 = .ok (.iconst 1, 1) := zo_4 (zkb zk_cX12_pair zn_cX12_pair rfl)
theorem dX12_pair_15 : decode cX12_pair 15 = .ok (.iadd, 1) := zo_96 (zkb zk_cX12_pair zn_cX12_pair rfl)
theorem dX12_pair_16 : decode cX12_pair 16 = .ok (.iaload, 1) := zo_46 (zkb zk_cX12_pair zn_cX12_pair rfl)
theorem dX12_pair_17 : decode cX12_pair 17 = .ok (.ior, 1) := zo_128 (zkb zk_cX12_pair zn_cX12_pair rfl)
theorem dX12_pair_18 : decode cX12_pair 18 = .ok (.ireturn, 1) := zo_172 (zkb zk_cX12_pair zn_cX12_pair rfl)
noncomputable def kn_cX12_pairTo : Nat := 0xb14f7eff00111c60041b1600b42a4f7eff00117a08101c1b1600b42a
theorem zk_cX12_pairTo : zkd cX12_pairTo.data.toList kn_cX12_pairTo = true := by decide +kernel
theorem zn_cX12_pairTo : cX12_pairTo.data.toList.length = 28 := by decide +kernel
theorem dX12_pairTo_0 : decode cX12_pairTo 0 = .ok (.aload_n 0, 1) := zo_42 (zkb zk_cX12_pairTo zn_cX12_pairTo rfl)
theorem dX12_pairTo_1 : decode cX12_pairTo 1 = .ok (.getfield 22, 3) := zo_180 (b1 := 0) (b2 := 22) (zkb3 zk_cX12_pairTo zn_cX12_pairTo rfl) rfl
theorem dX12_pairTo_4 : decode cX12_pairTo 4 = .ok (.iload_n 1, 1) := zo_27 (zkb zk_cX12_pairTo zn_cX12_pairTo rfl)
theorem dX12_pairTo_5 : decode cX12_pairTo 5 = .ok (.iload_n 2, 1) := zo_28 (zkb zk_cX12_pairTo zn_cX12_pairTo rfl)
theorem dX12_pairTo_6 : decode cX12_pairTo 6 = .ok (.bipush 8, 2) := zo_16 (b1 := 8) (zkb2 zk_cX12_pairTo zn_cX12_pairTo rfl) rfl
theorem dX12_pairTo_8 : decode cX12_pairTo 8 = .ok (.ishr, 1) := zo_122 (zkb zk_cX12_pairTo zn_cX12_pairTo rfl)
theorem dX12_pairTo_9 : decode cX12_pairTo 9 = .ok (.sipush 255, 3) := zo_17 (b1 := 0) (b2 := 255) (zkb3 zk_cX12_pairTo zn_cX12_pairTo rfl) rfl
theorem dX12_pairTo_12 : decode cX12_pairTo 12 = .ok (.iand, 1) := zo_126 (zkb zk_cX12_pairTo zn_cX12_pairTo rfl)
theorem dX12_pairTo_13 : decode cX12_pairTo 13 = .ok (.iastore, 1) := zo_79 (zkb zk_cX12_pairTo zn_cX12_pairTo rfl)
theorem dX12_pairTo_14 : decode cX12_pairTo 14 = .ok (.aload_n 0, 1) := zo_42 (zkb zk_cX12_pairTo zn_cX12_pairTo rfl)
theorem dX12_pairTo_15 : decode cX12_pairTo 15 = .ok (.getfield 22, 3) := zo_180 (b1 := 0) (b2 := 22) (zkb3 zk_cX12_pairTo zn_cX12_pairTo rfl) rfl
theorem dX12_pairTo_18 : decode cX12_pairTo 18 = .ok (.iload_n 1, 1) := zo_27 (zkb zk_cX12_pairTo zn_cX12_pairTo rfl)
theorem dX12_pairTo_19 : decode cX12_pairTo 19 = .ok (.iconst 1, 1) := zo_4 (zkb zk_cX12_pairTo zn_cX12_pairTo rfl)
theorem dX12_pairTo_20 : decode cX12_pairTo 20 = .ok (.iadd, 1) := zo_96 (zkb zk_cX12_pairTo zn_cX12_pairTo rfl)
theorem dX12_pairTo_21 : decode cX12_pairTo 21 = .ok (.iload_n 2, 1) := zo_28 (zkb zk_cX12_pairTo zn_cX12_pairTo rfl)
theorem dX12_pairTo_22 : decode cX12_pairTo 22 = .ok (.sipush 255, 3) := zo_17 (b1 := 0) (b2 := 255) (zkb3 zk_cX12_pairTo zn_cX12_pairTo rfl) rfl
theorem dX12_pairTo_25 : decode cX12_pairTo 25 = .ok (.iand, 1) := zo_126 (zkb zk_cX12_pairTo zn_cX12_pairTo rfl)
theorem dX12_pairTo_26 : decode cX12_pairTo 26 = .ok (.iastore, 1) := zo_79 (zkb zk_cX12_pairTo zn_cX12_pairTo rfl)
theorem dX12_pairTo_27 : decode cX12_pairTo 27 = .ok (.return_, 1) := zo_177 (zkb zk_cX12_pairTo zn_cX12_pairTo rfl)
noncomputable def kn_cX12_hl : Nat := 0xac2eae00b42a1600b42a0c00a7b100b606102a0c009aae00b42a
theorem zk_cX12_hl : zkd cX12_hl.data.toList kn_cX12_hl = true := by decide +kernel
theorem zn_cX12_hl : cX12_hl.data.toList.length = 26 := by decide +kernel
theorem dX12_hl_0 : decode cX12_hl 0 = .ok (.aload_n 0, 1) := zo_42 (zkb zk_cX12_hl zn_cX12_hl rfl)
theorem dX12_hl_1 : decode cX12_hl 1 = .ok (.getfield 174, 3) := zo_180 (b1 := 0) (b2 := 174) (zkb3 zk_cX12_hl zn_cX12_hl rfl) rfl
theorem dX12_hl_4 : decode cX12_hl 4 = .ok (.ifCond .ne 12, 3) := zo_154 (b1 := 0) (b2 := 12) (zkb3 zk_cX12_hl zn_cX12_hl rfl) rfl
theorem dX12_hl_7 : decode cX12_hl 7 = .ok (.aload_n 0, 1) := zo_42 (zkb zk_cX12_hl zn_cX12_hl rfl)
theorem dX12_hl_8 : decode cX12_hl 8 = .ok (.bipush 6, 2) := zo_16 (b1 := 6) (zkb2 zk_cX12_hl zn_cX12_hl rfl) rfl
theorem dX12_hl_10 : decode cX12_hl 10 = .ok (.invokevirtual 177, 3) := zo_182 (b1 := 0) (b2 := 177) (zkb3 zk_cX12_hl zn_cX12_hl rfl) rfl
theorem dX12_hl_13 : decode cX12_hl 13 = .ok (.goto 12, 3) := zo_167 (b1 := 0) (b2 := 12) (zkb3 zk_cX12_hl zn_cX12_hl rfl) rfl
theorem dX12_hl_16 : decode cX12_hl 16 = .ok (.aload_n 0, 1) := zo_42 (zkb zk_cX12_hl zn_cX12_hl rfl)
theorem dX12_hl_17 : decode cX12_hl 17 = .ok (.getfield 22, 3) := zo_180 (b1 := 0) (b2 := 22) (zkb3 zk_cX12_hl zn_cX12_hl rfl) rfl
theorem dX12_hl_20 : decode cX12_hl 20 = .ok (.aload_n 0, 1) := zo_42 (zkb zk_cX12_hl zn_cX12_hl rfl)
theorem dX12_hl_21 : decode cX12_hl 21 = .ok (.getfield 174, 3) := zo_180 (b1 := 0) (b2 := 174) (zkb3 zk_cX12_hl zn_cX12_hl rfl) rfl
theorem dX12_hl_24 : decode cX12_hl 24 = .ok (.iaload, 1) := zo_46 (zkb zk_cX12_hl zn_cX12_hl rfl)
theorem dX12_hl_25 : decode cX12_hl 25 = .ok (.ireturn, 1) := zo_172 (zkb zk_cX12_hl zn_cX12_hl rfl)
noncomputable def kn_cX12_hlTo : Nat := 0xb14f7e8f121bae00b42a1600b42a1000a7b400b61b06102a0d009aae00b42a
theorem zk_cX12_hlTo : zkd cX12_hlTo.data.toList kn_cX12_hlTo = true := by decide +kernel
theorem zn_cX12_hlTo : cX12_hlTo.data.toList.length = 31 := by decide +kernel
theorem dX12_hlTo_0 : decode cX12_hlTo 0 = .ok (.aload_n 0, 1) := zo_42 (zkb zk_cX12_hlTo zn_cX12_hlTo rfl)
theorem dX12_hlTo_1 : decode cX12_hlTo 1 = .ok (.getfield 174, 3) := zo_180 (b1 := 0) (b2 := 174) (zkb3 zk_cX12_hlTo zn_cX12_hlTo rfl) rfl
theorem dX12_hlTo_4 : decode cX12_hlTo 4 = .ok (.ifCond .ne 13, 3) := zo_154 (b1 := 0) (b2 := 13) (zkb3 zk_cX12_hlTo zn_cX12_hlTo rfl) rfl
theorem dX12_hlTo_7 : decode cX12_hlTo 7 = .ok (.aload_n 0, 1) := zo_42 (zkb zk_cX12_hlTo zn_cX12_hlTo rfl)
theorem dX12_hlTo_8 : decode cX12_hlTo 8 = .ok (.bipush 6, 2) := zo_16 (b1 := 6) (zkb2 zk_cX12_hlTo zn_cX12_hlTo rfl) rfl
theorem dX12_hlTo_10 : decode cX12_hlTo 10 = .ok (.iload_n 1, 1) := zo_27 (zkb zk_cX12_hlTo zn_cX12_hlTo rfl)
theorem dX12_hlTo_11 : decode cX12_hlTo 11 = .ok (.invokevirtual 180, 3) := zo_182 (b1 := 0) (b2 := 180) (zkb3 zk_cX12_hlTo zn_cX12_hlTo rfl) rfl
theorem dX12_hlTo_14 : decode cX12_hlTo 14 = .ok (.goto 16, 3) := zo_167 (b1 := 0) (b2 := 16) (zkb3 zk_cX12_hlTo zn_cX12_hlTo rfl) rfl
theorem dX12_hlTo_17 : decode cX12_hlTo 17 = .ok (.aload_n 0, 1) := zo_42 (zkb zk_cX12_hlTo zn_cX12_hlTo rfl)
theorem dX12_hlTo_18 : decode cX12_hlTo 18 = .ok (.getfield 22, 3) := zo_180 (b1 := 0) (b2 := 22) (zkb3 zk_cX12_hlTo zn_cX12_hlTo rfl) rfl
theorem dX12_hlTo_21 : decode cX12_hlTo 21 = .ok (.aload_n 0, 1) := zo_42 (zkb zk_cX12_hlTo zn_cX12_hlTo rfl)
theorem dX12_hlTo_22 : decode cX12_hlTo 22 = .ok (.getfield 174, 3) := zo_180 (b1 := 0) (b2 := 174) (zkb3 zk_cX12_hlTo zn_cX12_hlTo rfl) rfl
theorem dX12_hlTo_25 : decode cX12_hlTo 25 = .ok (.iload_n 1, 1) := zo_27 (zkb zk_cX12_hlTo zn_cX12_hlTo rfl)
theorem dX12_hlTo_26 : decode cX12_hlTo 26 = .ok (.ldc 143, 2) := zo_18 (b1 := 143) (zkb2 zk_cX12_hlTo zn_cX12_hlTo rfl)
theorem dX12_hlTo_28 : decode cX12_hlTo 28 = .ok (.iand, 1) := zo_126 (zkb zk_cX12_hlTo zn_cX12_hlTo rfl)
theorem dX12_hlTo_29 : decode cX12_hlTo 29 = .ok (.iastore, 1) := zo_79 (zkb zk_cX12_hlTo zn_cX12_hlTo rfl)
theorem dX12_hlTo_30 : decode cX12_hlTo 30 = .ok (.return_, 1) := zo_177 (zkb zk_cX12_hlTo zn_cX12_hlTo rfl)
noncomputable def kn_cX12_rp : Nat := 0xac2e12101600b42a0a00a7b700b62a0a00a0051b1600a7b100b6072a0b00a0041b2300a7b100b6052a0b009a1b
theorem zk_cX12_rp : zkd cX12_rp.data.toList kn_cX12_rp = true := by decide +kernel
theorem zn_cX12_rp : cX12_rp.data.toList.length = 45 := by decide +kernel
theorem dX12_rp_0 : decode cX12_rp 0 = .ok (.iload_n 1, 1) := zo_27 (zkb zk_cX12_rp zn_cX12_rp rfl)
theorem dX12_rp_1 : decode cX12_rp 1 = .ok (.ifCond .ne 11, 3) := zo_154 (b1 := 0) (b2 := 11) (zkb3 zk_cX12_rp zn_cX12_rp rfl) rfl
theorem dX12_rp_4 : decode cX12_rp 4 = .ok (.aload_n 0, 1) := zo_42 (zkb zk_cX12_rp zn_cX12_rp rfl)
theorem dX12_rp_5 : decode cX12_rp 5 = .ok (.iconst 2, 1) := zo_5 (zkb zk_cX12_rp zn_cX12_rp rfl)
theorem dX12_rp_6 : decode cX12_rp 6 = .ok (.invokevirtual 177, 3) := zo_182 (b1 := 0) (b2 := 177) (zkb3 zk_cX12_rp zn_cX12_rp rfl) rfl
theorem dX12_rp_9 : decode cX12_rp 9 = .ok (.goto 35, 3) := zo_167 (b1 := 0) (b2 := 35) (zkb3 zk_cX12_rp zn_cX12_rp rfl) rfl
theorem dX12_rp_12 : decode cX12_rp 12 = .ok (.iload_n 1, 1) := zo_27 (zkb zk_cX12_rp zn_cX12_rp rfl)
theorem dX12_rp_13 : decode cX12_rp 13 = .ok (.iconst 1, 1) := zo_4 (zkb zk_cX12_rp zn_cX12_rp rfl)
theorem dX12_rp_14 : decode cX12_rp 14 = .ok (.if_icmp .ne 11, 3) := zo_160 (b1 := 0) (b2 := 11) (zkb3 zk_cX12_rp zn_cX12_rp rfl) rfl
theorem dX12_rp_17 : decode cX12_rp 17 = .ok (.aload_n 0, 1) := zo_42 (zkb zk_cX12_rp zn_cX12_rp rfl)
theorem dX12_rp_18 : decode cX12_rp 18 = .ok (.iconst 4, 1) := zo_7 (zkb zk_cX12_rp zn_cX12_rp rfl)
theorem dX12_rp_19 : decode cX12_rp 19 = .ok (.invokevirtual 177, 3) := zo_182 (b1 := 0) (b2 := 177) (zkb3 zk_cX12_rp zn_cX12_rp rfl) rfl
theorem dX12_rp_22 : decode cX12_rp 22 = .ok (.goto 22, 3) := zo_167 (b1 := 0) (b2 := 22) (zkb3 zk_cX12_rp zn_cX12_rp rfl) rfl
theorem dX12_rp_25 : decode cX12_rp 25 = .ok (.iload_n 1, 1) := zo_27 (zkb zk_cX12_rp zn_cX12_rp rfl)
theorem dX12_rp_26 : decode cX12_rp 26 = .ok (.iconst 2, 1) := zo_5 (zkb zk_cX12_rp zn_cX12_rp rfl)
theorem dX12_rp_27 : decode cX12_rp 27 = .ok (.if_icmp .ne 10, 3) := zo_160 (b1 := 0) (b2 := 10) (zkb3 zk_cX12_rp zn_cX12_rp rfl) rfl
theorem dX12_rp_30 : decode cX12_rp 30 = .ok (.aload_n 0, 1) := zo_42 (zkb zk_cX12_rp zn_cX12_rp rfl)
theorem dX12_rp_31 : decode cX12_rp 31 = .ok (.invokevirtual 183, 3) := zo_182 (b1 := 0) (b2 := 183) (zkb3 zk_cX12_rp zn_cX12_rp rfl) rfl
theorem dX12_rp_34 : decode cX12_rp 34 = .ok (.goto 10, 3) := zo_167 (b1 := 0) (b2 := 10) (zkb3 zk_cX12_rp zn_cX12_rp rfl) rfl
theorem dX12_rp_37 : decode cX12_rp 37 = .ok (.aload_n 0, 1) := zo_42 (zkb zk_cX12_rp zn_cX12_rp rfl)
theorem dX12_rp_38 : decode cX12_rp 38 = .ok (.getfield 22, 3) := zo_180 (b1 := 0) (b2 := 22) (zkb3 zk_cX12_rp zn_cX12_rp rfl) rfl
theorem dX12_rp_41 : decode cX12_rp 41 = .ok (.bipush 18, 2) := zo_16 (b1 := 18) (zkb2 zk_cX12_rp zn_cX12_rp rfl) rfl
theorem dX12_rp_43 : decode cX12_rp 43 = .ok (.iaload, 1) := zo_46 (zkb zk_cX12_rp zn_cX12_rp rfl)
theorem dX12_rp_44 : decode cX12_rp 44 = .ok (.ireturn, 1) := zo_172 (zkb zk_cX12_rp zn_cX12_rp rfl)
noncomputable def kn_cX12_rpTo : Nat := 0xb14f7e8f121c12101600b42a0e00a7bb00b61c2a0b00a0051b1b00a7b400b61c072a0c00a0041b2900a7b400b61c052a0c009a1b
theorem zk_cX12_rpTo : zkd cX12_rpTo.data.toList kn_cX12_rpTo = true := by decide +kernel
theorem zn_cX12_rpTo : cX12_rpTo.data.toList.length = 52 := by decide +kernel
theorem dX12_rpTo_0 : decode cX12_rpTo 0 = .ok (.iload_n 1, 1) := zo_27 (zkb zk_cX12_rpTo zn_cX12_rpTo rfl)
theorem dX12_rpTo_1 : decode cX12_rpTo 1 = .ok (.ifCond .ne 12, 3) := zo_154 (b1 := 0) (b2 := 12) (zkb3 zk_cX12_rpTo zn_cX12_rpTo rfl) rfl
theorem dX12_rpTo_4 : decode cX12_rpTo 4 = .ok (.aload_n 0, 1) := zo_42 (zkb zk_cX12_rpTo zn_cX12_rpTo rfl)
theorem dX12_rpTo_5 : decode cX12_rpTo 5 = .ok (.iconst 2, 1) := zo_5 (zkb zk_cX12_rpTo zn_cX12_rpTo rfl)
theorem dX12_rpTo_6 : decode cX12_rpTo 6 = .ok (.iload_n 2, 1) := zo_28 (zkb zk_cX12_rpTo zn_cX12_rpTo rfl)
theorem dX12_rpTo_7 : decode cX12_rpTo 7 = .ok (.invokevirtual 180, 3) := zo_182 (b1 := 0) (b2 := 180) (zkb3 zk_cX12_rpTo zn_cX12_rpTo rfl) rfl
theorem dX12_rpTo_10 : decode cX12_rpTo 10 = .ok (.goto 41, 3) := zo_167 (b1 := 0) (b2 := 41) (zkb3 zk_cX12_rpTo zn_cX12_rpTo rfl) rfl
theorem dX12_rpTo_13 : decode cX12_rpTo 13 = .ok (.iload_n 1, 1) := zo_27 (zkb zk_cX12_rpTo zn_cX12_rpTo rfl)
theorem dX12_rpTo_14 : decode cX12_rpTo 14 = .ok (.iconst 1, 1) := zo_4 (zkb zk_cX12_rpTo zn_cX12_rpTo rfl)
theorem dX12_rpTo_15 : decode cX12_rpTo 15 = .ok (.if_icmp .ne 12, 3) := zo_160 (b1 := 0) (b2 := 12) (zkb3 zk_cX12_rpTo zn_cX12_rpTo rfl) rfl
theorem dX12_rpTo_18 : decode cX12_rpTo 18 = .ok (.aload_n 0, 1) := zo_42 (zkb zk_cX12_rpTo zn_cX12_rpTo rfl)
theorem dX12_rpTo_19 : decode cX12_rpTo 19 = .ok (.iconst 4, 1) := zo_7 (zkb zk_cX12_rpTo zn_cX12_rpTo rfl)
theorem dX12_rpTo_20 : decode cX12_rpTo 20 = .ok (.iload_n 2, 1) := zo_28 (zkb zk_cX12_rpTo zn_cX12_rpTo rfl)
theorem dX12_rpTo_21 : decode cX12_rpTo 21 = .ok (.invokevirtual 180, 3) := zo_182 (b1 := 0) (b2 := 180) (zkb3 zk_cX12_rpTo zn_cX12_rpTo rfl) rfl
theorem dX12_rpTo_24 : decode cX12_rpTo 24 = .ok (.goto 27, 3) := zo_167 (b1 := 0) (b2 := 27) (zkb3 zk_cX12_rpTo zn_cX12_rpTo rfl) rfl
theorem dX12_rpTo_27 : decode cX12_rpTo 27 = .ok (.iload_n 1, 1) := zo_27 (zkb zk_cX12_rpTo zn_cX12_rpTo rfl)
theorem dX12_rpTo_28 : decode cX12_rpTo 28 = .ok (.iconst 2, 1) := zo_5 (zkb zk_cX12_rpTo zn_cX12_rpTo rfl)
theorem dX12_rpTo_29 : decode cX12_rpTo 29 = .ok (.if_icmp .ne 11, 3) := zo_160 (b1 := 0) (b2 := 11) (zkb3 zk_cX12_rpTo zn_cX12_rpTo rfl) rfl
theorem dX12_rpTo_32 : decode cX12_rpTo 32 = .ok (.aload_n 0, 1) := zo_42 (zkb zk_cX12_rpTo zn_cX12_rpTo rfl)
theorem dX12_rpTo_33 : decode cX12_rpTo 33 = .ok (.iload_n 2, 1) := zo_28 (zkb zk_cX12_rpTo zn_cX12_rpTo rfl)
theorem dX12_rpTo_34 : decode cX12_rpTo 34 = .ok (.invokevirtual 187, 3) := zo_182 (b1 := 0) (b2 := 187) (zkb3 zk_cX12_rpTo zn_cX12_rpTo rfl) rfl
theorem dX12_rpTo_37 : decode cX12_rpTo 37 = .ok (.goto 14, 3) := zo_167 (b1 := 0) (b2 := 14) (zkb3 zk_cX12_rpTo zn_cX12_rpTo rfl) rfl
theorem dX12_rpTo_40 : decode cX12_rpTo 40 = .ok (.aload_n 0, 1) := zo_42 (zkb zk_cX12_rpTo zn_cX12_rpTo rfl)
theorem dX12_rpTo_41 : decode cX12_rpTo 41 = .ok (.getfield 22, 3) := zo_180 (b1 := 0) (b2 := 22) (zkb3 zk_cX12_rpTo zn_cX12_rpTo rfl) rfl
theorem dX12_rpTo_44 : decode cX12_rpTo 44 = .ok (.bipush 18, 2) := zo_16 (b1 := 18) (zkb2 zk_cX12_rpTo zn_cX12_rpTo rfl) rfl
theorem dX12_rpTo_46 : decode cX12_rpTo 46 = .ok (.iload_n 2, 1) := zo_28 (zkb zk_cX12_rpTo zn_cX12_rpTo rfl)
theorem dX12_rpTo_47 : decode cX12_rpTo 47 = .ok (.ldc 143, 2) := zo_18 (b1 := 143) (zkb2 zk_cX12_rpTo zn_cX12_rpTo rfl)
theorem dX12_rpTo_49 : decode cX12_rpTo 49 = .ok (.iand, 1) := zo_126 (zkb zk_cX12_rpTo zn_cX12_rpTo rfl)
theorem dX12_rpTo_50 : decode cX12_rpTo 50 = .ok (.iastore, 1) := zo_79 (zkb zk_cX12_rpTo zn_cX12_rpTo rfl)
theorem dX12_rpTo_51 : decode cX12_rpTo 51 = .ok (.return_, 1) := zo_177 (zkb zk_cX12_rpTo zn_cX12_rpTo rfl)
noncomputable def kn_cX12_m : Nat := 0xacb100b606102a0900a72e14101600b42a0d0099bf00b42a
theorem zk_cX12_m : zkd cX12_m.data.toList kn_cX12_m = true := by decide +kernel
theorem zn_cX12_m : cX12_m.data.toList.length = 24 := by decide +kernel
theorem dX12_m_0 : decode cX12_m 0 = .ok (.aload_n 0, 1) := zo_42 (zkb zk_cX12_m zn_cX12_m rfl)
theorem dX12_m_1 : decode cX12_m 1 = .ok (.getfield 191, 3) := zo_180 (b1 := 0) (b2 := 191) (zkb3 zk_cX12_m zn_cX12_m rfl) rfl
theorem dX12_m_4 : decode cX12_m 4 = .ok (.ifCond .eq 13, 3) := zo_153 (b1 := 0) (b2 := 13) (zkb3 zk_cX12_m zn_cX12_m rfl) rfl
theorem dX12_m_7 : decode cX12_m 7 = .ok (.aload_n 0, 1) := zo_42 (zkb zk_cX12_m zn_cX12_m rfl)
theorem dX12_m_8 : decode cX12_m 8 = .ok (.getfield 22, 3) := zo_180 (b1 := 0) (b2 := 22) (zkb3 zk_cX12_m zn_cX12_m rfl) rfl
theorem dX12_m_11 : decode cX12_m 11 = .ok (.bipush 20, 2) := zo_16 (b1 := 20) (zkb2 zk_cX12_m zn_cX12_m rfl) rfl
theorem dX12_m_13 : decode cX12_m 13 = .ok (.iaload, 1) := zo_46 (zkb zk_cX12_m zn_cX12_m rfl)
theorem dX12_m_14 : decode cX12_m 14 = .ok (.goto 9, 3) := zo_167 (b1 := 0) (b2 := 9) (zkb3 zk_cX12_m zn_cX12_m rfl) rfl
theorem dX12_m_17 : decode cX12_m 17 = .ok (.aload_n 0, 1) := zo_42 (zkb zk_cX12_m zn_cX12_m rfl)
theorem dX12_m_18 : decode cX12_m 18 = .ok (.bipush 6, 2) := zo_16 (b1 := 6) (zkb2 zk_cX12_m zn_cX12_m rfl) rfl
theorem dX12_m_20 : decode cX12_m 20 = .ok (.invokevirtual 177, 3) := zo_182 (b1 := 0) (b2 := 177) (zkb3 zk_cX12_m zn_cX12_m rfl) rfl
theorem dX12_m_23 : decode cX12_m 23 = .ok (.ireturn, 1) := zo_172 (zkb zk_cX12_m zn_cX12_m rfl)
noncomputable def rmX12_thrown : Room := { frames := 0, cells := 0, slots := 0, locals := 0 }
noncomputable def wzX12_thrown : List Cond := .code yX12_thrown cX12_thrown 1 (some .int) :: wsL_law
theorem hinX12_thrown_X120 : ∀ w ∈ wsX120, w ∈ wzX12_thrown := fun w h => List.mem_cons_of_mem _ (inlX12 w h)
noncomputable def fX12_thrown  (σ : zSt)  : Option (zSt × Int32) :=
  some (σ, zgi σ 0 0)
set_option maxRecDepth 20000 in
set_option maxHeartbeats 4000000 in
theorem bX12_thrown {st : Nat → Nat} {p : Program} {l : Launch} {e : Env} {s : State} {m : MethodId} {args : Array Value} {below : List Frame} {meth : Method} {c : Code} {D : va_G} {A : Nat → Prop} {ad : Nat → Nat} {cy : Nat → ClassId} (hC : zC p m c cX12_thrown 1 s args wzX12_thrown RX12 meth (some .int))  {res : zSt × Int32} {H : Heap} {locs : List Loc} {σ : zSt} {ls : Array Slot}  (hI : zI st D (tM cy) (wM ad cy σ) A s H locs) (hl : lv_has ls 1 [(0, .ref (ad 0))]) (hf : fX12_thrown  σ  = some res) : W p l e rmX12_thrown s m args below meth c H locs 0 0 (zQi below args s D (tM cy) (wM ad cy) A res) (F0 m 0 ls []) := by
  have hx := hC.1
  have hb := hC.2.1
  unfold fX12_thrown at hf
  refine lv_aload_n hx hb dX12_thrown_0 rfl (lv_at hl 0 rfl) ?_
  refine z_get hC hI hinX12_thrown_X120 0 (wM_e0 ad cy σ) rfl 0 (by decide) (List.mem_cons_of_mem _ zw12_1) rfl dX12_thrown_1 ?_
  exact z_ireturn hC hI hf dX12_thrown_4
set_option maxRecDepth 20000 in
theorem cX12_thrown_met (st : Nat → Nat) (l : Launch) (D : va_G) (ad : Nat → Nat) (cy : Nat → ClassId) (σ : zSt)  (res : zSt × Int32) (hf : fX12_thrown σ  = some res) (sz : Nat) : zMi st l yX12_thrown wzX12_thrown rmX12_thrown [.ref (ad 0)] D (tM cy) (wM ad cy) sz σ res :=
  zMi.of (cc := cX12_thrown) (maxL := 1) (ret := (some .int)) (by decide) rfl (Nat.le_of_ble_eq_true rfl) (fun p e s m args below meth c hC A hI ls hl => bX12_thrown hC hI hl hf)
theorem hdX12_thrown : yX12_thrown.cls = RX12 ∧ yX12_thrown.cls ≠ "java/lang/invoke/MethodHandle" ∧ yX12_thrown.cls ≠ "java/lang/invoke/VarHandle" ∧ (parseMethodDescriptor yX12_thrown.desc).map (fun d => d.parameters.length) = some 0 := by decide +kernel
noncomputable def rmX12_fails : Room := { frames := 0, cells := 0, slots := 0, locals := 0 }
noncomputable def wzX12_fails : List Cond := .code yX12_fails cX12_fails 3 (some .boolean) :: wsL_law
theorem hinX12_fails_X120 : ∀ w ∈ wsX120, w ∈ wzX12_fails := fun w h => List.mem_cons_of_mem _ (inlX12 w h)
noncomputable def fX12_fails_10  (σ : zSt) (x1 : Int32) (s0 : Int32) : Option (zSt × Int32) :=
  zbv (zsi σ 0 0 s0) (fun σ1 =>
  zck (zbo x1) (some (σ1, x1)))
noncomputable def fX12_fails  (σ : zSt) (x1 : Int32) (x2 : Int32) : Option (zSt × Int32) :=
  if x1 = 0 then fX12_fails_10 σ x1 0 else
  fX12_fails_10 σ x1 x2
set_option maxRecDepth 20000 in
set_option maxHeartbeats 4000000 in
theorem bX12_fails_10 {st : Nat → Nat} {p : Program} {l : Launch} {e : Env} {s : State} {m : MethodId} {args : Array Value} {below : List Frame} {meth : Method} {c : Code} {D : va_G} {A : Nat → Prop} {ad : Nat → Nat} {cy : Nat → ClassId} (hC : zC p m c cX12_fails 3 s args wzX12_fails RX12 meth (some .boolean))  {res : zSt × Int32} {H : Heap} {locs : List Loc} {σ : zSt} {ls : Array Slot} {x1 : Int32} {s0 : Int32} (hI : zI st D (tM cy) (wM ad cy σ) A s H locs) (hl : lv_has ls 3 [(1, .int x1)]) (hf : fX12_fails_10  σ x1 s0 = some res) : W p l e rmX12_fails s m args below meth c H locs 0 0 (zQi below args s D (tM cy) (wM ad cy) A res) (F0 m 10 ls [.int s0, .ref (ad 0)]) := by
  have hx := hC.1
  have hb := hC.2.1
  unfold fX12_fails_10 at hf
  obtain ⟨σ1, eσ1⟩ : ∃ z, z = zsi σ 0 0 s0 := ⟨_, rfl⟩
  replace hf := zbv_use eσ1 hf
  refine z_put hC hI hinX12_fails_X120 tyX12_ok nmX12 0 (wM_e0 ad cy σ) rfl 0 (by decide) (List.mem_cons_of_mem _ zw12_1) rfl rfl rfl (Nat.le_of_ble_eq_true rfl) ((wM_s0_0 ad cy σ s0).trans (congrArg (wM ad cy) eσ1.symm)) dX12_fails_10 (fun H locs hI => ?_)
  refine lv_iload_n hx hb dX12_fails_13 rfl (lv_at hl 0 rfl) ?_
  obtain ⟨q, hf⟩ := zck_use hf
  exact z_zreturn hC hI (zbo_n q) hf dX12_fails_14
set_option maxRecDepth 20000 in
set_option maxHeartbeats 4000000 in
theorem bX12_fails {st : Nat → Nat} {p : Program} {l : Launch} {e : Env} {s : State} {m : MethodId} {args : Array Value} {below : List Frame} {meth : Method} {c : Code} {D : va_G} {A : Nat → Prop} {ad : Nat → Nat} {cy : Nat → ClassId} (hC : zC p m c cX12_fails 3 s args wzX12_fails RX12 meth (some .boolean))  {res : zSt × Int32} {H : Heap} {locs : List Loc} {σ : zSt} {ls : Array Slot} {x1 : Int32} {x2 : Int32} (hI : zI st D (tM cy) (wM ad cy σ) A s H locs) (hl : lv_has ls 3 [(0, .ref (ad 0)), (1, .int x1), (2, .int x2)]) (hf : fX12_fails  σ x1 x2 = some res) : W p l e rmX12_fails s m args below meth c H locs 0 0 (zQi below args s D (tM cy) (wM ad cy) A res) (F0 m 0 ls []) := by
  have hx := hC.1
  have hb := hC.2.1
  unfold fX12_fails at hf
  refine lv_aload_n hx hb dX12_fails_0 rfl (lv_at hl 0 rfl) ?_
  refine lv_iload_n hx hb dX12_fails_1 rfl (lv_at hl 1 rfl) ?_
  refine lv_if_eq (tgt := 9) hx hb dX12_fails_2 (by decide) (fun q => ?_) (fun q => ?_)
  · replace hf := zif_t q hf
    refine lv_iconst (v := 0) hx hb dX12_fails_9 (by decide) ?_
    exact bX12_fails_10 hC  hI (lv_sub hl [1] rfl) hf
  replace hf := zif_f q hf
  refine lv_iload_n hx hb dX12_fails_5 rfl (lv_at hl 2 rfl) ?_
  refine lv_goto (tgt := 10) hx hb dX12_fails_6 (by decide) ?_
  exact bX12_fails_10 hC  hI (lv_sub hl [1] rfl) hf
set_option maxRecDepth 20000 in
theorem cX12_fails_met (st : Nat → Nat) (l : Launch) (D : va_G) (ad : Nat → Nat) (cy : Nat → ClassId) (σ : zSt) (x1 : Int32) (x2 : Int32) (res : zSt × Int32) (hf : fX12_fails σ x1 x2 = some res) (sz : Nat) : zMi st l yX12_fails wzX12_fails rmX12_fails [.ref (ad 0), .int x1, .int x2] D (tM cy) (wM ad cy) sz σ res :=
  zMi.of (cc := cX12_fails) (maxL := 3) (ret := (some .boolean)) (by decide) rfl (Nat.le_of_ble_eq_true rfl) (fun p e s m args below meth c hC A hI ls hl => bX12_fails hC hI hl hf)
theorem hdX12_fails : yX12_fails.cls = RX12 ∧ yX12_fails.cls ≠ "java/lang/invoke/MethodHandle" ∧ yX12_fails.cls ≠ "java/lang/invoke/VarHandle" ∧ (parseMethodDescriptor yX12_fails.desc).map (fun d => d.parameters.length) = some 2 := by decide +kernel
noncomputable def rmX12_within : Room := { frames := 0, cells := 0, slots := 0, locals := 0 }
noncomputable def wzX12_within : List Cond := .code yX12_within cX12_within 6 (some .boolean) :: wsL_law
noncomputable def fX12_within_18  (σ : zSt) (s0 : Int32) : Option (zSt × Int32) :=
  zck (zbo s0) (some (σ, s0))
noncomputable def fX12_within_17  (σ : zSt)  : Option (zSt × Int32) :=
  fX12_within_18 σ 0
noncomputable def fX12_within  (σ : zSt) (x0 : Int64) (x2 : Int64) (x4 : Int64) : Option (zSt × Int32) :=
  if (lg_cmp x0 x2) < 0 then fX12_within_17 σ else
  if 0 < (lg_cmp x0 x4) then fX12_within_17 σ else
  fX12_within_18 σ 1
set_option maxRecDepth 20000 in
set_option maxHeartbeats 4000000 in
theorem bX12_within_18 {st : Nat → Nat} {p : Program} {l : Launch} {e : Env} {s : State} {m : MethodId} {args : Array Value} {below : List Frame} {meth : Method} {c : Code} {D : va_G} {A : Nat → Prop} {ad : Nat → Nat} {cy : Nat → ClassId} (hC : zC p m c cX12_within 6 s args wzX12_within RX12 meth (some .boolean))  {res : zSt × Int32} {H : Heap} {locs : List Loc} {σ : zSt} {ls : Array Slot} {s0 : Int32} (hI : zI st D (tM cy) (wM ad cy σ) A s H locs) (hl : lv_has ls 6 []) (hf : fX12_within_18  σ s0 = some res) : W p l e rmX12_within s m args below meth c H locs 0 0 (zQi below args s D (tM cy) (wM ad cy) A res) (F0 m 18 ls [.int s0]) := by
  have hx := hC.1
  have hb := hC.2.1
  unfold fX12_within_18 at hf
  obtain ⟨q, hf⟩ := zck_use hf
  exact z_zreturn hC hI (zbo_n q) hf dX12_within_18
set_option maxRecDepth 20000 in
set_option maxHeartbeats 4000000 in
theorem bX12_within_17 {st : Nat → Nat} {p : Program} {l : Launch} {e : Env} {s : State} {m : MethodId} {args : Array Value} {below : List Frame} {meth : Method} {c : Code} {D : va_G} {A : Nat → Prop} {ad : Nat → Nat} {cy : Nat → ClassId} (hC : zC p m c cX12_within 6 s args wzX12_within RX12 meth (some .boolean))  {res : zSt × Int32} {H : Heap} {locs : List Loc} {σ : zSt} {ls : Array Slot}  (hI : zI st D (tM cy) (wM ad cy σ) A s H locs) (hl : lv_has ls 6 []) (hf : fX12_within_17  σ  = some res) : W p l e rmX12_within s m args below meth c H locs 0 0 (zQi below args s D (tM cy) (wM ad cy) A res) (F0 m 17 ls []) := by
  have hx := hC.1
  have hb := hC.2.1
  unfold fX12_within_17 at hf
  refine lv_iconst (v := 0) hx hb dX12_within_17 (by decide) ?_
  exact bX12_within_18 hC  hI hl hf
set_option maxRecDepth 20000 in
set_option maxHeartbeats 4000000 in
theorem bX12_within {st : Nat → Nat} {p : Program} {l : Launch} {e : Env} {s : State} {m : MethodId} {args : Array Value} {below : List Frame} {meth : Method} {c : Code} {D : va_G} {A : Nat → Prop} {ad : Nat → Nat} {cy : Nat → ClassId} (hC : zC p m c cX12_within 6 s args wzX12_within RX12 meth (some .boolean))  {res : zSt × Int32} {H : Heap} {locs : List Loc} {σ : zSt} {ls : Array Slot} {x0 : Int64} {x2 : Int64} {x4 : Int64} (hI : zI st D (tM cy) (wM ad cy σ) A s H locs) (hl : lv_has ls 6 [(0, .long x0), (2, .long x2), (4, .long x4)]) (hf : fX12_within  σ x0 x2 x4 = some res) : W p l e rmX12_within s m args below meth c H locs 0 0 (zQi below args s D (tM cy) (wM ad cy) A res) (F0 m 0 ls []) := by
  have hx := hC.1
  have hb := hC.2.1
  unfold fX12_within at hf
  refine lv_lload_n hx hb dX12_within_0 rfl (lv_at hl 0 rfl) ?_
  refine lv_lload_n hx hb dX12_within_1 rfl (lv_at hl 1 rfl) ?_
  refine W.lcmp hx hb dX12_within_2 ?_
  refine lv_if_lt (tgt := 17) hx hb dX12_within_3 (by decide) (fun q => ?_) (fun q => ?_)
  · replace hf := zif_t q hf
    exact bX12_within_17 hC  hI (lv_sub hl [] rfl) hf
  replace hf := zif_f q hf
  refine lv_lload_n hx hb dX12_within_6 rfl (lv_at hl 0 rfl) ?_
  refine lv_lload hx hb dX12_within_7 (lv_at hl 2 rfl) ?_
  refine W.lcmp hx hb dX12_within_9 ?_
  refine lv_if_gt (tgt := 17) hx hb dX12_within_10 (by decide) (fun q => ?_) (fun q => ?_)
  · replace hf := zif_t q hf
    exact bX12_within_17 hC  hI (lv_sub hl [] rfl) hf
  replace hf := zif_f q hf
  refine lv_iconst (v := 1) hx hb dX12_within_13 (by decide) ?_
  refine lv_goto (tgt := 18) hx hb dX12_within_14 (by decide) ?_
  exact bX12_within_18 hC  hI (lv_sub hl [] rfl) hf
set_option maxRecDepth 20000 in
theorem cX12_within_met (st : Nat → Nat) (l : Launch) (D : va_G) (ad : Nat → Nat) (cy : Nat → ClassId) (σ : zSt) (x0 : Int64) (x2 : Int64) (x4 : Int64) (res : zSt × Int32) (hf : fX12_within σ x0 x2 x4 = some res) (sz : Nat) : zMi st l yX12_within wzX12_within rmX12_within [.long x0, .long x2, .long x4] D (tM cy) (wM ad cy) sz σ res :=
  zMi.of (cc := cX12_within) (maxL := 6) (ret := (some .boolean)) (by decide) rfl (Nat.le_of_ble_eq_true rfl) (fun p e s m args below meth c hC A hI ls hl => bX12_within hC hI hl hf)
theorem hdX12_within : yX12_within.cls ≠ "java/lang/invoke/MethodHandle" ∧ yX12_within.cls ≠ "java/lang/invoke/VarHandle" ∧ (parseMethodDescriptor yX12_within.desc).map (fun d => d.parameters.length) = some 3 := by decide +kernel
noncomputable def rmX12_feed : Room := { frames := 1, cells := 0, slots := 0, locals := 25 }
noncomputable def wzX12_feed : List Cond := .code yX12_feed cX12_feed 9 (some .int) :: wsL_law
theorem hinX12_feed_X120 : ∀ w ∈ wsX120, w ∈ wzX12_feed := fun w h => List.mem_cons_of_mem _ (inlX12 w h)
noncomputable def fX12_feed_49  (σ : zSt)  : Option (zSt × Int32) :=
  some (σ, 0)
noncomputable def fX12_feed_93 (k54 : zSt → Int32 → Int64 → Int64 → Int64 → Int32 → Option (zSt × Int32)) (σ : zSt) (x1 : Int32) (x2 : Int64) (x4 : Int64) (x6 : Int64) (x8 : Int32) (s0 : Int64) (s1 : Int32) : Option (zSt × Int32) :=
  zck (decide (¬ 8 = 0)) (
  zck (zin s1 262656) (zbv (zsi σ 1 (s1.toNatClampNeg) (vp_nar .byte (((zlshr s0 (8 * (zrem x8 8))).toInt32).toInt8.toInt32))) (fun σ1 =>
  zbv (zsi σ1 0 2 ((zgi σ1 0 2) + 1)) (fun σ2 =>
  zbv (x8 + 1) (fun v3 =>
  k54 σ2 x1 x2 x4 x6 v3)))))
noncomputable def fX12_feed_54_body (k54 : zSt → Int32 → Int64 → Int64 → Int64 → Int32 → Option (zSt × Int32)) (σ : zSt) (x1 : Int32) (x2 : Int64) (x4 : Int64) (x6 : Int64) (x8 : Int32) : Option (zSt × Int32) :=
  if x1 ≤ x8 then some (σ, zgi σ 0 2) else
  if 8 ≤ x8 then if 16 ≤ x8 then fX12_feed_93 k54 σ x1 x2 x4 x6 x8 x6 (zgi σ 0 2) else
  fX12_feed_93 k54 σ x1 x2 x4 x6 x8 x4 (zgi σ 0 2) else
  fX12_feed_93 k54 σ x1 x2 x4 x6 x8 x2 (zgi σ 0 2)
noncomputable def fX12_feed_54  : Nat → zSt → Int32 → Int64 → Int64 → Int64 → Int32 → Option (zSt × Int32)
  | 0, _, _, _, _, _, _ => none
  | n + 1, σ, x1, x2, x4, x6, x8 => fX12_feed_54_body (fX12_feed_54  n) σ x1 x2 x4 x6 x8
noncomputable def fX12_feed_42  (σ : zSt) (x1 : Int32) (x2 : Int64) (x4 : Int64) (x6 : Int64) (s0 : Int32) : Option (zSt × Int32) :=
  zbi (fX12_fails σ s0 2) (fun σ4 v5 =>
  if v5 = 0 then fX12_feed_54 zfuel σ4 x1 x2 x4 x6 0 else
  fX12_feed_49 σ4)
noncomputable def fX12_feed_18  (σ : zSt) (x1 : Int32) (x2 : Int64) (x4 : Int64) (x6 : Int64) (s0 : Int32) : Option (zSt × Int32) :=
  zbi (fX12_fails σ s0 1) (fun σ6 v7 =>
  if v7 = 0 then if ((zgi σ6 0 2) + x1) ≤ 262656 then fX12_feed_42 σ6 x1 x2 x4 x6 0 else
  fX12_feed_42 σ6 x1 x2 x4 x6 1 else
  fX12_feed_49 σ6)
noncomputable def fX12_feed  (σ : zSt) (x1 : Int32) (x2 : Int64) (x4 : Int64) (x6 : Int64) : Option (zSt × Int32) :=
  zbi (fX12_within σ (x1.toInt64) 1 24) (fun σ8 v9 =>
  if v9 = 0 then fX12_feed_18 σ8 x1 x2 x4 x6 1 else
  fX12_feed_18 σ8 x1 x2 x4 x6 0)
set_option maxRecDepth 20000 in
set_option maxHeartbeats 4000000 in
theorem bX12_feed_49 {st : Nat → Nat} {p : Program} {l : Launch} {e : Env} {s : State} {m : MethodId} {args : Array Value} {below : List Frame} {meth : Method} {c : Code} {D : va_G} {A : Nat → Prop} {ad : Nat → Nat} {cy : Nat → ClassId} (hC : zC p m c cX12_feed 9 s args wzX12_feed RX12 meth (some .int))  {res : zSt × Int32} {H : Heap} {locs : List Loc} {σ : zSt} {ls : Array Slot}  (hI : zI st D (tM cy) (wM ad cy σ) A s H locs) (hl : lv_has ls 9 []) (hf : fX12_feed_49  σ  = some res) : W p l e rmX12_feed s m args below meth c H locs 0 0 (zQi below args s D (tM cy) (wM ad cy) A res) (F0 m 49 ls []) := by
  have hx := hC.1
  have hb := hC.2.1
  unfold fX12_feed_49 at hf
  refine lv_iconst (v := 0) hx hb dX12_feed_49 (by decide) ?_
  exact z_ireturn hC hI hf dX12_feed_50
set_option maxRecDepth 20000 in
set_option maxHeartbeats 4000000 in
theorem bX12_feed_93 {st : Nat → Nat} {p : Program} {l : Launch} {e : Env} {s : State} {m : MethodId} {args : Array Value} {below : List Frame} {meth : Method} {c : Code} {D : va_G} {A : Nat → Prop} {ad : Nat → Nat} {cy : Nat → ClassId} (hC : zC p m c cX12_feed 9 s args wzX12_feed RX12 meth (some .int)) {k54 : zSt → Int32 → Int64 → Int64 → Int64 → Int32 → Option (zSt × Int32)} {res : zSt × Int32} (hk54 : ∀ (H : Heap) (locs : List Loc) (σ : zSt) (ls : Array Slot) (x1 : Int32) (x2 : Int64) (x4 : Int64) (x6 : Int64) (x8 : Int32), zI st D (tM cy) (wM ad cy σ) A s H locs → lv_has ls 9 [(0, .ref (ad 0)), (1, .int x1), (2, .long x2), (4, .long x4), (6, .long x6), (8, .int x8)] → k54 σ x1 x2 x4 x6 x8 = some res → W p l e rmX12_feed s m args below meth c H locs 0 0 (zQi below args s D (tM cy) (wM ad cy) A res) (F0 m 54 ls [])) {H : Heap} {locs : List Loc} {σ : zSt} {ls : Array Slot} {x1 : Int32} {x2 : Int64} {x4 : Int64} {x6 : Int64} {x8 : Int32} {s0 : Int64} {s1 : Int32} (hI : zI st D (tM cy) (wM ad cy σ) A s H locs) (hl : lv_has ls 9 [(0, .ref (ad 0)), (1, .int x1), (2, .long x2), (4, .long x4), (6, .long x6), (8, .int x8)]) (hf : fX12_feed_93 k54 σ x1 x2 x4 x6 x8 s0 s1 = some res) : W p l e rmX12_feed s m args below meth c H locs 0 0 (zQi below args s D (tM cy) (wM ad cy) A res) (F0 m 93 ls [.long s0, .int s1, .ref (ad 1)]) := by
  have hx := hC.1
  have hb := hC.2.1
  unfold fX12_feed_93 at hf
  refine lv_bipush (v := 8) hx hb dX12_feed_93 (by decide) ?_
  refine lv_iload hx hb dX12_feed_95 (lv_at hl 5 rfl) ?_
  refine lv_bipush (v := 8) hx hb dX12_feed_97 (by decide) ?_
  obtain ⟨q, hf⟩ := zck_use hf
  refine z_irem hx hb dX12_feed_99 (of_decide_eq_true q) ?_
  refine lv_imul hx hb dX12_feed_100 ?_
  refine lv_lshr (v := zlshr s0 (8 * (zrem x8 8))) hx hb dX12_feed_101 rfl ?_
  refine lv_l2i (v := (zlshr s0 (8 * (zrem x8 8))).toInt32) hx hb dX12_feed_102 rfl ?_
  refine lv_i2b (v := ((zlshr s0 (8 * (zrem x8 8))).toInt32).toInt8.toInt32) hx hb dX12_feed_103 rfl ?_
  obtain ⟨q, hf⟩ := zck_use hf
  obtain ⟨σ1, eσ1⟩ : ∃ z, z = zsi σ 1 (s1.toNatClampNeg) (vp_nar .byte (((zlshr s0 (8 * (zrem x8 8))).toInt32).toInt8.toInt32)) := ⟨_, rfl⟩
  replace hf := zbv_use eσ1 hf
  refine z_bast hC hI 1 0 (wM_e1 ad cy σ) (tM_t1 cy) q ((wM_s1 ad cy σ _ _).trans (congrArg (wM ad cy) eσ1.symm)) dX12_feed_104 (fun H locs hI => ?_)
  refine lv_aload_n hx hb dX12_feed_105 rfl (lv_at hl 0 rfl) ?_
  refine lv_dup hx hb dX12_feed_106 rfl ?_
  refine z_get hC hI hinX12_feed_X120 0 (wM_e0 ad cy σ1) rfl 2 (by decide) (List.mem_cons_of_mem _ zw11_17) rfl dX12_feed_107 ?_
  refine lv_iconst (v := 1) hx hb dX12_feed_110 (by decide) ?_
  refine lv_iadd hx hb dX12_feed_111 ?_
  obtain ⟨σ2, eσ2⟩ : ∃ z, z = zsi σ1 0 2 ((zgi σ1 0 2) + 1) := ⟨_, rfl⟩
  replace hf := zbv_use eσ2 hf
  refine z_put hC hI hinX12_feed_X120 tyX12_ok nmX12 0 (wM_e0 ad cy σ1) rfl 2 (by decide) (List.mem_cons_of_mem _ zw11_17) rfl rfl rfl (Nat.le_of_ble_eq_true rfl) ((wM_s0_2 ad cy σ1 ((zgi σ1 0 2) + 1)).trans (congrArg (wM ad cy) eσ2.symm)) dX12_feed_112 (fun H locs hI => ?_)
  obtain ⟨v3, ev3⟩ : ∃ z : Int32, z = x8 + 1 := ⟨_, rfl⟩
  replace hf := zbv_use ev3 hf
  refine lv_iinc (v := v3) (lv' := [(8, .int v3), (0, .ref (ad 0)), (1, .int x1), (2, .long x2), (4, .long x4), (6, .long x6)]) hx hb dX12_feed_115 hl (k := 5) rfl (by rw [ev3]; rfl) (by decide) rfl (fun ls hl => ?_)
  refine lv_goto (tgt := 54) hx hb dX12_feed_118 (by decide) ?_
  exact hk54 _ _ _ _ _ _ _ _ _ hI (lv_sub hl [1, 2, 3, 4, 5, 0] rfl) hf
set_option maxRecDepth 20000 in
set_option maxHeartbeats 4000000 in
theorem bX12_feed_54_body {st : Nat → Nat} {p : Program} {l : Launch} {e : Env} {s : State} {m : MethodId} {args : Array Value} {below : List Frame} {meth : Method} {c : Code} {D : va_G} {A : Nat → Prop} {ad : Nat → Nat} {cy : Nat → ClassId} (hC : zC p m c cX12_feed 9 s args wzX12_feed RX12 meth (some .int)) {k54 : zSt → Int32 → Int64 → Int64 → Int64 → Int32 → Option (zSt × Int32)} {res : zSt × Int32} (hk54 : ∀ (H : Heap) (locs : List Loc) (σ : zSt) (ls : Array Slot) (x1 : Int32) (x2 : Int64) (x4 : Int64) (x6 : Int64) (x8 : Int32), zI st D (tM cy) (wM ad cy σ) A s H locs → lv_has ls 9 [(0, .ref (ad 0)), (1, .int x1), (2, .long x2), (4, .long x4), (6, .long x6), (8, .int x8)] → k54 σ x1 x2 x4 x6 x8 = some res → W p l e rmX12_feed s m args below meth c H locs 0 0 (zQi below args s D (tM cy) (wM ad cy) A res) (F0 m 54 ls [])) {H : Heap} {locs : List Loc} {σ : zSt} {ls : Array Slot} {x1 : Int32} {x2 : Int64} {x4 : Int64} {x6 : Int64} {x8 : Int32} (hI : zI st D (tM cy) (wM ad cy σ) A s H locs) (hl : lv_has ls 9 [(0, .ref (ad 0)), (1, .int x1), (2, .long x2), (4, .long x4), (6, .long x6), (8, .int x8)]) (hf : fX12_feed_54_body k54 σ x1 x2 x4 x6 x8 = some res) : W p l e rmX12_feed s m args below meth c H locs 0 0 (zQi below args s D (tM cy) (wM ad cy) A res) (F0 m 54 ls []) := by
  have hx := hC.1
  have hb := hC.2.1
  unfold fX12_feed_54_body at hf
  refine lv_iload hx hb dX12_feed_54 (lv_at hl 5 rfl) ?_
  refine lv_iload_n hx hb dX12_feed_56 rfl (lv_at hl 1 rfl) ?_
  refine lv_icmp_ge (tgt := 121) hx hb dX12_feed_57 (by decide) (fun q => ?_) (fun q => ?_)
  · replace hf := zif_t q hf
    refine lv_aload_n hx hb dX12_feed_121 rfl (lv_at hl 0 rfl) ?_
    refine z_get hC hI hinX12_feed_X120 0 (wM_e0 ad cy σ) rfl 2 (by decide) (List.mem_cons_of_mem _ zw11_17) rfl dX12_feed_122 ?_
    exact z_ireturn hC hI hf dX12_feed_125
  replace hf := zif_f q hf
  refine lv_aload_n hx hb dX12_feed_60 rfl (lv_at hl 0 rfl) ?_
  refine z_get hC hI hinX12_feed_X120 0 (wM_e0 ad cy σ) rfl 1 (by decide) (List.mem_cons_of_mem _ zw9_3) rfl dX12_feed_61 ?_
  refine lv_aload_n hx hb dX12_feed_64 rfl (lv_at hl 0 rfl) ?_
  refine z_get hC hI hinX12_feed_X120 0 (wM_e0 ad cy σ) rfl 2 (by decide) (List.mem_cons_of_mem _ zw11_17) rfl dX12_feed_65 ?_
  refine lv_iload hx hb dX12_feed_68 (lv_at hl 5 rfl) ?_
  refine lv_bipush (v := 8) hx hb dX12_feed_70 (by decide) ?_
  refine lv_icmp_ge (tgt := 79) hx hb dX12_feed_72 (by decide) (fun q => ?_) (fun q => ?_)
  · replace hf := zif_t q hf
    refine lv_iload hx hb dX12_feed_79 (lv_at hl 5 rfl) ?_
    refine lv_bipush (v := 16) hx hb dX12_feed_81 (by decide) ?_
    refine lv_icmp_ge (tgt := 91) hx hb dX12_feed_83 (by decide) (fun q => ?_) (fun q => ?_)
    · replace hf := zif_t q hf
      refine lv_lload hx hb dX12_feed_91 (lv_at hl 4 rfl) ?_
      exact bX12_feed_93 hC hk54 hI hl hf
    replace hf := zif_f q hf
    refine lv_lload hx hb dX12_feed_86 (lv_at hl 3 rfl) ?_
    refine lv_goto (tgt := 93) hx hb dX12_feed_88 (by decide) ?_
    exact bX12_feed_93 hC hk54 hI hl hf
  replace hf := zif_f q hf
  refine lv_lload_n hx hb dX12_feed_75 rfl (lv_at hl 2 rfl) ?_
  refine lv_goto (tgt := 93) hx hb dX12_feed_76 (by decide) ?_
  exact bX12_feed_93 hC hk54 hI hl hf
theorem blX12_feed_54 {st : Nat → Nat} {p : Program} {l : Launch} {e : Env} {s : State} {m : MethodId} {args : Array Value} {below : List Frame} {meth : Method} {c : Code} {D : va_G} {A : Nat → Prop} {ad : Nat → Nat} {cy : Nat → ClassId} (hC : zC p m c cX12_feed 9 s args wzX12_feed RX12 meth (some .int))  {res : zSt × Int32} : ∀ (n : Nat) (H : Heap) (locs : List Loc) (σ : zSt) (ls : Array Slot) (x1 : Int32) (x2 : Int64) (x4 : Int64) (x6 : Int64) (x8 : Int32), zI st D (tM cy) (wM ad cy σ) A s H locs → lv_has ls 9 [(0, .ref (ad 0)), (1, .int x1), (2, .long x2), (4, .long x4), (6, .long x6), (8, .int x8)] → fX12_feed_54  n σ x1 x2 x4 x6 x8 = some res → W p l e rmX12_feed s m args below meth c H locs 0 0 (zQi below args s D (tM cy) (wM ad cy) A res) (F0 m 54 ls []) := by
  intro n
  induction n with
  | zero => intro H locs σ ls x1 x2 x4 x6 x8 hI hl hf; cases hf
  | succ n ih => intro H locs σ ls x1 x2 x4 x6 x8 hI hl hf; exact bX12_feed_54_body hC ih hI hl hf
set_option maxRecDepth 20000 in
set_option maxHeartbeats 4000000 in
theorem bX12_feed_42 {st : Nat → Nat} {p : Program} {l : Launch} {e : Env} {s : State} {m : MethodId} {args : Array Value} {below : List Frame} {meth : Method} {c : Code} {D : va_G} {A : Nat → Prop} {ad : Nat → Nat} {cy : Nat → ClassId} (hC : zC p m c cX12_feed 9 s args wzX12_feed RX12 meth (some .int))  {res : zSt × Int32} {H : Heap} {locs : List Loc} {σ : zSt} {ls : Array Slot} {x1 : Int32} {x2 : Int64} {x4 : Int64} {x6 : Int64} {s0 : Int32} (hI : zI st D (tM cy) (wM ad cy σ) A s H locs) (hl : lv_has ls 9 [(0, .ref (ad 0)), (1, .int x1), (2, .long x2), (4, .long x4), (6, .long x6)]) (hf : fX12_feed_42  σ x1 x2 x4 x6 s0 = some res) : W p l e rmX12_feed s m args below meth c H locs 0 0 (zQi below args s D (tM cy) (wM ad cy) A res) (F0 m 42 ls [.int s0, .ref (ad 0)]) := by
  have hx := hC.1
  have hb := hC.2.1
  unfold fX12_feed_42 at hf
  refine lv_iconst (v := 2) hx hb dX12_feed_42 (by decide) ?_
  obtain ⟨σ4, v5, g4, hf⟩ := zbi_use hf
  refine z_callVi (As := [.int s0, .int 2]) (rest := []) hC hI (cX12_fails_met st l D ad cy σ s0 2 _ g4) (zgV zw11_21 zw11_22 zw11_23 zw1_5 zw12_0) rfl ⟨rfl, rfl⟩ 2 hdX12_fails ⟨Nat.le_of_ble_eq_true rfl, Nat.le_of_ble_eq_true rfl⟩ rfl rfl (wM_e0 ad cy σ) rfl hl rfl (Nat.le_of_ble_eq_true rfl) dX12_feed_43 ⟨Nat.zero_le _, Nat.zero_le _⟩ (fun H locs hI => ?_)
  refine lv_if_eq (tgt := 51) hx hb dX12_feed_46 (by decide) (fun q => ?_) (fun q => ?_)
  · replace hf := zif_t q hf
    refine lv_iconst (v := 0) hx hb dX12_feed_51 (by decide) ?_
    refine lv_istore (lv' := [(8, .int 0), (0, .ref (ad 0)), (1, .int x1), (2, .long x2), (4, .long x4), (6, .long x6)]) hx hb dX12_feed_52 hl (by decide) rfl (fun ls hl => ?_)
    exact blX12_feed_54 hC  zfuel _ _ _ _ _ _ _ _ _ hI (lv_sub hl [1, 2, 3, 4, 5, 0] rfl) hf
  replace hf := zif_f q hf
  exact bX12_feed_49 hC  hI (lv_sub hl [] rfl) hf
set_option maxRecDepth 20000 in
set_option maxHeartbeats 4000000 in
theorem bX12_feed_18 {st : Nat → Nat} {p : Program} {l : Launch} {e : Env} {s : State} {m : MethodId} {args : Array Value} {below : List Frame} {meth : Method} {c : Code} {D : va_G} {A : Nat → Prop} {ad : Nat → Nat} {cy : Nat → ClassId} (hC : zC p m c cX12_feed 9 s args wzX12_feed RX12 meth (some .int))  {res : zSt × Int32} {H : Heap} {locs : List Loc} {σ : zSt} {ls : Array Slot} {x1 : Int32} {x2 : Int64} {x4 : Int64} {x6 : Int64} {s0 : Int32} (hI : zI st D (tM cy) (wM ad cy σ) A s H locs) (hl : lv_has ls 9 [(0, .ref (ad 0)), (1, .int x1), (2, .long x2), (4, .long x4), (6, .long x6)]) (hf : fX12_feed_18  σ x1 x2 x4 x6 s0 = some res) : W p l e rmX12_feed s m args below meth c H locs 0 0 (zQi below args s D (tM cy) (wM ad cy) A res) (F0 m 18 ls [.int s0, .ref (ad 0)]) := by
  have hx := hC.1
  have hb := hC.2.1
  unfold fX12_feed_18 at hf
  refine lv_iconst (v := 1) hx hb dX12_feed_18 (by decide) ?_
  obtain ⟨σ6, v7, g6, hf⟩ := zbi_use hf
  refine z_callVi (As := [.int s0, .int 1]) (rest := []) hC hI (cX12_fails_met st l D ad cy σ s0 1 _ g6) (zgV zw11_21 zw11_22 zw11_23 zw1_5 zw12_0) rfl ⟨rfl, rfl⟩ 2 hdX12_fails ⟨Nat.le_of_ble_eq_true rfl, Nat.le_of_ble_eq_true rfl⟩ rfl rfl (wM_e0 ad cy σ) rfl hl rfl (Nat.le_of_ble_eq_true rfl) dX12_feed_19 ⟨Nat.zero_le _, Nat.zero_le _⟩ (fun H locs hI => ?_)
  refine lv_if_ne (tgt := 49) hx hb dX12_feed_22 (by decide) (fun q => ?_) (fun q => ?_)
  · replace hf := zif_f q hf
    exact bX12_feed_49 hC  hI (lv_sub hl [] rfl) hf
  replace hf := zif_t q hf
  refine lv_aload_n hx hb dX12_feed_25 rfl (lv_at hl 0 rfl) ?_
  refine lv_aload_n hx hb dX12_feed_26 rfl (lv_at hl 0 rfl) ?_
  refine z_get hC hI hinX12_feed_X120 0 (wM_e0 ad cy σ6) rfl 2 (by decide) (List.mem_cons_of_mem _ zw11_17) rfl dX12_feed_27 ?_
  refine lv_iload_n hx hb dX12_feed_30 rfl (lv_at hl 1 rfl) ?_
  refine lv_iadd hx hb dX12_feed_31 ?_
  refine lv_ldc (v := 262656) hx hb hC.2.2.2.1 (hC.2.2.2.2.1 _ (List.mem_cons_of_mem _ zw9_1)) dX12_feed_32 ?_
  refine lv_icmp_le (tgt := 41) hx hb dX12_feed_34 (by decide) (fun q => ?_) (fun q => ?_)
  · replace hf := zif_t q hf
    refine lv_iconst (v := 0) hx hb dX12_feed_41 (by decide) ?_
    exact bX12_feed_42 hC  hI hl hf
  replace hf := zif_f q hf
  refine lv_iconst (v := 1) hx hb dX12_feed_37 (by decide) ?_
  refine lv_goto (tgt := 42) hx hb dX12_feed_38 (by decide) ?_
  exact bX12_feed_42 hC  hI hl hf
set_option maxRecDepth 20000 in
set_option maxHeartbeats 4000000 in
theorem bX12_feed {st : Nat → Nat} {p : Program} {l : Launch} {e : Env} {s : State} {m : MethodId} {args : Array Value} {below : List Frame} {meth : Method} {c : Code} {D : va_G} {A : Nat → Prop} {ad : Nat → Nat} {cy : Nat → ClassId} (hC : zC p m c cX12_feed 9 s args wzX12_feed RX12 meth (some .int))  {res : zSt × Int32} {H : Heap} {locs : List Loc} {σ : zSt} {ls : Array Slot} {x1 : Int32} {x2 : Int64} {x4 : Int64} {x6 : Int64} (hI : zI st D (tM cy) (wM ad cy σ) A s H locs) (hl : lv_has ls 9 [(0, .ref (ad 0)), (1, .int x1), (2, .long x2), (4, .long x4), (6, .long x6)]) (hf : fX12_feed  σ x1 x2 x4 x6 = some res) : W p l e rmX12_feed s m args below meth c H locs 0 0 (zQi below args s D (tM cy) (wM ad cy) A res) (F0 m 0 ls []) := by
  have hx := hC.1
  have hb := hC.2.1
  unfold fX12_feed at hf
  refine lv_aload_n hx hb dX12_feed_0 rfl (lv_at hl 0 rfl) ?_
  refine lv_iload_n hx hb dX12_feed_1 rfl (lv_at hl 1 rfl) ?_
  refine lv_i2l (v := x1.toInt64) hx hb dX12_feed_2 rfl ?_
  refine lv_lconst (v := 1) hx hb dX12_feed_3 (by decide) ?_
  refine lv_ldc2 (v := 24) hx hb hC.2.2.2.1 (hC.2.2.2.2.1 _ (List.mem_cons_of_mem _ zw11_16)) dX12_feed_4 ?_
  obtain ⟨σ8, v9, g8, hf⟩ := zbi_use hf
  refine z_callSi (As := [.long (x1.toInt64), .long 1, .long 24]) (rest := [.ref (ad 0)]) hC hI (cX12_within_met st l D ad cy σ (x1.toInt64) 1 24 _ g8) (zgS zw11_18 zw11_19 zw1_5 zw11_20) rfl ⟨rfl, rfl⟩ 3 hdX12_within ⟨Nat.le_of_ble_eq_true rfl, Nat.le_of_ble_eq_true rfl⟩ rfl hl rfl (Nat.le_of_ble_eq_true rfl) dX12_feed_7 ⟨Nat.zero_le _, Nat.zero_le _⟩ (fun H locs hI => ?_)
  refine lv_if_ne (tgt := 17) hx hb dX12_feed_10 (by decide) (fun q => ?_) (fun q => ?_)
  · replace hf := zif_f q hf
    refine lv_iconst (v := 0) hx hb dX12_feed_17 (by decide) ?_
    exact bX12_feed_18 hC  hI hl hf
  replace hf := zif_t q hf
  refine lv_iconst (v := 1) hx hb dX12_feed_13 (by decide) ?_
  refine lv_goto (tgt := 18) hx hb dX12_feed_14 (by decide) ?_
  exact bX12_feed_18 hC  hI hl hf
set_option maxRecDepth 20000 in
theorem cX12_feed_met (st : Nat → Nat) (l : Launch) (D : va_G) (ad : Nat → Nat) (cy : Nat → ClassId) (σ : zSt) (x1 : Int32) (x2 : Int64) (x4 : Int64) (x6 : Int64) (res : zSt × Int32) (hf : fX12_feed σ x1 x2 x4 x6 = some res) (sz : Nat) : zMi st l yX12_feed wzX12_feed rmX12_feed [.ref (ad 0), .int x1, .long x2, .long x4, .long x6] D (tM cy) (wM ad cy) sz σ res :=
  zMi.of (cc := cX12_feed) (maxL := 9) (ret := (some .int)) (by decide) rfl (Nat.le_of_ble_eq_true rfl) (fun p e s m args below meth c hC A hI ls hl => bX12_feed hC hI hl hf)
theorem hdX12_feed : yX12_feed.cls = RX12 ∧ yX12_feed.cls ≠ "java/lang/invoke/MethodHandle" ∧ yX12_feed.cls ≠ "java/lang/invoke/VarHandle" ∧ (parseMethodDescriptor yX12_feed.desc).map (fun d => d.parameters.length) = some 4 := by decide +kernel
noncomputable def rmX12_grow : Room := { frames := 1, cells := 0, slots := 0, locals := 22 }
noncomputable def wzX12_grow : List Cond := .code yX12_grow cX12_grow 3 (some .int) :: wsL_law
theorem hinX12_grow_X120 : ∀ w ∈ wsX120, w ∈ wzX12_grow := fun w h => List.mem_cons_of_mem _ (inlX12 w h)
noncomputable def fX12_grow_47  (σ : zSt)  : Option (zSt × Int32) :=
  some (σ, 0)
noncomputable def fX12_grow_54_body (k54 : zSt → Int32 → Int32 → Option (zSt × Int32)) (σ : zSt) (x1 : Int32) (x2 : Int32) : Option (zSt × Int32) :=
  if x1 ≤ (zgi σ 0 2) then some (σ, x2) else
  zck (decide (¬ x2 = 0)) (
  zck (zin (zrem (zgi σ 0 2) x2) 262656) (
  zck (zin (zgi σ 0 2) 262656) (zbv (zsi σ 1 ((zgi σ 0 2).toNatClampNeg) (vp_nar .byte (zgi σ 1 (zrem (zgi σ 0 2) x2).toNatClampNeg))) (fun σ1 =>
  zbv (zsi σ1 0 2 ((zgi σ1 0 2) + 1)) (fun σ2 =>
  k54 σ2 x1 x2)))))
noncomputable def fX12_grow_54  : Nat → zSt → Int32 → Int32 → Option (zSt × Int32)
  | 0, _, _, _ => none
  | n + 1, σ, x1, x2 => fX12_grow_54_body (fX12_grow_54  n) σ x1 x2
noncomputable def fX12_grow_40  (σ : zSt) (x1 : Int32) (s0 : Int32) : Option (zSt × Int32) :=
  zbi (fX12_fails σ s0 2) (fun σ3 v4 =>
  if v4 = 0 then zbv (zgi σ3 0 2) (fun v5 =>
  fX12_grow_54 zfuel σ3 x1 v5) else
  fX12_grow_47 σ3)
noncomputable def fX12_grow_20  (σ : zSt) (x1 : Int32) (s0 : Int32) : Option (zSt × Int32) :=
  zbi (fX12_fails σ s0 1) (fun σ6 v7 =>
  if v7 = 0 then if (zgi σ6 0 2) = 0 then fX12_grow_40 σ6 x1 1 else
  fX12_grow_40 σ6 x1 0 else
  fX12_grow_47 σ6)
noncomputable def fX12_grow_15  (σ : zSt) (x1 : Int32) : Option (zSt × Int32) :=
  fX12_grow_20 σ x1 1
noncomputable def fX12_grow  (σ : zSt) (x1 : Int32) : Option (zSt × Int32) :=
  if x1 < (zgi σ 0 2) then fX12_grow_15 σ x1 else
  if x1 ≤ 262656 then fX12_grow_20 σ x1 0 else
  fX12_grow_15 σ x1
set_option maxRecDepth 20000 in
set_option maxHeartbeats 4000000 in
theorem bX12_grow_47 {st : Nat → Nat} {p : Program} {l : Launch} {e : Env} {s : State} {m : MethodId} {args : Array Value} {below : List Frame} {meth : Method} {c : Code} {D : va_G} {A : Nat → Prop} {ad : Nat → Nat} {cy : Nat → ClassId} (hC : zC p m c cX12_grow 3 s args wzX12_grow RX12 meth (some .int))  {res : zSt × Int32} {H : Heap} {locs : List Loc} {σ : zSt} {ls : Array Slot}  (hI : zI st D (tM cy) (wM ad cy σ) A s H locs) (hl : lv_has ls 3 []) (hf : fX12_grow_47  σ  = some res) : W p l e rmX12_grow s m args below meth c H locs 0 0 (zQi below args s D (tM cy) (wM ad cy) A res) (F0 m 47 ls []) := by
  have hx := hC.1
  have hb := hC.2.1
  unfold fX12_grow_47 at hf
  refine lv_iconst (v := 0) hx hb dX12_grow_47 (by decide) ?_
  exact z_ireturn hC hI hf dX12_grow_48
set_option maxRecDepth 20000 in
set_option maxHeartbeats 4000000 in
theorem bX12_grow_54_body {st : Nat → Nat} {p : Program} {l : Launch} {e : Env} {s : State} {m : MethodId} {args : Array Value} {below : List Frame} {meth : Method} {c : Code} {D : va_G} {A : Nat → Prop} {ad : Nat → Nat} {cy : Nat → ClassId} (hC : zC p m c cX12_grow 3 s args wzX12_grow RX12 meth (some .int)) {k54 : zSt → Int32 → Int32 → Option (zSt × Int32)} {res : zSt × Int32} (hk54 : ∀ (H : Heap) (locs : List Loc) (σ : zSt) (ls : Array Slot) (x1 : Int32) (x2 : Int32), zI st D (tM cy) (wM ad cy σ) A s H locs → lv_has ls 3 [(0, .ref (ad 0)), (1, .int x1), (2, .int x2)] → k54 σ x1 x2 = some res → W p l e rmX12_grow s m args below meth c H locs 0 0 (zQi below args s D (tM cy) (wM ad cy) A res) (F0 m 54 ls [])) {H : Heap} {locs : List Loc} {σ : zSt} {ls : Array Slot} {x1 : Int32} {x2 : Int32} (hI : zI st D (tM cy) (wM ad cy σ) A s H locs) (hl : lv_has ls 3 [(0, .ref (ad 0)), (1, .int x1), (2, .int x2)]) (hf : fX12_grow_54_body k54 σ x1 x2 = some res) : W p l e rmX12_grow s m args below meth c H locs 0 0 (zQi below args s D (tM cy) (wM ad cy) A res) (F0 m 54 ls []) := by
  have hx := hC.1
  have hb := hC.2.1
  unfold fX12_grow_54_body at hf
  refine lv_aload_n hx hb dX12_grow_54 rfl (lv_at hl 0 rfl) ?_
  refine z_get hC hI hinX12_grow_X120 0 (wM_e0 ad cy σ) rfl 2 (by decide) (List.mem_cons_of_mem _ zw11_17) rfl dX12_grow_55 ?_
  refine lv_iload_n hx hb dX12_grow_58 rfl (lv_at hl 1 rfl) ?_
  refine lv_icmp_ge (tgt := 95) hx hb dX12_grow_59 (by decide) (fun q => ?_) (fun q => ?_)
  · replace hf := zif_t q hf
    refine lv_iload_n hx hb dX12_grow_95 rfl (lv_at hl 2 rfl) ?_
    exact z_ireturn hC hI hf dX12_grow_96
  replace hf := zif_f q hf
  refine lv_aload_n hx hb dX12_grow_62 rfl (lv_at hl 0 rfl) ?_
  refine z_get hC hI hinX12_grow_X120 0 (wM_e0 ad cy σ) rfl 1 (by decide) (List.mem_cons_of_mem _ zw9_3) rfl dX12_grow_63 ?_
  refine lv_aload_n hx hb dX12_grow_66 rfl (lv_at hl 0 rfl) ?_
  refine z_get hC hI hinX12_grow_X120 0 (wM_e0 ad cy σ) rfl 2 (by decide) (List.mem_cons_of_mem _ zw11_17) rfl dX12_grow_67 ?_
  refine lv_aload_n hx hb dX12_grow_70 rfl (lv_at hl 0 rfl) ?_
  refine z_get hC hI hinX12_grow_X120 0 (wM_e0 ad cy σ) rfl 1 (by decide) (List.mem_cons_of_mem _ zw9_3) rfl dX12_grow_71 ?_
  refine lv_aload_n hx hb dX12_grow_74 rfl (lv_at hl 0 rfl) ?_
  refine z_get hC hI hinX12_grow_X120 0 (wM_e0 ad cy σ) rfl 2 (by decide) (List.mem_cons_of_mem _ zw11_17) rfl dX12_grow_75 ?_
  refine lv_iload_n hx hb dX12_grow_78 rfl (lv_at hl 2 rfl) ?_
  obtain ⟨q, hf⟩ := zck_use hf
  refine z_irem hx hb dX12_grow_79 (of_decide_eq_true q) ?_
  obtain ⟨q, hf⟩ := zck_use hf
  refine z_bald hC hI 1 0 (wM_e1 ad cy σ) (tM_t1 cy) q dX12_grow_80 ?_
  obtain ⟨q, hf⟩ := zck_use hf
  obtain ⟨σ1, eσ1⟩ : ∃ z, z = zsi σ 1 ((zgi σ 0 2).toNatClampNeg) (vp_nar .byte (zgi σ 1 (zrem (zgi σ 0 2) x2).toNatClampNeg)) := ⟨_, rfl⟩
  replace hf := zbv_use eσ1 hf
  refine z_bast hC hI 1 0 (wM_e1 ad cy σ) (tM_t1 cy) q ((wM_s1 ad cy σ _ _).trans (congrArg (wM ad cy) eσ1.symm)) dX12_grow_81 (fun H locs hI => ?_)
  refine lv_aload_n hx hb dX12_grow_82 rfl (lv_at hl 0 rfl) ?_
  refine lv_dup hx hb dX12_grow_83 rfl ?_
  refine z_get hC hI hinX12_grow_X120 0 (wM_e0 ad cy σ1) rfl 2 (by decide) (List.mem_cons_of_mem _ zw11_17) rfl dX12_grow_84 ?_
  refine lv_iconst (v := 1) hx hb dX12_grow_87 (by decide) ?_
  refine lv_iadd hx hb dX12_grow_88 ?_
  obtain ⟨σ2, eσ2⟩ : ∃ z, z = zsi σ1 0 2 ((zgi σ1 0 2) + 1) := ⟨_, rfl⟩
  replace hf := zbv_use eσ2 hf
  refine z_put hC hI hinX12_grow_X120 tyX12_ok nmX12 0 (wM_e0 ad cy σ1) rfl 2 (by decide) (List.mem_cons_of_mem _ zw11_17) rfl rfl rfl (Nat.le_of_ble_eq_true rfl) ((wM_s0_2 ad cy σ1 ((zgi σ1 0 2) + 1)).trans (congrArg (wM ad cy) eσ2.symm)) dX12_grow_89 (fun H locs hI => ?_)
  refine lv_goto (tgt := 54) hx hb dX12_grow_92 (by decide) ?_
  exact hk54 _ _ _ _ _ _ hI hl hf
theorem blX12_grow_54 {st : Nat → Nat} {p : Program} {l : Launch} {e : Env} {s : State} {m : MethodId} {args : Array Value} {below : List Frame} {meth : Method} {c : Code} {D : va_G} {A : Nat → Prop} {ad : Nat → Nat} {cy : Nat → ClassId} (hC : zC p m c cX12_grow 3 s args wzX12_grow RX12 meth (some .int))  {res : zSt × Int32} : ∀ (n : Nat) (H : Heap) (locs : List Loc) (σ : zSt) (ls : Array Slot) (x1 : Int32) (x2 : Int32), zI st D (tM cy) (wM ad cy σ) A s H locs → lv_has ls 3 [(0, .ref (ad 0)), (1, .int x1), (2, .int x2)] → fX12_grow_54  n σ x1 x2 = some res → W p l e rmX12_grow s m args below meth c H locs 0 0 (zQi below args s D (tM cy) (wM ad cy) A res) (F0 m 54 ls []) := by
  intro n
  induction n with
  | zero => intro H locs σ ls x1 x2 hI hl hf; cases hf
  | succ n ih => intro H locs σ ls x1 x2 hI hl hf; exact bX12_grow_54_body hC ih hI hl hf
set_option maxRecDepth 20000 in
set_option maxHeartbeats 4000000 in
theorem bX12_grow_40 {st : Nat → Nat} {p : Program} {l : Launch} {e : Env} {s : State} {m : MethodId} {args : Array Value} {below : List Frame} {meth : Method} {c : Code} {D : va_G} {A : Nat → Prop} {ad : Nat → Nat} {cy : Nat → ClassId} (hC : zC p m c cX12_grow 3 s args wzX12_grow RX12 meth (some .int))  {res : zSt × Int32} {H : Heap} {locs : List Loc} {σ : zSt} {ls : Array Slot} {x1 : Int32} {s0 : Int32} (hI : zI st D (tM cy) (wM ad cy σ) A s H locs) (hl : lv_has ls 3 [(0, .ref (ad 0)), (1, .int x1)]) (hf : fX12_grow_40  σ x1 s0 = some res) : W p l e rmX12_grow s m args below meth c H locs 0 0 (zQi below args s D (tM cy) (wM ad cy) A res) (F0 m 40 ls [.int s0, .ref (ad 0)]) := by
  have hx := hC.1
  have hb := hC.2.1
  unfold fX12_grow_40 at hf
  refine lv_iconst (v := 2) hx hb dX12_grow_40 (by decide) ?_
  obtain ⟨σ3, v4, g3, hf⟩ := zbi_use hf
  refine z_callVi (As := [.int s0, .int 2]) (rest := []) hC hI (cX12_fails_met st l D ad cy σ s0 2 _ g3) (zgV zw11_21 zw11_22 zw11_23 zw1_5 zw12_0) rfl ⟨rfl, rfl⟩ 2 hdX12_fails ⟨Nat.le_of_ble_eq_true rfl, Nat.le_of_ble_eq_true rfl⟩ rfl rfl (wM_e0 ad cy σ) rfl hl rfl (Nat.le_of_ble_eq_true rfl) dX12_grow_41 ⟨Nat.zero_le _, Nat.zero_le _⟩ (fun H locs hI => ?_)
  refine lv_if_eq (tgt := 49) hx hb dX12_grow_44 (by decide) (fun q => ?_) (fun q => ?_)
  · replace hf := zif_t q hf
    refine lv_aload_n hx hb dX12_grow_49 rfl (lv_at hl 0 rfl) ?_
    refine z_get hC hI hinX12_grow_X120 0 (wM_e0 ad cy σ3) rfl 2 (by decide) (List.mem_cons_of_mem _ zw11_17) rfl dX12_grow_50 ?_
    refine lv_topi (fun v5 ev5 => ?_)
    replace hf := zbv_use ev5 hf
    refine lv_istore_n (lv' := [(2, .int v5), (0, .ref (ad 0)), (1, .int x1)]) hx hb dX12_grow_53 rfl hl (by decide) rfl (fun ls hl => ?_)
    exact blX12_grow_54 hC  zfuel _ _ _ _ _ _ hI (lv_sub hl [1, 2, 0] rfl) hf
  replace hf := zif_f q hf
  exact bX12_grow_47 hC  hI (lv_sub hl [] rfl) hf
set_option maxRecDepth 20000 in
set_option maxHeartbeats 4000000 in
theorem bX12_grow_20 {st : Nat → Nat} {p : Program} {l : Launch} {e : Env} {s : State} {m : MethodId} {args : Array Value} {below : List Frame} {meth : Method} {c : Code} {D : va_G} {A : Nat → Prop} {ad : Nat → Nat} {cy : Nat → ClassId} (hC : zC p m c cX12_grow 3 s args wzX12_grow RX12 meth (some .int))  {res : zSt × Int32} {H : Heap} {locs : List Loc} {σ : zSt} {ls : Array Slot} {x1 : Int32} {s0 : Int32} (hI : zI st D (tM cy) (wM ad cy σ) A s H locs) (hl : lv_has ls 3 [(0, .ref (ad 0)), (1, .int x1)]) (hf : fX12_grow_20  σ x1 s0 = some res) : W p l e rmX12_grow s m args below meth c H locs 0 0 (zQi below args s D (tM cy) (wM ad cy) A res) (F0 m 20 ls [.int s0, .ref (ad 0)]) := by
  have hx := hC.1
  have hb := hC.2.1
  unfold fX12_grow_20 at hf
  refine lv_iconst (v := 1) hx hb dX12_grow_20 (by decide) ?_
  obtain ⟨σ6, v7, g6, hf⟩ := zbi_use hf
  refine z_callVi (As := [.int s0, .int 1]) (rest := []) hC hI (cX12_fails_met st l D ad cy σ s0 1 _ g6) (zgV zw11_21 zw11_22 zw11_23 zw1_5 zw12_0) rfl ⟨rfl, rfl⟩ 2 hdX12_fails ⟨Nat.le_of_ble_eq_true rfl, Nat.le_of_ble_eq_true rfl⟩ rfl rfl (wM_e0 ad cy σ) rfl hl rfl (Nat.le_of_ble_eq_true rfl) dX12_grow_21 ⟨Nat.zero_le _, Nat.zero_le _⟩ (fun H locs hI => ?_)
  refine lv_if_ne (tgt := 47) hx hb dX12_grow_24 (by decide) (fun q => ?_) (fun q => ?_)
  · replace hf := zif_f q hf
    exact bX12_grow_47 hC  hI (lv_sub hl [] rfl) hf
  replace hf := zif_t q hf
  refine lv_aload_n hx hb dX12_grow_27 rfl (lv_at hl 0 rfl) ?_
  refine lv_aload_n hx hb dX12_grow_28 rfl (lv_at hl 0 rfl) ?_
  refine z_get hC hI hinX12_grow_X120 0 (wM_e0 ad cy σ6) rfl 2 (by decide) (List.mem_cons_of_mem _ zw11_17) rfl dX12_grow_29 ?_
  refine lv_if_ne (tgt := 39) hx hb dX12_grow_32 (by decide) (fun q => ?_) (fun q => ?_)
  · replace hf := zif_f q hf
    refine lv_iconst (v := 0) hx hb dX12_grow_39 (by decide) ?_
    exact bX12_grow_40 hC  hI hl hf
  replace hf := zif_t q hf
  refine lv_iconst (v := 1) hx hb dX12_grow_35 (by decide) ?_
  refine lv_goto (tgt := 40) hx hb dX12_grow_36 (by decide) ?_
  exact bX12_grow_40 hC  hI hl hf
set_option maxRecDepth 20000 in
set_option maxHeartbeats 4000000 in
theorem bX12_grow_15 {st : Nat → Nat} {p : Program} {l : Launch} {e : Env} {s : State} {m : MethodId} {args : Array Value} {below : List Frame} {meth : Method} {c : Code} {D : va_G} {A : Nat → Prop} {ad : Nat → Nat} {cy : Nat → ClassId} (hC : zC p m c cX12_grow 3 s args wzX12_grow RX12 meth (some .int))  {res : zSt × Int32} {H : Heap} {locs : List Loc} {σ : zSt} {ls : Array Slot} {x1 : Int32} (hI : zI st D (tM cy) (wM ad cy σ) A s H locs) (hl : lv_has ls 3 [(0, .ref (ad 0)), (1, .int x1)]) (hf : fX12_grow_15  σ x1 = some res) : W p l e rmX12_grow s m args below meth c H locs 0 0 (zQi below args s D (tM cy) (wM ad cy) A res) (F0 m 15 ls [.ref (ad 0)]) := by
  have hx := hC.1
  have hb := hC.2.1
  unfold fX12_grow_15 at hf
  refine lv_iconst (v := 1) hx hb dX12_grow_15 (by decide) ?_
  refine lv_goto (tgt := 20) hx hb dX12_grow_16 (by decide) ?_
  exact bX12_grow_20 hC  hI hl hf
set_option maxRecDepth 20000 in
set_option maxHeartbeats 4000000 in
theorem bX12_grow {st : Nat → Nat} {p : Program} {l : Launch} {e : Env} {s : State} {m : MethodId} {args : Array Value} {below : List Frame} {meth : Method} {c : Code} {D : va_G} {A : Nat → Prop} {ad : Nat → Nat} {cy : Nat → ClassId} (hC : zC p m c cX12_grow 3 s args wzX12_grow RX12 meth (some .int))  {res : zSt × Int32} {H : Heap} {locs : List Loc} {σ : zSt} {ls : Array Slot} {x1 : Int32} (hI : zI st D (tM cy) (wM ad cy σ) A s H locs) (hl : lv_has ls 3 [(0, .ref (ad 0)), (1, .int x1)]) (hf : fX12_grow  σ x1 = some res) : W p l e rmX12_grow s m args below meth c H locs 0 0 (zQi below args s D (tM cy) (wM ad cy) A res) (F0 m 0 ls []) := by
  have hx := hC.1
  have hb := hC.2.1
  unfold fX12_grow at hf
  refine lv_aload_n hx hb dX12_grow_0 rfl (lv_at hl 0 rfl) ?_
  refine lv_iload_n hx hb dX12_grow_1 rfl (lv_at hl 1 rfl) ?_
  refine lv_aload_n hx hb dX12_grow_2 rfl (lv_at hl 0 rfl) ?_
  refine z_get hC hI hinX12_grow_X120 0 (wM_e0 ad cy σ) rfl 2 (by decide) (List.mem_cons_of_mem _ zw11_17) rfl dX12_grow_3 ?_
  refine lv_icmp_lt (tgt := 15) hx hb dX12_grow_6 (by decide) (fun q => ?_) (fun q => ?_)
  · replace hf := zif_t q hf
    exact bX12_grow_15 hC  hI hl hf
  replace hf := zif_f q hf
  refine lv_iload_n hx hb dX12_grow_9 rfl (lv_at hl 1 rfl) ?_
  refine lv_ldc (v := 262656) hx hb hC.2.2.2.1 (hC.2.2.2.2.1 _ (List.mem_cons_of_mem _ zw9_1)) dX12_grow_10 ?_
  refine lv_icmp_le (tgt := 19) hx hb dX12_grow_12 (by decide) (fun q => ?_) (fun q => ?_)
  · replace hf := zif_t q hf
    refine lv_iconst (v := 0) hx hb dX12_grow_19 (by decide) ?_
    exact bX12_grow_20 hC  hI hl hf
  replace hf := zif_f q hf
  exact bX12_grow_15 hC  hI hl hf
set_option maxRecDepth 20000 in
theorem cX12_grow_met (st : Nat → Nat) (l : Launch) (D : va_G) (ad : Nat → Nat) (cy : Nat → ClassId) (σ : zSt) (x1 : Int32) (res : zSt × Int32) (hf : fX12_grow σ x1 = some res) (sz : Nat) : zMi st l yX12_grow wzX12_grow rmX12_grow [.ref (ad 0), .int x1] D (tM cy) (wM ad cy) sz σ res :=
  zMi.of (cc := cX12_grow) (maxL := 3) (ret := (some .int)) (by decide) rfl (Nat.le_of_ble_eq_true rfl) (fun p e s m args below meth c hC A hI ls hl => bX12_grow hC hI hl hf)
theorem hdX12_grow : yX12_grow.cls = RX12 ∧ yX12_grow.cls ≠ "java/lang/invoke/MethodHandle" ∧ yX12_grow.cls ≠ "java/lang/invoke/VarHandle" ∧ (parseMethodDescriptor yX12_grow.desc).map (fun d => d.parameters.length) = some 1 := by decide +kernel
noncomputable def rmX12_patch : Room := { frames := 1, cells := 0, slots := 0, locals := 22 }
noncomputable def wzX12_patch : List Cond := .code yX12_patch cX12_patch 5 none :: wsL_law
theorem hinX12_patch_X120 : ∀ w ∈ wsX120, w ∈ wzX12_patch := fun w h => List.mem_cons_of_mem _ (inlX12 w h)
noncomputable def fX12_patch_32_body (k32 : zSt → Int32 → Int64 → Int32 → Option (zSt)) (σ : zSt) (x1 : Int32) (x2 : Int64) (x4 : Int32) : Option (zSt) :=
  if 8 ≤ x4 then some σ else
  zck (zin (x1 + x4) 262656) (zbv (zsi σ 1 ((x1 + x4).toNatClampNeg) (vp_nar .byte (((zlshr x2 (8 * x4)).toInt32).toInt8.toInt32))) (fun σ1 =>
  zbv (x4 + 1) (fun v2 =>
  k32 σ1 x1 x2 v2)))
noncomputable def fX12_patch_32  : Nat → zSt → Int32 → Int64 → Int32 → Option (zSt)
  | 0, _, _, _, _ => none
  | n + 1, σ, x1, x2, x4 => fX12_patch_32_body (fX12_patch_32  n) σ x1 x2 x4
noncomputable def fX12_patch_21  (σ : zSt) (x1 : Int32) (x2 : Int64) (s0 : Int32) : Option (zSt) :=
  zbi (fX12_fails σ s0 1) (fun σ3 v4 =>
  if v4 = 0 then fX12_patch_32 zfuel σ3 x1 x2 0 else
  some σ3)
noncomputable def fX12_patch_16  (σ : zSt) (x1 : Int32) (x2 : Int64) : Option (zSt) :=
  fX12_patch_21 σ x1 x2 1
noncomputable def fX12_patch  (σ : zSt) (x1 : Int32) (x2 : Int64) : Option (zSt) :=
  if x1 < 0 then fX12_patch_16 σ x1 x2 else
  if x1 ≤ ((zgi σ 0 2) - 8) then fX12_patch_21 σ x1 x2 0 else
  fX12_patch_16 σ x1 x2
set_option maxRecDepth 20000 in
set_option maxHeartbeats 4000000 in
theorem bX12_patch_32_body {st : Nat → Nat} {p : Program} {l : Launch} {e : Env} {s : State} {m : MethodId} {args : Array Value} {below : List Frame} {meth : Method} {c : Code} {D : va_G} {A : Nat → Prop} {ad : Nat → Nat} {cy : Nat → ClassId} (hC : zC p m c cX12_patch 5 s args wzX12_patch RX12 meth none) {k32 : zSt → Int32 → Int64 → Int32 → Option (zSt)} {res : zSt} (hk32 : ∀ (H : Heap) (locs : List Loc) (σ : zSt) (ls : Array Slot) (x1 : Int32) (x2 : Int64) (x4 : Int32), zI st D (tM cy) (wM ad cy σ) A s H locs → lv_has ls 5 [(0, .ref (ad 0)), (1, .int x1), (2, .long x2), (4, .int x4)] → k32 σ x1 x2 x4 = some res → W p l e rmX12_patch s m args below meth c H locs 0 0 (zQu below args s D (tM cy) (wM ad cy) A res) (F0 m 32 ls [])) {H : Heap} {locs : List Loc} {σ : zSt} {ls : Array Slot} {x1 : Int32} {x2 : Int64} {x4 : Int32} (hI : zI st D (tM cy) (wM ad cy σ) A s H locs) (hl : lv_has ls 5 [(0, .ref (ad 0)), (1, .int x1), (2, .long x2), (4, .int x4)]) (hf : fX12_patch_32_body k32 σ x1 x2 x4 = some res) : W p l e rmX12_patch s m args below meth c H locs 0 0 (zQu below args s D (tM cy) (wM ad cy) A res) (F0 m 32 ls []) := by
  have hx := hC.1
  have hb := hC.2.1
  unfold fX12_patch_32_body at hf
  refine lv_iload hx hb dX12_patch_32 (lv_at hl 3 rfl) ?_
  refine lv_bipush (v := 8) hx hb dX12_patch_34 (by decide) ?_
  refine lv_icmp_ge (tgt := 63) hx hb dX12_patch_36 (by decide) (fun q => ?_) (fun q => ?_)
  · replace hf := zif_t q hf
    exact z_return hC hI hf dX12_patch_63
  replace hf := zif_f q hf
  refine lv_aload_n hx hb dX12_patch_39 rfl (lv_at hl 0 rfl) ?_
  refine z_get hC hI hinX12_patch_X120 0 (wM_e0 ad cy σ) rfl 1 (by decide) (List.mem_cons_of_mem _ zw9_3) rfl dX12_patch_40 ?_
  refine lv_iload_n hx hb dX12_patch_43 rfl (lv_at hl 1 rfl) ?_
  refine lv_iload hx hb dX12_patch_44 (lv_at hl 3 rfl) ?_
  refine lv_iadd hx hb dX12_patch_46 ?_
  refine lv_lload_n hx hb dX12_patch_47 rfl (lv_at hl 2 rfl) ?_
  refine lv_bipush (v := 8) hx hb dX12_patch_48 (by decide) ?_
  refine lv_iload hx hb dX12_patch_50 (lv_at hl 3 rfl) ?_
  refine lv_imul hx hb dX12_patch_52 ?_
  refine lv_lshr (v := zlshr x2 (8 * x4)) hx hb dX12_patch_53 rfl ?_
  refine lv_l2i (v := (zlshr x2 (8 * x4)).toInt32) hx hb dX12_patch_54 rfl ?_
  refine lv_i2b (v := ((zlshr x2 (8 * x4)).toInt32).toInt8.toInt32) hx hb dX12_patch_55 rfl ?_
  obtain ⟨q, hf⟩ := zck_use hf
  obtain ⟨σ1, eσ1⟩ : ∃ z, z = zsi σ 1 ((x1 + x4).toNatClampNeg) (vp_nar .byte (((zlshr x2 (8 * x4)).toInt32).toInt8.toInt32)) := ⟨_, rfl⟩
  replace hf := zbv_use eσ1 hf
  refine z_bast hC hI 1 0 (wM_e1 ad cy σ) (tM_t1 cy) q ((wM_s1 ad cy σ _ _).trans (congrArg (wM ad cy) eσ1.symm)) dX12_patch_56 (fun H locs hI => ?_)
  obtain ⟨v2, ev2⟩ : ∃ z : Int32, z = x4 + 1 := ⟨_, rfl⟩
  replace hf := zbv_use ev2 hf
  refine lv_iinc (v := v2) (lv' := [(4, .int v2), (0, .ref (ad 0)), (1, .int x1), (2, .long x2)]) hx hb dX12_patch_57 hl (k := 3) rfl (by rw [ev2]; rfl) (by decide) rfl (fun ls hl => ?_)
  refine lv_goto (tgt := 32) hx hb dX12_patch_60 (by decide) ?_
  exact hk32 _ _ _ _ _ _ _ hI (lv_sub hl [1, 2, 3, 0] rfl) hf
theorem blX12_patch_32 {st : Nat → Nat} {p : Program} {l : Launch} {e : Env} {s : State} {m : MethodId} {args : Array Value} {below : List Frame} {meth : Method} {c : Code} {D : va_G} {A : Nat → Prop} {ad : Nat → Nat} {cy : Nat → ClassId} (hC : zC p m c cX12_patch 5 s args wzX12_patch RX12 meth none)  {res : zSt} : ∀ (n : Nat) (H : Heap) (locs : List Loc) (σ : zSt) (ls : Array Slot) (x1 : Int32) (x2 : Int64) (x4 : Int32), zI st D (tM cy) (wM ad cy σ) A s H locs → lv_has ls 5 [(0, .ref (ad 0)), (1, .int x1), (2, .long x2), (4, .int x4)] → fX12_patch_32  n σ x1 x2 x4 = some res → W p l e rmX12_patch s m args below meth c H locs 0 0 (zQu below args s D (tM cy) (wM ad cy) A res) (F0 m 32 ls []) := by
  intro n
  induction n with
  | zero => intro H locs σ ls x1 x2 x4 hI hl hf; cases hf
  | succ n ih => intro H locs σ ls x1 x2 x4 hI hl hf; exact bX12_patch_32_body hC ih hI hl hf
set_option maxRecDepth 20000 in
set_option maxHeartbeats 4000000 in
theorem bX12_patch_21 {st : Nat → Nat} {p : Program} {l : Launch} {e : Env} {s : State} {m : MethodId} {args : Array Value} {below : List Frame} {meth : Method} {c : Code} {D : va_G} {A : Nat → Prop} {ad : Nat → Nat} {cy : Nat → ClassId} (hC : zC p m c cX12_patch 5 s args wzX12_patch RX12 meth none)  {res : zSt} {H : Heap} {locs : List Loc} {σ : zSt} {ls : Array Slot} {x1 : Int32} {x2 : Int64} {s0 : Int32} (hI : zI st D (tM cy) (wM ad cy σ) A s H locs) (hl : lv_has ls 5 [(0, .ref (ad 0)), (1, .int x1), (2, .long x2)]) (hf : fX12_patch_21  σ x1 x2 s0 = some res) : W p l e rmX12_patch s m args below meth c H locs 0 0 (zQu below args s D (tM cy) (wM ad cy) A res) (F0 m 21 ls [.int s0, .ref (ad 0)]) := by
  have hx := hC.1
  have hb := hC.2.1
  unfold fX12_patch_21 at hf
  refine lv_iconst (v := 1) hx hb dX12_patch_21 (by decide) ?_
  obtain ⟨σ3, v4, g3, hf⟩ := zbi_use hf
  refine z_callVi (As := [.int s0, .int 1]) (rest := []) hC hI (cX12_fails_met st l D ad cy σ s0 1 _ g3) (zgV zw11_21 zw11_22 zw11_23 zw1_5 zw12_0) rfl ⟨rfl, rfl⟩ 2 hdX12_fails ⟨Nat.le_of_ble_eq_true rfl, Nat.le_of_ble_eq_true rfl⟩ rfl rfl (wM_e0 ad cy σ) rfl hl rfl (Nat.le_of_ble_eq_true rfl) dX12_patch_22 ⟨Nat.zero_le _, Nat.zero_le _⟩ (fun H locs hI => ?_)
  refine lv_if_eq (tgt := 29) hx hb dX12_patch_25 (by decide) (fun q => ?_) (fun q => ?_)
  · replace hf := zif_t q hf
    refine lv_iconst (v := 0) hx hb dX12_patch_29 (by decide) ?_
    refine lv_istore (lv' := [(4, .int 0), (0, .ref (ad 0)), (1, .int x1), (2, .long x2)]) hx hb dX12_patch_30 hl (by decide) rfl (fun ls hl => ?_)
    exact blX12_patch_32 hC  zfuel _ _ _ _ _ _ _ hI (lv_sub hl [1, 2, 3, 0] rfl) hf
  replace hf := zif_f q hf
  exact z_return hC hI hf dX12_patch_28
set_option maxRecDepth 20000 in
set_option maxHeartbeats 4000000 in
theorem bX12_patch_16 {st : Nat → Nat} {p : Program} {l : Launch} {e : Env} {s : State} {m : MethodId} {args : Array Value} {below : List Frame} {meth : Method} {c : Code} {D : va_G} {A : Nat → Prop} {ad : Nat → Nat} {cy : Nat → ClassId} (hC : zC p m c cX12_patch 5 s args wzX12_patch RX12 meth none)  {res : zSt} {H : Heap} {locs : List Loc} {σ : zSt} {ls : Array Slot} {x1 : Int32} {x2 : Int64} (hI : zI st D (tM cy) (wM ad cy σ) A s H locs) (hl : lv_has ls 5 [(0, .ref (ad 0)), (1, .int x1), (2, .long x2)]) (hf : fX12_patch_16  σ x1 x2 = some res) : W p l e rmX12_patch s m args below meth c H locs 0 0 (zQu below args s D (tM cy) (wM ad cy) A res) (F0 m 16 ls [.ref (ad 0)]) := by
  have hx := hC.1
  have hb := hC.2.1
  unfold fX12_patch_16 at hf
  refine lv_iconst (v := 1) hx hb dX12_patch_16 (by decide) ?_
  refine lv_goto (tgt := 21) hx hb dX12_patch_17 (by decide) ?_
  exact bX12_patch_21 hC  hI hl hf
set_option maxRecDepth 20000 in
set_option maxHeartbeats 4000000 in
theorem bX12_patch {st : Nat → Nat} {p : Program} {l : Launch} {e : Env} {s : State} {m : MethodId} {args : Array Value} {below : List Frame} {meth : Method} {c : Code} {D : va_G} {A : Nat → Prop} {ad : Nat → Nat} {cy : Nat → ClassId} (hC : zC p m c cX12_patch 5 s args wzX12_patch RX12 meth none)  {res : zSt} {H : Heap} {locs : List Loc} {σ : zSt} {ls : Array Slot} {x1 : Int32} {x2 : Int64} (hI : zI st D (tM cy) (wM ad cy σ) A s H locs) (hl : lv_has ls 5 [(0, .ref (ad 0)), (1, .int x1), (2, .long x2)]) (hf : fX12_patch  σ x1 x2 = some res) : W p l e rmX12_patch s m args below meth c H locs 0 0 (zQu below args s D (tM cy) (wM ad cy) A res) (F0 m 0 ls []) := by
  have hx := hC.1
  have hb := hC.2.1
  unfold fX12_patch at hf
  refine lv_aload_n hx hb dX12_patch_0 rfl (lv_at hl 0 rfl) ?_
  refine lv_iload_n hx hb dX12_patch_1 rfl (lv_at hl 1 rfl) ?_
  refine lv_if_lt (tgt := 16) hx hb dX12_patch_2 (by decide) (fun q => ?_) (fun q => ?_)
  · replace hf := zif_t q hf
    exact bX12_patch_16 hC  hI hl hf
  replace hf := zif_f q hf
  refine lv_iload_n hx hb dX12_patch_5 rfl (lv_at hl 1 rfl) ?_
  refine lv_aload_n hx hb dX12_patch_6 rfl (lv_at hl 0 rfl) ?_
  refine z_get hC hI hinX12_patch_X120 0 (wM_e0 ad cy σ) rfl 2 (by decide) (List.mem_cons_of_mem _ zw11_17) rfl dX12_patch_7 ?_
  refine lv_bipush (v := 8) hx hb dX12_patch_10 (by decide) ?_
  refine lv_isub hx hb dX12_patch_12 ?_
  refine lv_icmp_le (tgt := 20) hx hb dX12_patch_13 (by decide) (fun q => ?_) (fun q => ?_)
  · replace hf := zif_t q hf
    refine lv_iconst (v := 0) hx hb dX12_patch_20 (by decide) ?_
    exact bX12_patch_21 hC  hI hl hf
  replace hf := zif_f q hf
  exact bX12_patch_16 hC  hI hl hf
set_option maxRecDepth 20000 in
theorem cX12_patch_met (st : Nat → Nat) (l : Launch) (D : va_G) (ad : Nat → Nat) (cy : Nat → ClassId) (σ : zSt) (x1 : Int32) (x2 : Int64) (res : zSt) (hf : fX12_patch σ x1 x2 = some res) (sz : Nat) : zMu st l yX12_patch wzX12_patch rmX12_patch [.ref (ad 0), .int x1, .long x2] D (tM cy) (wM ad cy) sz σ res :=
  zMu.of (cc := cX12_patch) (maxL := 5) (ret := none) (by decide) rfl (Nat.le_of_ble_eq_true rfl) (fun p e s m args below meth c hC A hI ls hl => bX12_patch hC hI hl hf)
theorem hdX12_patch : yX12_patch.cls = RX12 ∧ yX12_patch.cls ≠ "java/lang/invoke/MethodHandle" ∧ yX12_patch.cls ≠ "java/lang/invoke/VarHandle" ∧ (parseMethodDescriptor yX12_patch.desc).map (fun d => d.parameters.length) = some 2 := by decide +kernel
noncomputable def rmX12_bytesAt : Room := { frames := 0, cells := 0, slots := 0, locals := 0 }
noncomputable def wzX12_bytesAt : List Cond := .code yX12_bytesAt cX12_bytesAt 5 (some .int) :: wsL_law
theorem hinX12_bytesAt_X120 : ∀ w ∈ wsX120, w ∈ wzX12_bytesAt := fun w h => List.mem_cons_of_mem _ (inlX12 w h)
noncomputable def fX12_bytesAt_7_body (k7 : zSt → Int32 → Int32 → Int32 → Option (zSt × Int32)) (σ : zSt) (x1 : Int32) (x3 : Int32) (x4 : Int32) : Option (zSt × Int32) :=
  if x4 < 0 then some (σ, x3) else
  zck (zin (x1 + x4) 262144) (
  zbv ((x3 <<< ((8 : Int32) &&& 31)) ||| ((zgi σ 2 (x1 + x4).toNatClampNeg) &&& 255)) (fun v1 =>
  zbv (x4 + (-1)) (fun v2 =>
  k7 σ x1 v1 v2)))
noncomputable def fX12_bytesAt_7  : Nat → zSt → Int32 → Int32 → Int32 → Option (zSt × Int32)
  | 0, _, _, _, _ => none
  | n + 1, σ, x1, x3, x4 => fX12_bytesAt_7_body (fX12_bytesAt_7  n) σ x1 x3 x4
noncomputable def fX12_bytesAt  (σ : zSt) (x1 : Int32) (x2 : Int32) : Option (zSt × Int32) :=
  zbv (x2 - 1) (fun v3 =>
  fX12_bytesAt_7 zfuel σ x1 0 v3)
set_option maxRecDepth 20000 in
set_option maxHeartbeats 4000000 in
theorem bX12_bytesAt_7_body {st : Nat → Nat} {p : Program} {l : Launch} {e : Env} {s : State} {m : MethodId} {args : Array Value} {below : List Frame} {meth : Method} {c : Code} {D : va_G} {A : Nat → Prop} {ad : Nat → Nat} {cy : Nat → ClassId} (hC : zC p m c cX12_bytesAt 5 s args wzX12_bytesAt RX12 meth (some .int)) {k7 : zSt → Int32 → Int32 → Int32 → Option (zSt × Int32)} {res : zSt × Int32} (hk7 : ∀ (H : Heap) (locs : List Loc) (σ : zSt) (ls : Array Slot) (x1 : Int32) (x3 : Int32) (x4 : Int32), zI st D (tM cy) (wM ad cy σ) A s H locs → lv_has ls 5 [(0, .ref (ad 0)), (1, .int x1), (3, .int x3), (4, .int x4)] → k7 σ x1 x3 x4 = some res → W p l e rmX12_bytesAt s m args below meth c H locs 0 0 (zQi below args s D (tM cy) (wM ad cy) A res) (F0 m 7 ls [])) {H : Heap} {locs : List Loc} {σ : zSt} {ls : Array Slot} {x1 : Int32} {x3 : Int32} {x4 : Int32} (hI : zI st D (tM cy) (wM ad cy σ) A s H locs) (hl : lv_has ls 5 [(0, .ref (ad 0)), (1, .int x1), (3, .int x3), (4, .int x4)]) (hf : fX12_bytesAt_7_body k7 σ x1 x3 x4 = some res) : W p l e rmX12_bytesAt s m args below meth c H locs 0 0 (zQi below args s D (tM cy) (wM ad cy) A res) (F0 m 7 ls []) := by
  have hx := hC.1
  have hb := hC.2.1
  unfold fX12_bytesAt_7_body at hf
  refine lv_iload hx hb dX12_bytesAt_7 (lv_at hl 3 rfl) ?_
  refine lv_if_lt (tgt := 37) hx hb dX12_bytesAt_9 (by decide) (fun q => ?_) (fun q => ?_)
  · replace hf := zif_t q hf
    refine lv_iload_n hx hb dX12_bytesAt_37 rfl (lv_at hl 2 rfl) ?_
    exact z_ireturn hC hI hf dX12_bytesAt_38
  replace hf := zif_f q hf
  refine lv_iload_n hx hb dX12_bytesAt_12 rfl (lv_at hl 2 rfl) ?_
  refine lv_bipush (v := 8) hx hb dX12_bytesAt_13 (by decide) ?_
  refine lv_ishl hx hb dX12_bytesAt_15 ?_
  refine lv_aload_n hx hb dX12_bytesAt_16 rfl (lv_at hl 0 rfl) ?_
  refine z_get hC hI hinX12_bytesAt_X120 0 (wM_e0 ad cy σ) rfl 4 (by decide) (List.mem_cons_of_mem _ zw9_5) rfl dX12_bytesAt_17 ?_
  refine lv_iload_n hx hb dX12_bytesAt_20 rfl (lv_at hl 1 rfl) ?_
  refine lv_iload hx hb dX12_bytesAt_21 (lv_at hl 3 rfl) ?_
  refine lv_iadd hx hb dX12_bytesAt_23 ?_
  obtain ⟨q, hf⟩ := zck_use hf
  refine z_bald hC hI 2 1 (wM_e2 ad cy σ) (tM_t2 cy) q dX12_bytesAt_24 ?_
  refine lv_sipush (v := 255) hx hb dX12_bytesAt_25 (by decide) ?_
  refine lv_iand hx hb dX12_bytesAt_28 ?_
  refine lv_ior hx hb dX12_bytesAt_29 ?_
  refine lv_topi (fun v1 ev1 => ?_)
  replace hf := zbv_use ev1 hf
  refine lv_istore_n (lv' := [(3, .int v1), (0, .ref (ad 0)), (1, .int x1), (4, .int x4)]) hx hb dX12_bytesAt_30 rfl hl (by decide) rfl (fun ls hl => ?_)
  obtain ⟨v2, ev2⟩ : ∃ z : Int32, z = x4 + (-1) := ⟨_, rfl⟩
  replace hf := zbv_use ev2 hf
  refine lv_iinc (v := v2) (lv' := [(4, .int v2), (3, .int v1), (0, .ref (ad 0)), (1, .int x1)]) hx hb dX12_bytesAt_31 hl (k := 3) rfl (by rw [ev2]; rfl) (by decide) rfl (fun ls hl => ?_)
  refine lv_goto (tgt := 7) hx hb dX12_bytesAt_34 (by decide) ?_
  exact hk7 _ _ _ _ _ _ _ hI (lv_sub hl [2, 3, 1, 0] rfl) hf
theorem blX12_bytesAt_7 {st : Nat → Nat} {p : Program} {l : Launch} {e : Env} {s : State} {m : MethodId} {args : Array Value} {below : List Frame} {meth : Method} {c : Code} {D : va_G} {A : Nat → Prop} {ad : Nat → Nat} {cy : Nat → ClassId} (hC : zC p m c cX12_bytesAt 5 s args wzX12_bytesAt RX12 meth (some .int))  {res : zSt × Int32} : ∀ (n : Nat) (H : Heap) (locs : List Loc) (σ : zSt) (ls : Array Slot) (x1 : Int32) (x3 : Int32) (x4 : Int32), zI st D (tM cy) (wM ad cy σ) A s H locs → lv_has ls 5 [(0, .ref (ad 0)), (1, .int x1), (3, .int x3), (4, .int x4)] → fX12_bytesAt_7  n σ x1 x3 x4 = some res → W p l e rmX12_bytesAt s m args below meth c H locs 0 0 (zQi below args s D (tM cy) (wM ad cy) A res) (F0 m 7 ls []) := by
  intro n
  induction n with
  | zero => intro H locs σ ls x1 x3 x4 hI hl hf; cases hf
  | succ n ih => intro H locs σ ls x1 x3 x4 hI hl hf; exact bX12_bytesAt_7_body hC ih hI hl hf
set_option maxRecDepth 20000 in
set_option maxHeartbeats 4000000 in
theorem bX12_bytesAt {st : Nat → Nat} {p : Program} {l : Launch} {e : Env} {s : State} {m : MethodId} {args : Array Value} {below : List Frame} {meth : Method} {c : Code} {D : va_G} {A : Nat → Prop} {ad : Nat → Nat} {cy : Nat → ClassId} (hC : zC p m c cX12_bytesAt 5 s args wzX12_bytesAt RX12 meth (some .int))  {res : zSt × Int32} {H : Heap} {locs : List Loc} {σ : zSt} {ls : Array Slot} {x1 : Int32} {x2 : Int32} (hI : zI st D (tM cy) (wM ad cy σ) A s H locs) (hl : lv_has ls 5 [(0, .ref (ad 0)), (1, .int x1), (2, .int x2)]) (hf : fX12_bytesAt  σ x1 x2 = some res) : W p l e rmX12_bytesAt s m args below meth c H locs 0 0 (zQi below args s D (tM cy) (wM ad cy) A res) (F0 m 0 ls []) := by
  have hx := hC.1
  have hb := hC.2.1
  unfold fX12_bytesAt at hf
  refine lv_iconst (v := 0) hx hb dX12_bytesAt_0 (by decide) ?_
  refine lv_istore_n (lv' := [(3, .int 0), (0, .ref (ad 0)), (1, .int x1), (2, .int x2)]) hx hb dX12_bytesAt_1 rfl hl (by decide) rfl (fun ls hl => ?_)
  refine lv_iload_n hx hb dX12_bytesAt_2 rfl (lv_at hl 3 rfl) ?_
  refine lv_iconst (v := 1) hx hb dX12_bytesAt_3 (by decide) ?_
  refine lv_isub hx hb dX12_bytesAt_4 ?_
  refine lv_topi (fun v3 ev3 => ?_)
  replace hf := zbv_use ev3 hf
  refine lv_istore (lv' := [(4, .int v3), (3, .int 0), (0, .ref (ad 0)), (1, .int x1), (2, .int x2)]) hx hb dX12_bytesAt_5 hl (by decide) rfl (fun ls hl => ?_)
  exact blX12_bytesAt_7 hC  zfuel _ _ _ _ _ _ _ hI (lv_sub hl [2, 3, 1, 0] rfl) hf
set_option maxRecDepth 20000 in
theorem cX12_bytesAt_met (st : Nat → Nat) (l : Launch) (D : va_G) (ad : Nat → Nat) (cy : Nat → ClassId) (σ : zSt) (x1 : Int32) (x2 : Int32) (res : zSt × Int32) (hf : fX12_bytesAt σ x1 x2 = some res) (sz : Nat) : zMi st l yX12_bytesAt wzX12_bytesAt rmX12_bytesAt [.ref (ad 0), .int x1, .int x2] D (tM cy) (wM ad cy) sz σ res :=
  zMi.of (cc := cX12_bytesAt) (maxL := 5) (ret := (some .int)) (by decide) rfl (Nat.le_of_ble_eq_true rfl) (fun p e s m args below meth c hC A hI ls hl => bX12_bytesAt hC hI hl hf)
theorem hdX12_bytesAt : yX12_bytesAt.cls = RX12 ∧ yX12_bytesAt.cls ≠ "java/lang/invoke/MethodHandle" ∧ yX12_bytesAt.cls ≠ "java/lang/invoke/VarHandle" ∧ (parseMethodDescriptor yX12_bytesAt.desc).map (fun d => d.parameters.length) = some 2 := by decide +kernel
noncomputable def rmX12_isHeader : Room := { frames := 0, cells := 0, slots := 0, locals := 0 }
noncomputable def wzX12_isHeader : List Cond := .code yX12_isHeader cX12_isHeader 3 (some .boolean) :: wsL_law
theorem hinX12_isHeader_X120 : ∀ w ∈ wsX120, w ∈ wzX12_isHeader := fun w h => List.mem_cons_of_mem _ (inlX12 w h)
noncomputable def fX12_isHeader_125  (σ : zSt) (s0 : Int32) : Option (zSt × Int32) :=
  zck (zbo s0) (some (σ, s0))
noncomputable def fX12_isHeader_114  (σ : zSt) (x2 : Int32) : Option (zSt × Int32) :=
  if x2 = 8 then fX12_isHeader_125 σ 1 else
  fX12_isHeader_125 σ 0
noncomputable def fX12_isHeader_105 (k15 : zSt → Int32 → Int32 → Option (zSt × Int32)) (σ : zSt) (x1 : Int32) (x2 : Int32) (s0 : Int32) (s1 : Int32) : Option (zSt × Int32) :=
  if s1 = s0 then zbv (x2 + 1) (fun v1 =>
  k15 σ x1 v1) else
  fX12_isHeader_114 σ x2
noncomputable def fX12_isHeader_15_body (k15 : zSt → Int32 → Int32 → Option (zSt × Int32)) (σ : zSt) (x1 : Int32) (x2 : Int32) : Option (zSt × Int32) :=
  if 8 ≤ x2 then fX12_isHeader_114 σ x2 else
  zck (zin (x1 + x2) 262144) (
  if x2 = 0 then fX12_isHeader_105 k15 σ x1 x2 84 ((zgi σ 2 (x1 + x2).toNatClampNeg) &&& 255) else
  if x2 = 1 then fX12_isHeader_105 k15 σ x1 x2 77 ((zgi σ 2 (x1 + x2).toNatClampNeg) &&& 255) else
  if x2 = 2 then fX12_isHeader_105 k15 σ x1 x2 82 ((zgi σ 2 (x1 + x2).toNatClampNeg) &&& 255) else
  if x2 = 3 then fX12_isHeader_105 k15 σ x1 x2 32 ((zgi σ 2 (x1 + x2).toNatClampNeg) &&& 255) else
  if x2 = 4 then fX12_isHeader_105 k15 σ x1 x2 83 ((zgi σ 2 (x1 + x2).toNatClampNeg) &&& 255) else
  if x2 = 5 then fX12_isHeader_105 k15 σ x1 x2 69 ((zgi σ 2 (x1 + x2).toNatClampNeg) &&& 255) else
  if x2 = 6 then fX12_isHeader_105 k15 σ x1 x2 71 ((zgi σ 2 (x1 + x2).toNatClampNeg) &&& 255) else
  fX12_isHeader_105 k15 σ x1 x2 65 ((zgi σ 2 (x1 + x2).toNatClampNeg) &&& 255))
noncomputable def fX12_isHeader_15  : Nat → zSt → Int32 → Int32 → Option (zSt × Int32)
  | 0, _, _, _ => none
  | n + 1, σ, x1, x2 => fX12_isHeader_15_body (fX12_isHeader_15  n) σ x1 x2
noncomputable def fX12_isHeader  (σ : zSt) (x1 : Int32) : Option (zSt × Int32) :=
  if (x1 + 16) ≤ (zgi σ 0 5) then fX12_isHeader_15 zfuel σ x1 0 else
  zck (zbo 0) (some (σ, 0))
set_option maxRecDepth 20000 in
set_option maxHeartbeats 4000000 in
theorem bX12_isHeader_125 {st : Nat → Nat} {p : Program} {l : Launch} {e : Env} {s : State} {m : MethodId} {args : Array Value} {below : List Frame} {meth : Method} {c : Code} {D : va_G} {A : Nat → Prop} {ad : Nat → Nat} {cy : Nat → ClassId} (hC : zC p m c cX12_isHeader 3 s args wzX12_isHeader RX12 meth (some .boolean))  {res : zSt × Int32} {H : Heap} {locs : List Loc} {σ : zSt} {ls : Array Slot} {s0 : Int32} (hI : zI st D (tM cy) (wM ad cy σ) A s H locs) (hl : lv_has ls 3 []) (hf : fX12_isHeader_125  σ s0 = some res) : W p l e rmX12_isHeader s m args below meth c H locs 0 0 (zQi below args s D (tM cy) (wM ad cy) A res) (F0 m 125 ls [.int s0]) := by
  have hx := hC.1
  have hb := hC.2.1
  unfold fX12_isHeader_125 at hf
  obtain ⟨q, hf⟩ := zck_use hf
  exact z_zreturn hC hI (zbo_n q) hf dX12_isHeader_125
set_option maxRecDepth 20000 in
set_option maxHeartbeats 4000000 in
theorem bX12_isHeader_114 {st : Nat → Nat} {p : Program} {l : Launch} {e : Env} {s : State} {m : MethodId} {args : Array Value} {below : List Frame} {meth : Method} {c : Code} {D : va_G} {A : Nat → Prop} {ad : Nat → Nat} {cy : Nat → ClassId} (hC : zC p m c cX12_isHeader 3 s args wzX12_isHeader RX12 meth (some .boolean))  {res : zSt × Int32} {H : Heap} {locs : List Loc} {σ : zSt} {ls : Array Slot} {x2 : Int32} (hI : zI st D (tM cy) (wM ad cy σ) A s H locs) (hl : lv_has ls 3 [(2, .int x2)]) (hf : fX12_isHeader_114  σ x2 = some res) : W p l e rmX12_isHeader s m args below meth c H locs 0 0 (zQi below args s D (tM cy) (wM ad cy) A res) (F0 m 114 ls []) := by
  have hx := hC.1
  have hb := hC.2.1
  unfold fX12_isHeader_114 at hf
  refine lv_iload_n hx hb dX12_isHeader_114 rfl (lv_at hl 0 rfl) ?_
  refine lv_bipush (v := 8) hx hb dX12_isHeader_115 (by decide) ?_
  refine lv_icmp_ne (tgt := 124) hx hb dX12_isHeader_117 (by decide) (fun q => ?_) (fun q => ?_)
  · replace hf := zif_f q hf
    refine lv_iconst (v := 0) hx hb dX12_isHeader_124 (by decide) ?_
    exact bX12_isHeader_125 hC  hI (lv_sub hl [] rfl) hf
  replace hf := zif_t q hf
  refine lv_iconst (v := 1) hx hb dX12_isHeader_120 (by decide) ?_
  refine lv_goto (tgt := 125) hx hb dX12_isHeader_121 (by decide) ?_
  exact bX12_isHeader_125 hC  hI (lv_sub hl [] rfl) hf
set_option maxRecDepth 20000 in
set_option maxHeartbeats 4000000 in
theorem bX12_isHeader_105 {st : Nat → Nat} {p : Program} {l : Launch} {e : Env} {s : State} {m : MethodId} {args : Array Value} {below : List Frame} {meth : Method} {c : Code} {D : va_G} {A : Nat → Prop} {ad : Nat → Nat} {cy : Nat → ClassId} (hC : zC p m c cX12_isHeader 3 s args wzX12_isHeader RX12 meth (some .boolean)) {k15 : zSt → Int32 → Int32 → Option (zSt × Int32)} {res : zSt × Int32} (hk15 : ∀ (H : Heap) (locs : List Loc) (σ : zSt) (ls : Array Slot) (x1 : Int32) (x2 : Int32), zI st D (tM cy) (wM ad cy σ) A s H locs → lv_has ls 3 [(0, .ref (ad 0)), (1, .int x1), (2, .int x2)] → k15 σ x1 x2 = some res → W p l e rmX12_isHeader s m args below meth c H locs 0 0 (zQi below args s D (tM cy) (wM ad cy) A res) (F0 m 15 ls [])) {H : Heap} {locs : List Loc} {σ : zSt} {ls : Array Slot} {x1 : Int32} {x2 : Int32} {s0 : Int32} {s1 : Int32} (hI : zI st D (tM cy) (wM ad cy σ) A s H locs) (hl : lv_has ls 3 [(0, .ref (ad 0)), (1, .int x1), (2, .int x2)]) (hf : fX12_isHeader_105 k15 σ x1 x2 s0 s1 = some res) : W p l e rmX12_isHeader s m args below meth c H locs 0 0 (zQi below args s D (tM cy) (wM ad cy) A res) (F0 m 105 ls [.int s0, .int s1]) := by
  have hx := hC.1
  have hb := hC.2.1
  unfold fX12_isHeader_105 at hf
  refine lv_icmp_ne (tgt := 114) hx hb dX12_isHeader_105 (by decide) (fun q => ?_) (fun q => ?_)
  · replace hf := zif_f q hf
    exact bX12_isHeader_114 hC  hI (lv_sub hl [2] rfl) hf
  replace hf := zif_t q hf
  obtain ⟨v1, ev1⟩ : ∃ z : Int32, z = x2 + 1 := ⟨_, rfl⟩
  replace hf := zbv_use ev1 hf
  refine lv_iinc (v := v1) (lv' := [(2, .int v1), (0, .ref (ad 0)), (1, .int x1)]) hx hb dX12_isHeader_108 hl (k := 2) rfl (by rw [ev1]; rfl) (by decide) rfl (fun ls hl => ?_)
  refine lv_goto (tgt := 15) hx hb dX12_isHeader_111 (by decide) ?_
  exact hk15 _ _ _ _ _ _ hI (lv_sub hl [1, 2, 0] rfl) hf
set_option maxRecDepth 20000 in
set_option maxHeartbeats 4000000 in
theorem bX12_isHeader_15_body {st : Nat → Nat} {p : Program} {l : Launch} {e : Env} {s : State} {m : MethodId} {args : Array Value} {below : List Frame} {meth : Method} {c : Code} {D : va_G} {A : Nat → Prop} {ad : Nat → Nat} {cy : Nat → ClassId} (hC : zC p m c cX12_isHeader 3 s args wzX12_isHeader RX12 meth (some .boolean)) {k15 : zSt → Int32 → Int32 → Option (zSt × Int32)} {res : zSt × Int32} (hk15 : ∀ (H : Heap) (locs : List Loc) (σ : zSt) (ls : Array Slot) (x1 : Int32) (x2 : Int32), zI st D (tM cy) (wM ad cy σ) A s H locs → lv_has ls 3 [(0, .ref (ad 0)), (1, .int x1), (2, .int x2)] → k15 σ x1 x2 = some res → W p l e rmX12_isHeader s m args below meth c H locs 0 0 (zQi below args s D (tM cy) (wM ad cy) A res) (F0 m 15 ls [])) {H : Heap} {locs : List Loc} {σ : zSt} {ls : Array Slot} {x1 : Int32} {x2 : Int32} (hI : zI st D (tM cy) (wM ad cy σ) A s H locs) (hl : lv_has ls 3 [(0, .ref (ad 0)), (1, .int x1), (2, .int x2)]) (hf : fX12_isHeader_15_body k15 σ x1 x2 = some res) : W p l e rmX12_isHeader s m args below meth c H locs 0 0 (zQi below args s D (tM cy) (wM ad cy) A res) (F0 m 15 ls []) := by
  have hx := hC.1
  have hb := hC.2.1
  unfold fX12_isHeader_15_body at hf
  refine lv_iload_n hx hb dX12_isHeader_15 rfl (lv_at hl 2 rfl) ?_
  refine lv_bipush (v := 8) hx hb dX12_isHeader_16 (by decide) ?_
  refine lv_icmp_ge (tgt := 114) hx hb dX12_isHeader_18 (by decide) (fun q => ?_) (fun q => ?_)
  · replace hf := zif_t q hf
    exact bX12_isHeader_114 hC  hI (lv_sub hl [2] rfl) hf
  replace hf := zif_f q hf
  refine lv_aload_n hx hb dX12_isHeader_21 rfl (lv_at hl 0 rfl) ?_
  refine z_get hC hI hinX12_isHeader_X120 0 (wM_e0 ad cy σ) rfl 4 (by decide) (List.mem_cons_of_mem _ zw9_5) rfl dX12_isHeader_22 ?_
  refine lv_iload_n hx hb dX12_isHeader_25 rfl (lv_at hl 1 rfl) ?_
  refine lv_iload_n hx hb dX12_isHeader_26 rfl (lv_at hl 2 rfl) ?_
  refine lv_iadd hx hb dX12_isHeader_27 ?_
  obtain ⟨q, hf⟩ := zck_use hf
  refine z_bald hC hI 2 1 (wM_e2 ad cy σ) (tM_t2 cy) q dX12_isHeader_28 ?_
  refine lv_sipush (v := 255) hx hb dX12_isHeader_29 (by decide) ?_
  refine lv_iand hx hb dX12_isHeader_32 ?_
  refine lv_iload_n hx hb dX12_isHeader_33 rfl (lv_at hl 2 rfl) ?_
  refine lv_if_ne (tgt := 42) hx hb dX12_isHeader_34 (by decide) (fun q => ?_) (fun q => ?_)
  · replace hf := zif_f q hf
    refine lv_iload_n hx hb dX12_isHeader_42 rfl (lv_at hl 2 rfl) ?_
    refine lv_iconst (v := 1) hx hb dX12_isHeader_43 (by decide) ?_
    refine lv_icmp_ne (tgt := 52) hx hb dX12_isHeader_44 (by decide) (fun q => ?_) (fun q => ?_)
    · replace hf := zif_f q hf
      refine lv_iload_n hx hb dX12_isHeader_52 rfl (lv_at hl 2 rfl) ?_
      refine lv_iconst (v := 2) hx hb dX12_isHeader_53 (by decide) ?_
      refine lv_icmp_ne (tgt := 62) hx hb dX12_isHeader_54 (by decide) (fun q => ?_) (fun q => ?_)
      · replace hf := zif_f q hf
        refine lv_iload_n hx hb dX12_isHeader_62 rfl (lv_at hl 2 rfl) ?_
        refine lv_iconst (v := 3) hx hb dX12_isHeader_63 (by decide) ?_
        refine lv_icmp_ne (tgt := 72) hx hb dX12_isHeader_64 (by decide) (fun q => ?_) (fun q => ?_)
        · replace hf := zif_f q hf
          refine lv_iload_n hx hb dX12_isHeader_72 rfl (lv_at hl 2 rfl) ?_
          refine lv_iconst (v := 4) hx hb dX12_isHeader_73 (by decide) ?_
          refine lv_icmp_ne (tgt := 82) hx hb dX12_isHeader_74 (by decide) (fun q => ?_) (fun q => ?_)
          · replace hf := zif_f q hf
            refine lv_iload_n hx hb dX12_isHeader_82 rfl (lv_at hl 2 rfl) ?_
            refine lv_iconst (v := 5) hx hb dX12_isHeader_83 (by decide) ?_
            refine lv_icmp_ne (tgt := 92) hx hb dX12_isHeader_84 (by decide) (fun q => ?_) (fun q => ?_)
            · replace hf := zif_f q hf
              refine lv_iload_n hx hb dX12_isHeader_92 rfl (lv_at hl 2 rfl) ?_
              refine lv_bipush (v := 6) hx hb dX12_isHeader_93 (by decide) ?_
              refine lv_icmp_ne (tgt := 103) hx hb dX12_isHeader_95 (by decide) (fun q => ?_) (fun q => ?_)
              · replace hf := zif_f q hf
                refine lv_bipush (v := 65) hx hb dX12_isHeader_103 (by decide) ?_
                exact bX12_isHeader_105 hC hk15 hI hl hf
              replace hf := zif_t q hf
              refine lv_bipush (v := 71) hx hb dX12_isHeader_98 (by decide) ?_
              refine lv_goto (tgt := 105) hx hb dX12_isHeader_100 (by decide) ?_
              exact bX12_isHeader_105 hC hk15 hI hl hf
            replace hf := zif_t q hf
            refine lv_bipush (v := 69) hx hb dX12_isHeader_87 (by decide) ?_
            refine lv_goto (tgt := 105) hx hb dX12_isHeader_89 (by decide) ?_
            exact bX12_isHeader_105 hC hk15 hI hl hf
          replace hf := zif_t q hf
          refine lv_bipush (v := 83) hx hb dX12_isHeader_77 (by decide) ?_
          refine lv_goto (tgt := 105) hx hb dX12_isHeader_79 (by decide) ?_
          exact bX12_isHeader_105 hC hk15 hI hl hf
        replace hf := zif_t q hf
        refine lv_bipush (v := 32) hx hb dX12_isHeader_67 (by decide) ?_
        refine lv_goto (tgt := 105) hx hb dX12_isHeader_69 (by decide) ?_
        exact bX12_isHeader_105 hC hk15 hI hl hf
      replace hf := zif_t q hf
      refine lv_bipush (v := 82) hx hb dX12_isHeader_57 (by decide) ?_
      refine lv_goto (tgt := 105) hx hb dX12_isHeader_59 (by decide) ?_
      exact bX12_isHeader_105 hC hk15 hI hl hf
    replace hf := zif_t q hf
    refine lv_bipush (v := 77) hx hb dX12_isHeader_47 (by decide) ?_
    refine lv_goto (tgt := 105) hx hb dX12_isHeader_49 (by decide) ?_
    exact bX12_isHeader_105 hC hk15 hI hl hf
  replace hf := zif_t q hf
  refine lv_bipush (v := 84) hx hb dX12_isHeader_37 (by decide) ?_
  refine lv_goto (tgt := 105) hx hb dX12_isHeader_39 (by decide) ?_
  exact bX12_isHeader_105 hC hk15 hI hl hf
theorem blX12_isHeader_15 {st : Nat → Nat} {p : Program} {l : Launch} {e : Env} {s : State} {m : MethodId} {args : Array Value} {below : List Frame} {meth : Method} {c : Code} {D : va_G} {A : Nat → Prop} {ad : Nat → Nat} {cy : Nat → ClassId} (hC : zC p m c cX12_isHeader 3 s args wzX12_isHeader RX12 meth (some .boolean))  {res : zSt × Int32} : ∀ (n : Nat) (H : Heap) (locs : List Loc) (σ : zSt) (ls : Array Slot) (x1 : Int32) (x2 : Int32), zI st D (tM cy) (wM ad cy σ) A s H locs → lv_has ls 3 [(0, .ref (ad 0)), (1, .int x1), (2, .int x2)] → fX12_isHeader_15  n σ x1 x2 = some res → W p l e rmX12_isHeader s m args below meth c H locs 0 0 (zQi below args s D (tM cy) (wM ad cy) A res) (F0 m 15 ls []) := by
  intro n
  induction n with
  | zero => intro H locs σ ls x1 x2 hI hl hf; cases hf
  | succ n ih => intro H locs σ ls x1 x2 hI hl hf; exact bX12_isHeader_15_body hC ih hI hl hf
set_option maxRecDepth 20000 in
set_option maxHeartbeats 4000000 in
theorem bX12_isHeader {st : Nat → Nat} {p : Program} {l : Launch} {e : Env} {s : State} {m : MethodId} {args : Array Value} {below : List Frame} {meth : Method} {c : Code} {D : va_G} {A : Nat → Prop} {ad : Nat → Nat} {cy : Nat → ClassId} (hC : zC p m c cX12_isHeader 3 s args wzX12_isHeader RX12 meth (some .boolean))  {res : zSt × Int32} {H : Heap} {locs : List Loc} {σ : zSt} {ls : Array Slot} {x1 : Int32} (hI : zI st D (tM cy) (wM ad cy σ) A s H locs) (hl : lv_has ls 3 [(0, .ref (ad 0)), (1, .int x1)]) (hf : fX12_isHeader  σ x1 = some res) : W p l e rmX12_isHeader s m args below meth c H locs 0 0 (zQi below args s D (tM cy) (wM ad cy) A res) (F0 m 0 ls []) := by
  have hx := hC.1
  have hb := hC.2.1
  unfold fX12_isHeader at hf
  refine lv_iload_n hx hb dX12_isHeader_0 rfl (lv_at hl 1 rfl) ?_
  refine lv_bipush (v := 16) hx hb dX12_isHeader_1 (by decide) ?_
  refine lv_iadd hx hb dX12_isHeader_3 ?_
  refine lv_aload_n hx hb dX12_isHeader_4 rfl (lv_at hl 0 rfl) ?_
  refine z_get hC hI hinX12_isHeader_X120 0 (wM_e0 ad cy σ) rfl 5 (by decide) (List.mem_cons_of_mem _ zw16_6) rfl dX12_isHeader_5 ?_
  refine lv_icmp_le (tgt := 13) hx hb dX12_isHeader_8 (by decide) (fun q => ?_) (fun q => ?_)
  · replace hf := zif_t q hf
    refine lv_iconst (v := 0) hx hb dX12_isHeader_13 (by decide) ?_
    refine lv_istore_n (lv' := [(2, .int 0), (0, .ref (ad 0)), (1, .int x1)]) hx hb dX12_isHeader_14 rfl hl (by decide) rfl (fun ls hl => ?_)
    exact blX12_isHeader_15 hC  zfuel _ _ _ _ _ _ hI (lv_sub hl [1, 2, 0] rfl) hf
  replace hf := zif_f q hf
  refine lv_iconst (v := 0) hx hb dX12_isHeader_11 (by decide) ?_
  obtain ⟨q, hf⟩ := zck_use hf
  exact z_zreturn hC hI (zbo_n q) hf dX12_isHeader_12
set_option maxRecDepth 20000 in
theorem cX12_isHeader_met (st : Nat → Nat) (l : Launch) (D : va_G) (ad : Nat → Nat) (cy : Nat → ClassId) (σ : zSt) (x1 : Int32) (res : zSt × Int32) (hf : fX12_isHeader σ x1 = some res) (sz : Nat) : zMi st l yX12_isHeader wzX12_isHeader rmX12_isHeader [.ref (ad 0), .int x1] D (tM cy) (wM ad cy) sz σ res :=
  zMi.of (cc := cX12_isHeader) (maxL := 3) (ret := (some .boolean)) (by decide) rfl (Nat.le_of_ble_eq_true rfl) (fun p e s m args below meth c hC A hI ls hl => bX12_isHeader hC hI hl hf)
theorem hdX12_isHeader : yX12_isHeader.cls = RX12 ∧ yX12_isHeader.cls ≠ "java/lang/invoke/MethodHandle" ∧ yX12_isHeader.cls ≠ "java/lang/invoke/VarHandle" ∧ (parseMethodDescriptor yX12_isHeader.desc).map (fun d => d.parameters.length) = some 1 := by decide +kernel
noncomputable def rmX12_anew : Room := { frames := 0, cells := 0, slots := 0, locals := 0 }
noncomputable def wzX12_anew : List Cond := .code yX12_anew cX12_anew 2 none :: wsL_law
theorem hinX12_anew_X120 : ∀ w ∈ wsX120, w ∈ wzX12_anew := fun w h => List.mem_cons_of_mem _ (inlX12 w h)
noncomputable def fX12_anew_236 (k196 : zSt → Int32 → Option (zSt)) (σ : zSt) (x1 : Int32) (s0 : Int32) (s1 : Int32) : Option (zSt) :=
  zck (zin s1 1048) (zbv (zsi σ 3 (s1.toNatClampNeg) s0) (fun σ1 =>
  zbv (x1 + 1) (fun v2 =>
  k196 σ1 v2)))
noncomputable def fX12_anew_267_body (k267 : zSt → Int32 → Option (zSt)) (σ : zSt) (x1 : Int32) : Option (zSt) :=
  if 64 ≤ x1 then some σ else
  zck (zin x1 64) (zbv (zsi σ 8 (x1.toNatClampNeg) (vp_nar .byte 0)) (fun σ3 =>
  zbv (x1 + 1) (fun v4 =>
  k267 σ3 v4)))
noncomputable def fX12_anew_267  : Nat → zSt → Int32 → Option (zSt)
  | 0, _, _ => none
  | n + 1, σ, x1 => fX12_anew_267_body (fX12_anew_267  n) σ x1
noncomputable def fX12_anew_245_body (k245 : zSt → Int32 → Option (zSt)) (σ : zSt) (x1 : Int32) : Option (zSt) :=
  if 16384 ≤ x1 then fX12_anew_267 zfuel σ 0 else
  zck (zin x1 16384) (zbv (zsi σ 7 (x1.toNatClampNeg) (vp_nar .byte 0)) (fun σ5 =>
  zbv (x1 + 1) (fun v6 =>
  k245 σ5 v6)))
noncomputable def fX12_anew_245  : Nat → zSt → Int32 → Option (zSt)
  | 0, _, _ => none
  | n + 1, σ, x1 => fX12_anew_245_body (fX12_anew_245  n) σ x1
noncomputable def fX12_anew_196_body (k196 : zSt → Int32 → Option (zSt)) (σ : zSt) (x1 : Int32) : Option (zSt) :=
  if 108 ≤ x1 then fX12_anew_245 zfuel σ 0 else
  zck (decide (¬ 6 = 0)) (
  if (zrem x1 6) = 0 then fX12_anew_236 k196 σ x1 127 (172 + x1) else
  zck (decide (¬ 6 = 0)) (
  if (zrem x1 6) = 1 then fX12_anew_236 k196 σ x1 4 (172 + x1) else
  fX12_anew_236 k196 σ x1 0 (172 + x1)))
noncomputable def fX12_anew_196  : Nat → zSt → Int32 → Option (zSt)
  | 0, _, _ => none
  | n + 1, σ, x1 => fX12_anew_196_body (fX12_anew_196  n) σ x1
noncomputable def fX12_anew_165_body (k165 : zSt → Int32 → Option (zSt)) (σ : zSt) (x1 : Int32) : Option (zSt) :=
  if 166 ≤ x1 then zck (zin 164 1048) (zbv (zsi σ 3 ((164 : Int32).toNatClampNeg) 1) (fun σ7 =>
  fX12_anew_196 zfuel σ7 0)) else
  zck (zin x1 1048) (zbv (zsi σ 3 (x1.toNatClampNeg) 0) (fun σ8 =>
  zbv (x1 + 1) (fun v9 =>
  k165 σ8 v9)))
noncomputable def fX12_anew_165  : Nat → zSt → Int32 → Option (zSt)
  | 0, _, _ => none
  | n + 1, σ, x1 => fX12_anew_165_body (fX12_anew_165  n) σ x1
noncomputable def fX12_anew_131_body (k131 : zSt → Int32 → Option (zSt)) (σ : zSt) (x1 : Int32) : Option (zSt) :=
  if 4 ≤ x1 then zck (zin 85 1048) (zbv (zsi σ 3 ((85 : Int32).toNatClampNeg) 32768) (fun σ10 =>
  fX12_anew_165 zfuel σ10 98)) else
  zck (zin (78 + x1) 1048) (zbv (zsi σ 3 ((78 + x1).toNatClampNeg) 15) (fun σ11 =>
  zbv (x1 + 1) (fun v12 =>
  k131 σ11 v12)))
noncomputable def fX12_anew_131  : Nat → zSt → Int32 → Option (zSt)
  | 0, _, _ => none
  | n + 1, σ, x1 => fX12_anew_131_body (fX12_anew_131  n) σ x1
noncomputable def fX12_anew_79  (σ : zSt) (s0 : Int32) (s1 : Int32) : Option (zSt) :=
  zck (zin s1 1048) (zbv (zsi σ 3 (s1.toNatClampNeg) s0) (fun σ13 =>
  zck (zin 33 1048) (zbv (zsi σ13 3 ((33 : Int32).toNatClampNeg) 255) (fun σ14 =>
  zck (zin 34 1048) (zbv (zsi σ14 3 ((34 : Int32).toNatClampNeg) 255) (fun σ15 =>
  zck (zin 37 1048) (zbv (zsi σ15 3 ((37 : Int32).toNatClampNeg) 127) (fun σ16 =>
  zck (zin 38 1048) (zbv (zsi σ16 3 ((38 : Int32).toNatClampNeg) 255) (fun σ17 =>
  zck (zin 40 1048) (zbv (zsi σ17 3 ((40 : Int32).toNatClampNeg) 255) (fun σ18 =>
  fX12_anew_131 zfuel σ18 0))))))))))))
noncomputable def fX12_anew_24_body (k24 : zSt → Int32 → Option (zSt)) (σ : zSt) (x1 : Int32) : Option (zSt) :=
  if 87 ≤ x1 then zck (zin 18 1048) (zbv (zsi σ 3 ((18 : Int32).toNatClampNeg) 57328) (fun σ19 =>
  zck (zin 30 1048) (zbv (zsi σ19 3 ((30 : Int32).toNatClampNeg) 1) (fun σ20 =>
  if (zgi σ20 0 7) = 2 then fX12_anew_79 σ20 0 31 else
  fX12_anew_79 σ20 2 31)))) else
  zck (zin x1 1048) (zbv (zsi σ 3 (x1.toNatClampNeg) 0) (fun σ21 =>
  zbv (x1 + 1) (fun v22 =>
  k24 σ21 v22)))
noncomputable def fX12_anew_24  : Nat → zSt → Int32 → Option (zSt)
  | 0, _, _ => none
  | n + 1, σ, x1 => fX12_anew_24_body (fX12_anew_24  n) σ x1
noncomputable def fX12_anew_2_body (k2 : zSt → Int32 → Option (zSt)) (σ : zSt) (x1 : Int32) : Option (zSt) :=
  if 42 ≤ x1 then fX12_anew_24 zfuel σ 47 else
  zck (zin x1 1048) (zbv (zsi σ 3 (x1.toNatClampNeg) 0) (fun σ23 =>
  zbv (x1 + 1) (fun v24 =>
  k2 σ23 v24)))
noncomputable def fX12_anew_2  : Nat → zSt → Int32 → Option (zSt)
  | 0, _, _ => none
  | n + 1, σ, x1 => fX12_anew_2_body (fX12_anew_2  n) σ x1
noncomputable def fX12_anew  (σ : zSt)  : Option (zSt) :=
  fX12_anew_2 zfuel σ 0
set_option maxRecDepth 20000 in
set_option maxHeartbeats 4000000 in
theorem bX12_anew_236 {st : Nat → Nat} {p : Program} {l : Launch} {e : Env} {s : State} {m : MethodId} {args : Array Value} {below : List Frame} {meth : Method} {c : Code} {D : va_G} {A : Nat → Prop} {ad : Nat → Nat} {cy : Nat → ClassId} (hC : zC p m c cX12_anew 2 s args wzX12_anew RX12 meth none) {k196 : zSt → Int32 → Option (zSt)} {res : zSt} (hk196 : ∀ (H : Heap) (locs : List Loc) (σ : zSt) (ls : Array Slot) (x1 : Int32), zI st D (tM cy) (wM ad cy σ) A s H locs → lv_has ls 2 [(0, .ref (ad 0)), (1, .int x1)] → k196 σ x1 = some res → W p l e rmX12_anew s m args below meth c H locs 0 0 (zQu below args s D (tM cy) (wM ad cy) A res) (F0 m 196 ls [])) {H : Heap} {locs : List Loc} {σ : zSt} {ls : Array Slot} {x1 : Int32} {s0 : Int32} {s1 : Int32} (hI : zI st D (tM cy) (wM ad cy σ) A s H locs) (hl : lv_has ls 2 [(0, .ref (ad 0)), (1, .int x1)]) (hf : fX12_anew_236 k196 σ x1 s0 s1 = some res) : W p l e rmX12_anew s m args below meth c H locs 0 0 (zQu below args s D (tM cy) (wM ad cy) A res) (F0 m 236 ls [.int s0, .int s1, .ref (ad 3)]) := by
  have hx := hC.1
  have hb := hC.2.1
  unfold fX12_anew_236 at hf
  obtain ⟨q, hf⟩ := zck_use hf
  obtain ⟨σ1, eσ1⟩ : ∃ z, z = zsi σ 3 (s1.toNatClampNeg) s0 := ⟨_, rfl⟩
  replace hf := zbv_use eσ1 hf
  refine z_iast hC hI 3 2 (wM_e3 ad cy σ) (tM_t3 cy) q ((wM_s3 ad cy σ _ _).trans (congrArg (wM ad cy) eσ1.symm)) dX12_anew_236 (fun H locs hI => ?_)
  obtain ⟨v2, ev2⟩ : ∃ z : Int32, z = x1 + 1 := ⟨_, rfl⟩
  replace hf := zbv_use ev2 hf
  refine lv_iinc (v := v2) (lv' := [(1, .int v2), (0, .ref (ad 0))]) hx hb dX12_anew_237 hl (k := 1) rfl (by rw [ev2]; rfl) (by decide) rfl (fun ls hl => ?_)
  refine lv_goto (tgt := 196) hx hb dX12_anew_240 (by decide) ?_
  exact hk196 _ _ _ _ _ hI (lv_sub hl [1, 0] rfl) hf
set_option maxRecDepth 20000 in
set_option maxHeartbeats 4000000 in
theorem bX12_anew_267_body {st : Nat → Nat} {p : Program} {l : Launch} {e : Env} {s : State} {m : MethodId} {args : Array Value} {below : List Frame} {meth : Method} {c : Code} {D : va_G} {A : Nat → Prop} {ad : Nat → Nat} {cy : Nat → ClassId} (hC : zC p m c cX12_anew 2 s args wzX12_anew RX12 meth none) {k267 : zSt → Int32 → Option (zSt)} {res : zSt} (hk267 : ∀ (H : Heap) (locs : List Loc) (σ : zSt) (ls : Array Slot) (x1 : Int32), zI st D (tM cy) (wM ad cy σ) A s H locs → lv_has ls 2 [(0, .ref (ad 0)), (1, .int x1)] → k267 σ x1 = some res → W p l e rmX12_anew s m args below meth c H locs 0 0 (zQu below args s D (tM cy) (wM ad cy) A res) (F0 m 267 ls [])) {H : Heap} {locs : List Loc} {σ : zSt} {ls : Array Slot} {x1 : Int32} (hI : zI st D (tM cy) (wM ad cy σ) A s H locs) (hl : lv_has ls 2 [(0, .ref (ad 0)), (1, .int x1)]) (hf : fX12_anew_267_body k267 σ x1 = some res) : W p l e rmX12_anew s m args below meth c H locs 0 0 (zQu below args s D (tM cy) (wM ad cy) A res) (F0 m 267 ls []) := by
  have hx := hC.1
  have hb := hC.2.1
  unfold fX12_anew_267_body at hf
  refine lv_iload_n hx hb dX12_anew_267 rfl (lv_at hl 1 rfl) ?_
  refine lv_bipush (v := 64) hx hb dX12_anew_268 (by decide) ?_
  refine lv_icmp_ge (tgt := 286) hx hb dX12_anew_270 (by decide) (fun q => ?_) (fun q => ?_)
  · replace hf := zif_t q hf
    exact z_return hC hI hf dX12_anew_286
  replace hf := zif_f q hf
  refine lv_aload_n hx hb dX12_anew_273 rfl (lv_at hl 0 rfl) ?_
  refine z_get hC hI hinX12_anew_X120 0 (wM_e0 ad cy σ) rfl 15 (by decide) (List.mem_cons_of_mem _ zw9_13) rfl dX12_anew_274 ?_
  refine lv_iload_n hx hb dX12_anew_277 rfl (lv_at hl 1 rfl) ?_
  refine lv_iconst (v := 0) hx hb dX12_anew_278 (by decide) ?_
  obtain ⟨q, hf⟩ := zck_use hf
  obtain ⟨σ3, eσ3⟩ : ∃ z, z = zsi σ 8 (x1.toNatClampNeg) (vp_nar .byte 0) := ⟨_, rfl⟩
  replace hf := zbv_use eσ3 hf
  refine z_bast hC hI 8 7 (wM_e8 ad cy σ) (tM_t8 cy) q ((wM_s8 ad cy σ _ _).trans (congrArg (wM ad cy) eσ3.symm)) dX12_anew_279 (fun H locs hI => ?_)
  obtain ⟨v4, ev4⟩ : ∃ z : Int32, z = x1 + 1 := ⟨_, rfl⟩
  replace hf := zbv_use ev4 hf
  refine lv_iinc (v := v4) (lv' := [(1, .int v4), (0, .ref (ad 0))]) hx hb dX12_anew_280 hl (k := 1) rfl (by rw [ev4]; rfl) (by decide) rfl (fun ls hl => ?_)
  refine lv_goto (tgt := 267) hx hb dX12_anew_283 (by decide) ?_
  exact hk267 _ _ _ _ _ hI (lv_sub hl [1, 0] rfl) hf
theorem blX12_anew_267 {st : Nat → Nat} {p : Program} {l : Launch} {e : Env} {s : State} {m : MethodId} {args : Array Value} {below : List Frame} {meth : Method} {c : Code} {D : va_G} {A : Nat → Prop} {ad : Nat → Nat} {cy : Nat → ClassId} (hC : zC p m c cX12_anew 2 s args wzX12_anew RX12 meth none)  {res : zSt} : ∀ (n : Nat) (H : Heap) (locs : List Loc) (σ : zSt) (ls : Array Slot) (x1 : Int32), zI st D (tM cy) (wM ad cy σ) A s H locs → lv_has ls 2 [(0, .ref (ad 0)), (1, .int x1)] → fX12_anew_267  n σ x1 = some res → W p l e rmX12_anew s m args below meth c H locs 0 0 (zQu below args s D (tM cy) (wM ad cy) A res) (F0 m 267 ls []) := by
  intro n
  induction n with
  | zero => intro H locs σ ls x1 hI hl hf; cases hf
  | succ n ih => intro H locs σ ls x1 hI hl hf; exact bX12_anew_267_body hC ih hI hl hf
set_option maxRecDepth 20000 in
set_option maxHeartbeats 4000000 in
theorem bX12_anew_245_body {st : Nat → Nat} {p : Program} {l : Launch} {e : Env} {s : State} {m : MethodId} {args : Array Value} {below : List Frame} {meth : Method} {c : Code} {D : va_G} {A : Nat → Prop} {ad : Nat → Nat} {cy : Nat → ClassId} (hC : zC p m c cX12_anew 2 s args wzX12_anew RX12 meth none) {k245 : zSt → Int32 → Option (zSt)} {res : zSt} (hk245 : ∀ (H : Heap) (locs : List Loc) (σ : zSt) (ls : Array Slot) (x1 : Int32), zI st D (tM cy) (wM ad cy σ) A s H locs → lv_has ls 2 [(0, .ref (ad 0)), (1, .int x1)] → k245 σ x1 = some res → W p l e rmX12_anew s m args below meth c H locs 0 0 (zQu below args s D (tM cy) (wM ad cy) A res) (F0 m 245 ls [])) {H : Heap} {locs : List Loc} {σ : zSt} {ls : Array Slot} {x1 : Int32} (hI : zI st D (tM cy) (wM ad cy σ) A s H locs) (hl : lv_has ls 2 [(0, .ref (ad 0)), (1, .int x1)]) (hf : fX12_anew_245_body k245 σ x1 = some res) : W p l e rmX12_anew s m args below meth c H locs 0 0 (zQu below args s D (tM cy) (wM ad cy) A res) (F0 m 245 ls []) := by
  have hx := hC.1
  have hb := hC.2.1
  unfold fX12_anew_245_body at hf
  refine lv_iload_n hx hb dX12_anew_245 rfl (lv_at hl 1 rfl) ?_
  refine lv_sipush (v := 16384) hx hb dX12_anew_246 (by decide) ?_
  refine lv_icmp_ge (tgt := 265) hx hb dX12_anew_249 (by decide) (fun q => ?_) (fun q => ?_)
  · replace hf := zif_t q hf
    refine lv_iconst (v := 0) hx hb dX12_anew_265 (by decide) ?_
    refine lv_istore_n (lv' := [(1, .int 0), (0, .ref (ad 0))]) hx hb dX12_anew_266 rfl hl (by decide) rfl (fun ls hl => ?_)
    exact blX12_anew_267 hC  zfuel _ _ _ _ _ hI (lv_sub hl [1, 0] rfl) hf
  replace hf := zif_f q hf
  refine lv_aload_n hx hb dX12_anew_252 rfl (lv_at hl 0 rfl) ?_
  refine z_get hC hI hinX12_anew_X120 0 (wM_e0 ad cy σ) rfl 14 (by decide) (List.mem_cons_of_mem _ zw9_12) rfl dX12_anew_253 ?_
  refine lv_iload_n hx hb dX12_anew_256 rfl (lv_at hl 1 rfl) ?_
  refine lv_iconst (v := 0) hx hb dX12_anew_257 (by decide) ?_
  obtain ⟨q, hf⟩ := zck_use hf
  obtain ⟨σ5, eσ5⟩ : ∃ z, z = zsi σ 7 (x1.toNatClampNeg) (vp_nar .byte 0) := ⟨_, rfl⟩
  replace hf := zbv_use eσ5 hf
  refine z_bast hC hI 7 6 (wM_e7 ad cy σ) (tM_t7 cy) q ((wM_s7 ad cy σ _ _).trans (congrArg (wM ad cy) eσ5.symm)) dX12_anew_258 (fun H locs hI => ?_)
  obtain ⟨v6, ev6⟩ : ∃ z : Int32, z = x1 + 1 := ⟨_, rfl⟩
  replace hf := zbv_use ev6 hf
  refine lv_iinc (v := v6) (lv' := [(1, .int v6), (0, .ref (ad 0))]) hx hb dX12_anew_259 hl (k := 1) rfl (by rw [ev6]; rfl) (by decide) rfl (fun ls hl => ?_)
  refine lv_goto (tgt := 245) hx hb dX12_anew_262 (by decide) ?_
  exact hk245 _ _ _ _ _ hI (lv_sub hl [1, 0] rfl) hf
theorem blX12_anew_245 {st : Nat → Nat} {p : Program} {l : Launch} {e : Env} {s : State} {m : MethodId} {args : Array Value} {below : List Frame} {meth : Method} {c : Code} {D : va_G} {A : Nat → Prop} {ad : Nat → Nat} {cy : Nat → ClassId} (hC : zC p m c cX12_anew 2 s args wzX12_anew RX12 meth none)  {res : zSt} : ∀ (n : Nat) (H : Heap) (locs : List Loc) (σ : zSt) (ls : Array Slot) (x1 : Int32), zI st D (tM cy) (wM ad cy σ) A s H locs → lv_has ls 2 [(0, .ref (ad 0)), (1, .int x1)] → fX12_anew_245  n σ x1 = some res → W p l e rmX12_anew s m args below meth c H locs 0 0 (zQu below args s D (tM cy) (wM ad cy) A res) (F0 m 245 ls []) := by
  intro n
  induction n with
  | zero => intro H locs σ ls x1 hI hl hf; cases hf
  | succ n ih => intro H locs σ ls x1 hI hl hf; exact bX12_anew_245_body hC ih hI hl hf
set_option maxRecDepth 20000 in
set_option maxHeartbeats 4000000 in
theorem bX12_anew_196_body {st : Nat → Nat} {p : Program} {l : Launch} {e : Env} {s : State} {m : MethodId} {args : Array Value} {below : List Frame} {meth : Method} {c : Code} {D : va_G} {A : Nat → Prop} {ad : Nat → Nat} {cy : Nat → ClassId} (hC : zC p m c cX12_anew 2 s args wzX12_anew RX12 meth none) {k196 : zSt → Int32 → Option (zSt)} {res : zSt} (hk196 : ∀ (H : Heap) (locs : List Loc) (σ : zSt) (ls : Array Slot) (x1 : Int32), zI st D (tM cy) (wM ad cy σ) A s H locs → lv_has ls 2 [(0, .ref (ad 0)), (1, .int x1)] → k196 σ x1 = some res → W p l e rmX12_anew s m args below meth c H locs 0 0 (zQu below args s D (tM cy) (wM ad cy) A res) (F0 m 196 ls [])) {H : Heap} {locs : List Loc} {σ : zSt} {ls : Array Slot} {x1 : Int32} (hI : zI st D (tM cy) (wM ad cy σ) A s H locs) (hl : lv_has ls 2 [(0, .ref (ad 0)), (1, .int x1)]) (hf : fX12_anew_196_body k196 σ x1 = some res) : W p l e rmX12_anew s m args below meth c H locs 0 0 (zQu below args s D (tM cy) (wM ad cy) A res) (F0 m 196 ls []) := by
  have hx := hC.1
  have hb := hC.2.1
  unfold fX12_anew_196_body at hf
  refine lv_iload_n hx hb dX12_anew_196 rfl (lv_at hl 1 rfl) ?_
  refine lv_bipush (v := 108) hx hb dX12_anew_197 (by decide) ?_
  refine lv_icmp_ge (tgt := 243) hx hb dX12_anew_199 (by decide) (fun q => ?_) (fun q => ?_)
  · replace hf := zif_t q hf
    refine lv_iconst (v := 0) hx hb dX12_anew_243 (by decide) ?_
    refine lv_istore_n (lv' := [(1, .int 0), (0, .ref (ad 0))]) hx hb dX12_anew_244 rfl hl (by decide) rfl (fun ls hl => ?_)
    exact blX12_anew_245 hC  zfuel _ _ _ _ _ hI (lv_sub hl [1, 0] rfl) hf
  replace hf := zif_f q hf
  refine lv_aload_n hx hb dX12_anew_202 rfl (lv_at hl 0 rfl) ?_
  refine z_get hC hI hinX12_anew_X120 0 (wM_e0 ad cy σ) rfl 10 (by decide) (List.mem_cons_of_mem _ zw9_7) rfl dX12_anew_203 ?_
  refine lv_sipush (v := 172) hx hb dX12_anew_206 (by decide) ?_
  refine lv_iload_n hx hb dX12_anew_209 rfl (lv_at hl 1 rfl) ?_
  refine lv_iadd hx hb dX12_anew_210 ?_
  refine lv_iload_n hx hb dX12_anew_211 rfl (lv_at hl 1 rfl) ?_
  refine lv_bipush (v := 6) hx hb dX12_anew_212 (by decide) ?_
  obtain ⟨q, hf⟩ := zck_use hf
  refine z_irem hx hb dX12_anew_214 (of_decide_eq_true q) ?_
  refine lv_if_ne (tgt := 223) hx hb dX12_anew_215 (by decide) (fun q => ?_) (fun q => ?_)
  · replace hf := zif_f q hf
    refine lv_iload_n hx hb dX12_anew_223 rfl (lv_at hl 1 rfl) ?_
    refine lv_bipush (v := 6) hx hb dX12_anew_224 (by decide) ?_
    obtain ⟨q, hf⟩ := zck_use hf
    refine z_irem hx hb dX12_anew_226 (of_decide_eq_true q) ?_
    refine lv_iconst (v := 1) hx hb dX12_anew_227 (by decide) ?_
    refine lv_icmp_ne (tgt := 235) hx hb dX12_anew_228 (by decide) (fun q => ?_) (fun q => ?_)
    · replace hf := zif_f q hf
      refine lv_iconst (v := 0) hx hb dX12_anew_235 (by decide) ?_
      exact bX12_anew_236 hC hk196 hI hl hf
    replace hf := zif_t q hf
    refine lv_iconst (v := 4) hx hb dX12_anew_231 (by decide) ?_
    refine lv_goto (tgt := 236) hx hb dX12_anew_232 (by decide) ?_
    exact bX12_anew_236 hC hk196 hI hl hf
  replace hf := zif_t q hf
  refine lv_bipush (v := 127) hx hb dX12_anew_218 (by decide) ?_
  refine lv_goto (tgt := 236) hx hb dX12_anew_220 (by decide) ?_
  exact bX12_anew_236 hC hk196 hI hl hf
theorem blX12_anew_196 {st : Nat → Nat} {p : Program} {l : Launch} {e : Env} {s : State} {m : MethodId} {args : Array Value} {below : List Frame} {meth : Method} {c : Code} {D : va_G} {A : Nat → Prop} {ad : Nat → Nat} {cy : Nat → ClassId} (hC : zC p m c cX12_anew 2 s args wzX12_anew RX12 meth none)  {res : zSt} : ∀ (n : Nat) (H : Heap) (locs : List Loc) (σ : zSt) (ls : Array Slot) (x1 : Int32), zI st D (tM cy) (wM ad cy σ) A s H locs → lv_has ls 2 [(0, .ref (ad 0)), (1, .int x1)] → fX12_anew_196  n σ x1 = some res → W p l e rmX12_anew s m args below meth c H locs 0 0 (zQu below args s D (tM cy) (wM ad cy) A res) (F0 m 196 ls []) := by
  intro n
  induction n with
  | zero => intro H locs σ ls x1 hI hl hf; cases hf
  | succ n ih => intro H locs σ ls x1 hI hl hf; exact bX12_anew_196_body hC ih hI hl hf
set_option maxRecDepth 20000 in
set_option maxHeartbeats 4000000 in
theorem bX12_anew_165_body {st : Nat → Nat} {p : Program} {l : Launch} {e : Env} {s : State} {m : MethodId} {args : Array Value} {below : List Frame} {meth : Method} {c : Code} {D : va_G} {A : Nat → Prop} {ad : Nat → Nat} {cy : Nat → ClassId} (hC : zC p m c cX12_anew 2 s args wzX12_anew RX12 meth none) {k165 : zSt → Int32 → Option (zSt)} {res : zSt} (hk165 : ∀ (H : Heap) (locs : List Loc) (σ : zSt) (ls : Array Slot) (x1 : Int32), zI st D (tM cy) (wM ad cy σ) A s H locs → lv_has ls 2 [(0, .ref (ad 0)), (1, .int x1)] → k165 σ x1 = some res → W p l e rmX12_anew s m args below meth c H locs 0 0 (zQu below args s D (tM cy) (wM ad cy) A res) (F0 m 165 ls [])) {H : Heap} {locs : List Loc} {σ : zSt} {ls : Array Slot} {x1 : Int32} (hI : zI st D (tM cy) (wM ad cy σ) A s H locs) (hl : lv_has ls 2 [(0, .ref (ad 0)), (1, .int x1)]) (hf : fX12_anew_165_body k165 σ x1 = some res) : W p l e rmX12_anew s m args below meth c H locs 0 0 (zQu below args s D (tM cy) (wM ad cy) A res) (F0 m 165 ls []) := by
  have hx := hC.1
  have hb := hC.2.1
  unfold fX12_anew_165_body at hf
  refine lv_iload_n hx hb dX12_anew_165 rfl (lv_at hl 1 rfl) ?_
  refine lv_sipush (v := 166) hx hb dX12_anew_166 (by decide) ?_
  refine lv_icmp_ge (tgt := 185) hx hb dX12_anew_169 (by decide) (fun q => ?_) (fun q => ?_)
  · replace hf := zif_t q hf
    refine lv_aload_n hx hb dX12_anew_185 rfl (lv_at hl 0 rfl) ?_
    refine z_get hC hI hinX12_anew_X120 0 (wM_e0 ad cy σ) rfl 10 (by decide) (List.mem_cons_of_mem _ zw9_7) rfl dX12_anew_186 ?_
    refine lv_sipush (v := 164) hx hb dX12_anew_189 (by decide) ?_
    refine lv_iconst (v := 1) hx hb dX12_anew_192 (by decide) ?_
    obtain ⟨q, hf⟩ := zck_use hf
    obtain ⟨σ7, eσ7⟩ : ∃ z, z = zsi σ 3 ((164 : Int32).toNatClampNeg) 1 := ⟨_, rfl⟩
    replace hf := zbv_use eσ7 hf
    refine z_iast hC hI 3 2 (wM_e3 ad cy σ) (tM_t3 cy) q ((wM_s3 ad cy σ _ _).trans (congrArg (wM ad cy) eσ7.symm)) dX12_anew_193 (fun H locs hI => ?_)
    refine lv_iconst (v := 0) hx hb dX12_anew_194 (by decide) ?_
    refine lv_istore_n (lv' := [(1, .int 0), (0, .ref (ad 0))]) hx hb dX12_anew_195 rfl hl (by decide) rfl (fun ls hl => ?_)
    exact blX12_anew_196 hC  zfuel _ _ _ _ _ hI (lv_sub hl [1, 0] rfl) hf
  replace hf := zif_f q hf
  refine lv_aload_n hx hb dX12_anew_172 rfl (lv_at hl 0 rfl) ?_
  refine z_get hC hI hinX12_anew_X120 0 (wM_e0 ad cy σ) rfl 10 (by decide) (List.mem_cons_of_mem _ zw9_7) rfl dX12_anew_173 ?_
  refine lv_iload_n hx hb dX12_anew_176 rfl (lv_at hl 1 rfl) ?_
  refine lv_iconst (v := 0) hx hb dX12_anew_177 (by decide) ?_
  obtain ⟨q, hf⟩ := zck_use hf
  obtain ⟨σ8, eσ8⟩ : ∃ z, z = zsi σ 3 (x1.toNatClampNeg) 0 := ⟨_, rfl⟩
  replace hf := zbv_use eσ8 hf
  refine z_iast hC hI 3 2 (wM_e3 ad cy σ) (tM_t3 cy) q ((wM_s3 ad cy σ _ _).trans (congrArg (wM ad cy) eσ8.symm)) dX12_anew_178 (fun H locs hI => ?_)
  obtain ⟨v9, ev9⟩ : ∃ z : Int32, z = x1 + 1 := ⟨_, rfl⟩
  replace hf := zbv_use ev9 hf
  refine lv_iinc (v := v9) (lv' := [(1, .int v9), (0, .ref (ad 0))]) hx hb dX12_anew_179 hl (k := 1) rfl (by rw [ev9]; rfl) (by decide) rfl (fun ls hl => ?_)
  refine lv_goto (tgt := 165) hx hb dX12_anew_182 (by decide) ?_
  exact hk165 _ _ _ _ _ hI (lv_sub hl [1, 0] rfl) hf
theorem blX12_anew_165 {st : Nat → Nat} {p : Program} {l : Launch} {e : Env} {s : State} {m : MethodId} {args : Array Value} {below : List Frame} {meth : Method} {c : Code} {D : va_G} {A : Nat → Prop} {ad : Nat → Nat} {cy : Nat → ClassId} (hC : zC p m c cX12_anew 2 s args wzX12_anew RX12 meth none)  {res : zSt} : ∀ (n : Nat) (H : Heap) (locs : List Loc) (σ : zSt) (ls : Array Slot) (x1 : Int32), zI st D (tM cy) (wM ad cy σ) A s H locs → lv_has ls 2 [(0, .ref (ad 0)), (1, .int x1)] → fX12_anew_165  n σ x1 = some res → W p l e rmX12_anew s m args below meth c H locs 0 0 (zQu below args s D (tM cy) (wM ad cy) A res) (F0 m 165 ls []) := by
  intro n
  induction n with
  | zero => intro H locs σ ls x1 hI hl hf; cases hf
  | succ n ih => intro H locs σ ls x1 hI hl hf; exact bX12_anew_165_body hC ih hI hl hf
set_option maxRecDepth 20000 in
set_option maxHeartbeats 4000000 in
theorem bX12_anew_131_body {st : Nat → Nat} {p : Program} {l : Launch} {e : Env} {s : State} {m : MethodId} {args : Array Value} {below : List Frame} {meth : Method} {c : Code} {D : va_G} {A : Nat → Prop} {ad : Nat → Nat} {cy : Nat → ClassId} (hC : zC p m c cX12_anew 2 s args wzX12_anew RX12 meth none) {k131 : zSt → Int32 → Option (zSt)} {res : zSt} (hk131 : ∀ (H : Heap) (locs : List Loc) (σ : zSt) (ls : Array Slot) (x1 : Int32), zI st D (tM cy) (wM ad cy σ) A s H locs → lv_has ls 2 [(0, .ref (ad 0)), (1, .int x1)] → k131 σ x1 = some res → W p l e rmX12_anew s m args below meth c H locs 0 0 (zQu below args s D (tM cy) (wM ad cy) A res) (F0 m 131 ls [])) {H : Heap} {locs : List Loc} {σ : zSt} {ls : Array Slot} {x1 : Int32} (hI : zI st D (tM cy) (wM ad cy σ) A s H locs) (hl : lv_has ls 2 [(0, .ref (ad 0)), (1, .int x1)]) (hf : fX12_anew_131_body k131 σ x1 = some res) : W p l e rmX12_anew s m args below meth c H locs 0 0 (zQu below args s D (tM cy) (wM ad cy) A res) (F0 m 131 ls []) := by
  have hx := hC.1
  have hb := hC.2.1
  unfold fX12_anew_131_body at hf
  refine lv_iload_n hx hb dX12_anew_131 rfl (lv_at hl 1 rfl) ?_
  refine lv_iconst (v := 4) hx hb dX12_anew_132 (by decide) ?_
  refine lv_icmp_ge (tgt := 153) hx hb dX12_anew_133 (by decide) (fun q => ?_) (fun q => ?_)
  · replace hf := zif_t q hf
    refine lv_aload_n hx hb dX12_anew_153 rfl (lv_at hl 0 rfl) ?_
    refine z_get hC hI hinX12_anew_X120 0 (wM_e0 ad cy σ) rfl 10 (by decide) (List.mem_cons_of_mem _ zw9_7) rfl dX12_anew_154 ?_
    refine lv_bipush (v := 85) hx hb dX12_anew_157 (by decide) ?_
    refine lv_ldc (v := 32768) hx hb hC.2.2.2.1 (hC.2.2.2.2.1 _ (List.mem_cons_of_mem _ zw9_10)) dX12_anew_159 ?_
    obtain ⟨q, hf⟩ := zck_use hf
    obtain ⟨σ10, eσ10⟩ : ∃ z, z = zsi σ 3 ((85 : Int32).toNatClampNeg) 32768 := ⟨_, rfl⟩
    replace hf := zbv_use eσ10 hf
    refine z_iast hC hI 3 2 (wM_e3 ad cy σ) (tM_t3 cy) q ((wM_s3 ad cy σ _ _).trans (congrArg (wM ad cy) eσ10.symm)) dX12_anew_161 (fun H locs hI => ?_)
    refine lv_bipush (v := 98) hx hb dX12_anew_162 (by decide) ?_
    refine lv_istore_n (lv' := [(1, .int 98), (0, .ref (ad 0))]) hx hb dX12_anew_164 rfl hl (by decide) rfl (fun ls hl => ?_)
    exact blX12_anew_165 hC  zfuel _ _ _ _ _ hI (lv_sub hl [1, 0] rfl) hf
  replace hf := zif_f q hf
  refine lv_aload_n hx hb dX12_anew_136 rfl (lv_at hl 0 rfl) ?_
  refine z_get hC hI hinX12_anew_X120 0 (wM_e0 ad cy σ) rfl 10 (by decide) (List.mem_cons_of_mem _ zw9_7) rfl dX12_anew_137 ?_
  refine lv_bipush (v := 78) hx hb dX12_anew_140 (by decide) ?_
  refine lv_iload_n hx hb dX12_anew_142 rfl (lv_at hl 1 rfl) ?_
  refine lv_iadd hx hb dX12_anew_143 ?_
  refine lv_bipush (v := 15) hx hb dX12_anew_144 (by decide) ?_
  obtain ⟨q, hf⟩ := zck_use hf
  obtain ⟨σ11, eσ11⟩ : ∃ z, z = zsi σ 3 ((78 + x1).toNatClampNeg) 15 := ⟨_, rfl⟩
  replace hf := zbv_use eσ11 hf
  refine z_iast hC hI 3 2 (wM_e3 ad cy σ) (tM_t3 cy) q ((wM_s3 ad cy σ _ _).trans (congrArg (wM ad cy) eσ11.symm)) dX12_anew_146 (fun H locs hI => ?_)
  obtain ⟨v12, ev12⟩ : ∃ z : Int32, z = x1 + 1 := ⟨_, rfl⟩
  replace hf := zbv_use ev12 hf
  refine lv_iinc (v := v12) (lv' := [(1, .int v12), (0, .ref (ad 0))]) hx hb dX12_anew_147 hl (k := 1) rfl (by rw [ev12]; rfl) (by decide) rfl (fun ls hl => ?_)
  refine lv_goto (tgt := 131) hx hb dX12_anew_150 (by decide) ?_
  exact hk131 _ _ _ _ _ hI (lv_sub hl [1, 0] rfl) hf
theorem blX12_anew_131 {st : Nat → Nat} {p : Program} {l : Launch} {e : Env} {s : State} {m : MethodId} {args : Array Value} {below : List Frame} {meth : Method} {c : Code} {D : va_G} {A : Nat → Prop} {ad : Nat → Nat} {cy : Nat → ClassId} (hC : zC p m c cX12_anew 2 s args wzX12_anew RX12 meth none)  {res : zSt} : ∀ (n : Nat) (H : Heap) (locs : List Loc) (σ : zSt) (ls : Array Slot) (x1 : Int32), zI st D (tM cy) (wM ad cy σ) A s H locs → lv_has ls 2 [(0, .ref (ad 0)), (1, .int x1)] → fX12_anew_131  n σ x1 = some res → W p l e rmX12_anew s m args below meth c H locs 0 0 (zQu below args s D (tM cy) (wM ad cy) A res) (F0 m 131 ls []) := by
  intro n
  induction n with
  | zero => intro H locs σ ls x1 hI hl hf; cases hf
  | succ n ih => intro H locs σ ls x1 hI hl hf; exact bX12_anew_131_body hC ih hI hl hf
set_option maxRecDepth 20000 in
set_option maxHeartbeats 4000000 in
theorem bX12_anew_79 {st : Nat → Nat} {p : Program} {l : Launch} {e : Env} {s : State} {m : MethodId} {args : Array Value} {below : List Frame} {meth : Method} {c : Code} {D : va_G} {A : Nat → Prop} {ad : Nat → Nat} {cy : Nat → ClassId} (hC : zC p m c cX12_anew 2 s args wzX12_anew RX12 meth none)  {res : zSt} {H : Heap} {locs : List Loc} {σ : zSt} {ls : Array Slot} {s0 : Int32} {s1 : Int32} (hI : zI st D (tM cy) (wM ad cy σ) A s H locs) (hl : lv_has ls 2 [(0, .ref (ad 0))]) (hf : fX12_anew_79  σ s0 s1 = some res) : W p l e rmX12_anew s m args below meth c H locs 0 0 (zQu below args s D (tM cy) (wM ad cy) A res) (F0 m 79 ls [.int s0, .int s1, .ref (ad 3)]) := by
  have hx := hC.1
  have hb := hC.2.1
  unfold fX12_anew_79 at hf
  obtain ⟨q, hf⟩ := zck_use hf
  obtain ⟨σ13, eσ13⟩ : ∃ z, z = zsi σ 3 (s1.toNatClampNeg) s0 := ⟨_, rfl⟩
  replace hf := zbv_use eσ13 hf
  refine z_iast hC hI 3 2 (wM_e3 ad cy σ) (tM_t3 cy) q ((wM_s3 ad cy σ _ _).trans (congrArg (wM ad cy) eσ13.symm)) dX12_anew_79 (fun H locs hI => ?_)
  refine lv_aload_n hx hb dX12_anew_80 rfl (lv_at hl 0 rfl) ?_
  refine z_get hC hI hinX12_anew_X120 0 (wM_e0 ad cy σ13) rfl 10 (by decide) (List.mem_cons_of_mem _ zw9_7) rfl dX12_anew_81 ?_
  refine lv_bipush (v := 33) hx hb dX12_anew_84 (by decide) ?_
  refine lv_sipush (v := 255) hx hb dX12_anew_86 (by decide) ?_
  obtain ⟨q, hf⟩ := zck_use hf
  obtain ⟨σ14, eσ14⟩ : ∃ z, z = zsi σ13 3 ((33 : Int32).toNatClampNeg) 255 := ⟨_, rfl⟩
  replace hf := zbv_use eσ14 hf
  refine z_iast hC hI 3 2 (wM_e3 ad cy σ13) (tM_t3 cy) q ((wM_s3 ad cy σ13 _ _).trans (congrArg (wM ad cy) eσ14.symm)) dX12_anew_89 (fun H locs hI => ?_)
  refine lv_aload_n hx hb dX12_anew_90 rfl (lv_at hl 0 rfl) ?_
  refine z_get hC hI hinX12_anew_X120 0 (wM_e0 ad cy σ14) rfl 10 (by decide) (List.mem_cons_of_mem _ zw9_7) rfl dX12_anew_91 ?_
  refine lv_bipush (v := 34) hx hb dX12_anew_94 (by decide) ?_
  refine lv_sipush (v := 255) hx hb dX12_anew_96 (by decide) ?_
  obtain ⟨q, hf⟩ := zck_use hf
  obtain ⟨σ15, eσ15⟩ : ∃ z, z = zsi σ14 3 ((34 : Int32).toNatClampNeg) 255 := ⟨_, rfl⟩
  replace hf := zbv_use eσ15 hf
  refine z_iast hC hI 3 2 (wM_e3 ad cy σ14) (tM_t3 cy) q ((wM_s3 ad cy σ14 _ _).trans (congrArg (wM ad cy) eσ15.symm)) dX12_anew_99 (fun H locs hI => ?_)
  refine lv_aload_n hx hb dX12_anew_100 rfl (lv_at hl 0 rfl) ?_
  refine z_get hC hI hinX12_anew_X120 0 (wM_e0 ad cy σ15) rfl 10 (by decide) (List.mem_cons_of_mem _ zw9_7) rfl dX12_anew_101 ?_
  refine lv_bipush (v := 37) hx hb dX12_anew_104 (by decide) ?_
  refine lv_bipush (v := 127) hx hb dX12_anew_106 (by decide) ?_
  obtain ⟨q, hf⟩ := zck_use hf
  obtain ⟨σ16, eσ16⟩ : ∃ z, z = zsi σ15 3 ((37 : Int32).toNatClampNeg) 127 := ⟨_, rfl⟩
  replace hf := zbv_use eσ16 hf
  refine z_iast hC hI 3 2 (wM_e3 ad cy σ15) (tM_t3 cy) q ((wM_s3 ad cy σ15 _ _).trans (congrArg (wM ad cy) eσ16.symm)) dX12_anew_108 (fun H locs hI => ?_)
  refine lv_aload_n hx hb dX12_anew_109 rfl (lv_at hl 0 rfl) ?_
  refine z_get hC hI hinX12_anew_X120 0 (wM_e0 ad cy σ16) rfl 10 (by decide) (List.mem_cons_of_mem _ zw9_7) rfl dX12_anew_110 ?_
  refine lv_bipush (v := 38) hx hb dX12_anew_113 (by decide) ?_
  refine lv_sipush (v := 255) hx hb dX12_anew_115 (by decide) ?_
  obtain ⟨q, hf⟩ := zck_use hf
  obtain ⟨σ17, eσ17⟩ : ∃ z, z = zsi σ16 3 ((38 : Int32).toNatClampNeg) 255 := ⟨_, rfl⟩
  replace hf := zbv_use eσ17 hf
  refine z_iast hC hI 3 2 (wM_e3 ad cy σ16) (tM_t3 cy) q ((wM_s3 ad cy σ16 _ _).trans (congrArg (wM ad cy) eσ17.symm)) dX12_anew_118 (fun H locs hI => ?_)
  refine lv_aload_n hx hb dX12_anew_119 rfl (lv_at hl 0 rfl) ?_
  refine z_get hC hI hinX12_anew_X120 0 (wM_e0 ad cy σ17) rfl 10 (by decide) (List.mem_cons_of_mem _ zw9_7) rfl dX12_anew_120 ?_
  refine lv_bipush (v := 40) hx hb dX12_anew_123 (by decide) ?_
  refine lv_sipush (v := 255) hx hb dX12_anew_125 (by decide) ?_
  obtain ⟨q, hf⟩ := zck_use hf
  obtain ⟨σ18, eσ18⟩ : ∃ z, z = zsi σ17 3 ((40 : Int32).toNatClampNeg) 255 := ⟨_, rfl⟩
  replace hf := zbv_use eσ18 hf
  refine z_iast hC hI 3 2 (wM_e3 ad cy σ17) (tM_t3 cy) q ((wM_s3 ad cy σ17 _ _).trans (congrArg (wM ad cy) eσ18.symm)) dX12_anew_128 (fun H locs hI => ?_)
  refine lv_iconst (v := 0) hx hb dX12_anew_129 (by decide) ?_
  refine lv_istore_n (lv' := [(1, .int 0), (0, .ref (ad 0))]) hx hb dX12_anew_130 rfl hl (by decide) rfl (fun ls hl => ?_)
  exact blX12_anew_131 hC  zfuel _ _ _ _ _ hI (lv_sub hl [1, 0] rfl) hf
set_option maxRecDepth 20000 in
set_option maxHeartbeats 4000000 in
theorem bX12_anew_24_body {st : Nat → Nat} {p : Program} {l : Launch} {e : Env} {s : State} {m : MethodId} {args : Array Value} {below : List Frame} {meth : Method} {c : Code} {D : va_G} {A : Nat → Prop} {ad : Nat → Nat} {cy : Nat → ClassId} (hC : zC p m c cX12_anew 2 s args wzX12_anew RX12 meth none) {k24 : zSt → Int32 → Option (zSt)} {res : zSt} (hk24 : ∀ (H : Heap) (locs : List Loc) (σ : zSt) (ls : Array Slot) (x1 : Int32), zI st D (tM cy) (wM ad cy σ) A s H locs → lv_has ls 2 [(0, .ref (ad 0)), (1, .int x1)] → k24 σ x1 = some res → W p l e rmX12_anew s m args below meth c H locs 0 0 (zQu below args s D (tM cy) (wM ad cy) A res) (F0 m 24 ls [])) {H : Heap} {locs : List Loc} {σ : zSt} {ls : Array Slot} {x1 : Int32} (hI : zI st D (tM cy) (wM ad cy σ) A s H locs) (hl : lv_has ls 2 [(0, .ref (ad 0)), (1, .int x1)]) (hf : fX12_anew_24_body k24 σ x1 = some res) : W p l e rmX12_anew s m args below meth c H locs 0 0 (zQu below args s D (tM cy) (wM ad cy) A res) (F0 m 24 ls []) := by
  have hx := hC.1
  have hb := hC.2.1
  unfold fX12_anew_24_body at hf
  refine lv_iload_n hx hb dX12_anew_24 rfl (lv_at hl 1 rfl) ?_
  refine lv_bipush (v := 87) hx hb dX12_anew_25 (by decide) ?_
  refine lv_icmp_ge (tgt := 43) hx hb dX12_anew_27 (by decide) (fun q => ?_) (fun q => ?_)
  · replace hf := zif_t q hf
    refine lv_aload_n hx hb dX12_anew_43 rfl (lv_at hl 0 rfl) ?_
    refine z_get hC hI hinX12_anew_X120 0 (wM_e0 ad cy σ) rfl 10 (by decide) (List.mem_cons_of_mem _ zw9_7) rfl dX12_anew_44 ?_
    refine lv_bipush (v := 18) hx hb dX12_anew_47 (by decide) ?_
    refine lv_ldc (v := 57328) hx hb hC.2.2.2.1 (hC.2.2.2.2.1 _ (List.mem_cons_of_mem _ zw10_15)) dX12_anew_49 ?_
    obtain ⟨q, hf⟩ := zck_use hf
    obtain ⟨σ19, eσ19⟩ : ∃ z, z = zsi σ 3 ((18 : Int32).toNatClampNeg) 57328 := ⟨_, rfl⟩
    replace hf := zbv_use eσ19 hf
    refine z_iast hC hI 3 2 (wM_e3 ad cy σ) (tM_t3 cy) q ((wM_s3 ad cy σ _ _).trans (congrArg (wM ad cy) eσ19.symm)) dX12_anew_51 (fun H locs hI => ?_)
    refine lv_aload_n hx hb dX12_anew_52 rfl (lv_at hl 0 rfl) ?_
    refine z_get hC hI hinX12_anew_X120 0 (wM_e0 ad cy σ19) rfl 10 (by decide) (List.mem_cons_of_mem _ zw9_7) rfl dX12_anew_53 ?_
    refine lv_bipush (v := 30) hx hb dX12_anew_56 (by decide) ?_
    refine lv_iconst (v := 1) hx hb dX12_anew_58 (by decide) ?_
    obtain ⟨q, hf⟩ := zck_use hf
    obtain ⟨σ20, eσ20⟩ : ∃ z, z = zsi σ19 3 ((30 : Int32).toNatClampNeg) 1 := ⟨_, rfl⟩
    replace hf := zbv_use eσ20 hf
    refine z_iast hC hI 3 2 (wM_e3 ad cy σ19) (tM_t3 cy) q ((wM_s3 ad cy σ19 _ _).trans (congrArg (wM ad cy) eσ20.symm)) dX12_anew_59 (fun H locs hI => ?_)
    refine lv_aload_n hx hb dX12_anew_60 rfl (lv_at hl 0 rfl) ?_
    refine z_get hC hI hinX12_anew_X120 0 (wM_e0 ad cy σ20) rfl 10 (by decide) (List.mem_cons_of_mem _ zw9_7) rfl dX12_anew_61 ?_
    refine lv_bipush (v := 31) hx hb dX12_anew_64 (by decide) ?_
    refine lv_aload_n hx hb dX12_anew_66 rfl (lv_at hl 0 rfl) ?_
    refine z_get hC hI hinX12_anew_X120 0 (wM_e0 ad cy σ20) rfl 7 (by decide) (List.mem_cons_of_mem _ zw10_16) rfl dX12_anew_67 ?_
    refine lv_iconst (v := 2) hx hb dX12_anew_70 (by decide) ?_
    refine lv_icmp_ne (tgt := 78) hx hb dX12_anew_71 (by decide) (fun q => ?_) (fun q => ?_)
    · replace hf := zif_f q hf
      refine lv_iconst (v := 2) hx hb dX12_anew_78 (by decide) ?_
      exact bX12_anew_79 hC  hI (lv_sub hl [0] rfl) hf
    replace hf := zif_t q hf
    refine lv_iconst (v := 0) hx hb dX12_anew_74 (by decide) ?_
    refine lv_goto (tgt := 79) hx hb dX12_anew_75 (by decide) ?_
    exact bX12_anew_79 hC  hI (lv_sub hl [0] rfl) hf
  replace hf := zif_f q hf
  refine lv_aload_n hx hb dX12_anew_30 rfl (lv_at hl 0 rfl) ?_
  refine z_get hC hI hinX12_anew_X120 0 (wM_e0 ad cy σ) rfl 10 (by decide) (List.mem_cons_of_mem _ zw9_7) rfl dX12_anew_31 ?_
  refine lv_iload_n hx hb dX12_anew_34 rfl (lv_at hl 1 rfl) ?_
  refine lv_iconst (v := 0) hx hb dX12_anew_35 (by decide) ?_
  obtain ⟨q, hf⟩ := zck_use hf
  obtain ⟨σ21, eσ21⟩ : ∃ z, z = zsi σ 3 (x1.toNatClampNeg) 0 := ⟨_, rfl⟩
  replace hf := zbv_use eσ21 hf
  refine z_iast hC hI 3 2 (wM_e3 ad cy σ) (tM_t3 cy) q ((wM_s3 ad cy σ _ _).trans (congrArg (wM ad cy) eσ21.symm)) dX12_anew_36 (fun H locs hI => ?_)
  obtain ⟨v22, ev22⟩ : ∃ z : Int32, z = x1 + 1 := ⟨_, rfl⟩
  replace hf := zbv_use ev22 hf
  refine lv_iinc (v := v22) (lv' := [(1, .int v22), (0, .ref (ad 0))]) hx hb dX12_anew_37 hl (k := 1) rfl (by rw [ev22]; rfl) (by decide) rfl (fun ls hl => ?_)
  refine lv_goto (tgt := 24) hx hb dX12_anew_40 (by decide) ?_
  exact hk24 _ _ _ _ _ hI (lv_sub hl [1, 0] rfl) hf
theorem blX12_anew_24 {st : Nat → Nat} {p : Program} {l : Launch} {e : Env} {s : State} {m : MethodId} {args : Array Value} {below : List Frame} {meth : Method} {c : Code} {D : va_G} {A : Nat → Prop} {ad : Nat → Nat} {cy : Nat → ClassId} (hC : zC p m c cX12_anew 2 s args wzX12_anew RX12 meth none)  {res : zSt} : ∀ (n : Nat) (H : Heap) (locs : List Loc) (σ : zSt) (ls : Array Slot) (x1 : Int32), zI st D (tM cy) (wM ad cy σ) A s H locs → lv_has ls 2 [(0, .ref (ad 0)), (1, .int x1)] → fX12_anew_24  n σ x1 = some res → W p l e rmX12_anew s m args below meth c H locs 0 0 (zQu below args s D (tM cy) (wM ad cy) A res) (F0 m 24 ls []) := by
  intro n
  induction n with
  | zero => intro H locs σ ls x1 hI hl hf; cases hf
  | succ n ih => intro H locs σ ls x1 hI hl hf; exact bX12_anew_24_body hC ih hI hl hf
set_option maxRecDepth 20000 in
set_option maxHeartbeats 4000000 in
theorem bX12_anew_2_body {st : Nat → Nat} {p : Program} {l : Launch} {e : Env} {s : State} {m : MethodId} {args : Array Value} {below : List Frame} {meth : Method} {c : Code} {D : va_G} {A : Nat → Prop} {ad : Nat → Nat} {cy : Nat → ClassId} (hC : zC p m c cX12_anew 2 s args wzX12_anew RX12 meth none) {k2 : zSt → Int32 → Option (zSt)} {res : zSt} (hk2 : ∀ (H : Heap) (locs : List Loc) (σ : zSt) (ls : Array Slot) (x1 : Int32), zI st D (tM cy) (wM ad cy σ) A s H locs → lv_has ls 2 [(0, .ref (ad 0)), (1, .int x1)] → k2 σ x1 = some res → W p l e rmX12_anew s m args below meth c H locs 0 0 (zQu below args s D (tM cy) (wM ad cy) A res) (F0 m 2 ls [])) {H : Heap} {locs : List Loc} {σ : zSt} {ls : Array Slot} {x1 : Int32} (hI : zI st D (tM cy) (wM ad cy σ) A s H locs) (hl : lv_has ls 2 [(0, .ref (ad 0)), (1, .int x1)]) (hf : fX12_anew_2_body k2 σ x1 = some res) : W p l e rmX12_anew s m args below meth c H locs 0 0 (zQu below args s D (tM cy) (wM ad cy) A res) (F0 m 2 ls []) := by
  have hx := hC.1
  have hb := hC.2.1
  unfold fX12_anew_2_body at hf
  refine lv_iload_n hx hb dX12_anew_2 rfl (lv_at hl 1 rfl) ?_
  refine lv_bipush (v := 42) hx hb dX12_anew_3 (by decide) ?_
  refine lv_icmp_ge (tgt := 21) hx hb dX12_anew_5 (by decide) (fun q => ?_) (fun q => ?_)
  · replace hf := zif_t q hf
    refine lv_bipush (v := 47) hx hb dX12_anew_21 (by decide) ?_
    refine lv_istore_n (lv' := [(1, .int 47), (0, .ref (ad 0))]) hx hb dX12_anew_23 rfl hl (by decide) rfl (fun ls hl => ?_)
    exact blX12_anew_24 hC  zfuel _ _ _ _ _ hI (lv_sub hl [1, 0] rfl) hf
  replace hf := zif_f q hf
  refine lv_aload_n hx hb dX12_anew_8 rfl (lv_at hl 0 rfl) ?_
  refine z_get hC hI hinX12_anew_X120 0 (wM_e0 ad cy σ) rfl 10 (by decide) (List.mem_cons_of_mem _ zw9_7) rfl dX12_anew_9 ?_
  refine lv_iload_n hx hb dX12_anew_12 rfl (lv_at hl 1 rfl) ?_
  refine lv_iconst (v := 0) hx hb dX12_anew_13 (by decide) ?_
  obtain ⟨q, hf⟩ := zck_use hf
  obtain ⟨σ23, eσ23⟩ : ∃ z, z = zsi σ 3 (x1.toNatClampNeg) 0 := ⟨_, rfl⟩
  replace hf := zbv_use eσ23 hf
  refine z_iast hC hI 3 2 (wM_e3 ad cy σ) (tM_t3 cy) q ((wM_s3 ad cy σ _ _).trans (congrArg (wM ad cy) eσ23.symm)) dX12_anew_14 (fun H locs hI => ?_)
  obtain ⟨v24, ev24⟩ : ∃ z : Int32, z = x1 + 1 := ⟨_, rfl⟩
  replace hf := zbv_use ev24 hf
  refine lv_iinc (v := v24) (lv' := [(1, .int v24), (0, .ref (ad 0))]) hx hb dX12_anew_15 hl (k := 1) rfl (by rw [ev24]; rfl) (by decide) rfl (fun ls hl => ?_)
  refine lv_goto (tgt := 2) hx hb dX12_anew_18 (by decide) ?_
  exact hk2 _ _ _ _ _ hI (lv_sub hl [1, 0] rfl) hf
theorem blX12_anew_2 {st : Nat → Nat} {p : Program} {l : Launch} {e : Env} {s : State} {m : MethodId} {args : Array Value} {below : List Frame} {meth : Method} {c : Code} {D : va_G} {A : Nat → Prop} {ad : Nat → Nat} {cy : Nat → ClassId} (hC : zC p m c cX12_anew 2 s args wzX12_anew RX12 meth none)  {res : zSt} : ∀ (n : Nat) (H : Heap) (locs : List Loc) (σ : zSt) (ls : Array Slot) (x1 : Int32), zI st D (tM cy) (wM ad cy σ) A s H locs → lv_has ls 2 [(0, .ref (ad 0)), (1, .int x1)] → fX12_anew_2  n σ x1 = some res → W p l e rmX12_anew s m args below meth c H locs 0 0 (zQu below args s D (tM cy) (wM ad cy) A res) (F0 m 2 ls []) := by
  intro n
  induction n with
  | zero => intro H locs σ ls x1 hI hl hf; cases hf
  | succ n ih => intro H locs σ ls x1 hI hl hf; exact bX12_anew_2_body hC ih hI hl hf
set_option maxRecDepth 20000 in
set_option maxHeartbeats 4000000 in
theorem bX12_anew {st : Nat → Nat} {p : Program} {l : Launch} {e : Env} {s : State} {m : MethodId} {args : Array Value} {below : List Frame} {meth : Method} {c : Code} {D : va_G} {A : Nat → Prop} {ad : Nat → Nat} {cy : Nat → ClassId} (hC : zC p m c cX12_anew 2 s args wzX12_anew RX12 meth none)  {res : zSt} {H : Heap} {locs : List Loc} {σ : zSt} {ls : Array Slot}  (hI : zI st D (tM cy) (wM ad cy σ) A s H locs) (hl : lv_has ls 2 [(0, .ref (ad 0))]) (hf : fX12_anew  σ  = some res) : W p l e rmX12_anew s m args below meth c H locs 0 0 (zQu below args s D (tM cy) (wM ad cy) A res) (F0 m 0 ls []) := by
  have hx := hC.1
  have hb := hC.2.1
  unfold fX12_anew at hf
  refine lv_iconst (v := 0) hx hb dX12_anew_0 (by decide) ?_
  refine lv_istore_n (lv' := [(1, .int 0), (0, .ref (ad 0))]) hx hb dX12_anew_1 rfl hl (by decide) rfl (fun ls hl => ?_)
  exact blX12_anew_2 hC  zfuel _ _ _ _ _ hI (lv_sub hl [1, 0] rfl) hf
set_option maxRecDepth 20000 in
theorem cX12_anew_met (st : Nat → Nat) (l : Launch) (D : va_G) (ad : Nat → Nat) (cy : Nat → ClassId) (σ : zSt)  (res : zSt) (hf : fX12_anew σ  = some res) (sz : Nat) : zMu st l yX12_anew wzX12_anew rmX12_anew [.ref (ad 0)] D (tM cy) (wM ad cy) sz σ res :=
  zMu.of (cc := cX12_anew) (maxL := 2) (ret := none) (by decide) rfl (Nat.le_of_ble_eq_true rfl) (fun p e s m args below meth c hC A hI ls hl => bX12_anew hC hI hl hf)
theorem hdX12_anew : yX12_anew.cls = RX12 ∧ yX12_anew.cls ≠ "java/lang/invoke/MethodHandle" ∧ yX12_anew.cls ≠ "java/lang/invoke/VarHandle" ∧ (parseMethodDescriptor yX12_anew.desc).map (fun d => d.parameters.length) = some 0 := by decide +kernel
noncomputable def rmX12_load : Room := { frames := 1, cells := 0, slots := 0, locals := 24 }
noncomputable def wzX12_load : List Cond := .code yX12_load cX12_load 7 (some .int) :: wsL_law
theorem hinX12_load_X120 : ∀ w ∈ wsX120, w ∈ wzX12_load := fun w h => List.mem_cons_of_mem _ (inlX12 w h)
noncomputable def fX12_load_126 (k89 : zSt → Int32 → Int32 → Option (zSt × Int32)) (σ : zSt) (x1 : Int32) (x3 : Int32) (s0 : Int32) (s1 : Int32) : Option (zSt × Int32) :=
  zck (zin s1 262144) (zbv (zsi σ 2 (s1.toNatClampNeg) (vp_nar .byte s0)) (fun σ1 =>
  zbv (x3 + 1) (fun v2 =>
  k89 σ1 x1 v2)))
noncomputable def fX12_load_161 (k142 : zSt → Int32 → Option (zSt × Int32)) (σ : zSt) (x3 : Int32) : Option (zSt × Int32) :=
  zbv ((2 * x3) + 16) (fun v3 =>
  k142 σ v3)
noncomputable def fX12_load_414_body (k414 : zSt → Int32 → Option (zSt × Int32)) (σ : zSt) (x6 : Int32) : Option (zSt × Int32) :=
  if 8192 ≤ x6 then zck (zbo 0) (zbv (zsi σ 0 19 0) (fun σ4 =>
  some (σ4, 0))) else
  zck (zin x6 8192) (zbv (zsi σ 5 (x6.toNatClampNeg) (vp_nar .byte 0)) (fun σ5 =>
  zbv (x6 + 1) (fun v6 =>
  k414 σ5 v6)))
noncomputable def fX12_load_414  : Nat → zSt → Int32 → Option (zSt × Int32)
  | 0, _, _ => none
  | n + 1, σ, x6 => fX12_load_414_body (fX12_load_414  n) σ x6
noncomputable def fX12_load_404  (σ : zSt) (s0 : Int32) : Option (zSt × Int32) :=
  zbv (zsi σ 0 9 s0) (fun σ7 =>
  zbu (fX12_anew σ7 ) (fun σ8 =>
  fX12_load_414 zfuel σ8 0))
noncomputable def fX12_load_385  (σ : zSt)  : Option (zSt × Int32) :=
  if 0 ≤ (zgi σ 0 8) then fX12_load_404 σ ((zgi σ 0 9) &&& 65535) else
  fX12_load_404 σ 0
noncomputable def fX12_load_359 (k337 : zSt → Int32 → Int32 → Option (zSt × Int32)) (σ : zSt) (x5 : Int32) (x6 : Int32) : Option (zSt × Int32) :=
  zck (zin x6 262144) (
  zbv (zsi σ 0 9 ((zgi σ 0 9) + ((zgi σ 2 x6.toNatClampNeg) &&& 255))) (fun σ9 =>
  zbv (x6 + 1) (fun v10 =>
  k337 σ9 x5 v10)))
noncomputable def fX12_load_337_body (k337 : zSt → Int32 → Int32 → Option (zSt × Int32)) (σ : zSt) (x5 : Int32) (x6 : Int32) : Option (zSt × Int32) :=
  if (zgi σ 0 5) ≤ x6 then fX12_load_385 σ else
  if 13 < x5 then fX12_load_359 k337 σ x5 x6 else
  if 3 ≤ x5 then fX12_load_385 σ else
  fX12_load_359 k337 σ x5 x6
noncomputable def fX12_load_337  : Nat → zSt → Int32 → Int32 → Option (zSt × Int32)
  | 0, _, _, _ => none
  | n + 1, σ, x5, x6 => fX12_load_337_body (fX12_load_337  n) σ x5 x6
noncomputable def fX12_load_298_body (k298 : zSt → Int32 → Int32 → Option (zSt × Int32)) (σ : zSt) (x5 : Int32) (x6 : Int32) : Option (zSt × Int32) :=
  if (zgi σ 0 8) ≤ x6 then fX12_load_337 zfuel σ x5 32768 else
  zck (zin x6 262144) (
  zbv (zsi σ 0 9 ((zgi σ 0 9) + ((zgi σ 2 x6.toNatClampNeg) &&& 255))) (fun σ11 =>
  zbv (x6 + 1) (fun v12 =>
  k298 σ11 x5 v12)))
noncomputable def fX12_load_298  : Nat → zSt → Int32 → Int32 → Option (zSt × Int32)
  | 0, _, _, _ => none
  | n + 1, σ, x5, x6 => fX12_load_298_body (fX12_load_298  n) σ x5 x6
noncomputable def fX12_load_293  (σ : zSt) (s0 : Int32) : Option (zSt × Int32) :=
  fX12_load_298 zfuel σ s0 0
noncomputable def fX12_load_259  (σ : zSt) (s0 : Int32) : Option (zSt × Int32) :=
  zbv (zsi σ 0 7 s0) (fun σ13 =>
  zbv (zsi σ13 0 9 0) (fun σ14 =>
  if 0 ≤ (zgi σ14 0 8) then zck (zin ((zgi σ14 0 8) + 15) 262144) (
  fX12_load_293 σ14 ((zgi σ14 2 ((zgi σ14 0 8) + 15).toNatClampNeg) &&& 15)) else
  fX12_load_293 σ14 3))
noncomputable def fX12_load_247  (σ : zSt)  : Option (zSt × Int32) :=
  if 0 ≤ (zgi σ 0 8) then fX12_load_259 σ 1 else
  fX12_load_259 σ 3
noncomputable def fX12_load_214  (σ : zSt) (x3 : Int32) (s0 : Int32) : Option (zSt × Int32) :=
  if 49152 < (zgi σ 0 5) then if x3 ≤ 0 then fX12_load_247 σ else
  if (x3 + s0) = 65536 then fX12_load_259 σ 2 else
  fX12_load_247 σ else
  fX12_load_259 σ 0
noncomputable def fX12_load_192  (σ : zSt) (s0 : Int32) : Option (zSt × Int32) :=
  if (zgi σ 0 5) ≤ 49152 then fX12_load_214 σ s0 0 else
  zbi (fX12_bytesAt σ 32744 2) (fun σ15 v16 =>
  fX12_load_214 σ15 s0 v16)
noncomputable def fX12_load_142_body (k142 : zSt → Int32 → Option (zSt × Int32)) (σ : zSt) (x3 : Int32) : Option (zSt × Int32) :=
  if 32768 ≤ x3 then if (zgi σ 0 5) ≤ 49152 then fX12_load_192 σ 0 else
  zbi (fX12_bytesAt σ 32742 2) (fun σ17 v18 =>
  fX12_load_192 σ17 v18) else
  zbi (fX12_isHeader σ x3) (fun σ19 v20 =>
  if v20 = 0 then fX12_load_161 k142 σ19 x3 else
  zbv (zsi σ19 0 8 x3) (fun σ21 =>
  fX12_load_161 k142 σ21 x3))
noncomputable def fX12_load_142  : Nat → zSt → Int32 → Option (zSt × Int32)
  | 0, _, _ => none
  | n + 1, σ, x3 => fX12_load_142_body (fX12_load_142  n) σ x3
noncomputable def fX12_load_89_body (k89 : zSt → Int32 → Int32 → Option (zSt × Int32)) (σ : zSt) (x1 : Int32) (x3 : Int32) : Option (zSt × Int32) :=
  if (16384 * (zgi σ 0 6)) ≤ x3 then zbv (zsi σ 0 8 (-1)) (fun σ22 =>
  fX12_load_142 zfuel σ22 8176) else
  if (zgi σ 0 5) ≤ x3 then fX12_load_126 k89 σ x1 x3 (-1) x3 else
  zck (zin (x1 + x3) 262656) (
  fX12_load_126 k89 σ x1 x3 (zgi σ 1 (x1 + x3).toNatClampNeg) x3)
noncomputable def fX12_load_89  : Nat → zSt → Int32 → Int32 → Option (zSt × Int32)
  | 0, _, _, _ => none
  | n + 1, σ, x1, x3 => fX12_load_89_body (fX12_load_89  n) σ x1 x3
noncomputable def fX12_load_26  (σ : zSt) (s0 : Int32) : Option (zSt × Int32) :=
  zbv ((zgi σ 0 2) - s0) (fun v23 =>
  zbv (zsi σ 0 2 0) (fun σ24 =>
  if 8192 ≤ v23 then zck (decide (¬ 8192 = 0)) (
  if (zrem v23 8192) = 0 then if v23 ≤ 262144 then zbv (zsi σ24 0 5 v23) (fun σ25 =>
  zck (decide (¬ 16384 = 0)) (
  zbv (zsi σ25 0 6 (((zgi σ25 0 5) + 16383) / 16384)) (fun σ26 =>
  fX12_load_89 zfuel σ26 s0 0))) else
  some (σ24, 3) else
  some (σ24, 2)) else
  some (σ24, 1)))
noncomputable def fX12_load  (σ : zSt)  : Option (zSt × Int32) :=
  zbv (zsi σ 0 0 0) (fun σ27 =>
  zck (decide (¬ 16384 = 0)) (
  if (zrem (zgi σ27 0 2) 16384) = 512 then fX12_load_26 σ27 512 else
  fX12_load_26 σ27 0))
set_option maxRecDepth 20000 in
set_option maxHeartbeats 4000000 in
theorem bX12_load_126 {st : Nat → Nat} {p : Program} {l : Launch} {e : Env} {s : State} {m : MethodId} {args : Array Value} {below : List Frame} {meth : Method} {c : Code} {D : va_G} {A : Nat → Prop} {ad : Nat → Nat} {cy : Nat → ClassId} (hC : zC p m c cX12_load 7 s args wzX12_load RX12 meth (some .int)) {k89 : zSt → Int32 → Int32 → Option (zSt × Int32)} {res : zSt × Int32} (hk89 : ∀ (H : Heap) (locs : List Loc) (σ : zSt) (ls : Array Slot) (x1 : Int32) (x3 : Int32), zI st D (tM cy) (wM ad cy σ) A s H locs → lv_has ls 7 [(0, .ref (ad 0)), (1, .int x1), (3, .int x3)] → k89 σ x1 x3 = some res → W p l e rmX12_load s m args below meth c H locs 0 0 (zQi below args s D (tM cy) (wM ad cy) A res) (F0 m 89 ls [])) {H : Heap} {locs : List Loc} {σ : zSt} {ls : Array Slot} {x1 : Int32} {x3 : Int32} {s0 : Int32} {s1 : Int32} (hI : zI st D (tM cy) (wM ad cy σ) A s H locs) (hl : lv_has ls 7 [(0, .ref (ad 0)), (1, .int x1), (3, .int x3)]) (hf : fX12_load_126 k89 σ x1 x3 s0 s1 = some res) : W p l e rmX12_load s m args below meth c H locs 0 0 (zQi below args s D (tM cy) (wM ad cy) A res) (F0 m 126 ls [.int s0, .int s1, .ref (ad 2)]) := by
  have hx := hC.1
  have hb := hC.2.1
  unfold fX12_load_126 at hf
  obtain ⟨q, hf⟩ := zck_use hf
  obtain ⟨σ1, eσ1⟩ : ∃ z, z = zsi σ 2 (s1.toNatClampNeg) (vp_nar .byte s0) := ⟨_, rfl⟩
  replace hf := zbv_use eσ1 hf
  refine z_bast hC hI 2 1 (wM_e2 ad cy σ) (tM_t2 cy) q ((wM_s2 ad cy σ _ _).trans (congrArg (wM ad cy) eσ1.symm)) dX12_load_126 (fun H locs hI => ?_)
  obtain ⟨v2, ev2⟩ : ∃ z : Int32, z = x3 + 1 := ⟨_, rfl⟩
  replace hf := zbv_use ev2 hf
  refine lv_iinc (v := v2) (lv' := [(3, .int v2), (0, .ref (ad 0)), (1, .int x1)]) hx hb dX12_load_127 hl (k := 2) rfl (by rw [ev2]; rfl) (by decide) rfl (fun ls hl => ?_)
  refine lv_goto (tgt := 89) hx hb dX12_load_130 (by decide) ?_
  exact hk89 _ _ _ _ _ _ hI (lv_sub hl [1, 2, 0] rfl) hf
set_option maxRecDepth 20000 in
set_option maxHeartbeats 4000000 in
theorem bX12_load_161 {st : Nat → Nat} {p : Program} {l : Launch} {e : Env} {s : State} {m : MethodId} {args : Array Value} {below : List Frame} {meth : Method} {c : Code} {D : va_G} {A : Nat → Prop} {ad : Nat → Nat} {cy : Nat → ClassId} (hC : zC p m c cX12_load 7 s args wzX12_load RX12 meth (some .int)) {k142 : zSt → Int32 → Option (zSt × Int32)} {res : zSt × Int32} (hk142 : ∀ (H : Heap) (locs : List Loc) (σ : zSt) (ls : Array Slot) (x3 : Int32), zI st D (tM cy) (wM ad cy σ) A s H locs → lv_has ls 7 [(0, .ref (ad 0)), (3, .int x3)] → k142 σ x3 = some res → W p l e rmX12_load s m args below meth c H locs 0 0 (zQi below args s D (tM cy) (wM ad cy) A res) (F0 m 142 ls [])) {H : Heap} {locs : List Loc} {σ : zSt} {ls : Array Slot} {x3 : Int32} (hI : zI st D (tM cy) (wM ad cy σ) A s H locs) (hl : lv_has ls 7 [(0, .ref (ad 0)), (3, .int x3)]) (hf : fX12_load_161 k142 σ x3 = some res) : W p l e rmX12_load s m args below meth c H locs 0 0 (zQi below args s D (tM cy) (wM ad cy) A res) (F0 m 161 ls []) := by
  have hx := hC.1
  have hb := hC.2.1
  unfold fX12_load_161 at hf
  refine lv_iconst (v := 2) hx hb dX12_load_161 (by decide) ?_
  refine lv_iload_n hx hb dX12_load_162 rfl (lv_at hl 1 rfl) ?_
  refine lv_imul hx hb dX12_load_163 ?_
  refine lv_bipush (v := 16) hx hb dX12_load_164 (by decide) ?_
  refine lv_iadd hx hb dX12_load_166 ?_
  refine lv_topi (fun v3 ev3 => ?_)
  replace hf := zbv_use ev3 hf
  refine lv_istore_n (lv' := [(3, .int v3), (0, .ref (ad 0))]) hx hb dX12_load_167 rfl hl (by decide) rfl (fun ls hl => ?_)
  refine lv_goto (tgt := 142) hx hb dX12_load_168 (by decide) ?_
  exact hk142 _ _ _ _ _ hI (lv_sub hl [1, 0] rfl) hf
set_option maxRecDepth 20000 in
set_option maxHeartbeats 4000000 in
theorem bX12_load_414_body {st : Nat → Nat} {p : Program} {l : Launch} {e : Env} {s : State} {m : MethodId} {args : Array Value} {below : List Frame} {meth : Method} {c : Code} {D : va_G} {A : Nat → Prop} {ad : Nat → Nat} {cy : Nat → ClassId} (hC : zC p m c cX12_load 7 s args wzX12_load RX12 meth (some .int)) {k414 : zSt → Int32 → Option (zSt × Int32)} {res : zSt × Int32} (hk414 : ∀ (H : Heap) (locs : List Loc) (σ : zSt) (ls : Array Slot) (x6 : Int32), zI st D (tM cy) (wM ad cy σ) A s H locs → lv_has ls 7 [(0, .ref (ad 0)), (6, .int x6)] → k414 σ x6 = some res → W p l e rmX12_load s m args below meth c H locs 0 0 (zQi below args s D (tM cy) (wM ad cy) A res) (F0 m 414 ls [])) {H : Heap} {locs : List Loc} {σ : zSt} {ls : Array Slot} {x6 : Int32} (hI : zI st D (tM cy) (wM ad cy σ) A s H locs) (hl : lv_has ls 7 [(0, .ref (ad 0)), (6, .int x6)]) (hf : fX12_load_414_body k414 σ x6 = some res) : W p l e rmX12_load s m args below meth c H locs 0 0 (zQi below args s D (tM cy) (wM ad cy) A res) (F0 m 414 ls []) := by
  have hx := hC.1
  have hb := hC.2.1
  unfold fX12_load_414_body at hf
  refine lv_iload hx hb dX12_load_414 (lv_at hl 1 rfl) ?_
  refine lv_sipush (v := 8192) hx hb dX12_load_416 (by decide) ?_
  refine lv_icmp_ge (tgt := 436) hx hb dX12_load_419 (by decide) (fun q => ?_) (fun q => ?_)
  · replace hf := zif_t q hf
    refine lv_aload_n hx hb dX12_load_436 rfl (lv_at hl 0 rfl) ?_
    refine lv_iconst (v := 0) hx hb dX12_load_437 (by decide) ?_
    obtain ⟨q, hf⟩ := zck_use hf
    obtain ⟨σ4, eσ4⟩ : ∃ z, z = zsi σ 0 19 0 := ⟨_, rfl⟩
    replace hf := zbv_use eσ4 hf
    refine z_put hC hI hinX12_load_X120 tyX12_ok nmX12 0 (wM_e0 ad cy σ) rfl 19 (by decide) (List.mem_cons_of_mem _ zw16_12) rfl (zbo_n q) (zbo_f q) (Nat.le_of_ble_eq_true rfl) ((wM_s0_19 ad cy σ 0).trans (congrArg (wM ad cy) eσ4.symm)) dX12_load_438 (fun H locs hI => ?_)
    refine lv_iconst (v := 0) hx hb dX12_load_441 (by decide) ?_
    exact z_ireturn hC hI hf dX12_load_442
  replace hf := zif_f q hf
  refine lv_aload_n hx hb dX12_load_422 rfl (lv_at hl 0 rfl) ?_
  refine z_get hC hI hinX12_load_X120 0 (wM_e0 ad cy σ) rfl 12 (by decide) (List.mem_cons_of_mem _ zw9_9) rfl dX12_load_423 ?_
  refine lv_iload hx hb dX12_load_426 (lv_at hl 1 rfl) ?_
  refine lv_iconst (v := 0) hx hb dX12_load_428 (by decide) ?_
  obtain ⟨q, hf⟩ := zck_use hf
  obtain ⟨σ5, eσ5⟩ : ∃ z, z = zsi σ 5 (x6.toNatClampNeg) (vp_nar .byte 0) := ⟨_, rfl⟩
  replace hf := zbv_use eσ5 hf
  refine z_bast hC hI 5 4 (wM_e5 ad cy σ) (tM_t5 cy) q ((wM_s5 ad cy σ _ _).trans (congrArg (wM ad cy) eσ5.symm)) dX12_load_429 (fun H locs hI => ?_)
  obtain ⟨v6, ev6⟩ : ∃ z : Int32, z = x6 + 1 := ⟨_, rfl⟩
  replace hf := zbv_use ev6 hf
  refine lv_iinc (v := v6) (lv' := [(6, .int v6), (0, .ref (ad 0))]) hx hb dX12_load_430 hl (k := 1) rfl (by rw [ev6]; rfl) (by decide) rfl (fun ls hl => ?_)
  refine lv_goto (tgt := 414) hx hb dX12_load_433 (by decide) ?_
  exact hk414 _ _ _ _ _ hI (lv_sub hl [1, 0] rfl) hf
theorem blX12_load_414 {st : Nat → Nat} {p : Program} {l : Launch} {e : Env} {s : State} {m : MethodId} {args : Array Value} {below : List Frame} {meth : Method} {c : Code} {D : va_G} {A : Nat → Prop} {ad : Nat → Nat} {cy : Nat → ClassId} (hC : zC p m c cX12_load 7 s args wzX12_load RX12 meth (some .int))  {res : zSt × Int32} : ∀ (n : Nat) (H : Heap) (locs : List Loc) (σ : zSt) (ls : Array Slot) (x6 : Int32), zI st D (tM cy) (wM ad cy σ) A s H locs → lv_has ls 7 [(0, .ref (ad 0)), (6, .int x6)] → fX12_load_414  n σ x6 = some res → W p l e rmX12_load s m args below meth c H locs 0 0 (zQi below args s D (tM cy) (wM ad cy) A res) (F0 m 414 ls []) := by
  intro n
  induction n with
  | zero => intro H locs σ ls x6 hI hl hf; cases hf
  | succ n ih => intro H locs σ ls x6 hI hl hf; exact bX12_load_414_body hC ih hI hl hf
set_option maxRecDepth 20000 in
set_option maxHeartbeats 4000000 in
theorem bX12_load_404 {st : Nat → Nat} {p : Program} {l : Launch} {e : Env} {s : State} {m : MethodId} {args : Array Value} {below : List Frame} {meth : Method} {c : Code} {D : va_G} {A : Nat → Prop} {ad : Nat → Nat} {cy : Nat → ClassId} (hC : zC p m c cX12_load 7 s args wzX12_load RX12 meth (some .int))  {res : zSt × Int32} {H : Heap} {locs : List Loc} {σ : zSt} {ls : Array Slot} {s0 : Int32} (hI : zI st D (tM cy) (wM ad cy σ) A s H locs) (hl : lv_has ls 7 [(0, .ref (ad 0))]) (hf : fX12_load_404  σ s0 = some res) : W p l e rmX12_load s m args below meth c H locs 0 0 (zQi below args s D (tM cy) (wM ad cy) A res) (F0 m 404 ls [.int s0, .ref (ad 0)]) := by
  have hx := hC.1
  have hb := hC.2.1
  unfold fX12_load_404 at hf
  obtain ⟨σ7, eσ7⟩ : ∃ z, z = zsi σ 0 9 s0 := ⟨_, rfl⟩
  replace hf := zbv_use eσ7 hf
  refine z_put hC hI hinX12_load_X120 tyX12_ok nmX12 0 (wM_e0 ad cy σ) rfl 9 (by decide) (List.mem_cons_of_mem _ zw16_10) rfl rfl rfl (Nat.le_of_ble_eq_true rfl) ((wM_s0_9 ad cy σ s0).trans (congrArg (wM ad cy) eσ7.symm)) dX12_load_404 (fun H locs hI => ?_)
  refine lv_aload_n hx hb dX12_load_407 rfl (lv_at hl 0 rfl) ?_
  obtain ⟨σ8, g8, hf⟩ := zbu_use hf
  refine z_callVu (As := []) (rest := []) hC hI (cX12_anew_met st l D ad cy σ7  _ g8) (zgV zw10_11 zw10_12 zw10_13 zw1_5 zw10_14) rfl ⟨rfl, rfl⟩ 0 hdX12_anew ⟨Nat.le_of_ble_eq_true rfl, Nat.le_of_ble_eq_true rfl⟩ rfl rfl (wM_e0 ad cy σ7) rfl hl rfl (Nat.le_of_ble_eq_true rfl) dX12_load_408 ⟨Nat.zero_le _, Nat.zero_le _⟩ (fun H locs hI => ?_)
  refine lv_iconst (v := 0) hx hb dX12_load_411 (by decide) ?_
  refine lv_istore (lv' := [(6, .int 0), (0, .ref (ad 0))]) hx hb dX12_load_412 hl (by decide) rfl (fun ls hl => ?_)
  exact blX12_load_414 hC  zfuel _ _ _ _ _ hI (lv_sub hl [1, 0] rfl) hf
set_option maxRecDepth 20000 in
set_option maxHeartbeats 4000000 in
theorem bX12_load_385 {st : Nat → Nat} {p : Program} {l : Launch} {e : Env} {s : State} {m : MethodId} {args : Array Value} {below : List Frame} {meth : Method} {c : Code} {D : va_G} {A : Nat → Prop} {ad : Nat → Nat} {cy : Nat → ClassId} (hC : zC p m c cX12_load 7 s args wzX12_load RX12 meth (some .int))  {res : zSt × Int32} {H : Heap} {locs : List Loc} {σ : zSt} {ls : Array Slot}  (hI : zI st D (tM cy) (wM ad cy σ) A s H locs) (hl : lv_has ls 7 [(0, .ref (ad 0))]) (hf : fX12_load_385  σ  = some res) : W p l e rmX12_load s m args below meth c H locs 0 0 (zQi below args s D (tM cy) (wM ad cy) A res) (F0 m 385 ls []) := by
  have hx := hC.1
  have hb := hC.2.1
  unfold fX12_load_385 at hf
  refine lv_aload_n hx hb dX12_load_385 rfl (lv_at hl 0 rfl) ?_
  refine lv_aload_n hx hb dX12_load_386 rfl (lv_at hl 0 rfl) ?_
  refine z_get hC hI hinX12_load_X120 0 (wM_e0 ad cy σ) rfl 8 (by decide) (List.mem_cons_of_mem _ zw9_6) rfl dX12_load_387 ?_
  refine lv_if_ge (tgt := 397) hx hb dX12_load_390 (by decide) (fun q => ?_) (fun q => ?_)
  · replace hf := zif_t q hf
    refine lv_aload_n hx hb dX12_load_397 rfl (lv_at hl 0 rfl) ?_
    refine z_get hC hI hinX12_load_X120 0 (wM_e0 ad cy σ) rfl 9 (by decide) (List.mem_cons_of_mem _ zw16_10) rfl dX12_load_398 ?_
    refine lv_ldc (v := 65535) hx hb hC.2.2.2.1 (hC.2.2.2.2.1 _ (List.mem_cons_of_mem _ zw16_11)) dX12_load_401 ?_
    refine lv_iand hx hb dX12_load_403 ?_
    exact bX12_load_404 hC  hI hl hf
  replace hf := zif_f q hf
  refine lv_iconst (v := 0) hx hb dX12_load_393 (by decide) ?_
  refine lv_goto (tgt := 404) hx hb dX12_load_394 (by decide) ?_
  exact bX12_load_404 hC  hI hl hf
set_option maxRecDepth 20000 in
set_option maxHeartbeats 4000000 in
theorem bX12_load_359 {st : Nat → Nat} {p : Program} {l : Launch} {e : Env} {s : State} {m : MethodId} {args : Array Value} {below : List Frame} {meth : Method} {c : Code} {D : va_G} {A : Nat → Prop} {ad : Nat → Nat} {cy : Nat → ClassId} (hC : zC p m c cX12_load 7 s args wzX12_load RX12 meth (some .int)) {k337 : zSt → Int32 → Int32 → Option (zSt × Int32)} {res : zSt × Int32} (hk337 : ∀ (H : Heap) (locs : List Loc) (σ : zSt) (ls : Array Slot) (x5 : Int32) (x6 : Int32), zI st D (tM cy) (wM ad cy σ) A s H locs → lv_has ls 7 [(0, .ref (ad 0)), (5, .int x5), (6, .int x6)] → k337 σ x5 x6 = some res → W p l e rmX12_load s m args below meth c H locs 0 0 (zQi below args s D (tM cy) (wM ad cy) A res) (F0 m 337 ls [])) {H : Heap} {locs : List Loc} {σ : zSt} {ls : Array Slot} {x5 : Int32} {x6 : Int32} (hI : zI st D (tM cy) (wM ad cy σ) A s H locs) (hl : lv_has ls 7 [(0, .ref (ad 0)), (5, .int x5), (6, .int x6)]) (hf : fX12_load_359 k337 σ x5 x6 = some res) : W p l e rmX12_load s m args below meth c H locs 0 0 (zQi below args s D (tM cy) (wM ad cy) A res) (F0 m 359 ls []) := by
  have hx := hC.1
  have hb := hC.2.1
  unfold fX12_load_359 at hf
  refine lv_aload_n hx hb dX12_load_359 rfl (lv_at hl 0 rfl) ?_
  refine lv_dup hx hb dX12_load_360 rfl ?_
  refine z_get hC hI hinX12_load_X120 0 (wM_e0 ad cy σ) rfl 9 (by decide) (List.mem_cons_of_mem _ zw16_10) rfl dX12_load_361 ?_
  refine lv_aload_n hx hb dX12_load_364 rfl (lv_at hl 0 rfl) ?_
  refine z_get hC hI hinX12_load_X120 0 (wM_e0 ad cy σ) rfl 4 (by decide) (List.mem_cons_of_mem _ zw9_5) rfl dX12_load_365 ?_
  refine lv_iload hx hb dX12_load_368 (lv_at hl 2 rfl) ?_
  obtain ⟨q, hf⟩ := zck_use hf
  refine z_bald hC hI 2 1 (wM_e2 ad cy σ) (tM_t2 cy) q dX12_load_370 ?_
  refine lv_sipush (v := 255) hx hb dX12_load_371 (by decide) ?_
  refine lv_iand hx hb dX12_load_374 ?_
  refine lv_iadd hx hb dX12_load_375 ?_
  obtain ⟨σ9, eσ9⟩ : ∃ z, z = zsi σ 0 9 ((zgi σ 0 9) + ((zgi σ 2 x6.toNatClampNeg) &&& 255)) := ⟨_, rfl⟩
  replace hf := zbv_use eσ9 hf
  refine z_put hC hI hinX12_load_X120 tyX12_ok nmX12 0 (wM_e0 ad cy σ) rfl 9 (by decide) (List.mem_cons_of_mem _ zw16_10) rfl rfl rfl (Nat.le_of_ble_eq_true rfl) ((wM_s0_9 ad cy σ ((zgi σ 0 9) + ((zgi σ 2 x6.toNatClampNeg) &&& 255))).trans (congrArg (wM ad cy) eσ9.symm)) dX12_load_376 (fun H locs hI => ?_)
  obtain ⟨v10, ev10⟩ : ∃ z : Int32, z = x6 + 1 := ⟨_, rfl⟩
  replace hf := zbv_use ev10 hf
  refine lv_iinc (v := v10) (lv' := [(6, .int v10), (0, .ref (ad 0)), (5, .int x5)]) hx hb dX12_load_379 hl (k := 2) rfl (by rw [ev10]; rfl) (by decide) rfl (fun ls hl => ?_)
  refine lv_goto (tgt := 337) hx hb dX12_load_382 (by decide) ?_
  exact hk337 _ _ _ _ _ _ hI (lv_sub hl [1, 2, 0] rfl) hf
set_option maxRecDepth 20000 in
set_option maxHeartbeats 4000000 in
theorem bX12_load_337_body {st : Nat → Nat} {p : Program} {l : Launch} {e : Env} {s : State} {m : MethodId} {args : Array Value} {below : List Frame} {meth : Method} {c : Code} {D : va_G} {A : Nat → Prop} {ad : Nat → Nat} {cy : Nat → ClassId} (hC : zC p m c cX12_load 7 s args wzX12_load RX12 meth (some .int)) {k337 : zSt → Int32 → Int32 → Option (zSt × Int32)} {res : zSt × Int32} (hk337 : ∀ (H : Heap) (locs : List Loc) (σ : zSt) (ls : Array Slot) (x5 : Int32) (x6 : Int32), zI st D (tM cy) (wM ad cy σ) A s H locs → lv_has ls 7 [(0, .ref (ad 0)), (5, .int x5), (6, .int x6)] → k337 σ x5 x6 = some res → W p l e rmX12_load s m args below meth c H locs 0 0 (zQi below args s D (tM cy) (wM ad cy) A res) (F0 m 337 ls [])) {H : Heap} {locs : List Loc} {σ : zSt} {ls : Array Slot} {x5 : Int32} {x6 : Int32} (hI : zI st D (tM cy) (wM ad cy σ) A s H locs) (hl : lv_has ls 7 [(0, .ref (ad 0)), (5, .int x5), (6, .int x6)]) (hf : fX12_load_337_body k337 σ x5 x6 = some res) : W p l e rmX12_load s m args below meth c H locs 0 0 (zQi below args s D (tM cy) (wM ad cy) A res) (F0 m 337 ls []) := by
  have hx := hC.1
  have hb := hC.2.1
  unfold fX12_load_337_body at hf
  refine lv_iload hx hb dX12_load_337 (lv_at hl 2 rfl) ?_
  refine lv_aload_n hx hb dX12_load_339 rfl (lv_at hl 0 rfl) ?_
  refine z_get hC hI hinX12_load_X120 0 (wM_e0 ad cy σ) rfl 5 (by decide) (List.mem_cons_of_mem _ zw16_6) rfl dX12_load_340 ?_
  refine lv_icmp_ge (tgt := 385) hx hb dX12_load_343 (by decide) (fun q => ?_) (fun q => ?_)
  · replace hf := zif_t q hf
    exact bX12_load_385 hC  hI (lv_sub hl [0] rfl) hf
  replace hf := zif_f q hf
  refine lv_iload hx hb dX12_load_346 (lv_at hl 1 rfl) ?_
  refine lv_bipush (v := 13) hx hb dX12_load_348 (by decide) ?_
  refine lv_icmp_gt (tgt := 359) hx hb dX12_load_350 (by decide) (fun q => ?_) (fun q => ?_)
  · replace hf := zif_t q hf
    exact bX12_load_359 hC hk337 hI hl hf
  replace hf := zif_f q hf
  refine lv_iload hx hb dX12_load_353 (lv_at hl 1 rfl) ?_
  refine lv_iconst (v := 3) hx hb dX12_load_355 (by decide) ?_
  refine lv_icmp_ge (tgt := 385) hx hb dX12_load_356 (by decide) (fun q => ?_) (fun q => ?_)
  · replace hf := zif_t q hf
    exact bX12_load_385 hC  hI (lv_sub hl [0] rfl) hf
  replace hf := zif_f q hf
  exact bX12_load_359 hC hk337 hI hl hf
theorem blX12_load_337 {st : Nat → Nat} {p : Program} {l : Launch} {e : Env} {s : State} {m : MethodId} {args : Array Value} {below : List Frame} {meth : Method} {c : Code} {D : va_G} {A : Nat → Prop} {ad : Nat → Nat} {cy : Nat → ClassId} (hC : zC p m c cX12_load 7 s args wzX12_load RX12 meth (some .int))  {res : zSt × Int32} : ∀ (n : Nat) (H : Heap) (locs : List Loc) (σ : zSt) (ls : Array Slot) (x5 : Int32) (x6 : Int32), zI st D (tM cy) (wM ad cy σ) A s H locs → lv_has ls 7 [(0, .ref (ad 0)), (5, .int x5), (6, .int x6)] → fX12_load_337  n σ x5 x6 = some res → W p l e rmX12_load s m args below meth c H locs 0 0 (zQi below args s D (tM cy) (wM ad cy) A res) (F0 m 337 ls []) := by
  intro n
  induction n with
  | zero => intro H locs σ ls x5 x6 hI hl hf; cases hf
  | succ n ih => intro H locs σ ls x5 x6 hI hl hf; exact bX12_load_337_body hC ih hI hl hf
set_option maxRecDepth 20000 in
set_option maxHeartbeats 4000000 in
theorem bX12_load_298_body {st : Nat → Nat} {p : Program} {l : Launch} {e : Env} {s : State} {m : MethodId} {args : Array Value} {below : List Frame} {meth : Method} {c : Code} {D : va_G} {A : Nat → Prop} {ad : Nat → Nat} {cy : Nat → ClassId} (hC : zC p m c cX12_load 7 s args wzX12_load RX12 meth (some .int)) {k298 : zSt → Int32 → Int32 → Option (zSt × Int32)} {res : zSt × Int32} (hk298 : ∀ (H : Heap) (locs : List Loc) (σ : zSt) (ls : Array Slot) (x5 : Int32) (x6 : Int32), zI st D (tM cy) (wM ad cy σ) A s H locs → lv_has ls 7 [(0, .ref (ad 0)), (5, .int x5), (6, .int x6)] → k298 σ x5 x6 = some res → W p l e rmX12_load s m args below meth c H locs 0 0 (zQi below args s D (tM cy) (wM ad cy) A res) (F0 m 298 ls [])) {H : Heap} {locs : List Loc} {σ : zSt} {ls : Array Slot} {x5 : Int32} {x6 : Int32} (hI : zI st D (tM cy) (wM ad cy σ) A s H locs) (hl : lv_has ls 7 [(0, .ref (ad 0)), (5, .int x5), (6, .int x6)]) (hf : fX12_load_298_body k298 σ x5 x6 = some res) : W p l e rmX12_load s m args below meth c H locs 0 0 (zQi below args s D (tM cy) (wM ad cy) A res) (F0 m 298 ls []) := by
  have hx := hC.1
  have hb := hC.2.1
  unfold fX12_load_298_body at hf
  refine lv_iload hx hb dX12_load_298 (lv_at hl 2 rfl) ?_
  refine lv_aload_n hx hb dX12_load_300 rfl (lv_at hl 0 rfl) ?_
  refine z_get hC hI hinX12_load_X120 0 (wM_e0 ad cy σ) rfl 8 (by decide) (List.mem_cons_of_mem _ zw9_6) rfl dX12_load_301 ?_
  refine lv_icmp_ge (tgt := 333) hx hb dX12_load_304 (by decide) (fun q => ?_) (fun q => ?_)
  · replace hf := zif_t q hf
    refine lv_ldc (v := 32768) hx hb hC.2.2.2.1 (hC.2.2.2.2.1 _ (List.mem_cons_of_mem _ zw9_10)) dX12_load_333 ?_
    refine lv_istore (lv' := [(6, .int 32768), (0, .ref (ad 0)), (5, .int x5)]) hx hb dX12_load_335 hl (by decide) rfl (fun ls hl => ?_)
    exact blX12_load_337 hC  zfuel _ _ _ _ _ _ hI (lv_sub hl [1, 2, 0] rfl) hf
  replace hf := zif_f q hf
  refine lv_aload_n hx hb dX12_load_307 rfl (lv_at hl 0 rfl) ?_
  refine lv_dup hx hb dX12_load_308 rfl ?_
  refine z_get hC hI hinX12_load_X120 0 (wM_e0 ad cy σ) rfl 9 (by decide) (List.mem_cons_of_mem _ zw16_10) rfl dX12_load_309 ?_
  refine lv_aload_n hx hb dX12_load_312 rfl (lv_at hl 0 rfl) ?_
  refine z_get hC hI hinX12_load_X120 0 (wM_e0 ad cy σ) rfl 4 (by decide) (List.mem_cons_of_mem _ zw9_5) rfl dX12_load_313 ?_
  refine lv_iload hx hb dX12_load_316 (lv_at hl 2 rfl) ?_
  obtain ⟨q, hf⟩ := zck_use hf
  refine z_bald hC hI 2 1 (wM_e2 ad cy σ) (tM_t2 cy) q dX12_load_318 ?_
  refine lv_sipush (v := 255) hx hb dX12_load_319 (by decide) ?_
  refine lv_iand hx hb dX12_load_322 ?_
  refine lv_iadd hx hb dX12_load_323 ?_
  obtain ⟨σ11, eσ11⟩ : ∃ z, z = zsi σ 0 9 ((zgi σ 0 9) + ((zgi σ 2 x6.toNatClampNeg) &&& 255)) := ⟨_, rfl⟩
  replace hf := zbv_use eσ11 hf
  refine z_put hC hI hinX12_load_X120 tyX12_ok nmX12 0 (wM_e0 ad cy σ) rfl 9 (by decide) (List.mem_cons_of_mem _ zw16_10) rfl rfl rfl (Nat.le_of_ble_eq_true rfl) ((wM_s0_9 ad cy σ ((zgi σ 0 9) + ((zgi σ 2 x6.toNatClampNeg) &&& 255))).trans (congrArg (wM ad cy) eσ11.symm)) dX12_load_324 (fun H locs hI => ?_)
  obtain ⟨v12, ev12⟩ : ∃ z : Int32, z = x6 + 1 := ⟨_, rfl⟩
  replace hf := zbv_use ev12 hf
  refine lv_iinc (v := v12) (lv' := [(6, .int v12), (0, .ref (ad 0)), (5, .int x5)]) hx hb dX12_load_327 hl (k := 2) rfl (by rw [ev12]; rfl) (by decide) rfl (fun ls hl => ?_)
  refine lv_goto (tgt := 298) hx hb dX12_load_330 (by decide) ?_
  exact hk298 _ _ _ _ _ _ hI (lv_sub hl [1, 2, 0] rfl) hf
theorem blX12_load_298 {st : Nat → Nat} {p : Program} {l : Launch} {e : Env} {s : State} {m : MethodId} {args : Array Value} {below : List Frame} {meth : Method} {c : Code} {D : va_G} {A : Nat → Prop} {ad : Nat → Nat} {cy : Nat → ClassId} (hC : zC p m c cX12_load 7 s args wzX12_load RX12 meth (some .int))  {res : zSt × Int32} : ∀ (n : Nat) (H : Heap) (locs : List Loc) (σ : zSt) (ls : Array Slot) (x5 : Int32) (x6 : Int32), zI st D (tM cy) (wM ad cy σ) A s H locs → lv_has ls 7 [(0, .ref (ad 0)), (5, .int x5), (6, .int x6)] → fX12_load_298  n σ x5 x6 = some res → W p l e rmX12_load s m args below meth c H locs 0 0 (zQi below args s D (tM cy) (wM ad cy) A res) (F0 m 298 ls []) := by
  intro n
  induction n with
  | zero => intro H locs σ ls x5 x6 hI hl hf; cases hf
  | succ n ih => intro H locs σ ls x5 x6 hI hl hf; exact bX12_load_298_body hC ih hI hl hf
set_option maxRecDepth 20000 in
set_option maxHeartbeats 4000000 in
theorem bX12_load_293 {st : Nat → Nat} {p : Program} {l : Launch} {e : Env} {s : State} {m : MethodId} {args : Array Value} {below : List Frame} {meth : Method} {c : Code} {D : va_G} {A : Nat → Prop} {ad : Nat → Nat} {cy : Nat → ClassId} (hC : zC p m c cX12_load 7 s args wzX12_load RX12 meth (some .int))  {res : zSt × Int32} {H : Heap} {locs : List Loc} {σ : zSt} {ls : Array Slot} {s0 : Int32} (hI : zI st D (tM cy) (wM ad cy σ) A s H locs) (hl : lv_has ls 7 [(0, .ref (ad 0))]) (hf : fX12_load_293  σ s0 = some res) : W p l e rmX12_load s m args below meth c H locs 0 0 (zQi below args s D (tM cy) (wM ad cy) A res) (F0 m 293 ls [.int s0]) := by
  have hx := hC.1
  have hb := hC.2.1
  unfold fX12_load_293 at hf
  refine lv_istore (lv' := [(5, .int s0), (0, .ref (ad 0))]) hx hb dX12_load_293 hl (by decide) rfl (fun ls hl => ?_)
  refine lv_iconst (v := 0) hx hb dX12_load_295 (by decide) ?_
  refine lv_istore (lv' := [(6, .int 0), (5, .int s0), (0, .ref (ad 0))]) hx hb dX12_load_296 hl (by decide) rfl (fun ls hl => ?_)
  exact blX12_load_298 hC  zfuel _ _ _ _ _ _ hI (lv_sub hl [2, 1, 0] rfl) hf
set_option maxRecDepth 20000 in
set_option maxHeartbeats 4000000 in
theorem bX12_load_259 {st : Nat → Nat} {p : Program} {l : Launch} {e : Env} {s : State} {m : MethodId} {args : Array Value} {below : List Frame} {meth : Method} {c : Code} {D : va_G} {A : Nat → Prop} {ad : Nat → Nat} {cy : Nat → ClassId} (hC : zC p m c cX12_load 7 s args wzX12_load RX12 meth (some .int))  {res : zSt × Int32} {H : Heap} {locs : List Loc} {σ : zSt} {ls : Array Slot} {s0 : Int32} (hI : zI st D (tM cy) (wM ad cy σ) A s H locs) (hl : lv_has ls 7 [(0, .ref (ad 0))]) (hf : fX12_load_259  σ s0 = some res) : W p l e rmX12_load s m args below meth c H locs 0 0 (zQi below args s D (tM cy) (wM ad cy) A res) (F0 m 259 ls [.int s0, .ref (ad 0)]) := by
  have hx := hC.1
  have hb := hC.2.1
  unfold fX12_load_259 at hf
  obtain ⟨σ13, eσ13⟩ : ∃ z, z = zsi σ 0 7 s0 := ⟨_, rfl⟩
  replace hf := zbv_use eσ13 hf
  refine z_put hC hI hinX12_load_X120 tyX12_ok nmX12 0 (wM_e0 ad cy σ) rfl 7 (by decide) (List.mem_cons_of_mem _ zw10_16) rfl rfl rfl (Nat.le_of_ble_eq_true rfl) ((wM_s0_7 ad cy σ s0).trans (congrArg (wM ad cy) eσ13.symm)) dX12_load_259 (fun H locs hI => ?_)
  refine lv_aload_n hx hb dX12_load_262 rfl (lv_at hl 0 rfl) ?_
  refine lv_iconst (v := 0) hx hb dX12_load_263 (by decide) ?_
  obtain ⟨σ14, eσ14⟩ : ∃ z, z = zsi σ13 0 9 0 := ⟨_, rfl⟩
  replace hf := zbv_use eσ14 hf
  refine z_put hC hI hinX12_load_X120 tyX12_ok nmX12 0 (wM_e0 ad cy σ13) rfl 9 (by decide) (List.mem_cons_of_mem _ zw16_10) rfl rfl rfl (Nat.le_of_ble_eq_true rfl) ((wM_s0_9 ad cy σ13 0).trans (congrArg (wM ad cy) eσ14.symm)) dX12_load_264 (fun H locs hI => ?_)
  refine lv_aload_n hx hb dX12_load_267 rfl (lv_at hl 0 rfl) ?_
  refine z_get hC hI hinX12_load_X120 0 (wM_e0 ad cy σ14) rfl 8 (by decide) (List.mem_cons_of_mem _ zw9_6) rfl dX12_load_268 ?_
  refine lv_if_ge (tgt := 278) hx hb dX12_load_271 (by decide) (fun q => ?_) (fun q => ?_)
  · replace hf := zif_t q hf
    refine lv_aload_n hx hb dX12_load_278 rfl (lv_at hl 0 rfl) ?_
    refine z_get hC hI hinX12_load_X120 0 (wM_e0 ad cy σ14) rfl 4 (by decide) (List.mem_cons_of_mem _ zw9_5) rfl dX12_load_279 ?_
    refine lv_aload_n hx hb dX12_load_282 rfl (lv_at hl 0 rfl) ?_
    refine z_get hC hI hinX12_load_X120 0 (wM_e0 ad cy σ14) rfl 8 (by decide) (List.mem_cons_of_mem _ zw9_6) rfl dX12_load_283 ?_
    refine lv_bipush (v := 15) hx hb dX12_load_286 (by decide) ?_
    refine lv_iadd hx hb dX12_load_288 ?_
    obtain ⟨q, hf⟩ := zck_use hf
    refine z_bald hC hI 2 1 (wM_e2 ad cy σ14) (tM_t2 cy) q dX12_load_289 ?_
    refine lv_bipush (v := 15) hx hb dX12_load_290 (by decide) ?_
    refine lv_iand hx hb dX12_load_292 ?_
    exact bX12_load_293 hC  hI hl hf
  replace hf := zif_f q hf
  refine lv_iconst (v := 3) hx hb dX12_load_274 (by decide) ?_
  refine lv_goto (tgt := 293) hx hb dX12_load_275 (by decide) ?_
  exact bX12_load_293 hC  hI hl hf
set_option maxRecDepth 20000 in
set_option maxHeartbeats 4000000 in
theorem bX12_load_247 {st : Nat → Nat} {p : Program} {l : Launch} {e : Env} {s : State} {m : MethodId} {args : Array Value} {below : List Frame} {meth : Method} {c : Code} {D : va_G} {A : Nat → Prop} {ad : Nat → Nat} {cy : Nat → ClassId} (hC : zC p m c cX12_load 7 s args wzX12_load RX12 meth (some .int))  {res : zSt × Int32} {H : Heap} {locs : List Loc} {σ : zSt} {ls : Array Slot}  (hI : zI st D (tM cy) (wM ad cy σ) A s H locs) (hl : lv_has ls 7 [(0, .ref (ad 0))]) (hf : fX12_load_247  σ  = some res) : W p l e rmX12_load s m args below meth c H locs 0 0 (zQi below args s D (tM cy) (wM ad cy) A res) (F0 m 247 ls [.ref (ad 0)]) := by
  have hx := hC.1
  have hb := hC.2.1
  unfold fX12_load_247 at hf
  refine lv_aload_n hx hb dX12_load_247 rfl (lv_at hl 0 rfl) ?_
  refine z_get hC hI hinX12_load_X120 0 (wM_e0 ad cy σ) rfl 8 (by decide) (List.mem_cons_of_mem _ zw9_6) rfl dX12_load_248 ?_
  refine lv_if_ge (tgt := 258) hx hb dX12_load_251 (by decide) (fun q => ?_) (fun q => ?_)
  · replace hf := zif_t q hf
    refine lv_iconst (v := 1) hx hb dX12_load_258 (by decide) ?_
    exact bX12_load_259 hC  hI hl hf
  replace hf := zif_f q hf
  refine lv_iconst (v := 3) hx hb dX12_load_254 (by decide) ?_
  refine lv_goto (tgt := 259) hx hb dX12_load_255 (by decide) ?_
  exact bX12_load_259 hC  hI hl hf
set_option maxRecDepth 20000 in
set_option maxHeartbeats 4000000 in
theorem bX12_load_214 {st : Nat → Nat} {p : Program} {l : Launch} {e : Env} {s : State} {m : MethodId} {args : Array Value} {below : List Frame} {meth : Method} {c : Code} {D : va_G} {A : Nat → Prop} {ad : Nat → Nat} {cy : Nat → ClassId} (hC : zC p m c cX12_load 7 s args wzX12_load RX12 meth (some .int))  {res : zSt × Int32} {H : Heap} {locs : List Loc} {σ : zSt} {ls : Array Slot} {x3 : Int32} {s0 : Int32} (hI : zI st D (tM cy) (wM ad cy σ) A s H locs) (hl : lv_has ls 7 [(0, .ref (ad 0)), (3, .int x3)]) (hf : fX12_load_214  σ x3 s0 = some res) : W p l e rmX12_load s m args below meth c H locs 0 0 (zQi below args s D (tM cy) (wM ad cy) A res) (F0 m 214 ls [.int s0]) := by
  have hx := hC.1
  have hb := hC.2.1
  unfold fX12_load_214 at hf
  refine lv_istore (lv' := [(4, .int s0), (0, .ref (ad 0)), (3, .int x3)]) hx hb dX12_load_214 hl (by decide) rfl (fun ls hl => ?_)
  refine lv_aload_n hx hb dX12_load_216 rfl (lv_at hl 1 rfl) ?_
  refine lv_aload_n hx hb dX12_load_217 rfl (lv_at hl 1 rfl) ?_
  refine z_get hC hI hinX12_load_X120 0 (wM_e0 ad cy σ) rfl 5 (by decide) (List.mem_cons_of_mem _ zw16_6) rfl dX12_load_218 ?_
  refine lv_ldc (v := 49152) hx hb hC.2.2.2.1 (hC.2.2.2.2.1 _ (List.mem_cons_of_mem _ zw16_8)) dX12_load_221 ?_
  refine lv_icmp_gt (tgt := 230) hx hb dX12_load_223 (by decide) (fun q => ?_) (fun q => ?_)
  · replace hf := zif_t q hf
    refine lv_iload_n hx hb dX12_load_230 rfl (lv_at hl 2 rfl) ?_
    refine lv_if_le (tgt := 247) hx hb dX12_load_231 (by decide) (fun q => ?_) (fun q => ?_)
    · replace hf := zif_t q hf
      exact bX12_load_247 hC  hI (lv_sub hl [1] rfl) hf
    replace hf := zif_f q hf
    refine lv_iload_n hx hb dX12_load_234 rfl (lv_at hl 2 rfl) ?_
    refine lv_iload hx hb dX12_load_235 (lv_at hl 0 rfl) ?_
    refine lv_iadd hx hb dX12_load_237 ?_
    refine lv_ldc (v := 65536) hx hb hC.2.2.2.1 (hC.2.2.2.2.1 _ (List.mem_cons_of_mem _ zw16_9)) dX12_load_238 ?_
    refine lv_icmp_ne (tgt := 247) hx hb dX12_load_240 (by decide) (fun q => ?_) (fun q => ?_)
    · replace hf := zif_f q hf
      exact bX12_load_247 hC  hI (lv_sub hl [1] rfl) hf
    replace hf := zif_t q hf
    refine lv_iconst (v := 2) hx hb dX12_load_243 (by decide) ?_
    refine lv_goto (tgt := 259) hx hb dX12_load_244 (by decide) ?_
    exact bX12_load_259 hC  hI (lv_sub hl [1] rfl) hf
  replace hf := zif_f q hf
  refine lv_iconst (v := 0) hx hb dX12_load_226 (by decide) ?_
  refine lv_goto (tgt := 259) hx hb dX12_load_227 (by decide) ?_
  exact bX12_load_259 hC  hI (lv_sub hl [1] rfl) hf
set_option maxRecDepth 20000 in
set_option maxHeartbeats 4000000 in
theorem bX12_load_192 {st : Nat → Nat} {p : Program} {l : Launch} {e : Env} {s : State} {m : MethodId} {args : Array Value} {below : List Frame} {meth : Method} {c : Code} {D : va_G} {A : Nat → Prop} {ad : Nat → Nat} {cy : Nat → ClassId} (hC : zC p m c cX12_load 7 s args wzX12_load RX12 meth (some .int))  {res : zSt × Int32} {H : Heap} {locs : List Loc} {σ : zSt} {ls : Array Slot} {s0 : Int32} (hI : zI st D (tM cy) (wM ad cy σ) A s H locs) (hl : lv_has ls 7 [(0, .ref (ad 0))]) (hf : fX12_load_192  σ s0 = some res) : W p l e rmX12_load s m args below meth c H locs 0 0 (zQi below args s D (tM cy) (wM ad cy) A res) (F0 m 192 ls [.int s0]) := by
  have hx := hC.1
  have hb := hC.2.1
  unfold fX12_load_192 at hf
  refine lv_istore_n (lv' := [(3, .int s0), (0, .ref (ad 0))]) hx hb dX12_load_192 rfl hl (by decide) rfl (fun ls hl => ?_)
  refine lv_aload_n hx hb dX12_load_193 rfl (lv_at hl 1 rfl) ?_
  refine z_get hC hI hinX12_load_X120 0 (wM_e0 ad cy σ) rfl 5 (by decide) (List.mem_cons_of_mem _ zw16_6) rfl dX12_load_194 ?_
  refine lv_ldc (v := 49152) hx hb hC.2.2.2.1 (hC.2.2.2.2.1 _ (List.mem_cons_of_mem _ zw16_8)) dX12_load_197 ?_
  refine lv_icmp_le (tgt := 213) hx hb dX12_load_199 (by decide) (fun q => ?_) (fun q => ?_)
  · replace hf := zif_t q hf
    refine lv_iconst (v := 0) hx hb dX12_load_213 (by decide) ?_
    exact bX12_load_214 hC  hI (lv_sub hl [1, 0] rfl) hf
  replace hf := zif_f q hf
  refine lv_aload_n hx hb dX12_load_202 rfl (lv_at hl 1 rfl) ?_
  refine lv_sipush (v := 32744) hx hb dX12_load_203 (by decide) ?_
  refine lv_iconst (v := 2) hx hb dX12_load_206 (by decide) ?_
  obtain ⟨σ15, v16, g15, hf⟩ := zbi_use hf
  refine z_callVi (As := [.int 32744, .int 2]) (rest := []) hC hI (cX12_bytesAt_met st l D ad cy σ 32744 2 _ g15) (zgV zw16_17 zw16_18 zw16_19 zw1_5 zw16_20) rfl ⟨rfl, rfl⟩ 2 hdX12_bytesAt ⟨Nat.le_of_ble_eq_true rfl, Nat.le_of_ble_eq_true rfl⟩ rfl rfl (wM_e0 ad cy σ) rfl hl rfl (Nat.le_of_ble_eq_true rfl) dX12_load_207 ⟨Nat.zero_le _, Nat.zero_le _⟩ (fun H locs hI => ?_)
  refine lv_goto (tgt := 214) hx hb dX12_load_210 (by decide) ?_
  exact bX12_load_214 hC  hI (lv_sub hl [1, 0] rfl) hf
set_option maxRecDepth 20000 in
set_option maxHeartbeats 4000000 in
theorem bX12_load_142_body {st : Nat → Nat} {p : Program} {l : Launch} {e : Env} {s : State} {m : MethodId} {args : Array Value} {below : List Frame} {meth : Method} {c : Code} {D : va_G} {A : Nat → Prop} {ad : Nat → Nat} {cy : Nat → ClassId} (hC : zC p m c cX12_load 7 s args wzX12_load RX12 meth (some .int)) {k142 : zSt → Int32 → Option (zSt × Int32)} {res : zSt × Int32} (hk142 : ∀ (H : Heap) (locs : List Loc) (σ : zSt) (ls : Array Slot) (x3 : Int32), zI st D (tM cy) (wM ad cy σ) A s H locs → lv_has ls 7 [(0, .ref (ad 0)), (3, .int x3)] → k142 σ x3 = some res → W p l e rmX12_load s m args below meth c H locs 0 0 (zQi below args s D (tM cy) (wM ad cy) A res) (F0 m 142 ls [])) {H : Heap} {locs : List Loc} {σ : zSt} {ls : Array Slot} {x3 : Int32} (hI : zI st D (tM cy) (wM ad cy σ) A s H locs) (hl : lv_has ls 7 [(0, .ref (ad 0)), (3, .int x3)]) (hf : fX12_load_142_body k142 σ x3 = some res) : W p l e rmX12_load s m args below meth c H locs 0 0 (zQi below args s D (tM cy) (wM ad cy) A res) (F0 m 142 ls []) := by
  have hx := hC.1
  have hb := hC.2.1
  unfold fX12_load_142_body at hf
  refine lv_iload_n hx hb dX12_load_142 rfl (lv_at hl 1 rfl) ?_
  refine lv_ldc (v := 32768) hx hb hC.2.2.2.1 (hC.2.2.2.2.1 _ (List.mem_cons_of_mem _ zw9_10)) dX12_load_143 ?_
  refine lv_icmp_ge (tgt := 171) hx hb dX12_load_145 (by decide) (fun q => ?_) (fun q => ?_)
  · replace hf := zif_t q hf
    refine lv_aload_n hx hb dX12_load_171 rfl (lv_at hl 0 rfl) ?_
    refine z_get hC hI hinX12_load_X120 0 (wM_e0 ad cy σ) rfl 5 (by decide) (List.mem_cons_of_mem _ zw16_6) rfl dX12_load_172 ?_
    refine lv_ldc (v := 49152) hx hb hC.2.2.2.1 (hC.2.2.2.2.1 _ (List.mem_cons_of_mem _ zw16_8)) dX12_load_175 ?_
    refine lv_icmp_le (tgt := 191) hx hb dX12_load_177 (by decide) (fun q => ?_) (fun q => ?_)
    · replace hf := zif_t q hf
      refine lv_iconst (v := 0) hx hb dX12_load_191 (by decide) ?_
      exact bX12_load_192 hC  hI (lv_sub hl [0] rfl) hf
    replace hf := zif_f q hf
    refine lv_aload_n hx hb dX12_load_180 rfl (lv_at hl 0 rfl) ?_
    refine lv_sipush (v := 32742) hx hb dX12_load_181 (by decide) ?_
    refine lv_iconst (v := 2) hx hb dX12_load_184 (by decide) ?_
    obtain ⟨σ17, v18, g17, hf⟩ := zbi_use hf
    refine z_callVi (As := [.int 32742, .int 2]) (rest := []) hC hI (cX12_bytesAt_met st l D ad cy σ 32742 2 _ g17) (zgV zw16_17 zw16_18 zw16_19 zw1_5 zw16_20) rfl ⟨rfl, rfl⟩ 2 hdX12_bytesAt ⟨Nat.le_of_ble_eq_true rfl, Nat.le_of_ble_eq_true rfl⟩ rfl rfl (wM_e0 ad cy σ) rfl hl rfl (Nat.le_of_ble_eq_true rfl) dX12_load_185 ⟨Nat.zero_le _, Nat.zero_le _⟩ (fun H locs hI => ?_)
    refine lv_goto (tgt := 192) hx hb dX12_load_188 (by decide) ?_
    exact bX12_load_192 hC  hI (lv_sub hl [0] rfl) hf
  replace hf := zif_f q hf
  refine lv_aload_n hx hb dX12_load_148 rfl (lv_at hl 0 rfl) ?_
  refine lv_iload_n hx hb dX12_load_149 rfl (lv_at hl 1 rfl) ?_
  obtain ⟨σ19, v20, g19, hf⟩ := zbi_use hf
  refine z_callVi (As := [.int x3]) (rest := []) hC hI (cX12_isHeader_met st l D ad cy σ x3 _ g19) (zgV zw16_13 zw16_14 zw16_15 zw1_5 zw16_16) rfl ⟨rfl, rfl⟩ 1 hdX12_isHeader ⟨Nat.le_of_ble_eq_true rfl, Nat.le_of_ble_eq_true rfl⟩ rfl rfl (wM_e0 ad cy σ) rfl hl rfl (Nat.le_of_ble_eq_true rfl) dX12_load_150 ⟨Nat.zero_le _, Nat.zero_le _⟩ (fun H locs hI => ?_)
  refine lv_if_eq (tgt := 161) hx hb dX12_load_153 (by decide) (fun q => ?_) (fun q => ?_)
  · replace hf := zif_t q hf
    exact bX12_load_161 hC hk142 hI hl hf
  replace hf := zif_f q hf
  refine lv_aload_n hx hb dX12_load_156 rfl (lv_at hl 0 rfl) ?_
  refine lv_iload_n hx hb dX12_load_157 rfl (lv_at hl 1 rfl) ?_
  obtain ⟨σ21, eσ21⟩ : ∃ z, z = zsi σ19 0 8 x3 := ⟨_, rfl⟩
  replace hf := zbv_use eσ21 hf
  refine z_put hC hI hinX12_load_X120 tyX12_ok nmX12 0 (wM_e0 ad cy σ19) rfl 8 (by decide) (List.mem_cons_of_mem _ zw9_6) rfl rfl rfl (Nat.le_of_ble_eq_true rfl) ((wM_s0_8 ad cy σ19 x3).trans (congrArg (wM ad cy) eσ21.symm)) dX12_load_158 (fun H locs hI => ?_)
  exact bX12_load_161 hC hk142 hI hl hf
theorem blX12_load_142 {st : Nat → Nat} {p : Program} {l : Launch} {e : Env} {s : State} {m : MethodId} {args : Array Value} {below : List Frame} {meth : Method} {c : Code} {D : va_G} {A : Nat → Prop} {ad : Nat → Nat} {cy : Nat → ClassId} (hC : zC p m c cX12_load 7 s args wzX12_load RX12 meth (some .int))  {res : zSt × Int32} : ∀ (n : Nat) (H : Heap) (locs : List Loc) (σ : zSt) (ls : Array Slot) (x3 : Int32), zI st D (tM cy) (wM ad cy σ) A s H locs → lv_has ls 7 [(0, .ref (ad 0)), (3, .int x3)] → fX12_load_142  n σ x3 = some res → W p l e rmX12_load s m args below meth c H locs 0 0 (zQi below args s D (tM cy) (wM ad cy) A res) (F0 m 142 ls []) := by
  intro n
  induction n with
  | zero => intro H locs σ ls x3 hI hl hf; cases hf
  | succ n ih => intro H locs σ ls x3 hI hl hf; exact bX12_load_142_body hC ih hI hl hf
set_option maxRecDepth 20000 in
set_option maxHeartbeats 4000000 in
theorem bX12_load_89_body {st : Nat → Nat} {p : Program} {l : Launch} {e : Env} {s : State} {m : MethodId} {args : Array Value} {below : List Frame} {meth : Method} {c : Code} {D : va_G} {A : Nat → Prop} {ad : Nat → Nat} {cy : Nat → ClassId} (hC : zC p m c cX12_load 7 s args wzX12_load RX12 meth (some .int)) {k89 : zSt → Int32 → Int32 → Option (zSt × Int32)} {res : zSt × Int32} (hk89 : ∀ (H : Heap) (locs : List Loc) (σ : zSt) (ls : Array Slot) (x1 : Int32) (x3 : Int32), zI st D (tM cy) (wM ad cy σ) A s H locs → lv_has ls 7 [(0, .ref (ad 0)), (1, .int x1), (3, .int x3)] → k89 σ x1 x3 = some res → W p l e rmX12_load s m args below meth c H locs 0 0 (zQi below args s D (tM cy) (wM ad cy) A res) (F0 m 89 ls [])) {H : Heap} {locs : List Loc} {σ : zSt} {ls : Array Slot} {x1 : Int32} {x3 : Int32} (hI : zI st D (tM cy) (wM ad cy σ) A s H locs) (hl : lv_has ls 7 [(0, .ref (ad 0)), (1, .int x1), (3, .int x3)]) (hf : fX12_load_89_body k89 σ x1 x3 = some res) : W p l e rmX12_load s m args below meth c H locs 0 0 (zQi below args s D (tM cy) (wM ad cy) A res) (F0 m 89 ls []) := by
  have hx := hC.1
  have hb := hC.2.1
  unfold fX12_load_89_body at hf
  refine lv_iload_n hx hb dX12_load_89 rfl (lv_at hl 2 rfl) ?_
  refine lv_sipush (v := 16384) hx hb dX12_load_90 (by decide) ?_
  refine lv_aload_n hx hb dX12_load_93 rfl (lv_at hl 0 rfl) ?_
  refine z_get hC hI hinX12_load_X120 0 (wM_e0 ad cy σ) rfl 6 (by decide) (List.mem_cons_of_mem _ zw16_7) rfl dX12_load_94 ?_
  refine lv_imul hx hb dX12_load_97 ?_
  refine lv_icmp_ge (tgt := 133) hx hb dX12_load_98 (by decide) (fun q => ?_) (fun q => ?_)
  · replace hf := zif_t q hf
    refine lv_aload_n hx hb dX12_load_133 rfl (lv_at hl 0 rfl) ?_
    refine lv_iconst (v := (-1)) hx hb dX12_load_134 (by decide) ?_
    obtain ⟨σ22, eσ22⟩ : ∃ z, z = zsi σ 0 8 (-1) := ⟨_, rfl⟩
    replace hf := zbv_use eσ22 hf
    refine z_put hC hI hinX12_load_X120 tyX12_ok nmX12 0 (wM_e0 ad cy σ) rfl 8 (by decide) (List.mem_cons_of_mem _ zw9_6) rfl rfl rfl (Nat.le_of_ble_eq_true rfl) ((wM_s0_8 ad cy σ (-1)).trans (congrArg (wM ad cy) eσ22.symm)) dX12_load_135 (fun H locs hI => ?_)
    refine lv_sipush (v := 8176) hx hb dX12_load_138 (by decide) ?_
    refine lv_istore_n (lv' := [(3, .int 8176), (0, .ref (ad 0)), (1, .int x1)]) hx hb dX12_load_141 rfl hl (by decide) rfl (fun ls hl => ?_)
    exact blX12_load_142 hC  zfuel _ _ _ _ _ hI (lv_sub hl [1, 0] rfl) hf
  replace hf := zif_f q hf
  refine lv_aload_n hx hb dX12_load_101 rfl (lv_at hl 0 rfl) ?_
  refine z_get hC hI hinX12_load_X120 0 (wM_e0 ad cy σ) rfl 4 (by decide) (List.mem_cons_of_mem _ zw9_5) rfl dX12_load_102 ?_
  refine lv_iload_n hx hb dX12_load_105 rfl (lv_at hl 2 rfl) ?_
  refine lv_iload_n hx hb dX12_load_106 rfl (lv_at hl 2 rfl) ?_
  refine lv_aload_n hx hb dX12_load_107 rfl (lv_at hl 0 rfl) ?_
  refine z_get hC hI hinX12_load_X120 0 (wM_e0 ad cy σ) rfl 5 (by decide) (List.mem_cons_of_mem _ zw16_6) rfl dX12_load_108 ?_
  refine lv_icmp_ge (tgt := 125) hx hb dX12_load_111 (by decide) (fun q => ?_) (fun q => ?_)
  · replace hf := zif_t q hf
    refine lv_iconst (v := (-1)) hx hb dX12_load_125 (by decide) ?_
    exact bX12_load_126 hC hk89 hI hl hf
  replace hf := zif_f q hf
  refine lv_aload_n hx hb dX12_load_114 rfl (lv_at hl 0 rfl) ?_
  refine z_get hC hI hinX12_load_X120 0 (wM_e0 ad cy σ) rfl 1 (by decide) (List.mem_cons_of_mem _ zw9_3) rfl dX12_load_115 ?_
  refine lv_iload_n hx hb dX12_load_118 rfl (lv_at hl 1 rfl) ?_
  refine lv_iload_n hx hb dX12_load_119 rfl (lv_at hl 2 rfl) ?_
  refine lv_iadd hx hb dX12_load_120 ?_
  obtain ⟨q, hf⟩ := zck_use hf
  refine z_bald hC hI 1 0 (wM_e1 ad cy σ) (tM_t1 cy) q dX12_load_121 ?_
  refine lv_goto (tgt := 126) hx hb dX12_load_122 (by decide) ?_
  exact bX12_load_126 hC hk89 hI hl hf
theorem blX12_load_89 {st : Nat → Nat} {p : Program} {l : Launch} {e : Env} {s : State} {m : MethodId} {args : Array Value} {below : List Frame} {meth : Method} {c : Code} {D : va_G} {A : Nat → Prop} {ad : Nat → Nat} {cy : Nat → ClassId} (hC : zC p m c cX12_load 7 s args wzX12_load RX12 meth (some .int))  {res : zSt × Int32} : ∀ (n : Nat) (H : Heap) (locs : List Loc) (σ : zSt) (ls : Array Slot) (x1 : Int32) (x3 : Int32), zI st D (tM cy) (wM ad cy σ) A s H locs → lv_has ls 7 [(0, .ref (ad 0)), (1, .int x1), (3, .int x3)] → fX12_load_89  n σ x1 x3 = some res → W p l e rmX12_load s m args below meth c H locs 0 0 (zQi below args s D (tM cy) (wM ad cy) A res) (F0 m 89 ls []) := by
  intro n
  induction n with
  | zero => intro H locs σ ls x1 x3 hI hl hf; cases hf
  | succ n ih => intro H locs σ ls x1 x3 hI hl hf; exact bX12_load_89_body hC ih hI hl hf
set_option maxRecDepth 20000 in
set_option maxHeartbeats 4000000 in
theorem bX12_load_26 {st : Nat → Nat} {p : Program} {l : Launch} {e : Env} {s : State} {m : MethodId} {args : Array Value} {below : List Frame} {meth : Method} {c : Code} {D : va_G} {A : Nat → Prop} {ad : Nat → Nat} {cy : Nat → ClassId} (hC : zC p m c cX12_load 7 s args wzX12_load RX12 meth (some .int))  {res : zSt × Int32} {H : Heap} {locs : List Loc} {σ : zSt} {ls : Array Slot} {s0 : Int32} (hI : zI st D (tM cy) (wM ad cy σ) A s H locs) (hl : lv_has ls 7 [(0, .ref (ad 0))]) (hf : fX12_load_26  σ s0 = some res) : W p l e rmX12_load s m args below meth c H locs 0 0 (zQi below args s D (tM cy) (wM ad cy) A res) (F0 m 26 ls [.int s0]) := by
  have hx := hC.1
  have hb := hC.2.1
  unfold fX12_load_26 at hf
  refine lv_istore_n (lv' := [(1, .int s0), (0, .ref (ad 0))]) hx hb dX12_load_26 rfl hl (by decide) rfl (fun ls hl => ?_)
  refine lv_aload_n hx hb dX12_load_27 rfl (lv_at hl 1 rfl) ?_
  refine z_get hC hI hinX12_load_X120 0 (wM_e0 ad cy σ) rfl 2 (by decide) (List.mem_cons_of_mem _ zw11_17) rfl dX12_load_28 ?_
  refine lv_iload_n hx hb dX12_load_31 rfl (lv_at hl 0 rfl) ?_
  refine lv_isub hx hb dX12_load_32 ?_
  refine lv_topi (fun v23 ev23 => ?_)
  replace hf := zbv_use ev23 hf
  refine lv_istore_n (lv' := [(2, .int v23), (1, .int s0), (0, .ref (ad 0))]) hx hb dX12_load_33 rfl hl (by decide) rfl (fun ls hl => ?_)
  refine lv_aload_n hx hb dX12_load_34 rfl (lv_at hl 2 rfl) ?_
  refine lv_iconst (v := 0) hx hb dX12_load_35 (by decide) ?_
  obtain ⟨σ24, eσ24⟩ : ∃ z, z = zsi σ 0 2 0 := ⟨_, rfl⟩
  replace hf := zbv_use eσ24 hf
  refine z_put hC hI hinX12_load_X120 tyX12_ok nmX12 0 (wM_e0 ad cy σ) rfl 2 (by decide) (List.mem_cons_of_mem _ zw11_17) rfl rfl rfl (Nat.le_of_ble_eq_true rfl) ((wM_s0_2 ad cy σ 0).trans (congrArg (wM ad cy) eσ24.symm)) dX12_load_36 (fun H locs hI => ?_)
  refine lv_iload_n hx hb dX12_load_39 rfl (lv_at hl 0 rfl) ?_
  refine lv_sipush (v := 8192) hx hb dX12_load_40 (by decide) ?_
  refine lv_icmp_ge (tgt := 48) hx hb dX12_load_43 (by decide) (fun q => ?_) (fun q => ?_)
  · replace hf := zif_t q hf
    refine lv_iload_n hx hb dX12_load_48 rfl (lv_at hl 0 rfl) ?_
    refine lv_sipush (v := 8192) hx hb dX12_load_49 (by decide) ?_
    obtain ⟨q, hf⟩ := zck_use hf
    refine z_irem hx hb dX12_load_52 (of_decide_eq_true q) ?_
    refine lv_if_eq (tgt := 58) hx hb dX12_load_53 (by decide) (fun q => ?_) (fun q => ?_)
    · replace hf := zif_t q hf
      refine lv_iload_n hx hb dX12_load_58 rfl (lv_at hl 0 rfl) ?_
      refine lv_ldc (v := 262144) hx hb hC.2.2.2.1 (hC.2.2.2.2.1 _ (List.mem_cons_of_mem _ zw9_4)) dX12_load_59 ?_
      refine lv_icmp_le (tgt := 66) hx hb dX12_load_61 (by decide) (fun q => ?_) (fun q => ?_)
      · replace hf := zif_t q hf
        refine lv_aload_n hx hb dX12_load_66 rfl (lv_at hl 2 rfl) ?_
        refine lv_iload_n hx hb dX12_load_67 rfl (lv_at hl 0 rfl) ?_
        obtain ⟨σ25, eσ25⟩ : ∃ z, z = zsi σ24 0 5 v23 := ⟨_, rfl⟩
        replace hf := zbv_use eσ25 hf
        refine z_put hC hI hinX12_load_X120 tyX12_ok nmX12 0 (wM_e0 ad cy σ24) rfl 5 (by decide) (List.mem_cons_of_mem _ zw16_6) rfl rfl rfl (Nat.le_of_ble_eq_true rfl) ((wM_s0_5 ad cy σ24 v23).trans (congrArg (wM ad cy) eσ25.symm)) dX12_load_68 (fun H locs hI => ?_)
        refine lv_aload_n hx hb dX12_load_71 rfl (lv_at hl 2 rfl) ?_
        refine lv_aload_n hx hb dX12_load_72 rfl (lv_at hl 2 rfl) ?_
        refine z_get hC hI hinX12_load_X120 0 (wM_e0 ad cy σ25) rfl 5 (by decide) (List.mem_cons_of_mem _ zw16_6) rfl dX12_load_73 ?_
        refine lv_sipush (v := 16383) hx hb dX12_load_76 (by decide) ?_
        refine lv_iadd hx hb dX12_load_79 ?_
        refine lv_sipush (v := 16384) hx hb dX12_load_80 (by decide) ?_
        obtain ⟨q, hf⟩ := zck_use hf
        refine lv_idiv hx hb dX12_load_83 (of_decide_eq_true q) ?_
        obtain ⟨σ26, eσ26⟩ : ∃ z, z = zsi σ25 0 6 (((zgi σ25 0 5) + 16383) / 16384) := ⟨_, rfl⟩
        replace hf := zbv_use eσ26 hf
        refine z_put hC hI hinX12_load_X120 tyX12_ok nmX12 0 (wM_e0 ad cy σ25) rfl 6 (by decide) (List.mem_cons_of_mem _ zw16_7) rfl rfl rfl (Nat.le_of_ble_eq_true rfl) ((wM_s0_6 ad cy σ25 (((zgi σ25 0 5) + 16383) / 16384)).trans (congrArg (wM ad cy) eσ26.symm)) dX12_load_84 (fun H locs hI => ?_)
        refine lv_iconst (v := 0) hx hb dX12_load_87 (by decide) ?_
        refine lv_istore_n (lv' := [(3, .int 0), (2, .int v23), (1, .int s0), (0, .ref (ad 0))]) hx hb dX12_load_88 rfl hl (by decide) rfl (fun ls hl => ?_)
        exact blX12_load_89 hC  zfuel _ _ _ _ _ _ hI (lv_sub hl [3, 2, 0] rfl) hf
      replace hf := zif_f q hf
      refine lv_iconst (v := 3) hx hb dX12_load_64 (by decide) ?_
      exact z_ireturn hC hI hf dX12_load_65
    replace hf := zif_f q hf
    refine lv_iconst (v := 2) hx hb dX12_load_56 (by decide) ?_
    exact z_ireturn hC hI hf dX12_load_57
  replace hf := zif_f q hf
  refine lv_iconst (v := 1) hx hb dX12_load_46 (by decide) ?_
  exact z_ireturn hC hI hf dX12_load_47
set_option maxRecDepth 20000 in
set_option maxHeartbeats 4000000 in
theorem bX12_load {st : Nat → Nat} {p : Program} {l : Launch} {e : Env} {s : State} {m : MethodId} {args : Array Value} {below : List Frame} {meth : Method} {c : Code} {D : va_G} {A : Nat → Prop} {ad : Nat → Nat} {cy : Nat → ClassId} (hC : zC p m c cX12_load 7 s args wzX12_load RX12 meth (some .int))  {res : zSt × Int32} {H : Heap} {locs : List Loc} {σ : zSt} {ls : Array Slot}  (hI : zI st D (tM cy) (wM ad cy σ) A s H locs) (hl : lv_has ls 7 [(0, .ref (ad 0))]) (hf : fX12_load  σ  = some res) : W p l e rmX12_load s m args below meth c H locs 0 0 (zQi below args s D (tM cy) (wM ad cy) A res) (F0 m 0 ls []) := by
  have hx := hC.1
  have hb := hC.2.1
  unfold fX12_load at hf
  refine lv_aload_n hx hb dX12_load_0 rfl (lv_at hl 0 rfl) ?_
  refine lv_iconst (v := 0) hx hb dX12_load_1 (by decide) ?_
  obtain ⟨σ27, eσ27⟩ : ∃ z, z = zsi σ 0 0 0 := ⟨_, rfl⟩
  replace hf := zbv_use eσ27 hf
  refine z_put hC hI hinX12_load_X120 tyX12_ok nmX12 0 (wM_e0 ad cy σ) rfl 0 (by decide) (List.mem_cons_of_mem _ zw12_1) rfl rfl rfl (Nat.le_of_ble_eq_true rfl) ((wM_s0_0 ad cy σ 0).trans (congrArg (wM ad cy) eσ27.symm)) dX12_load_2 (fun H locs hI => ?_)
  refine lv_aload_n hx hb dX12_load_5 rfl (lv_at hl 0 rfl) ?_
  refine z_get hC hI hinX12_load_X120 0 (wM_e0 ad cy σ27) rfl 2 (by decide) (List.mem_cons_of_mem _ zw11_17) rfl dX12_load_6 ?_
  refine lv_sipush (v := 16384) hx hb dX12_load_9 (by decide) ?_
  obtain ⟨q, hf⟩ := zck_use hf
  refine z_irem hx hb dX12_load_12 (of_decide_eq_true q) ?_
  refine lv_sipush (v := 512) hx hb dX12_load_13 (by decide) ?_
  refine lv_icmp_ne (tgt := 25) hx hb dX12_load_16 (by decide) (fun q => ?_) (fun q => ?_)
  · replace hf := zif_f q hf
    refine lv_iconst (v := 0) hx hb dX12_load_25 (by decide) ?_
    exact bX12_load_26 hC  hI hl hf
  replace hf := zif_t q hf
  refine lv_sipush (v := 512) hx hb dX12_load_19 (by decide) ?_
  refine lv_goto (tgt := 26) hx hb dX12_load_22 (by decide) ?_
  exact bX12_load_26 hC  hI hl hf
set_option maxRecDepth 20000 in
theorem cX12_load_met (st : Nat → Nat) (l : Launch) (D : va_G) (ad : Nat → Nat) (cy : Nat → ClassId) (σ : zSt)  (res : zSt × Int32) (hf : fX12_load σ  = some res) (sz : Nat) : zMi st l yX12_load wzX12_load rmX12_load [.ref (ad 0)] D (tM cy) (wM ad cy) sz σ res :=
  zMi.of (cc := cX12_load) (maxL := 7) (ret := (some .int)) (by decide) rfl (Nat.le_of_ble_eq_true rfl) (fun p e s m args below meth c hC A hI ls hl => bX12_load hC hI hl hf)
theorem hdX12_load : yX12_load.cls = RX12 ∧ yX12_load.cls ≠ "java/lang/invoke/MethodHandle" ∧ yX12_load.cls ≠ "java/lang/invoke/VarHandle" ∧ (parseMethodDescriptor yX12_load.desc).map (fun d => d.parameters.length) = some 0 := by decide +kernel
noncomputable def rmX12_tens : Room := { frames := 0, cells := 0, slots := 0, locals := 0 }
noncomputable def wzX12_tens : List Cond := .code yX12_tens cX12_tens 2 (some .int) :: wsL_law
theorem hinX12_tens_X120 : ∀ w ∈ wsX120, w ∈ wzX12_tens := fun w h => List.mem_cons_of_mem _ (inlX12 w h)
noncomputable def fX12_tens  (σ : zSt) (x1 : Int32) : Option (zSt × Int32) :=
  zck (zin x1 262144) (
  zck (zin x1 262144) (
  some (σ, (10 * (((zgi σ 2 x1.toNatClampNeg) >>> ((4 : Int32) &&& 31)) &&& 15)) + ((zgi σ 2 x1.toNatClampNeg) &&& 15))))
set_option maxRecDepth 20000 in
set_option maxHeartbeats 4000000 in
theorem bX12_tens {st : Nat → Nat} {p : Program} {l : Launch} {e : Env} {s : State} {m : MethodId} {args : Array Value} {below : List Frame} {meth : Method} {c : Code} {D : va_G} {A : Nat → Prop} {ad : Nat → Nat} {cy : Nat → ClassId} (hC : zC p m c cX12_tens 2 s args wzX12_tens RX12 meth (some .int))  {res : zSt × Int32} {H : Heap} {locs : List Loc} {σ : zSt} {ls : Array Slot} {x1 : Int32} (hI : zI st D (tM cy) (wM ad cy σ) A s H locs) (hl : lv_has ls 2 [(0, .ref (ad 0)), (1, .int x1)]) (hf : fX12_tens  σ x1 = some res) : W p l e rmX12_tens s m args below meth c H locs 0 0 (zQi below args s D (tM cy) (wM ad cy) A res) (F0 m 0 ls []) := by
  have hx := hC.1
  have hb := hC.2.1
  unfold fX12_tens at hf
  refine lv_bipush (v := 10) hx hb dX12_tens_0 (by decide) ?_
  refine lv_aload_n hx hb dX12_tens_2 rfl (lv_at hl 0 rfl) ?_
  refine z_get hC hI hinX12_tens_X120 0 (wM_e0 ad cy σ) rfl 4 (by decide) (List.mem_cons_of_mem _ zw9_5) rfl dX12_tens_3 ?_
  refine lv_iload_n hx hb dX12_tens_6 rfl (lv_at hl 1 rfl) ?_
  obtain ⟨q, hf⟩ := zck_use hf
  refine z_bald hC hI 2 1 (wM_e2 ad cy σ) (tM_t2 cy) q dX12_tens_7 ?_
  refine lv_iconst (v := 4) hx hb dX12_tens_8 (by decide) ?_
  refine lv_ishr hx hb dX12_tens_9 ?_
  refine lv_bipush (v := 15) hx hb dX12_tens_10 (by decide) ?_
  refine lv_iand hx hb dX12_tens_12 ?_
  refine lv_imul hx hb dX12_tens_13 ?_
  refine lv_aload_n hx hb dX12_tens_14 rfl (lv_at hl 0 rfl) ?_
  refine z_get hC hI hinX12_tens_X120 0 (wM_e0 ad cy σ) rfl 4 (by decide) (List.mem_cons_of_mem _ zw9_5) rfl dX12_tens_15 ?_
  refine lv_iload_n hx hb dX12_tens_18 rfl (lv_at hl 1 rfl) ?_
  obtain ⟨q, hf⟩ := zck_use hf
  refine z_bald hC hI 2 1 (wM_e2 ad cy σ) (tM_t2 cy) q dX12_tens_19 ?_
  refine lv_bipush (v := 15) hx hb dX12_tens_20 (by decide) ?_
  refine lv_iand hx hb dX12_tens_22 ?_
  refine lv_iadd hx hb dX12_tens_23 ?_
  exact z_ireturn hC hI hf dX12_tens_24
set_option maxRecDepth 20000 in
theorem cX12_tens_met (st : Nat → Nat) (l : Launch) (D : va_G) (ad : Nat → Nat) (cy : Nat → ClassId) (σ : zSt) (x1 : Int32) (res : zSt × Int32) (hf : fX12_tens σ x1 = some res) (sz : Nat) : zMi st l yX12_tens wzX12_tens rmX12_tens [.ref (ad 0), .int x1] D (tM cy) (wM ad cy) sz σ res :=
  zMi.of (cc := cX12_tens) (maxL := 2) (ret := (some .int)) (by decide) rfl (Nat.le_of_ble_eq_true rfl) (fun p e s m args below meth c hC A hI ls hl => bX12_tens hC hI hl hf)
theorem hdX12_tens : yX12_tens.cls = RX12 ∧ yX12_tens.cls ≠ "java/lang/invoke/MethodHandle" ∧ yX12_tens.cls ≠ "java/lang/invoke/VarHandle" ∧ (parseMethodDescriptor yX12_tens.desc).map (fun d => d.parameters.length) = some 1 := by decide +kernel
noncomputable def rmX12_card : Room := { frames := 1, cells := 0, slots := 0, locals := 25 }
noncomputable def wzX12_card : List Cond := .code yX12_card cX12_card 2 (some .int) :: wsL_law
theorem hinX12_card_X120 : ∀ w ∈ wsX120, w ∈ wzX12_card := fun w h => List.mem_cons_of_mem _ (inlX12 w h)
noncomputable def fX12_card_59  (σ : zSt) (s0 : Int32) : Option (zSt × Int32) :=
  some (σ, s0)
noncomputable def fX12_card_18  (σ : zSt) (x1 : Int32) (s0 : Int32) : Option (zSt × Int32) :=
  zbi (fX12_fails σ s0 1) (fun σ1 v2 =>
  if v2 = 0 then if 3 ≤ x1 then if 0 ≤ (zgi σ1 0 8) then if x1 = 3 then zbi (fX12_tens σ1 ((zgi σ1 0 8) + 12)) (fun σ3 v4 =>
  zbi (fX12_tens σ3 ((zgi σ3 0 8) + 13)) (fun σ5 v6 =>
  zck (zin ((zgi σ5 0 8) + 14) 262144) (
  some (σ5, (v4 + (100 * v6)) + (10000 * (((zgi σ5 2 ((zgi σ5 0 8) + 14).toNatClampNeg) >>> ((4 : Int32) &&& 31)) &&& 15)))))) else
  if x1 = 4 then zck (zin ((zgi σ1 0 8) + 15) 262144) (
  some (σ1, ((zgi σ1 2 ((zgi σ1 0 8) + 15).toNatClampNeg) >>> ((4 : Int32) &&& 31)) &&& 15)) else
  if x1 = 5 then zck (zin ((zgi σ1 0 8) + 15) 262144) (
  some (σ1, (zgi σ1 2 ((zgi σ1 0 8) + 15).toNatClampNeg) &&& 15)) else
  if x1 = 6 then zbi (fX12_bytesAt σ1 ((zgi σ1 0 8) + 10) 2) (fun σ7 v8 =>
  some (σ7, v8)) else
  some (σ1, zgi σ1 0 9) else
  some (σ1, 0) else
  if x1 = 0 then fX12_card_59 σ1 (zgi σ1 0 7) else
  if x1 = 1 then fX12_card_59 σ1 (zgi σ1 0 6) else
  fX12_card_59 σ1 (zgi σ1 0 8) else
  some (σ1, 0))
noncomputable def fX12_card  (σ : zSt) (x1 : Int32) : Option (zSt × Int32) :=
  zbi (fX12_within σ (x1.toInt64) 0 7) (fun σ9 v10 =>
  if v10 = 0 then fX12_card_18 σ9 x1 1 else
  fX12_card_18 σ9 x1 0)
set_option maxRecDepth 20000 in
set_option maxHeartbeats 4000000 in
theorem bX12_card_59 {st : Nat → Nat} {p : Program} {l : Launch} {e : Env} {s : State} {m : MethodId} {args : Array Value} {below : List Frame} {meth : Method} {c : Code} {D : va_G} {A : Nat → Prop} {ad : Nat → Nat} {cy : Nat → ClassId} (hC : zC p m c cX12_card 2 s args wzX12_card RX12 meth (some .int))  {res : zSt × Int32} {H : Heap} {locs : List Loc} {σ : zSt} {ls : Array Slot} {s0 : Int32} (hI : zI st D (tM cy) (wM ad cy σ) A s H locs) (hl : lv_has ls 2 []) (hf : fX12_card_59  σ s0 = some res) : W p l e rmX12_card s m args below meth c H locs 0 0 (zQi below args s D (tM cy) (wM ad cy) A res) (F0 m 59 ls [.int s0]) := by
  have hx := hC.1
  have hb := hC.2.1
  unfold fX12_card_59 at hf
  exact z_ireturn hC hI hf dX12_card_59
set_option maxRecDepth 20000 in
set_option maxHeartbeats 4000000 in
theorem bX12_card_18 {st : Nat → Nat} {p : Program} {l : Launch} {e : Env} {s : State} {m : MethodId} {args : Array Value} {below : List Frame} {meth : Method} {c : Code} {D : va_G} {A : Nat → Prop} {ad : Nat → Nat} {cy : Nat → ClassId} (hC : zC p m c cX12_card 2 s args wzX12_card RX12 meth (some .int))  {res : zSt × Int32} {H : Heap} {locs : List Loc} {σ : zSt} {ls : Array Slot} {x1 : Int32} {s0 : Int32} (hI : zI st D (tM cy) (wM ad cy σ) A s H locs) (hl : lv_has ls 2 [(0, .ref (ad 0)), (1, .int x1)]) (hf : fX12_card_18  σ x1 s0 = some res) : W p l e rmX12_card s m args below meth c H locs 0 0 (zQi below args s D (tM cy) (wM ad cy) A res) (F0 m 18 ls [.int s0, .ref (ad 0)]) := by
  have hx := hC.1
  have hb := hC.2.1
  unfold fX12_card_18 at hf
  refine lv_iconst (v := 1) hx hb dX12_card_18 (by decide) ?_
  obtain ⟨σ1, v2, g1, hf⟩ := zbi_use hf
  refine z_callVi (As := [.int s0, .int 1]) (rest := []) hC hI (cX12_fails_met st l D ad cy σ s0 1 _ g1) (zgV zw11_21 zw11_22 zw11_23 zw1_5 zw12_0) rfl ⟨rfl, rfl⟩ 2 hdX12_fails ⟨Nat.le_of_ble_eq_true rfl, Nat.le_of_ble_eq_true rfl⟩ rfl rfl (wM_e0 ad cy σ) rfl hl rfl (Nat.le_of_ble_eq_true rfl) dX12_card_19 ⟨Nat.zero_le _, Nat.zero_le _⟩ (fun H locs hI => ?_)
  refine lv_if_eq (tgt := 27) hx hb dX12_card_22 (by decide) (fun q => ?_) (fun q => ?_)
  · replace hf := zif_t q hf
    refine lv_iload_n hx hb dX12_card_27 rfl (lv_at hl 1 rfl) ?_
    refine lv_iconst (v := 3) hx hb dX12_card_28 (by decide) ?_
    refine lv_icmp_ge (tgt := 60) hx hb dX12_card_29 (by decide) (fun q => ?_) (fun q => ?_)
    · replace hf := zif_t q hf
      refine lv_aload_n hx hb dX12_card_60 rfl (lv_at hl 0 rfl) ?_
      refine z_get hC hI hinX12_card_X120 0 (wM_e0 ad cy σ1) rfl 8 (by decide) (List.mem_cons_of_mem _ zw9_6) rfl dX12_card_61 ?_
      refine lv_if_ge (tgt := 69) hx hb dX12_card_64 (by decide) (fun q => ?_) (fun q => ?_)
      · replace hf := zif_t q hf
        refine lv_iload_n hx hb dX12_card_69 rfl (lv_at hl 1 rfl) ?_
        by_cases q0 : x1 = 3
        · replace hf := zif_t q0 hf
          refine lv_tableIn (tgt := 100) hx hb dX12_card_70 (by rw [q0]; decide) (by rw [q0]; decide) (by rw [q0]; rfl) (by decide) ?_
          refine lv_aload_n hx hb dX12_card_100 rfl (lv_at hl 0 rfl) ?_
          refine lv_aload_n hx hb dX12_card_101 rfl (lv_at hl 0 rfl) ?_
          refine z_get hC hI hinX12_card_X120 0 (wM_e0 ad cy σ1) rfl 8 (by decide) (List.mem_cons_of_mem _ zw9_6) rfl dX12_card_102 ?_
          refine lv_bipush (v := 12) hx hb dX12_card_105 (by decide) ?_
          refine lv_iadd hx hb dX12_card_107 ?_
          obtain ⟨σ3, v4, g3, hf⟩ := zbi_use hf
          refine z_callVi (As := [.int ((zgi σ1 0 8) + 12)]) (rest := []) hC hI (cX12_tens_met st l D ad cy σ1 ((zgi σ1 0 8) + 12) _ g3) (zgV zw17_22 zw17_23 zw18_0 zw1_5 zw18_1) rfl ⟨rfl, rfl⟩ 1 hdX12_tens ⟨Nat.le_of_ble_eq_true rfl, Nat.le_of_ble_eq_true rfl⟩ rfl rfl (wM_e0 ad cy σ1) rfl hl rfl (Nat.le_of_ble_eq_true rfl) dX12_card_108 ⟨Nat.zero_le _, Nat.zero_le _⟩ (fun H locs hI => ?_)
          refine lv_bipush (v := 100) hx hb dX12_card_111 (by decide) ?_
          refine lv_aload_n hx hb dX12_card_113 rfl (lv_at hl 0 rfl) ?_
          refine lv_aload_n hx hb dX12_card_114 rfl (lv_at hl 0 rfl) ?_
          refine z_get hC hI hinX12_card_X120 0 (wM_e0 ad cy σ3) rfl 8 (by decide) (List.mem_cons_of_mem _ zw9_6) rfl dX12_card_115 ?_
          refine lv_bipush (v := 13) hx hb dX12_card_118 (by decide) ?_
          refine lv_iadd hx hb dX12_card_120 ?_
          obtain ⟨σ5, v6, g5, hf⟩ := zbi_use hf
          refine z_callVi (As := [.int ((zgi σ3 0 8) + 13)]) (rest := [.int 100, .int v4]) hC hI (cX12_tens_met st l D ad cy σ3 ((zgi σ3 0 8) + 13) _ g5) (zgV zw17_22 zw17_23 zw18_0 zw1_5 zw18_1) rfl ⟨rfl, rfl⟩ 1 hdX12_tens ⟨Nat.le_of_ble_eq_true rfl, Nat.le_of_ble_eq_true rfl⟩ rfl rfl (wM_e0 ad cy σ3) rfl hl rfl (Nat.le_of_ble_eq_true rfl) dX12_card_121 ⟨Nat.zero_le _, Nat.zero_le _⟩ (fun H locs hI => ?_)
          refine lv_imul hx hb dX12_card_124 ?_
          refine lv_iadd hx hb dX12_card_125 ?_
          refine lv_sipush (v := 10000) hx hb dX12_card_126 (by decide) ?_
          refine lv_aload_n hx hb dX12_card_129 rfl (lv_at hl 0 rfl) ?_
          refine z_get hC hI hinX12_card_X120 0 (wM_e0 ad cy σ5) rfl 4 (by decide) (List.mem_cons_of_mem _ zw9_5) rfl dX12_card_130 ?_
          refine lv_aload_n hx hb dX12_card_133 rfl (lv_at hl 0 rfl) ?_
          refine z_get hC hI hinX12_card_X120 0 (wM_e0 ad cy σ5) rfl 8 (by decide) (List.mem_cons_of_mem _ zw9_6) rfl dX12_card_134 ?_
          refine lv_bipush (v := 14) hx hb dX12_card_137 (by decide) ?_
          refine lv_iadd hx hb dX12_card_139 ?_
          obtain ⟨q, hf⟩ := zck_use hf
          refine z_bald hC hI 2 1 (wM_e2 ad cy σ5) (tM_t2 cy) q dX12_card_140 ?_
          refine lv_iconst (v := 4) hx hb dX12_card_141 (by decide) ?_
          refine lv_ishr hx hb dX12_card_142 ?_
          refine lv_bipush (v := 15) hx hb dX12_card_143 (by decide) ?_
          refine lv_iand hx hb dX12_card_145 ?_
          refine lv_imul hx hb dX12_card_146 ?_
          refine lv_iadd hx hb dX12_card_147 ?_
          exact z_ireturn hC hI hf dX12_card_148
        replace hf := zif_f q0 hf
        by_cases q1 : x1 = 4
        · replace hf := zif_t q1 hf
          refine lv_tableIn (tgt := 149) hx hb dX12_card_70 (by rw [q1]; decide) (by rw [q1]; decide) (by rw [q1]; rfl) (by decide) ?_
          refine lv_aload_n hx hb dX12_card_149 rfl (lv_at hl 0 rfl) ?_
          refine z_get hC hI hinX12_card_X120 0 (wM_e0 ad cy σ1) rfl 4 (by decide) (List.mem_cons_of_mem _ zw9_5) rfl dX12_card_150 ?_
          refine lv_aload_n hx hb dX12_card_153 rfl (lv_at hl 0 rfl) ?_
          refine z_get hC hI hinX12_card_X120 0 (wM_e0 ad cy σ1) rfl 8 (by decide) (List.mem_cons_of_mem _ zw9_6) rfl dX12_card_154 ?_
          refine lv_bipush (v := 15) hx hb dX12_card_157 (by decide) ?_
          refine lv_iadd hx hb dX12_card_159 ?_
          obtain ⟨q, hf⟩ := zck_use hf
          refine z_bald hC hI 2 1 (wM_e2 ad cy σ1) (tM_t2 cy) q dX12_card_160 ?_
          refine lv_iconst (v := 4) hx hb dX12_card_161 (by decide) ?_
          refine lv_ishr hx hb dX12_card_162 ?_
          refine lv_bipush (v := 15) hx hb dX12_card_163 (by decide) ?_
          refine lv_iand hx hb dX12_card_165 ?_
          exact z_ireturn hC hI hf dX12_card_166
        replace hf := zif_f q1 hf
        by_cases q2 : x1 = 5
        · replace hf := zif_t q2 hf
          refine lv_tableIn (tgt := 167) hx hb dX12_card_70 (by rw [q2]; decide) (by rw [q2]; decide) (by rw [q2]; rfl) (by decide) ?_
          refine lv_aload_n hx hb dX12_card_167 rfl (lv_at hl 0 rfl) ?_
          refine z_get hC hI hinX12_card_X120 0 (wM_e0 ad cy σ1) rfl 4 (by decide) (List.mem_cons_of_mem _ zw9_5) rfl dX12_card_168 ?_
          refine lv_aload_n hx hb dX12_card_171 rfl (lv_at hl 0 rfl) ?_
          refine z_get hC hI hinX12_card_X120 0 (wM_e0 ad cy σ1) rfl 8 (by decide) (List.mem_cons_of_mem _ zw9_6) rfl dX12_card_172 ?_
          refine lv_bipush (v := 15) hx hb dX12_card_175 (by decide) ?_
          refine lv_iadd hx hb dX12_card_177 ?_
          obtain ⟨q, hf⟩ := zck_use hf
          refine z_bald hC hI 2 1 (wM_e2 ad cy σ1) (tM_t2 cy) q dX12_card_178 ?_
          refine lv_bipush (v := 15) hx hb dX12_card_179 (by decide) ?_
          refine lv_iand hx hb dX12_card_181 ?_
          exact z_ireturn hC hI hf dX12_card_182
        replace hf := zif_f q2 hf
        by_cases q3 : x1 = 6
        · replace hf := zif_t q3 hf
          refine lv_tableIn (tgt := 183) hx hb dX12_card_70 (by rw [q3]; decide) (by rw [q3]; decide) (by rw [q3]; rfl) (by decide) ?_
          refine lv_aload_n hx hb dX12_card_183 rfl (lv_at hl 0 rfl) ?_
          refine lv_aload_n hx hb dX12_card_184 rfl (lv_at hl 0 rfl) ?_
          refine z_get hC hI hinX12_card_X120 0 (wM_e0 ad cy σ1) rfl 8 (by decide) (List.mem_cons_of_mem _ zw9_6) rfl dX12_card_185 ?_
          refine lv_bipush (v := 10) hx hb dX12_card_188 (by decide) ?_
          refine lv_iadd hx hb dX12_card_190 ?_
          refine lv_iconst (v := 2) hx hb dX12_card_191 (by decide) ?_
          obtain ⟨σ7, v8, g7, hf⟩ := zbi_use hf
          refine z_callVi (As := [.int ((zgi σ1 0 8) + 10), .int 2]) (rest := []) hC hI (cX12_bytesAt_met st l D ad cy σ1 ((zgi σ1 0 8) + 10) 2 _ g7) (zgV zw16_17 zw16_18 zw16_19 zw1_5 zw16_20) rfl ⟨rfl, rfl⟩ 2 hdX12_bytesAt ⟨Nat.le_of_ble_eq_true rfl, Nat.le_of_ble_eq_true rfl⟩ rfl rfl (wM_e0 ad cy σ1) rfl hl rfl (Nat.le_of_ble_eq_true rfl) dX12_card_192 ⟨Nat.zero_le _, Nat.zero_le _⟩ (fun H locs hI => ?_)
          exact z_ireturn hC hI hf dX12_card_195
        replace hf := zif_f q3 hf
        refine lv_tableOut (tgt := 196) hx hb dX12_card_70 (zsw (fun k h1 h2 => by rcases (show k = 3 ∨ k = 4 ∨ k = 5 ∨ k = 6 by omega) with rfl | rfl | rfl | rfl <;> assumption)) (by decide) ?_
        refine lv_aload_n hx hb dX12_card_196 rfl (lv_at hl 0 rfl) ?_
        refine z_get hC hI hinX12_card_X120 0 (wM_e0 ad cy σ1) rfl 9 (by decide) (List.mem_cons_of_mem _ zw16_10) rfl dX12_card_197 ?_
        exact z_ireturn hC hI hf dX12_card_200
      replace hf := zif_f q hf
      refine lv_iconst (v := 0) hx hb dX12_card_67 (by decide) ?_
      exact z_ireturn hC hI hf dX12_card_68
    replace hf := zif_f q hf
    refine lv_iload_n hx hb dX12_card_32 rfl (lv_at hl 1 rfl) ?_
    refine lv_if_ne (tgt := 43) hx hb dX12_card_33 (by decide) (fun q => ?_) (fun q => ?_)
    · replace hf := zif_f q hf
      refine lv_iload_n hx hb dX12_card_43 rfl (lv_at hl 1 rfl) ?_
      refine lv_iconst (v := 1) hx hb dX12_card_44 (by decide) ?_
      refine lv_icmp_ne (tgt := 55) hx hb dX12_card_45 (by decide) (fun q => ?_) (fun q => ?_)
      · replace hf := zif_f q hf
        refine lv_aload_n hx hb dX12_card_55 rfl (lv_at hl 0 rfl) ?_
        refine z_get hC hI hinX12_card_X120 0 (wM_e0 ad cy σ1) rfl 8 (by decide) (List.mem_cons_of_mem _ zw9_6) rfl dX12_card_56 ?_
        exact bX12_card_59 hC  hI (lv_sub hl [] rfl) hf
      replace hf := zif_t q hf
      refine lv_aload_n hx hb dX12_card_48 rfl (lv_at hl 0 rfl) ?_
      refine z_get hC hI hinX12_card_X120 0 (wM_e0 ad cy σ1) rfl 6 (by decide) (List.mem_cons_of_mem _ zw16_7) rfl dX12_card_49 ?_
      refine lv_goto (tgt := 59) hx hb dX12_card_52 (by decide) ?_
      exact bX12_card_59 hC  hI (lv_sub hl [] rfl) hf
    replace hf := zif_t q hf
    refine lv_aload_n hx hb dX12_card_36 rfl (lv_at hl 0 rfl) ?_
    refine z_get hC hI hinX12_card_X120 0 (wM_e0 ad cy σ1) rfl 7 (by decide) (List.mem_cons_of_mem _ zw10_16) rfl dX12_card_37 ?_
    refine lv_goto (tgt := 59) hx hb dX12_card_40 (by decide) ?_
    exact bX12_card_59 hC  hI (lv_sub hl [] rfl) hf
  replace hf := zif_f q hf
  refine lv_iconst (v := 0) hx hb dX12_card_25 (by decide) ?_
  exact z_ireturn hC hI hf dX12_card_26
set_option maxRecDepth 20000 in
set_option maxHeartbeats 4000000 in
theorem bX12_card {st : Nat → Nat} {p : Program} {l : Launch} {e : Env} {s : State} {m : MethodId} {args : Array Value} {below : List Frame} {meth : Method} {c : Code} {D : va_G} {A : Nat → Prop} {ad : Nat → Nat} {cy : Nat → ClassId} (hC : zC p m c cX12_card 2 s args wzX12_card RX12 meth (some .int))  {res : zSt × Int32} {H : Heap} {locs : List Loc} {σ : zSt} {ls : Array Slot} {x1 : Int32} (hI : zI st D (tM cy) (wM ad cy σ) A s H locs) (hl : lv_has ls 2 [(0, .ref (ad 0)), (1, .int x1)]) (hf : fX12_card  σ x1 = some res) : W p l e rmX12_card s m args below meth c H locs 0 0 (zQi below args s D (tM cy) (wM ad cy) A res) (F0 m 0 ls []) := by
  have hx := hC.1
  have hb := hC.2.1
  unfold fX12_card at hf
  refine lv_aload_n hx hb dX12_card_0 rfl (lv_at hl 0 rfl) ?_
  refine lv_iload_n hx hb dX12_card_1 rfl (lv_at hl 1 rfl) ?_
  refine lv_i2l (v := x1.toInt64) hx hb dX12_card_2 rfl ?_
  refine lv_lconst (v := 0) hx hb dX12_card_3 (by decide) ?_
  refine lv_ldc2 (v := 7) hx hb hC.2.2.2.1 (hC.2.2.2.2.1 _ (List.mem_cons_of_mem _ zw17_21)) dX12_card_4 ?_
  obtain ⟨σ9, v10, g9, hf⟩ := zbi_use hf
  refine z_callSi (As := [.long (x1.toInt64), .long 0, .long 7]) (rest := [.ref (ad 0)]) hC hI (cX12_within_met st l D ad cy σ (x1.toInt64) 0 7 _ g9) (zgS zw11_18 zw11_19 zw1_5 zw11_20) rfl ⟨rfl, rfl⟩ 3 hdX12_within ⟨Nat.le_of_ble_eq_true rfl, Nat.le_of_ble_eq_true rfl⟩ rfl hl rfl (Nat.le_of_ble_eq_true rfl) dX12_card_7 ⟨Nat.zero_le _, Nat.zero_le _⟩ (fun H locs hI => ?_)
  refine lv_if_ne (tgt := 17) hx hb dX12_card_10 (by decide) (fun q => ?_) (fun q => ?_)
  · replace hf := zif_f q hf
    refine lv_iconst (v := 0) hx hb dX12_card_17 (by decide) ?_
    exact bX12_card_18 hC  hI hl hf
  replace hf := zif_t q hf
  refine lv_iconst (v := 1) hx hb dX12_card_13 (by decide) ?_
  refine lv_goto (tgt := 18) hx hb dX12_card_14 (by decide) ?_
  exact bX12_card_18 hC  hI hl hf
set_option maxRecDepth 20000 in
theorem cX12_card_met (st : Nat → Nat) (l : Launch) (D : va_G) (ad : Nat → Nat) (cy : Nat → ClassId) (σ : zSt) (x1 : Int32) (res : zSt × Int32) (hf : fX12_card σ x1 = some res) (sz : Nat) : zMi st l yX12_card wzX12_card rmX12_card [.ref (ad 0), .int x1] D (tM cy) (wM ad cy) sz σ res :=
  zMi.of (cc := cX12_card) (maxL := 2) (ret := (some .int)) (by decide) rfl (Nat.le_of_ble_eq_true rfl) (fun p e s m args below meth c hC A hI ls hl => bX12_card hC hI hl hf)
theorem hdX12_card : yX12_card.cls = RX12 ∧ yX12_card.cls ≠ "java/lang/invoke/MethodHandle" ∧ yX12_card.cls ≠ "java/lang/invoke/VarHandle" ∧ (parseMethodDescriptor yX12_card.desc).map (fun d => d.parameters.length) = some 1 := by decide +kernel
noncomputable def rmX12_ofBank : Room := { frames := 0, cells := 0, slots := 0, locals := 0 }
noncomputable def wzX12_ofBank : List Cond := .code yX12_ofBank cX12_ofBank 3 (some .int) :: wsL_law
theorem hinX12_ofBank_X120 : ∀ w ∈ wsX120, w ∈ wzX12_ofBank := fun w h => List.mem_cons_of_mem _ (inlX12 w h)
noncomputable def fX12_ofBank  (σ : zSt) (x1 : Int32) (x2 : Int32) : Option (zSt × Int32) :=
  zck (decide (¬ (zgi σ 0 6) = 0)) (
  zck (decide (¬ 16384 = 0)) (
  zck (zin ((16384 * (zrem x1 (zgi σ 0 6))) + (zrem x2 16384)) 262144) (
  some (σ, (zgi σ 2 ((16384 * (zrem x1 (zgi σ 0 6))) + (zrem x2 16384)).toNatClampNeg) &&& 255))))
set_option maxRecDepth 20000 in
set_option maxHeartbeats 4000000 in
theorem bX12_ofBank {st : Nat → Nat} {p : Program} {l : Launch} {e : Env} {s : State} {m : MethodId} {args : Array Value} {below : List Frame} {meth : Method} {c : Code} {D : va_G} {A : Nat → Prop} {ad : Nat → Nat} {cy : Nat → ClassId} (hC : zC p m c cX12_ofBank 3 s args wzX12_ofBank RX12 meth (some .int))  {res : zSt × Int32} {H : Heap} {locs : List Loc} {σ : zSt} {ls : Array Slot} {x1 : Int32} {x2 : Int32} (hI : zI st D (tM cy) (wM ad cy σ) A s H locs) (hl : lv_has ls 3 [(0, .ref (ad 0)), (1, .int x1), (2, .int x2)]) (hf : fX12_ofBank  σ x1 x2 = some res) : W p l e rmX12_ofBank s m args below meth c H locs 0 0 (zQi below args s D (tM cy) (wM ad cy) A res) (F0 m 0 ls []) := by
  have hx := hC.1
  have hb := hC.2.1
  unfold fX12_ofBank at hf
  refine lv_aload_n hx hb dX12_ofBank_0 rfl (lv_at hl 0 rfl) ?_
  refine z_get hC hI hinX12_ofBank_X120 0 (wM_e0 ad cy σ) rfl 4 (by decide) (List.mem_cons_of_mem _ zw9_5) rfl dX12_ofBank_1 ?_
  refine lv_sipush (v := 16384) hx hb dX12_ofBank_4 (by decide) ?_
  refine lv_iload_n hx hb dX12_ofBank_7 rfl (lv_at hl 1 rfl) ?_
  refine lv_aload_n hx hb dX12_ofBank_8 rfl (lv_at hl 0 rfl) ?_
  refine z_get hC hI hinX12_ofBank_X120 0 (wM_e0 ad cy σ) rfl 6 (by decide) (List.mem_cons_of_mem _ zw16_7) rfl dX12_ofBank_9 ?_
  obtain ⟨q, hf⟩ := zck_use hf
  refine z_irem hx hb dX12_ofBank_12 (of_decide_eq_true q) ?_
  refine lv_imul hx hb dX12_ofBank_13 ?_
  refine lv_iload_n hx hb dX12_ofBank_14 rfl (lv_at hl 2 rfl) ?_
  refine lv_sipush (v := 16384) hx hb dX12_ofBank_15 (by decide) ?_
  obtain ⟨q, hf⟩ := zck_use hf
  refine z_irem hx hb dX12_ofBank_18 (of_decide_eq_true q) ?_
  refine lv_iadd hx hb dX12_ofBank_19 ?_
  obtain ⟨q, hf⟩ := zck_use hf
  refine z_bald hC hI 2 1 (wM_e2 ad cy σ) (tM_t2 cy) q dX12_ofBank_20 ?_
  refine lv_sipush (v := 255) hx hb dX12_ofBank_21 (by decide) ?_
  refine lv_iand hx hb dX12_ofBank_24 ?_
  exact z_ireturn hC hI hf dX12_ofBank_25
set_option maxRecDepth 20000 in
theorem cX12_ofBank_met (st : Nat → Nat) (l : Launch) (D : va_G) (ad : Nat → Nat) (cy : Nat → ClassId) (σ : zSt) (x1 : Int32) (x2 : Int32) (res : zSt × Int32) (hf : fX12_ofBank σ x1 x2 = some res) (sz : Nat) : zMi st l yX12_ofBank wzX12_ofBank rmX12_ofBank [.ref (ad 0), .int x1, .int x2] D (tM cy) (wM ad cy) sz σ res :=
  zMi.of (cc := cX12_ofBank) (maxL := 3) (ret := (some .int)) (by decide) rfl (Nat.le_of_ble_eq_true rfl) (fun p e s m args below meth c hC A hI ls hl => bX12_ofBank hC hI hl hf)
theorem hdX12_ofBank : yX12_ofBank.cls = RX12 ∧ yX12_ofBank.cls ≠ "java/lang/invoke/MethodHandle" ∧ yX12_ofBank.cls ≠ "java/lang/invoke/VarHandle" ∧ (parseMethodDescriptor yX12_ofBank.desc).map (fun d => d.parameters.length) = some 2 := by decide +kernel
noncomputable def rmX12_isBattery : Room := { frames := 0, cells := 0, slots := 0, locals := 0 }
noncomputable def wzX12_isBattery : List Cond := .code yX12_isBattery cX12_isBattery 2 (some .boolean) :: wsL_law
theorem hinX12_isBattery_X120 : ∀ w ∈ wsX120, w ∈ wzX12_isBattery := fun w h => List.mem_cons_of_mem _ (inlX12 w h)
noncomputable def fX12_isBattery_38  (σ : zSt) (s0 : Int32) : Option (zSt × Int32) :=
  zck (zbo s0) (some (σ, s0))
noncomputable def fX12_isBattery_37  (σ : zSt)  : Option (zSt × Int32) :=
  fX12_isBattery_38 σ 0
noncomputable def fX12_isBattery  (σ : zSt) (x1 : Int32) : Option (zSt × Int32) :=
  if (zgi σ 0 7) = 1 then zck (zin 32 1048) (
  if ((zgi σ 3 (32 : Int32).toNatClampNeg) &&& 8) = 0 then fX12_isBattery_37 σ else
  if x1 < 32768 then fX12_isBattery_37 σ else
  if 49152 ≤ x1 then fX12_isBattery_37 σ else
  fX12_isBattery_38 σ 1) else
  fX12_isBattery_37 σ
set_option maxRecDepth 20000 in
set_option maxHeartbeats 4000000 in
theorem bX12_isBattery_38 {st : Nat → Nat} {p : Program} {l : Launch} {e : Env} {s : State} {m : MethodId} {args : Array Value} {below : List Frame} {meth : Method} {c : Code} {D : va_G} {A : Nat → Prop} {ad : Nat → Nat} {cy : Nat → ClassId} (hC : zC p m c cX12_isBattery 2 s args wzX12_isBattery RX12 meth (some .boolean))  {res : zSt × Int32} {H : Heap} {locs : List Loc} {σ : zSt} {ls : Array Slot} {s0 : Int32} (hI : zI st D (tM cy) (wM ad cy σ) A s H locs) (hl : lv_has ls 2 []) (hf : fX12_isBattery_38  σ s0 = some res) : W p l e rmX12_isBattery s m args below meth c H locs 0 0 (zQi below args s D (tM cy) (wM ad cy) A res) (F0 m 38 ls [.int s0]) := by
  have hx := hC.1
  have hb := hC.2.1
  unfold fX12_isBattery_38 at hf
  obtain ⟨q, hf⟩ := zck_use hf
  exact z_zreturn hC hI (zbo_n q) hf dX12_isBattery_38
set_option maxRecDepth 20000 in
set_option maxHeartbeats 4000000 in
theorem bX12_isBattery_37 {st : Nat → Nat} {p : Program} {l : Launch} {e : Env} {s : State} {m : MethodId} {args : Array Value} {below : List Frame} {meth : Method} {c : Code} {D : va_G} {A : Nat → Prop} {ad : Nat → Nat} {cy : Nat → ClassId} (hC : zC p m c cX12_isBattery 2 s args wzX12_isBattery RX12 meth (some .boolean))  {res : zSt × Int32} {H : Heap} {locs : List Loc} {σ : zSt} {ls : Array Slot}  (hI : zI st D (tM cy) (wM ad cy σ) A s H locs) (hl : lv_has ls 2 []) (hf : fX12_isBattery_37  σ  = some res) : W p l e rmX12_isBattery s m args below meth c H locs 0 0 (zQi below args s D (tM cy) (wM ad cy) A res) (F0 m 37 ls []) := by
  have hx := hC.1
  have hb := hC.2.1
  unfold fX12_isBattery_37 at hf
  refine lv_iconst (v := 0) hx hb dX12_isBattery_37 (by decide) ?_
  exact bX12_isBattery_38 hC  hI hl hf
set_option maxRecDepth 20000 in
set_option maxHeartbeats 4000000 in
theorem bX12_isBattery {st : Nat → Nat} {p : Program} {l : Launch} {e : Env} {s : State} {m : MethodId} {args : Array Value} {below : List Frame} {meth : Method} {c : Code} {D : va_G} {A : Nat → Prop} {ad : Nat → Nat} {cy : Nat → ClassId} (hC : zC p m c cX12_isBattery 2 s args wzX12_isBattery RX12 meth (some .boolean))  {res : zSt × Int32} {H : Heap} {locs : List Loc} {σ : zSt} {ls : Array Slot} {x1 : Int32} (hI : zI st D (tM cy) (wM ad cy σ) A s H locs) (hl : lv_has ls 2 [(0, .ref (ad 0)), (1, .int x1)]) (hf : fX12_isBattery  σ x1 = some res) : W p l e rmX12_isBattery s m args below meth c H locs 0 0 (zQi below args s D (tM cy) (wM ad cy) A res) (F0 m 0 ls []) := by
  have hx := hC.1
  have hb := hC.2.1
  unfold fX12_isBattery at hf
  refine lv_aload_n hx hb dX12_isBattery_0 rfl (lv_at hl 0 rfl) ?_
  refine z_get hC hI hinX12_isBattery_X120 0 (wM_e0 ad cy σ) rfl 7 (by decide) (List.mem_cons_of_mem _ zw10_16) rfl dX12_isBattery_1 ?_
  refine lv_iconst (v := 1) hx hb dX12_isBattery_4 (by decide) ?_
  refine lv_icmp_ne (tgt := 37) hx hb dX12_isBattery_5 (by decide) (fun q => ?_) (fun q => ?_)
  · replace hf := zif_f q hf
    exact bX12_isBattery_37 hC  hI (lv_sub hl [] rfl) hf
  replace hf := zif_t q hf
  refine lv_aload_n hx hb dX12_isBattery_8 rfl (lv_at hl 0 rfl) ?_
  refine z_get hC hI hinX12_isBattery_X120 0 (wM_e0 ad cy σ) rfl 10 (by decide) (List.mem_cons_of_mem _ zw9_7) rfl dX12_isBattery_9 ?_
  refine lv_bipush (v := 32) hx hb dX12_isBattery_12 (by decide) ?_
  obtain ⟨q, hf⟩ := zck_use hf
  refine z_iald hC hI 3 2 (wM_e3 ad cy σ) (tM_t3 cy) q dX12_isBattery_14 ?_
  refine lv_bipush (v := 8) hx hb dX12_isBattery_15 (by decide) ?_
  refine lv_iand hx hb dX12_isBattery_17 ?_
  refine lv_if_eq (tgt := 37) hx hb dX12_isBattery_18 (by decide) (fun q => ?_) (fun q => ?_)
  · replace hf := zif_t q hf
    exact bX12_isBattery_37 hC  hI (lv_sub hl [] rfl) hf
  replace hf := zif_f q hf
  refine lv_iload_n hx hb dX12_isBattery_21 rfl (lv_at hl 1 rfl) ?_
  refine lv_ldc (v := 32768) hx hb hC.2.2.2.1 (hC.2.2.2.2.1 _ (List.mem_cons_of_mem _ zw9_10)) dX12_isBattery_22 ?_
  refine lv_icmp_lt (tgt := 37) hx hb dX12_isBattery_24 (by decide) (fun q => ?_) (fun q => ?_)
  · replace hf := zif_t q hf
    exact bX12_isBattery_37 hC  hI (lv_sub hl [] rfl) hf
  replace hf := zif_f q hf
  refine lv_iload_n hx hb dX12_isBattery_27 rfl (lv_at hl 1 rfl) ?_
  refine lv_ldc (v := 49152) hx hb hC.2.2.2.1 (hC.2.2.2.2.1 _ (List.mem_cons_of_mem _ zw16_8)) dX12_isBattery_28 ?_
  refine lv_icmp_ge (tgt := 37) hx hb dX12_isBattery_30 (by decide) (fun q => ?_) (fun q => ?_)
  · replace hf := zif_t q hf
    exact bX12_isBattery_37 hC  hI (lv_sub hl [] rfl) hf
  replace hf := zif_f q hf
  refine lv_iconst (v := 1) hx hb dX12_isBattery_33 (by decide) ?_
  refine lv_goto (tgt := 38) hx hb dX12_isBattery_34 (by decide) ?_
  exact bX12_isBattery_38 hC  hI (lv_sub hl [] rfl) hf
set_option maxRecDepth 20000 in
theorem cX12_isBattery_met (st : Nat → Nat) (l : Launch) (D : va_G) (ad : Nat → Nat) (cy : Nat → ClassId) (σ : zSt) (x1 : Int32) (res : zSt × Int32) (hf : fX12_isBattery σ x1 = some res) (sz : Nat) : zMi st l yX12_isBattery wzX12_isBattery rmX12_isBattery [.ref (ad 0), .int x1] D (tM cy) (wM ad cy) sz σ res :=
  zMi.of (cc := cX12_isBattery) (maxL := 2) (ret := (some .boolean)) (by decide) rfl (Nat.le_of_ble_eq_true rfl) (fun p e s m args below meth c hC A hI ls hl => bX12_isBattery hC hI hl hf)
theorem hdX12_isBattery : yX12_isBattery.cls = RX12 ∧ yX12_isBattery.cls ≠ "java/lang/invoke/MethodHandle" ∧ yX12_isBattery.cls ≠ "java/lang/invoke/VarHandle" ∧ (parseMethodDescriptor yX12_isBattery.desc).map (fun d => d.parameters.length) = some 1 := by decide +kernel
noncomputable def rmX12_batteryAt : Room := { frames := 0, cells := 0, slots := 0, locals := 0 }
noncomputable def wzX12_batteryAt : List Cond := .code yX12_batteryAt cX12_batteryAt 2 (some .int) :: wsL_law
theorem hinX12_batteryAt_X120 : ∀ w ∈ wsX120, w ∈ wzX12_batteryAt := fun w h => List.mem_cons_of_mem _ (inlX12 w h)
noncomputable def fX12_batteryAt_23  (σ : zSt) (s0 : Int32) (s1 : Int32) : Option (zSt × Int32) :=
  some (σ, s1 + s0)
noncomputable def fX12_batteryAt  (σ : zSt) (x1 : Int32) : Option (zSt × Int32) :=
  zck (zin 32 1048) (
  if ((zgi σ 3 (32 : Int32).toNatClampNeg) &&& 4) = 0 then fX12_batteryAt_23 σ 0 (x1 - 32768) else
  fX12_batteryAt_23 σ 16384 (x1 - 32768))
set_option maxRecDepth 20000 in
set_option maxHeartbeats 4000000 in
theorem bX12_batteryAt_23 {st : Nat → Nat} {p : Program} {l : Launch} {e : Env} {s : State} {m : MethodId} {args : Array Value} {below : List Frame} {meth : Method} {c : Code} {D : va_G} {A : Nat → Prop} {ad : Nat → Nat} {cy : Nat → ClassId} (hC : zC p m c cX12_batteryAt 2 s args wzX12_batteryAt RX12 meth (some .int))  {res : zSt × Int32} {H : Heap} {locs : List Loc} {σ : zSt} {ls : Array Slot} {s0 : Int32} {s1 : Int32} (hI : zI st D (tM cy) (wM ad cy σ) A s H locs) (hl : lv_has ls 2 []) (hf : fX12_batteryAt_23  σ s0 s1 = some res) : W p l e rmX12_batteryAt s m args below meth c H locs 0 0 (zQi below args s D (tM cy) (wM ad cy) A res) (F0 m 23 ls [.int s0, .int s1]) := by
  have hx := hC.1
  have hb := hC.2.1
  unfold fX12_batteryAt_23 at hf
  refine lv_iadd hx hb dX12_batteryAt_23 ?_
  exact z_ireturn hC hI hf dX12_batteryAt_24
set_option maxRecDepth 20000 in
set_option maxHeartbeats 4000000 in
theorem bX12_batteryAt {st : Nat → Nat} {p : Program} {l : Launch} {e : Env} {s : State} {m : MethodId} {args : Array Value} {below : List Frame} {meth : Method} {c : Code} {D : va_G} {A : Nat → Prop} {ad : Nat → Nat} {cy : Nat → ClassId} (hC : zC p m c cX12_batteryAt 2 s args wzX12_batteryAt RX12 meth (some .int))  {res : zSt × Int32} {H : Heap} {locs : List Loc} {σ : zSt} {ls : Array Slot} {x1 : Int32} (hI : zI st D (tM cy) (wM ad cy σ) A s H locs) (hl : lv_has ls 2 [(0, .ref (ad 0)), (1, .int x1)]) (hf : fX12_batteryAt  σ x1 = some res) : W p l e rmX12_batteryAt s m args below meth c H locs 0 0 (zQi below args s D (tM cy) (wM ad cy) A res) (F0 m 0 ls []) := by
  have hx := hC.1
  have hb := hC.2.1
  unfold fX12_batteryAt at hf
  refine lv_iload_n hx hb dX12_batteryAt_0 rfl (lv_at hl 1 rfl) ?_
  refine lv_ldc (v := 32768) hx hb hC.2.2.2.1 (hC.2.2.2.2.1 _ (List.mem_cons_of_mem _ zw9_10)) dX12_batteryAt_1 ?_
  refine lv_isub hx hb dX12_batteryAt_3 ?_
  refine lv_aload_n hx hb dX12_batteryAt_4 rfl (lv_at hl 0 rfl) ?_
  refine z_get hC hI hinX12_batteryAt_X120 0 (wM_e0 ad cy σ) rfl 10 (by decide) (List.mem_cons_of_mem _ zw9_7) rfl dX12_batteryAt_5 ?_
  refine lv_bipush (v := 32) hx hb dX12_batteryAt_8 (by decide) ?_
  obtain ⟨q, hf⟩ := zck_use hf
  refine z_iald hC hI 3 2 (wM_e3 ad cy σ) (tM_t3 cy) q dX12_batteryAt_10 ?_
  refine lv_iconst (v := 4) hx hb dX12_batteryAt_11 (by decide) ?_
  refine lv_iand hx hb dX12_batteryAt_12 ?_
  refine lv_if_eq (tgt := 22) hx hb dX12_batteryAt_13 (by decide) (fun q => ?_) (fun q => ?_)
  · replace hf := zif_t q hf
    refine lv_iconst (v := 0) hx hb dX12_batteryAt_22 (by decide) ?_
    exact bX12_batteryAt_23 hC  hI (lv_sub hl [] rfl) hf
  replace hf := zif_f q hf
  refine lv_sipush (v := 16384) hx hb dX12_batteryAt_16 (by decide) ?_
  refine lv_goto (tgt := 23) hx hb dX12_batteryAt_19 (by decide) ?_
  exact bX12_batteryAt_23 hC  hI (lv_sub hl [] rfl) hf
set_option maxRecDepth 20000 in
theorem cX12_batteryAt_met (st : Nat → Nat) (l : Launch) (D : va_G) (ad : Nat → Nat) (cy : Nat → ClassId) (σ : zSt) (x1 : Int32) (res : zSt × Int32) (hf : fX12_batteryAt σ x1 = some res) (sz : Nat) : zMi st l yX12_batteryAt wzX12_batteryAt rmX12_batteryAt [.ref (ad 0), .int x1] D (tM cy) (wM ad cy) sz σ res :=
  zMi.of (cc := cX12_batteryAt) (maxL := 2) (ret := (some .int)) (by decide) rfl (Nat.le_of_ble_eq_true rfl) (fun p e s m args below meth c hC A hI ls hl => bX12_batteryAt hC hI hl hf)
theorem hdX12_batteryAt : yX12_batteryAt.cls = RX12 ∧ yX12_batteryAt.cls ≠ "java/lang/invoke/MethodHandle" ∧ yX12_batteryAt.cls ≠ "java/lang/invoke/VarHandle" ∧ (parseMethodDescriptor yX12_batteryAt.desc).map (fun d => d.parameters.length) = some 1 := by decide +kernel
noncomputable def rmX12_read : Room := { frames := 1, cells := 0, slots := 0, locals := 22 }
noncomputable def wzX12_read : List Cond := .code yX12_read cX12_read 3 (some .int) :: wsL_law
theorem hinX12_read_X120 : ∀ w ∈ wsX120, w ∈ wzX12_read := fun w h => List.mem_cons_of_mem _ (inlX12 w h)
noncomputable def fX12_read_80  (σ : zSt) (s0 : Int32) : Option (zSt × Int32) :=
  some (σ, s0)
noncomputable def fX12_read_111  (σ : zSt) (x2 : Int32) (s0 : Int32) : Option (zSt × Int32) :=
  zbi (fX12_ofBank σ s0 x2) (fun σ1 v2 =>
  some (σ1, v2))
noncomputable def fX12_read_138  (σ : zSt) (x2 : Int32) : Option (zSt × Int32) :=
  zck (decide (¬ 16384 = 0)) (
  zck (zin (29 + (x2 / 16384)) 1048) (
  zbi (fX12_ofBank σ (zgi σ 3 (29 + (x2 / 16384)).toNatClampNeg) x2) (fun σ3 v4 =>
  some (σ3, v4))))
noncomputable def fX12_read  (σ : zSt) (x1 : Int32) : Option (zSt × Int32) :=
  zbv (x1 &&& 65535) (fun v5 =>
  if v5 < 49152 then zbi (fX12_isBattery σ v5) (fun σ6 v7 =>
  if v7 = 0 then if (zgi σ6 0 7) = 0 then if (zgi σ6 0 5) ≤ v5 then fX12_read_80 σ6 255 else
  zck (zin v5 262144) (
  fX12_read_80 σ6 ((zgi σ6 2 v5.toNatClampNeg) &&& 255)) else
  if (zgi σ6 0 7) = 3 then if 32768 ≤ v5 then zck (zin 31 1048) (
  fX12_read_111 σ6 v5 (zgi σ6 3 (31 : Int32).toNatClampNeg)) else
  zck (decide (¬ 16384 = 0)) (
  fX12_read_111 σ6 v5 (v5 / 16384)) else
  if (zgi σ6 0 7) = 1 then if 1024 ≤ v5 then fX12_read_138 σ6 v5 else
  zbi (fX12_ofBank σ6 0 v5) (fun σ8 v9 =>
  some (σ8, v9)) else
  fX12_read_138 σ6 v5 else
  zbi (fX12_batteryAt σ6 v5) (fun σ10 v11 =>
  zck (zin v11 32768) (
  some (σ10, (zgi σ10 6 v11.toNatClampNeg) &&& 255)))) else
  zck (decide (¬ 8192 = 0)) (
  zck (zin (zrem v5 8192) 8192) (
  some (σ, (zgi σ 5 (zrem v5 8192).toNatClampNeg) &&& 255))))
set_option maxRecDepth 20000 in
set_option maxHeartbeats 4000000 in
theorem bX12_read_80 {st : Nat → Nat} {p : Program} {l : Launch} {e : Env} {s : State} {m : MethodId} {args : Array Value} {below : List Frame} {meth : Method} {c : Code} {D : va_G} {A : Nat → Prop} {ad : Nat → Nat} {cy : Nat → ClassId} (hC : zC p m c cX12_read 3 s args wzX12_read RX12 meth (some .int))  {res : zSt × Int32} {H : Heap} {locs : List Loc} {σ : zSt} {ls : Array Slot} {s0 : Int32} (hI : zI st D (tM cy) (wM ad cy σ) A s H locs) (hl : lv_has ls 3 []) (hf : fX12_read_80  σ s0 = some res) : W p l e rmX12_read s m args below meth c H locs 0 0 (zQi below args s D (tM cy) (wM ad cy) A res) (F0 m 80 ls [.int s0]) := by
  have hx := hC.1
  have hb := hC.2.1
  unfold fX12_read_80 at hf
  exact z_ireturn hC hI hf dX12_read_80
set_option maxRecDepth 20000 in
set_option maxHeartbeats 4000000 in
theorem bX12_read_111 {st : Nat → Nat} {p : Program} {l : Launch} {e : Env} {s : State} {m : MethodId} {args : Array Value} {below : List Frame} {meth : Method} {c : Code} {D : va_G} {A : Nat → Prop} {ad : Nat → Nat} {cy : Nat → ClassId} (hC : zC p m c cX12_read 3 s args wzX12_read RX12 meth (some .int))  {res : zSt × Int32} {H : Heap} {locs : List Loc} {σ : zSt} {ls : Array Slot} {x2 : Int32} {s0 : Int32} (hI : zI st D (tM cy) (wM ad cy σ) A s H locs) (hl : lv_has ls 3 [(2, .int x2)]) (hf : fX12_read_111  σ x2 s0 = some res) : W p l e rmX12_read s m args below meth c H locs 0 0 (zQi below args s D (tM cy) (wM ad cy) A res) (F0 m 111 ls [.int s0, .ref (ad 0)]) := by
  have hx := hC.1
  have hb := hC.2.1
  unfold fX12_read_111 at hf
  refine lv_iload_n hx hb dX12_read_111 rfl (lv_at hl 0 rfl) ?_
  obtain ⟨σ1, v2, g1, hf⟩ := zbi_use hf
  refine z_callVi (As := [.int s0, .int x2]) (rest := []) hC hI (cX12_ofBank_met st l D ad cy σ s0 x2 _ g1) (zgV zw49_12 zw49_13 zw49_14 zw1_5 zw49_15) rfl ⟨rfl, rfl⟩ 2 hdX12_ofBank ⟨Nat.le_of_ble_eq_true rfl, Nat.le_of_ble_eq_true rfl⟩ rfl rfl (wM_e0 ad cy σ) rfl hl rfl (Nat.le_of_ble_eq_true rfl) dX12_read_112 ⟨Nat.zero_le _, Nat.zero_le _⟩ (fun H locs hI => ?_)
  exact z_ireturn hC hI hf dX12_read_115
set_option maxRecDepth 20000 in
set_option maxHeartbeats 4000000 in
theorem bX12_read_138 {st : Nat → Nat} {p : Program} {l : Launch} {e : Env} {s : State} {m : MethodId} {args : Array Value} {below : List Frame} {meth : Method} {c : Code} {D : va_G} {A : Nat → Prop} {ad : Nat → Nat} {cy : Nat → ClassId} (hC : zC p m c cX12_read 3 s args wzX12_read RX12 meth (some .int))  {res : zSt × Int32} {H : Heap} {locs : List Loc} {σ : zSt} {ls : Array Slot} {x2 : Int32} (hI : zI st D (tM cy) (wM ad cy σ) A s H locs) (hl : lv_has ls 3 [(0, .ref (ad 0)), (2, .int x2)]) (hf : fX12_read_138  σ x2 = some res) : W p l e rmX12_read s m args below meth c H locs 0 0 (zQi below args s D (tM cy) (wM ad cy) A res) (F0 m 138 ls []) := by
  have hx := hC.1
  have hb := hC.2.1
  unfold fX12_read_138 at hf
  refine lv_aload_n hx hb dX12_read_138 rfl (lv_at hl 0 rfl) ?_
  refine lv_aload_n hx hb dX12_read_139 rfl (lv_at hl 0 rfl) ?_
  refine z_get hC hI hinX12_read_X120 0 (wM_e0 ad cy σ) rfl 10 (by decide) (List.mem_cons_of_mem _ zw9_7) rfl dX12_read_140 ?_
  refine lv_bipush (v := 29) hx hb dX12_read_143 (by decide) ?_
  refine lv_iload_n hx hb dX12_read_145 rfl (lv_at hl 1 rfl) ?_
  refine lv_sipush (v := 16384) hx hb dX12_read_146 (by decide) ?_
  obtain ⟨q, hf⟩ := zck_use hf
  refine lv_idiv hx hb dX12_read_149 (of_decide_eq_true q) ?_
  refine lv_iadd hx hb dX12_read_150 ?_
  obtain ⟨q, hf⟩ := zck_use hf
  refine z_iald hC hI 3 2 (wM_e3 ad cy σ) (tM_t3 cy) q dX12_read_151 ?_
  refine lv_iload_n hx hb dX12_read_152 rfl (lv_at hl 1 rfl) ?_
  obtain ⟨σ3, v4, g3, hf⟩ := zbi_use hf
  refine z_callVi (As := [.int (zgi σ 3 (29 + (x2 / 16384)).toNatClampNeg), .int x2]) (rest := []) hC hI (cX12_ofBank_met st l D ad cy σ (zgi σ 3 (29 + (x2 / 16384)).toNatClampNeg) x2 _ g3) (zgV zw49_12 zw49_13 zw49_14 zw1_5 zw49_15) rfl ⟨rfl, rfl⟩ 2 hdX12_ofBank ⟨Nat.le_of_ble_eq_true rfl, Nat.le_of_ble_eq_true rfl⟩ rfl rfl (wM_e0 ad cy σ) rfl hl rfl (Nat.le_of_ble_eq_true rfl) dX12_read_153 ⟨Nat.zero_le _, Nat.zero_le _⟩ (fun H locs hI => ?_)
  exact z_ireturn hC hI hf dX12_read_156
set_option maxRecDepth 20000 in
set_option maxHeartbeats 4000000 in
theorem bX12_read {st : Nat → Nat} {p : Program} {l : Launch} {e : Env} {s : State} {m : MethodId} {args : Array Value} {below : List Frame} {meth : Method} {c : Code} {D : va_G} {A : Nat → Prop} {ad : Nat → Nat} {cy : Nat → ClassId} (hC : zC p m c cX12_read 3 s args wzX12_read RX12 meth (some .int))  {res : zSt × Int32} {H : Heap} {locs : List Loc} {σ : zSt} {ls : Array Slot} {x1 : Int32} (hI : zI st D (tM cy) (wM ad cy σ) A s H locs) (hl : lv_has ls 3 [(0, .ref (ad 0)), (1, .int x1)]) (hf : fX12_read  σ x1 = some res) : W p l e rmX12_read s m args below meth c H locs 0 0 (zQi below args s D (tM cy) (wM ad cy) A res) (F0 m 0 ls []) := by
  have hx := hC.1
  have hb := hC.2.1
  unfold fX12_read at hf
  refine lv_iload_n hx hb dX12_read_0 rfl (lv_at hl 1 rfl) ?_
  refine lv_ldc (v := 65535) hx hb hC.2.2.2.1 (hC.2.2.2.2.1 _ (List.mem_cons_of_mem _ zw16_11)) dX12_read_1 ?_
  refine lv_iand hx hb dX12_read_3 ?_
  refine lv_topi (fun v5 ev5 => ?_)
  replace hf := zbv_use ev5 hf
  refine lv_istore_n (lv' := [(2, .int v5), (0, .ref (ad 0)), (1, .int x1)]) hx hb dX12_read_4 rfl hl (by decide) rfl (fun ls hl => ?_)
  refine lv_iload_n hx hb dX12_read_5 rfl (lv_at hl 0 rfl) ?_
  refine lv_ldc (v := 49152) hx hb hC.2.2.2.1 (hC.2.2.2.2.1 _ (List.mem_cons_of_mem _ zw16_8)) dX12_read_6 ?_
  refine lv_icmp_lt (tgt := 26) hx hb dX12_read_8 (by decide) (fun q => ?_) (fun q => ?_)
  · replace hf := zif_t q hf
    refine lv_aload_n hx hb dX12_read_26 rfl (lv_at hl 1 rfl) ?_
    refine lv_iload_n hx hb dX12_read_27 rfl (lv_at hl 0 rfl) ?_
    obtain ⟨σ6, v7, g6, hf⟩ := zbi_use hf
    refine z_callVi (As := [.int v5]) (rest := []) hC hI (cX12_isBattery_met st l D ad cy σ v5 _ g6) (zgV zw48_12 zw48_13 zw48_14 zw1_5 zw48_15) rfl ⟨rfl, rfl⟩ 1 hdX12_isBattery ⟨Nat.le_of_ble_eq_true rfl, Nat.le_of_ble_eq_true rfl⟩ rfl rfl (wM_e0 ad cy σ) rfl hl rfl (Nat.le_of_ble_eq_true rfl) dX12_read_28 ⟨Nat.zero_le _, Nat.zero_le _⟩ (fun H locs hI => ?_)
    refine lv_if_eq (tgt := 49) hx hb dX12_read_31 (by decide) (fun q => ?_) (fun q => ?_)
    · replace hf := zif_t q hf
      refine lv_aload_n hx hb dX12_read_49 rfl (lv_at hl 1 rfl) ?_
      refine z_get hC hI hinX12_read_X120 0 (wM_e0 ad cy σ6) rfl 7 (by decide) (List.mem_cons_of_mem _ zw10_16) rfl dX12_read_50 ?_
      refine lv_if_ne (tgt := 81) hx hb dX12_read_53 (by decide) (fun q => ?_) (fun q => ?_)
      · replace hf := zif_f q hf
        refine lv_aload_n hx hb dX12_read_81 rfl (lv_at hl 1 rfl) ?_
        refine z_get hC hI hinX12_read_X120 0 (wM_e0 ad cy σ6) rfl 7 (by decide) (List.mem_cons_of_mem _ zw10_16) rfl dX12_read_82 ?_
        refine lv_iconst (v := 3) hx hb dX12_read_85 (by decide) ?_
        refine lv_icmp_ne (tgt := 116) hx hb dX12_read_86 (by decide) (fun q => ?_) (fun q => ?_)
        · replace hf := zif_f q hf
          refine lv_aload_n hx hb dX12_read_116 rfl (lv_at hl 1 rfl) ?_
          refine z_get hC hI hinX12_read_X120 0 (wM_e0 ad cy σ6) rfl 7 (by decide) (List.mem_cons_of_mem _ zw10_16) rfl dX12_read_117 ?_
          refine lv_iconst (v := 1) hx hb dX12_read_120 (by decide) ?_
          refine lv_icmp_ne (tgt := 138) hx hb dX12_read_121 (by decide) (fun q => ?_) (fun q => ?_)
          · replace hf := zif_f q hf
            exact bX12_read_138 hC  hI (lv_sub hl [1, 0] rfl) hf
          replace hf := zif_t q hf
          refine lv_iload_n hx hb dX12_read_124 rfl (lv_at hl 0 rfl) ?_
          refine lv_sipush (v := 1024) hx hb dX12_read_125 (by decide) ?_
          refine lv_icmp_ge (tgt := 138) hx hb dX12_read_128 (by decide) (fun q => ?_) (fun q => ?_)
          · replace hf := zif_t q hf
            exact bX12_read_138 hC  hI (lv_sub hl [1, 0] rfl) hf
          replace hf := zif_f q hf
          refine lv_aload_n hx hb dX12_read_131 rfl (lv_at hl 1 rfl) ?_
          refine lv_iconst (v := 0) hx hb dX12_read_132 (by decide) ?_
          refine lv_iload_n hx hb dX12_read_133 rfl (lv_at hl 0 rfl) ?_
          obtain ⟨σ8, v9, g8, hf⟩ := zbi_use hf
          refine z_callVi (As := [.int 0, .int v5]) (rest := []) hC hI (cX12_ofBank_met st l D ad cy σ6 0 v5 _ g8) (zgV zw49_12 zw49_13 zw49_14 zw1_5 zw49_15) rfl ⟨rfl, rfl⟩ 2 hdX12_ofBank ⟨Nat.le_of_ble_eq_true rfl, Nat.le_of_ble_eq_true rfl⟩ rfl rfl (wM_e0 ad cy σ6) rfl hl rfl (Nat.le_of_ble_eq_true rfl) dX12_read_134 ⟨Nat.zero_le _, Nat.zero_le _⟩ (fun H locs hI => ?_)
          exact z_ireturn hC hI hf dX12_read_137
        replace hf := zif_t q hf
        refine lv_aload_n hx hb dX12_read_89 rfl (lv_at hl 1 rfl) ?_
        refine lv_iload_n hx hb dX12_read_90 rfl (lv_at hl 0 rfl) ?_
        refine lv_ldc (v := 32768) hx hb hC.2.2.2.1 (hC.2.2.2.2.1 _ (List.mem_cons_of_mem _ zw9_10)) dX12_read_91 ?_
        refine lv_icmp_ge (tgt := 104) hx hb dX12_read_93 (by decide) (fun q => ?_) (fun q => ?_)
        · replace hf := zif_t q hf
          refine lv_aload_n hx hb dX12_read_104 rfl (lv_at hl 1 rfl) ?_
          refine z_get hC hI hinX12_read_X120 0 (wM_e0 ad cy σ6) rfl 10 (by decide) (List.mem_cons_of_mem _ zw9_7) rfl dX12_read_105 ?_
          refine lv_bipush (v := 31) hx hb dX12_read_108 (by decide) ?_
          obtain ⟨q, hf⟩ := zck_use hf
          refine z_iald hC hI 3 2 (wM_e3 ad cy σ6) (tM_t3 cy) q dX12_read_110 ?_
          exact bX12_read_111 hC  hI (lv_sub hl [0] rfl) hf
        replace hf := zif_f q hf
        refine lv_iload_n hx hb dX12_read_96 rfl (lv_at hl 0 rfl) ?_
        refine lv_sipush (v := 16384) hx hb dX12_read_97 (by decide) ?_
        obtain ⟨q, hf⟩ := zck_use hf
        refine lv_idiv hx hb dX12_read_100 (of_decide_eq_true q) ?_
        refine lv_goto (tgt := 111) hx hb dX12_read_101 (by decide) ?_
        exact bX12_read_111 hC  hI (lv_sub hl [0] rfl) hf
      replace hf := zif_t q hf
      refine lv_iload_n hx hb dX12_read_56 rfl (lv_at hl 0 rfl) ?_
      refine lv_aload_n hx hb dX12_read_57 rfl (lv_at hl 1 rfl) ?_
      refine z_get hC hI hinX12_read_X120 0 (wM_e0 ad cy σ6) rfl 5 (by decide) (List.mem_cons_of_mem _ zw16_6) rfl dX12_read_58 ?_
      refine lv_icmp_ge (tgt := 77) hx hb dX12_read_61 (by decide) (fun q => ?_) (fun q => ?_)
      · replace hf := zif_t q hf
        refine lv_sipush (v := 255) hx hb dX12_read_77 (by decide) ?_
        exact bX12_read_80 hC  hI (lv_sub hl [] rfl) hf
      replace hf := zif_f q hf
      refine lv_aload_n hx hb dX12_read_64 rfl (lv_at hl 1 rfl) ?_
      refine z_get hC hI hinX12_read_X120 0 (wM_e0 ad cy σ6) rfl 4 (by decide) (List.mem_cons_of_mem _ zw9_5) rfl dX12_read_65 ?_
      refine lv_iload_n hx hb dX12_read_68 rfl (lv_at hl 0 rfl) ?_
      obtain ⟨q, hf⟩ := zck_use hf
      refine z_bald hC hI 2 1 (wM_e2 ad cy σ6) (tM_t2 cy) q dX12_read_69 ?_
      refine lv_sipush (v := 255) hx hb dX12_read_70 (by decide) ?_
      refine lv_iand hx hb dX12_read_73 ?_
      refine lv_goto (tgt := 80) hx hb dX12_read_74 (by decide) ?_
      exact bX12_read_80 hC  hI (lv_sub hl [] rfl) hf
    replace hf := zif_f q hf
    refine lv_aload_n hx hb dX12_read_34 rfl (lv_at hl 1 rfl) ?_
    refine z_get hC hI hinX12_read_X120 0 (wM_e0 ad cy σ6) rfl 13 (by decide) (List.mem_cons_of_mem _ zw9_11) rfl dX12_read_35 ?_
    refine lv_aload_n hx hb dX12_read_38 rfl (lv_at hl 1 rfl) ?_
    refine lv_iload_n hx hb dX12_read_39 rfl (lv_at hl 0 rfl) ?_
    obtain ⟨σ10, v11, g10, hf⟩ := zbi_use hf
    refine z_callVi (As := [.int v5]) (rest := [.ref (ad 6)]) hC hI (cX12_batteryAt_met st l D ad cy σ6 v5 _ g10) (zgV zw48_16 zw48_17 zw48_18 zw1_5 zw48_19) rfl ⟨rfl, rfl⟩ 1 hdX12_batteryAt ⟨Nat.le_of_ble_eq_true rfl, Nat.le_of_ble_eq_true rfl⟩ rfl rfl (wM_e0 ad cy σ6) rfl hl rfl (Nat.le_of_ble_eq_true rfl) dX12_read_40 ⟨Nat.zero_le _, Nat.zero_le _⟩ (fun H locs hI => ?_)
    obtain ⟨q, hf⟩ := zck_use hf
    refine z_bald hC hI 6 5 (wM_e6 ad cy σ10) (tM_t6 cy) q dX12_read_43 ?_
    refine lv_sipush (v := 255) hx hb dX12_read_44 (by decide) ?_
    refine lv_iand hx hb dX12_read_47 ?_
    exact z_ireturn hC hI hf dX12_read_48
  replace hf := zif_f q hf
  refine lv_aload_n hx hb dX12_read_11 rfl (lv_at hl 1 rfl) ?_
  refine z_get hC hI hinX12_read_X120 0 (wM_e0 ad cy σ) rfl 12 (by decide) (List.mem_cons_of_mem _ zw9_9) rfl dX12_read_12 ?_
  refine lv_iload_n hx hb dX12_read_15 rfl (lv_at hl 0 rfl) ?_
  refine lv_sipush (v := 8192) hx hb dX12_read_16 (by decide) ?_
  obtain ⟨q, hf⟩ := zck_use hf
  refine z_irem hx hb dX12_read_19 (of_decide_eq_true q) ?_
  obtain ⟨q, hf⟩ := zck_use hf
  refine z_bald hC hI 5 4 (wM_e5 ad cy σ) (tM_t5 cy) q dX12_read_20 ?_
  refine lv_sipush (v := 255) hx hb dX12_read_21 (by decide) ?_
  refine lv_iand hx hb dX12_read_24 ?_
  exact z_ireturn hC hI hf dX12_read_25
set_option maxRecDepth 20000 in
theorem cX12_read_met (st : Nat → Nat) (l : Launch) (D : va_G) (ad : Nat → Nat) (cy : Nat → ClassId) (σ : zSt) (x1 : Int32) (res : zSt × Int32) (hf : fX12_read σ x1 = some res) (sz : Nat) : zMi st l yX12_read wzX12_read rmX12_read [.ref (ad 0), .int x1] D (tM cy) (wM ad cy) sz σ res :=
  zMi.of (cc := cX12_read) (maxL := 3) (ret := (some .int)) (by decide) rfl (Nat.le_of_ble_eq_true rfl) (fun p e s m args below meth c hC A hI ls hl => bX12_read hC hI hl hf)
theorem hdX12_read : yX12_read.cls = RX12 ∧ yX12_read.cls ≠ "java/lang/invoke/MethodHandle" ∧ yX12_read.cls ≠ "java/lang/invoke/VarHandle" ∧ (parseMethodDescriptor yX12_read.desc).map (fun d => d.parameters.length) = some 1 := by decide +kernel
noncomputable def rmX12_write : Room := { frames := 1, cells := 0, slots := 0, locals := 21 }
noncomputable def wzX12_write : List Cond := .code yX12_write cX12_write 5 none :: wsL_law
theorem hinX12_write_X120 : ∀ w ∈ wsX120, w ∈ wzX12_write := fun w h => List.mem_cons_of_mem _ (inlX12 w h)
noncomputable def fX12_write_163  (σ : zSt)  : Option (zSt) :=
  some σ
noncomputable def fX12_write_140  (σ : zSt) (x3 : Int32) (x4 : Int32) : Option (zSt) :=
  if (zgi σ 0 7) = 3 then if x3 = 40960 then zck (zin 31 1048) (zbv (zsi σ 3 ((31 : Int32).toNatClampNeg) x4) (fun σ1 =>
  fX12_write_163 σ1)) else
  fX12_write_163 σ else
  fX12_write_163 σ
noncomputable def fX12_write_103  (σ : zSt) (x3 : Int32) (x4 : Int32) : Option (zSt) :=
  if (zgi σ 0 7) = 2 then if 49152 ≤ x3 then fX12_write_140 σ x3 x4 else
  zck (decide (¬ 16384 = 0)) (
  if (zrem x3 16384) = 0 then zck (decide (¬ 16384 = 0)) (
  zck (zin (29 + (x3 / 16384)) 1048) (zbv (zsi σ 3 ((29 + (x3 / 16384)).toNatClampNeg) x4) (fun σ2 =>
  fX12_write_140 σ2 x3 x4))) else
  fX12_write_140 σ x3 x4) else
  fX12_write_140 σ x3 x4
noncomputable def fX12_write_75  (σ : zSt) (x3 : Int32) (x4 : Int32) : Option (zSt) :=
  if (zgi σ 0 7) = 1 then if x3 ≤ 65532 then fX12_write_103 σ x3 x4 else
  zck (zin ((29 + x3) - 65533) 1048) (zbv (zsi σ 3 (((29 + x3) - 65533).toNatClampNeg) x4) (fun σ3 =>
  fX12_write_103 σ3 x3 x4)) else
  fX12_write_103 σ x3 x4
noncomputable def fX12_write_52  (σ : zSt) (x3 : Int32) (x4 : Int32) : Option (zSt) :=
  if (zgi σ 0 7) = 1 then if x3 = 65532 then zck (zin 32 1048) (zbv (zsi σ 3 ((32 : Int32).toNatClampNeg) x4) (fun σ4 =>
  fX12_write_75 σ4 x3 x4)) else
  fX12_write_75 σ x3 x4 else
  fX12_write_75 σ x3 x4
noncomputable def fX12_write_31  (σ : zSt) (x3 : Int32) (x4 : Int32) : Option (zSt) :=
  zbi (fX12_isBattery σ x3) (fun σ5 v6 =>
  if v6 = 0 then fX12_write_52 σ5 x3 x4 else
  zbi (fX12_batteryAt σ5 x3) (fun σ7 v8 =>
  zck (zin v8 32768) (zbv (zsi σ7 6 (v8.toNatClampNeg) (vp_nar .byte (x4.toInt8.toInt32))) (fun σ9 =>
  fX12_write_52 σ9 x3 x4))))
noncomputable def fX12_write  (σ : zSt) (x1 : Int32) (x2 : Int32) : Option (zSt) :=
  zbv (x1 &&& 65535) (fun v10 =>
  zbv (x2 &&& 255) (fun v11 =>
  if v10 < 49152 then fX12_write_31 σ v10 v11 else
  zck (decide (¬ 8192 = 0)) (
  zck (zin (zrem v10 8192) 8192) (zbv (zsi σ 5 ((zrem v10 8192).toNatClampNeg) (vp_nar .byte (v11.toInt8.toInt32))) (fun σ12 =>
  fX12_write_31 σ12 v10 v11)))))
set_option maxRecDepth 20000 in
set_option maxHeartbeats 4000000 in
theorem bX12_write_163 {st : Nat → Nat} {p : Program} {l : Launch} {e : Env} {s : State} {m : MethodId} {args : Array Value} {below : List Frame} {meth : Method} {c : Code} {D : va_G} {A : Nat → Prop} {ad : Nat → Nat} {cy : Nat → ClassId} (hC : zC p m c cX12_write 5 s args wzX12_write RX12 meth none)  {res : zSt} {H : Heap} {locs : List Loc} {σ : zSt} {ls : Array Slot}  (hI : zI st D (tM cy) (wM ad cy σ) A s H locs) (hl : lv_has ls 5 []) (hf : fX12_write_163  σ  = some res) : W p l e rmX12_write s m args below meth c H locs 0 0 (zQu below args s D (tM cy) (wM ad cy) A res) (F0 m 163 ls []) := by
  have hx := hC.1
  have hb := hC.2.1
  unfold fX12_write_163 at hf
  exact z_return hC hI hf dX12_write_163
set_option maxRecDepth 20000 in
set_option maxHeartbeats 4000000 in
theorem bX12_write_140 {st : Nat → Nat} {p : Program} {l : Launch} {e : Env} {s : State} {m : MethodId} {args : Array Value} {below : List Frame} {meth : Method} {c : Code} {D : va_G} {A : Nat → Prop} {ad : Nat → Nat} {cy : Nat → ClassId} (hC : zC p m c cX12_write 5 s args wzX12_write RX12 meth none)  {res : zSt} {H : Heap} {locs : List Loc} {σ : zSt} {ls : Array Slot} {x3 : Int32} {x4 : Int32} (hI : zI st D (tM cy) (wM ad cy σ) A s H locs) (hl : lv_has ls 5 [(0, .ref (ad 0)), (3, .int x3), (4, .int x4)]) (hf : fX12_write_140  σ x3 x4 = some res) : W p l e rmX12_write s m args below meth c H locs 0 0 (zQu below args s D (tM cy) (wM ad cy) A res) (F0 m 140 ls []) := by
  have hx := hC.1
  have hb := hC.2.1
  unfold fX12_write_140 at hf
  refine lv_aload_n hx hb dX12_write_140 rfl (lv_at hl 0 rfl) ?_
  refine z_get hC hI hinX12_write_X120 0 (wM_e0 ad cy σ) rfl 7 (by decide) (List.mem_cons_of_mem _ zw10_16) rfl dX12_write_141 ?_
  refine lv_iconst (v := 3) hx hb dX12_write_144 (by decide) ?_
  refine lv_icmp_ne (tgt := 163) hx hb dX12_write_145 (by decide) (fun q => ?_) (fun q => ?_)
  · replace hf := zif_f q hf
    exact bX12_write_163 hC  hI (lv_sub hl [] rfl) hf
  replace hf := zif_t q hf
  refine lv_iload_n hx hb dX12_write_148 rfl (lv_at hl 1 rfl) ?_
  refine lv_ldc (v := 40960) hx hb hC.2.2.2.1 (hC.2.2.2.2.1 _ (List.mem_cons_of_mem _ zw48_11)) dX12_write_149 ?_
  refine lv_icmp_ne (tgt := 163) hx hb dX12_write_151 (by decide) (fun q => ?_) (fun q => ?_)
  · replace hf := zif_f q hf
    exact bX12_write_163 hC  hI (lv_sub hl [] rfl) hf
  replace hf := zif_t q hf
  refine lv_aload_n hx hb dX12_write_154 rfl (lv_at hl 0 rfl) ?_
  refine z_get hC hI hinX12_write_X120 0 (wM_e0 ad cy σ) rfl 10 (by decide) (List.mem_cons_of_mem _ zw9_7) rfl dX12_write_155 ?_
  refine lv_bipush (v := 31) hx hb dX12_write_158 (by decide) ?_
  refine lv_iload hx hb dX12_write_160 (lv_at hl 2 rfl) ?_
  obtain ⟨q, hf⟩ := zck_use hf
  obtain ⟨σ1, eσ1⟩ : ∃ z, z = zsi σ 3 ((31 : Int32).toNatClampNeg) x4 := ⟨_, rfl⟩
  replace hf := zbv_use eσ1 hf
  refine z_iast hC hI 3 2 (wM_e3 ad cy σ) (tM_t3 cy) q ((wM_s3 ad cy σ _ _).trans (congrArg (wM ad cy) eσ1.symm)) dX12_write_162 (fun H locs hI => ?_)
  exact bX12_write_163 hC  hI (lv_sub hl [] rfl) hf
set_option maxRecDepth 20000 in
set_option maxHeartbeats 4000000 in
theorem bX12_write_103 {st : Nat → Nat} {p : Program} {l : Launch} {e : Env} {s : State} {m : MethodId} {args : Array Value} {below : List Frame} {meth : Method} {c : Code} {D : va_G} {A : Nat → Prop} {ad : Nat → Nat} {cy : Nat → ClassId} (hC : zC p m c cX12_write 5 s args wzX12_write RX12 meth none)  {res : zSt} {H : Heap} {locs : List Loc} {σ : zSt} {ls : Array Slot} {x3 : Int32} {x4 : Int32} (hI : zI st D (tM cy) (wM ad cy σ) A s H locs) (hl : lv_has ls 5 [(0, .ref (ad 0)), (3, .int x3), (4, .int x4)]) (hf : fX12_write_103  σ x3 x4 = some res) : W p l e rmX12_write s m args below meth c H locs 0 0 (zQu below args s D (tM cy) (wM ad cy) A res) (F0 m 103 ls []) := by
  have hx := hC.1
  have hb := hC.2.1
  unfold fX12_write_103 at hf
  refine lv_aload_n hx hb dX12_write_103 rfl (lv_at hl 0 rfl) ?_
  refine z_get hC hI hinX12_write_X120 0 (wM_e0 ad cy σ) rfl 7 (by decide) (List.mem_cons_of_mem _ zw10_16) rfl dX12_write_104 ?_
  refine lv_iconst (v := 2) hx hb dX12_write_107 (by decide) ?_
  refine lv_icmp_ne (tgt := 140) hx hb dX12_write_108 (by decide) (fun q => ?_) (fun q => ?_)
  · replace hf := zif_f q hf
    exact bX12_write_140 hC  hI hl hf
  replace hf := zif_t q hf
  refine lv_iload_n hx hb dX12_write_111 rfl (lv_at hl 1 rfl) ?_
  refine lv_ldc (v := 49152) hx hb hC.2.2.2.1 (hC.2.2.2.2.1 _ (List.mem_cons_of_mem _ zw16_8)) dX12_write_112 ?_
  refine lv_icmp_ge (tgt := 140) hx hb dX12_write_114 (by decide) (fun q => ?_) (fun q => ?_)
  · replace hf := zif_t q hf
    exact bX12_write_140 hC  hI hl hf
  replace hf := zif_f q hf
  refine lv_iload_n hx hb dX12_write_117 rfl (lv_at hl 1 rfl) ?_
  refine lv_sipush (v := 16384) hx hb dX12_write_118 (by decide) ?_
  obtain ⟨q, hf⟩ := zck_use hf
  refine z_irem hx hb dX12_write_121 (of_decide_eq_true q) ?_
  refine lv_if_ne (tgt := 140) hx hb dX12_write_122 (by decide) (fun q => ?_) (fun q => ?_)
  · replace hf := zif_f q hf
    exact bX12_write_140 hC  hI hl hf
  replace hf := zif_t q hf
  refine lv_aload_n hx hb dX12_write_125 rfl (lv_at hl 0 rfl) ?_
  refine z_get hC hI hinX12_write_X120 0 (wM_e0 ad cy σ) rfl 10 (by decide) (List.mem_cons_of_mem _ zw9_7) rfl dX12_write_126 ?_
  refine lv_bipush (v := 29) hx hb dX12_write_129 (by decide) ?_
  refine lv_iload_n hx hb dX12_write_131 rfl (lv_at hl 1 rfl) ?_
  refine lv_sipush (v := 16384) hx hb dX12_write_132 (by decide) ?_
  obtain ⟨q, hf⟩ := zck_use hf
  refine lv_idiv hx hb dX12_write_135 (of_decide_eq_true q) ?_
  refine lv_iadd hx hb dX12_write_136 ?_
  refine lv_iload hx hb dX12_write_137 (lv_at hl 2 rfl) ?_
  obtain ⟨q, hf⟩ := zck_use hf
  obtain ⟨σ2, eσ2⟩ : ∃ z, z = zsi σ 3 ((29 + (x3 / 16384)).toNatClampNeg) x4 := ⟨_, rfl⟩
  replace hf := zbv_use eσ2 hf
  refine z_iast hC hI 3 2 (wM_e3 ad cy σ) (tM_t3 cy) q ((wM_s3 ad cy σ _ _).trans (congrArg (wM ad cy) eσ2.symm)) dX12_write_139 (fun H locs hI => ?_)
  exact bX12_write_140 hC  hI hl hf
set_option maxRecDepth 20000 in
set_option maxHeartbeats 4000000 in
theorem bX12_write_75 {st : Nat → Nat} {p : Program} {l : Launch} {e : Env} {s : State} {m : MethodId} {args : Array Value} {below : List Frame} {meth : Method} {c : Code} {D : va_G} {A : Nat → Prop} {ad : Nat → Nat} {cy : Nat → ClassId} (hC : zC p m c cX12_write 5 s args wzX12_write RX12 meth none)  {res : zSt} {H : Heap} {locs : List Loc} {σ : zSt} {ls : Array Slot} {x3 : Int32} {x4 : Int32} (hI : zI st D (tM cy) (wM ad cy σ) A s H locs) (hl : lv_has ls 5 [(0, .ref (ad 0)), (3, .int x3), (4, .int x4)]) (hf : fX12_write_75  σ x3 x4 = some res) : W p l e rmX12_write s m args below meth c H locs 0 0 (zQu below args s D (tM cy) (wM ad cy) A res) (F0 m 75 ls []) := by
  have hx := hC.1
  have hb := hC.2.1
  unfold fX12_write_75 at hf
  refine lv_aload_n hx hb dX12_write_75 rfl (lv_at hl 0 rfl) ?_
  refine z_get hC hI hinX12_write_X120 0 (wM_e0 ad cy σ) rfl 7 (by decide) (List.mem_cons_of_mem _ zw10_16) rfl dX12_write_76 ?_
  refine lv_iconst (v := 1) hx hb dX12_write_79 (by decide) ?_
  refine lv_icmp_ne (tgt := 103) hx hb dX12_write_80 (by decide) (fun q => ?_) (fun q => ?_)
  · replace hf := zif_f q hf
    exact bX12_write_103 hC  hI hl hf
  replace hf := zif_t q hf
  refine lv_iload_n hx hb dX12_write_83 rfl (lv_at hl 1 rfl) ?_
  refine lv_ldc (v := 65532) hx hb hC.2.2.2.1 (hC.2.2.2.2.1 _ (List.mem_cons_of_mem _ zw48_9)) dX12_write_84 ?_
  refine lv_icmp_le (tgt := 103) hx hb dX12_write_86 (by decide) (fun q => ?_) (fun q => ?_)
  · replace hf := zif_t q hf
    exact bX12_write_103 hC  hI hl hf
  replace hf := zif_f q hf
  refine lv_aload_n hx hb dX12_write_89 rfl (lv_at hl 0 rfl) ?_
  refine z_get hC hI hinX12_write_X120 0 (wM_e0 ad cy σ) rfl 10 (by decide) (List.mem_cons_of_mem _ zw9_7) rfl dX12_write_90 ?_
  refine lv_bipush (v := 29) hx hb dX12_write_93 (by decide) ?_
  refine lv_iload_n hx hb dX12_write_95 rfl (lv_at hl 1 rfl) ?_
  refine lv_iadd hx hb dX12_write_96 ?_
  refine lv_ldc (v := 65533) hx hb hC.2.2.2.1 (hC.2.2.2.2.1 _ (List.mem_cons_of_mem _ zw48_10)) dX12_write_97 ?_
  refine lv_isub hx hb dX12_write_99 ?_
  refine lv_iload hx hb dX12_write_100 (lv_at hl 2 rfl) ?_
  obtain ⟨q, hf⟩ := zck_use hf
  obtain ⟨σ3, eσ3⟩ : ∃ z, z = zsi σ 3 (((29 + x3) - 65533).toNatClampNeg) x4 := ⟨_, rfl⟩
  replace hf := zbv_use eσ3 hf
  refine z_iast hC hI 3 2 (wM_e3 ad cy σ) (tM_t3 cy) q ((wM_s3 ad cy σ _ _).trans (congrArg (wM ad cy) eσ3.symm)) dX12_write_102 (fun H locs hI => ?_)
  exact bX12_write_103 hC  hI hl hf
set_option maxRecDepth 20000 in
set_option maxHeartbeats 4000000 in
theorem bX12_write_52 {st : Nat → Nat} {p : Program} {l : Launch} {e : Env} {s : State} {m : MethodId} {args : Array Value} {below : List Frame} {meth : Method} {c : Code} {D : va_G} {A : Nat → Prop} {ad : Nat → Nat} {cy : Nat → ClassId} (hC : zC p m c cX12_write 5 s args wzX12_write RX12 meth none)  {res : zSt} {H : Heap} {locs : List Loc} {σ : zSt} {ls : Array Slot} {x3 : Int32} {x4 : Int32} (hI : zI st D (tM cy) (wM ad cy σ) A s H locs) (hl : lv_has ls 5 [(0, .ref (ad 0)), (3, .int x3), (4, .int x4)]) (hf : fX12_write_52  σ x3 x4 = some res) : W p l e rmX12_write s m args below meth c H locs 0 0 (zQu below args s D (tM cy) (wM ad cy) A res) (F0 m 52 ls []) := by
  have hx := hC.1
  have hb := hC.2.1
  unfold fX12_write_52 at hf
  refine lv_aload_n hx hb dX12_write_52 rfl (lv_at hl 0 rfl) ?_
  refine z_get hC hI hinX12_write_X120 0 (wM_e0 ad cy σ) rfl 7 (by decide) (List.mem_cons_of_mem _ zw10_16) rfl dX12_write_53 ?_
  refine lv_iconst (v := 1) hx hb dX12_write_56 (by decide) ?_
  refine lv_icmp_ne (tgt := 75) hx hb dX12_write_57 (by decide) (fun q => ?_) (fun q => ?_)
  · replace hf := zif_f q hf
    exact bX12_write_75 hC  hI hl hf
  replace hf := zif_t q hf
  refine lv_iload_n hx hb dX12_write_60 rfl (lv_at hl 1 rfl) ?_
  refine lv_ldc (v := 65532) hx hb hC.2.2.2.1 (hC.2.2.2.2.1 _ (List.mem_cons_of_mem _ zw48_9)) dX12_write_61 ?_
  refine lv_icmp_ne (tgt := 75) hx hb dX12_write_63 (by decide) (fun q => ?_) (fun q => ?_)
  · replace hf := zif_f q hf
    exact bX12_write_75 hC  hI hl hf
  replace hf := zif_t q hf
  refine lv_aload_n hx hb dX12_write_66 rfl (lv_at hl 0 rfl) ?_
  refine z_get hC hI hinX12_write_X120 0 (wM_e0 ad cy σ) rfl 10 (by decide) (List.mem_cons_of_mem _ zw9_7) rfl dX12_write_67 ?_
  refine lv_bipush (v := 32) hx hb dX12_write_70 (by decide) ?_
  refine lv_iload hx hb dX12_write_72 (lv_at hl 2 rfl) ?_
  obtain ⟨q, hf⟩ := zck_use hf
  obtain ⟨σ4, eσ4⟩ : ∃ z, z = zsi σ 3 ((32 : Int32).toNatClampNeg) x4 := ⟨_, rfl⟩
  replace hf := zbv_use eσ4 hf
  refine z_iast hC hI 3 2 (wM_e3 ad cy σ) (tM_t3 cy) q ((wM_s3 ad cy σ _ _).trans (congrArg (wM ad cy) eσ4.symm)) dX12_write_74 (fun H locs hI => ?_)
  exact bX12_write_75 hC  hI hl hf
set_option maxRecDepth 20000 in
set_option maxHeartbeats 4000000 in
theorem bX12_write_31 {st : Nat → Nat} {p : Program} {l : Launch} {e : Env} {s : State} {m : MethodId} {args : Array Value} {below : List Frame} {meth : Method} {c : Code} {D : va_G} {A : Nat → Prop} {ad : Nat → Nat} {cy : Nat → ClassId} (hC : zC p m c cX12_write 5 s args wzX12_write RX12 meth none)  {res : zSt} {H : Heap} {locs : List Loc} {σ : zSt} {ls : Array Slot} {x3 : Int32} {x4 : Int32} (hI : zI st D (tM cy) (wM ad cy σ) A s H locs) (hl : lv_has ls 5 [(0, .ref (ad 0)), (3, .int x3), (4, .int x4)]) (hf : fX12_write_31  σ x3 x4 = some res) : W p l e rmX12_write s m args below meth c H locs 0 0 (zQu below args s D (tM cy) (wM ad cy) A res) (F0 m 31 ls []) := by
  have hx := hC.1
  have hb := hC.2.1
  unfold fX12_write_31 at hf
  refine lv_aload_n hx hb dX12_write_31 rfl (lv_at hl 0 rfl) ?_
  refine lv_iload_n hx hb dX12_write_32 rfl (lv_at hl 1 rfl) ?_
  obtain ⟨σ5, v6, g5, hf⟩ := zbi_use hf
  refine z_callVi (As := [.int x3]) (rest := []) hC hI (cX12_isBattery_met st l D ad cy σ x3 _ g5) (zgV zw48_12 zw48_13 zw48_14 zw1_5 zw48_15) rfl ⟨rfl, rfl⟩ 1 hdX12_isBattery ⟨Nat.le_of_ble_eq_true rfl, Nat.le_of_ble_eq_true rfl⟩ rfl rfl (wM_e0 ad cy σ) rfl hl rfl (Nat.le_of_ble_eq_true rfl) dX12_write_33 ⟨Nat.zero_le _, Nat.zero_le _⟩ (fun H locs hI => ?_)
  refine lv_if_eq (tgt := 52) hx hb dX12_write_36 (by decide) (fun q => ?_) (fun q => ?_)
  · replace hf := zif_t q hf
    exact bX12_write_52 hC  hI hl hf
  replace hf := zif_f q hf
  refine lv_aload_n hx hb dX12_write_39 rfl (lv_at hl 0 rfl) ?_
  refine z_get hC hI hinX12_write_X120 0 (wM_e0 ad cy σ5) rfl 13 (by decide) (List.mem_cons_of_mem _ zw9_11) rfl dX12_write_40 ?_
  refine lv_aload_n hx hb dX12_write_43 rfl (lv_at hl 0 rfl) ?_
  refine lv_iload_n hx hb dX12_write_44 rfl (lv_at hl 1 rfl) ?_
  obtain ⟨σ7, v8, g7, hf⟩ := zbi_use hf
  refine z_callVi (As := [.int x3]) (rest := [.ref (ad 6)]) hC hI (cX12_batteryAt_met st l D ad cy σ5 x3 _ g7) (zgV zw48_16 zw48_17 zw48_18 zw1_5 zw48_19) rfl ⟨rfl, rfl⟩ 1 hdX12_batteryAt ⟨Nat.le_of_ble_eq_true rfl, Nat.le_of_ble_eq_true rfl⟩ rfl rfl (wM_e0 ad cy σ5) rfl hl rfl (Nat.le_of_ble_eq_true rfl) dX12_write_45 ⟨Nat.zero_le _, Nat.zero_le _⟩ (fun H locs hI => ?_)
  refine lv_iload hx hb dX12_write_48 (lv_at hl 2 rfl) ?_
  refine lv_i2b (v := x4.toInt8.toInt32) hx hb dX12_write_50 rfl ?_
  obtain ⟨q, hf⟩ := zck_use hf
  obtain ⟨σ9, eσ9⟩ : ∃ z, z = zsi σ7 6 (v8.toNatClampNeg) (vp_nar .byte (x4.toInt8.toInt32)) := ⟨_, rfl⟩
  replace hf := zbv_use eσ9 hf
  refine z_bast hC hI 6 5 (wM_e6 ad cy σ7) (tM_t6 cy) q ((wM_s6 ad cy σ7 _ _).trans (congrArg (wM ad cy) eσ9.symm)) dX12_write_51 (fun H locs hI => ?_)
  exact bX12_write_52 hC  hI hl hf
set_option maxRecDepth 20000 in
set_option maxHeartbeats 4000000 in
theorem bX12_write {st : Nat → Nat} {p : Program} {l : Launch} {e : Env} {s : State} {m : MethodId} {args : Array Value} {below : List Frame} {meth : Method} {c : Code} {D : va_G} {A : Nat → Prop} {ad : Nat → Nat} {cy : Nat → ClassId} (hC : zC p m c cX12_write 5 s args wzX12_write RX12 meth none)  {res : zSt} {H : Heap} {locs : List Loc} {σ : zSt} {ls : Array Slot} {x1 : Int32} {x2 : Int32} (hI : zI st D (tM cy) (wM ad cy σ) A s H locs) (hl : lv_has ls 5 [(0, .ref (ad 0)), (1, .int x1), (2, .int x2)]) (hf : fX12_write  σ x1 x2 = some res) : W p l e rmX12_write s m args below meth c H locs 0 0 (zQu below args s D (tM cy) (wM ad cy) A res) (F0 m 0 ls []) := by
  have hx := hC.1
  have hb := hC.2.1
  unfold fX12_write at hf
  refine lv_iload_n hx hb dX12_write_0 rfl (lv_at hl 1 rfl) ?_
  refine lv_ldc (v := 65535) hx hb hC.2.2.2.1 (hC.2.2.2.2.1 _ (List.mem_cons_of_mem _ zw16_11)) dX12_write_1 ?_
  refine lv_iand hx hb dX12_write_3 ?_
  refine lv_topi (fun v10 ev10 => ?_)
  replace hf := zbv_use ev10 hf
  refine lv_istore_n (lv' := [(3, .int v10), (0, .ref (ad 0)), (1, .int x1), (2, .int x2)]) hx hb dX12_write_4 rfl hl (by decide) rfl (fun ls hl => ?_)
  refine lv_iload_n hx hb dX12_write_5 rfl (lv_at hl 3 rfl) ?_
  refine lv_sipush (v := 255) hx hb dX12_write_6 (by decide) ?_
  refine lv_iand hx hb dX12_write_9 ?_
  refine lv_topi (fun v11 ev11 => ?_)
  replace hf := zbv_use ev11 hf
  refine lv_istore (lv' := [(4, .int v11), (3, .int v10), (0, .ref (ad 0)), (1, .int x1), (2, .int x2)]) hx hb dX12_write_10 hl (by decide) rfl (fun ls hl => ?_)
  refine lv_iload_n hx hb dX12_write_12 rfl (lv_at hl 1 rfl) ?_
  refine lv_ldc (v := 49152) hx hb hC.2.2.2.1 (hC.2.2.2.2.1 _ (List.mem_cons_of_mem _ zw16_8)) dX12_write_13 ?_
  refine lv_icmp_lt (tgt := 31) hx hb dX12_write_15 (by decide) (fun q => ?_) (fun q => ?_)
  · replace hf := zif_t q hf
    exact bX12_write_31 hC  hI (lv_sub hl [2, 1, 0] rfl) hf
  replace hf := zif_f q hf
  refine lv_aload_n hx hb dX12_write_18 rfl (lv_at hl 2 rfl) ?_
  refine z_get hC hI hinX12_write_X120 0 (wM_e0 ad cy σ) rfl 12 (by decide) (List.mem_cons_of_mem _ zw9_9) rfl dX12_write_19 ?_
  refine lv_iload_n hx hb dX12_write_22 rfl (lv_at hl 1 rfl) ?_
  refine lv_sipush (v := 8192) hx hb dX12_write_23 (by decide) ?_
  obtain ⟨q, hf⟩ := zck_use hf
  refine z_irem hx hb dX12_write_26 (of_decide_eq_true q) ?_
  refine lv_iload hx hb dX12_write_27 (lv_at hl 0 rfl) ?_
  refine lv_i2b (v := v11.toInt8.toInt32) hx hb dX12_write_29 rfl ?_
  obtain ⟨q, hf⟩ := zck_use hf
  obtain ⟨σ12, eσ12⟩ : ∃ z, z = zsi σ 5 ((zrem v10 8192).toNatClampNeg) (vp_nar .byte (v11.toInt8.toInt32)) := ⟨_, rfl⟩
  replace hf := zbv_use eσ12 hf
  refine z_bast hC hI 5 4 (wM_e5 ad cy σ) (tM_t5 cy) q ((wM_s5 ad cy σ _ _).trans (congrArg (wM ad cy) eσ12.symm)) dX12_write_30 (fun H locs hI => ?_)
  exact bX12_write_31 hC  hI (lv_sub hl [2, 1, 0] rfl) hf
set_option maxRecDepth 20000 in
theorem cX12_write_met (st : Nat → Nat) (l : Launch) (D : va_G) (ad : Nat → Nat) (cy : Nat → ClassId) (σ : zSt) (x1 : Int32) (x2 : Int32) (res : zSt) (hf : fX12_write σ x1 x2 = some res) (sz : Nat) : zMu st l yX12_write wzX12_write rmX12_write [.ref (ad 0), .int x1, .int x2] D (tM cy) (wM ad cy) sz σ res :=
  zMu.of (cc := cX12_write) (maxL := 5) (ret := none) (by decide) rfl (Nat.le_of_ble_eq_true rfl) (fun p e s m args below meth c hC A hI ls hl => bX12_write hC hI hl hf)
theorem hdX12_write : yX12_write.cls = RX12 ∧ yX12_write.cls ≠ "java/lang/invoke/MethodHandle" ∧ yX12_write.cls ≠ "java/lang/invoke/VarHandle" ∧ (parseMethodDescriptor yX12_write.desc).map (fun d => d.parameters.length) = some 2 := by decide +kernel
noncomputable def rmX12_word : Room := { frames := 2, cells := 0, slots := 0, locals := 44 }
noncomputable def wzX12_word : List Cond := .code yX12_word cX12_word 2 (some .int) :: wsL_law
noncomputable def fX12_word  (σ : zSt) (x1 : Int32) : Option (zSt × Int32) :=
  zbi (fX12_read σ x1) (fun σ1 v2 =>
  zbi (fX12_read σ1 (x1 + 1)) (fun σ3 v4 =>
  some (σ3, v2 ||| (v4 <<< ((8 : Int32) &&& 31)))))
set_option maxRecDepth 20000 in
set_option maxHeartbeats 4000000 in
theorem bX12_word {st : Nat → Nat} {p : Program} {l : Launch} {e : Env} {s : State} {m : MethodId} {args : Array Value} {below : List Frame} {meth : Method} {c : Code} {D : va_G} {A : Nat → Prop} {ad : Nat → Nat} {cy : Nat → ClassId} (hC : zC p m c cX12_word 2 s args wzX12_word RX12 meth (some .int))  {res : zSt × Int32} {H : Heap} {locs : List Loc} {σ : zSt} {ls : Array Slot} {x1 : Int32} (hI : zI st D (tM cy) (wM ad cy σ) A s H locs) (hl : lv_has ls 2 [(0, .ref (ad 0)), (1, .int x1)]) (hf : fX12_word  σ x1 = some res) : W p l e rmX12_word s m args below meth c H locs 0 0 (zQi below args s D (tM cy) (wM ad cy) A res) (F0 m 0 ls []) := by
  have hx := hC.1
  have hb := hC.2.1
  unfold fX12_word at hf
  refine lv_aload_n hx hb dX12_word_0 rfl (lv_at hl 0 rfl) ?_
  refine lv_iload_n hx hb dX12_word_1 rfl (lv_at hl 1 rfl) ?_
  obtain ⟨σ1, v2, g1, hf⟩ := zbi_use hf
  refine z_callVi (As := [.int x1]) (rest := []) hC hI (cX12_read_met st l D ad cy σ x1 _ g1) (zgV zw49_8 zw49_9 zw49_10 zw1_5 zw49_11) rfl ⟨rfl, rfl⟩ 1 hdX12_read ⟨Nat.le_of_ble_eq_true rfl, Nat.le_of_ble_eq_true rfl⟩ rfl rfl (wM_e0 ad cy σ) rfl hl rfl (Nat.le_of_ble_eq_true rfl) dX12_word_2 ⟨Nat.zero_le _, Nat.zero_le _⟩ (fun H locs hI => ?_)
  refine lv_aload_n hx hb dX12_word_5 rfl (lv_at hl 0 rfl) ?_
  refine lv_iload_n hx hb dX12_word_6 rfl (lv_at hl 1 rfl) ?_
  refine lv_iconst (v := 1) hx hb dX12_word_7 (by decide) ?_
  refine lv_iadd hx hb dX12_word_8 ?_
  obtain ⟨σ3, v4, g3, hf⟩ := zbi_use hf
  refine z_callVi (As := [.int (x1 + 1)]) (rest := [.int v2]) hC hI (cX12_read_met st l D ad cy σ1 (x1 + 1) _ g3) (zgV zw49_8 zw49_9 zw49_10 zw1_5 zw49_11) rfl ⟨rfl, rfl⟩ 1 hdX12_read ⟨Nat.le_of_ble_eq_true rfl, Nat.le_of_ble_eq_true rfl⟩ rfl rfl (wM_e0 ad cy σ1) rfl hl rfl (Nat.le_of_ble_eq_true rfl) dX12_word_9 ⟨Nat.zero_le _, Nat.zero_le _⟩ (fun H locs hI => ?_)
  refine lv_bipush (v := 8) hx hb dX12_word_12 (by decide) ?_
  refine lv_ishl hx hb dX12_word_14 ?_
  refine lv_ior hx hb dX12_word_15 ?_
  exact z_ireturn hC hI hf dX12_word_16
set_option maxRecDepth 20000 in
theorem cX12_word_met (st : Nat → Nat) (l : Launch) (D : va_G) (ad : Nat → Nat) (cy : Nat → ClassId) (σ : zSt) (x1 : Int32) (res : zSt × Int32) (hf : fX12_word σ x1 = some res) (sz : Nat) : zMi st l yX12_word wzX12_word rmX12_word [.ref (ad 0), .int x1] D (tM cy) (wM ad cy) sz σ res :=
  zMi.of (cc := cX12_word) (maxL := 2) (ret := (some .int)) (by decide) rfl (Nat.le_of_ble_eq_true rfl) (fun p e s m args below meth c hC A hI ls hl => bX12_word hC hI hl hf)
theorem hdX12_word : yX12_word.cls = RX12 ∧ yX12_word.cls ≠ "java/lang/invoke/MethodHandle" ∧ yX12_word.cls ≠ "java/lang/invoke/VarHandle" ∧ (parseMethodDescriptor yX12_word.desc).map (fun d => d.parameters.length) = some 1 := by decide +kernel
noncomputable def rmX12_wordTo : Room := { frames := 2, cells := 0, slots := 0, locals := 45 }
noncomputable def wzX12_wordTo : List Cond := .code yX12_wordTo cX12_wordTo 3 none :: wsL_law
noncomputable def fX12_wordTo  (σ : zSt) (x1 : Int32) (x2 : Int32) : Option (zSt) :=
  zbu (fX12_write σ x1 x2) (fun σ1 =>
  zbu (fX12_write σ1 (x1 + 1) (x2 >>> ((8 : Int32) &&& 31))) (fun σ2 =>
  some σ2))
set_option maxRecDepth 20000 in
set_option maxHeartbeats 4000000 in
theorem bX12_wordTo {st : Nat → Nat} {p : Program} {l : Launch} {e : Env} {s : State} {m : MethodId} {args : Array Value} {below : List Frame} {meth : Method} {c : Code} {D : va_G} {A : Nat → Prop} {ad : Nat → Nat} {cy : Nat → ClassId} (hC : zC p m c cX12_wordTo 3 s args wzX12_wordTo RX12 meth none)  {res : zSt} {H : Heap} {locs : List Loc} {σ : zSt} {ls : Array Slot} {x1 : Int32} {x2 : Int32} (hI : zI st D (tM cy) (wM ad cy σ) A s H locs) (hl : lv_has ls 3 [(0, .ref (ad 0)), (1, .int x1), (2, .int x2)]) (hf : fX12_wordTo  σ x1 x2 = some res) : W p l e rmX12_wordTo s m args below meth c H locs 0 0 (zQu below args s D (tM cy) (wM ad cy) A res) (F0 m 0 ls []) := by
  have hx := hC.1
  have hb := hC.2.1
  unfold fX12_wordTo at hf
  refine lv_aload_n hx hb dX12_wordTo_0 rfl (lv_at hl 0 rfl) ?_
  refine lv_iload_n hx hb dX12_wordTo_1 rfl (lv_at hl 1 rfl) ?_
  refine lv_iload_n hx hb dX12_wordTo_2 rfl (lv_at hl 2 rfl) ?_
  obtain ⟨σ1, g1, hf⟩ := zbu_use hf
  refine z_callVu (As := [.int x1, .int x2]) (rest := []) hC hI (cX12_write_met st l D ad cy σ x1 x2 _ g1) (zgV zw48_5 zw48_6 zw48_7 zw1_5 zw48_8) rfl ⟨rfl, rfl⟩ 2 hdX12_write ⟨Nat.le_of_ble_eq_true rfl, Nat.le_of_ble_eq_true rfl⟩ rfl rfl (wM_e0 ad cy σ) rfl hl rfl (Nat.le_of_ble_eq_true rfl) dX12_wordTo_3 ⟨Nat.zero_le _, Nat.zero_le _⟩ (fun H locs hI => ?_)
  refine lv_aload_n hx hb dX12_wordTo_6 rfl (lv_at hl 0 rfl) ?_
  refine lv_iload_n hx hb dX12_wordTo_7 rfl (lv_at hl 1 rfl) ?_
  refine lv_iconst (v := 1) hx hb dX12_wordTo_8 (by decide) ?_
  refine lv_iadd hx hb dX12_wordTo_9 ?_
  refine lv_iload_n hx hb dX12_wordTo_10 rfl (lv_at hl 2 rfl) ?_
  refine lv_bipush (v := 8) hx hb dX12_wordTo_11 (by decide) ?_
  refine lv_ishr hx hb dX12_wordTo_13 ?_
  obtain ⟨σ2, g2, hf⟩ := zbu_use hf
  refine z_callVu (As := [.int (x1 + 1), .int (x2 >>> ((8 : Int32) &&& 31))]) (rest := []) hC hI (cX12_write_met st l D ad cy σ1 (x1 + 1) (x2 >>> ((8 : Int32) &&& 31)) _ g2) (zgV zw48_5 zw48_6 zw48_7 zw1_5 zw48_8) rfl ⟨rfl, rfl⟩ 2 hdX12_write ⟨Nat.le_of_ble_eq_true rfl, Nat.le_of_ble_eq_true rfl⟩ rfl rfl (wM_e0 ad cy σ1) rfl hl rfl (Nat.le_of_ble_eq_true rfl) dX12_wordTo_14 ⟨Nat.zero_le _, Nat.zero_le _⟩ (fun H locs hI => ?_)
  exact z_return hC hI hf dX12_wordTo_17
set_option maxRecDepth 20000 in
theorem cX12_wordTo_met (st : Nat → Nat) (l : Launch) (D : va_G) (ad : Nat → Nat) (cy : Nat → ClassId) (σ : zSt) (x1 : Int32) (x2 : Int32) (res : zSt) (hf : fX12_wordTo σ x1 x2 = some res) (sz : Nat) : zMu st l yX12_wordTo wzX12_wordTo rmX12_wordTo [.ref (ad 0), .int x1, .int x2] D (tM cy) (wM ad cy) sz σ res :=
  zMu.of (cc := cX12_wordTo) (maxL := 3) (ret := none) (by decide) rfl (Nat.le_of_ble_eq_true rfl) (fun p e s m args below meth c hC A hI ls hl => bX12_wordTo hC hI hl hf)
theorem hdX12_wordTo : yX12_wordTo.cls = RX12 ∧ yX12_wordTo.cls ≠ "java/lang/invoke/MethodHandle" ∧ yX12_wordTo.cls ≠ "java/lang/invoke/VarHandle" ∧ (parseMethodDescriptor yX12_wordTo.desc).map (fun d => d.parameters.length) = some 2 := by decide +kernel
noncomputable def rmX12_pair : Room := { frames := 0, cells := 0, slots := 0, locals := 0 }
noncomputable def wzX12_pair : List Cond := .code yX12_pair cX12_pair 2 (some .int) :: wsL_law
theorem hinX12_pair_X120 : ∀ w ∈ wsX120, w ∈ wzX12_pair := fun w h => List.mem_cons_of_mem _ (inlX12 w h)
noncomputable def fX12_pair  (σ : zSt) (x1 : Int32) : Option (zSt × Int32) :=
  zck (zin x1 1048) (
  zck (zin (x1 + 1) 1048) (
  some (σ, ((zgi σ 3 x1.toNatClampNeg) <<< ((8 : Int32) &&& 31)) ||| (zgi σ 3 (x1 + 1).toNatClampNeg))))
set_option maxRecDepth 20000 in
set_option maxHeartbeats 4000000 in
theorem bX12_pair {st : Nat → Nat} {p : Program} {l : Launch} {e : Env} {s : State} {m : MethodId} {args : Array Value} {below : List Frame} {meth : Method} {c : Code} {D : va_G} {A : Nat → Prop} {ad : Nat → Nat} {cy : Nat → ClassId} (hC : zC p m c cX12_pair 2 s args wzX12_pair RX12 meth (some .int))  {res : zSt × Int32} {H : Heap} {locs : List Loc} {σ : zSt} {ls : Array Slot} {x1 : Int32} (hI : zI st D (tM cy) (wM ad cy σ) A s H locs) (hl : lv_has ls 2 [(0, .ref (ad 0)), (1, .int x1)]) (hf : fX12_pair  σ x1 = some res) : W p l e rmX12_pair s m args below meth c H locs 0 0 (zQi below args s D (tM cy) (wM ad cy) A res) (F0 m 0 ls []) := by
  have hx := hC.1
  have hb := hC.2.1
  unfold fX12_pair at hf
  refine lv_aload_n hx hb dX12_pair_0 rfl (lv_at hl 0 rfl) ?_
  refine z_get hC hI hinX12_pair_X120 0 (wM_e0 ad cy σ) rfl 10 (by decide) (List.mem_cons_of_mem _ zw9_7) rfl dX12_pair_1 ?_
  refine lv_iload_n hx hb dX12_pair_4 rfl (lv_at hl 1 rfl) ?_
  obtain ⟨q, hf⟩ := zck_use hf
  refine z_iald hC hI 3 2 (wM_e3 ad cy σ) (tM_t3 cy) q dX12_pair_5 ?_
  refine lv_bipush (v := 8) hx hb dX12_pair_6 (by decide) ?_
  refine lv_ishl hx hb dX12_pair_8 ?_
  refine lv_aload_n hx hb dX12_pair_9 rfl (lv_at hl 0 rfl) ?_
  refine z_get hC hI hinX12_pair_X120 0 (wM_e0 ad cy σ) rfl 10 (by decide) (List.mem_cons_of_mem _ zw9_7) rfl dX12_pair_10 ?_
  refine lv_iload_n hx hb dX12_pair_13 rfl (lv_at hl 1 rfl) ?_
  refine lv_iconst (v := 1) hx hb dX12_pair_14 (by decide) ?_
  refine lv_iadd hx hb dX12_pair_15 ?_
  obtain ⟨q, hf⟩ := zck_use hf
  refine z_iald hC hI 3 2 (wM_e3 ad cy σ) (tM_t3 cy) q dX12_pair_16 ?_
  refine lv_ior hx hb dX12_pair_17 ?_
  exact z_ireturn hC hI hf dX12_pair_18
set_option maxRecDepth 20000 in
theorem cX12_pair_met (st : Nat → Nat) (l : Launch) (D : va_G) (ad : Nat → Nat) (cy : Nat → ClassId) (σ : zSt) (x1 : Int32) (res : zSt × Int32) (hf : fX12_pair σ x1 = some res) (sz : Nat) : zMi st l yX12_pair wzX12_pair rmX12_pair [.ref (ad 0), .int x1] D (tM cy) (wM ad cy) sz σ res :=
  zMi.of (cc := cX12_pair) (maxL := 2) (ret := (some .int)) (by decide) rfl (Nat.le_of_ble_eq_true rfl) (fun p e s m args below meth c hC A hI ls hl => bX12_pair hC hI hl hf)
theorem hdX12_pair : yX12_pair.cls = RX12 ∧ yX12_pair.cls ≠ "java/lang/invoke/MethodHandle" ∧ yX12_pair.cls ≠ "java/lang/invoke/VarHandle" ∧ (parseMethodDescriptor yX12_pair.desc).map (fun d => d.parameters.length) = some 1 := by decide +kernel
noncomputable def rmX12_pairTo : Room := { frames := 0, cells := 0, slots := 0, locals := 0 }
noncomputable def wzX12_pairTo : List Cond := .code yX12_pairTo cX12_pairTo 3 none :: wsL_law
theorem hinX12_pairTo_X120 : ∀ w ∈ wsX120, w ∈ wzX12_pairTo := fun w h => List.mem_cons_of_mem _ (inlX12 w h)
noncomputable def fX12_pairTo  (σ : zSt) (x1 : Int32) (x2 : Int32) : Option (zSt) :=
  zck (zin x1 1048) (zbv (zsi σ 3 (x1.toNatClampNeg) ((x2 >>> ((8 : Int32) &&& 31)) &&& 255)) (fun σ1 =>
  zck (zin (x1 + 1) 1048) (zbv (zsi σ1 3 ((x1 + 1).toNatClampNeg) (x2 &&& 255)) (fun σ2 =>
  some σ2))))
set_option maxRecDepth 20000 in
set_option maxHeartbeats 4000000 in
theorem bX12_pairTo {st : Nat → Nat} {p : Program} {l : Launch} {e : Env} {s : State} {m : MethodId} {args : Array Value} {below : List Frame} {meth : Method} {c : Code} {D : va_G} {A : Nat → Prop} {ad : Nat → Nat} {cy : Nat → ClassId} (hC : zC p m c cX12_pairTo 3 s args wzX12_pairTo RX12 meth none)  {res : zSt} {H : Heap} {locs : List Loc} {σ : zSt} {ls : Array Slot} {x1 : Int32} {x2 : Int32} (hI : zI st D (tM cy) (wM ad cy σ) A s H locs) (hl : lv_has ls 3 [(0, .ref (ad 0)), (1, .int x1), (2, .int x2)]) (hf : fX12_pairTo  σ x1 x2 = some res) : W p l e rmX12_pairTo s m args below meth c H locs 0 0 (zQu below args s D (tM cy) (wM ad cy) A res) (F0 m 0 ls []) := by
  have hx := hC.1
  have hb := hC.2.1
  unfold fX12_pairTo at hf
  refine lv_aload_n hx hb dX12_pairTo_0 rfl (lv_at hl 0 rfl) ?_
  refine z_get hC hI hinX12_pairTo_X120 0 (wM_e0 ad cy σ) rfl 10 (by decide) (List.mem_cons_of_mem _ zw9_7) rfl dX12_pairTo_1 ?_
  refine lv_iload_n hx hb dX12_pairTo_4 rfl (lv_at hl 1 rfl) ?_
  refine lv_iload_n hx hb dX12_pairTo_5 rfl (lv_at hl 2 rfl) ?_
  refine lv_bipush (v := 8) hx hb dX12_pairTo_6 (by decide) ?_
  refine lv_ishr hx hb dX12_pairTo_8 ?_
  refine lv_sipush (v := 255) hx hb dX12_pairTo_9 (by decide) ?_
  refine lv_iand hx hb dX12_pairTo_12 ?_
  obtain ⟨q, hf⟩ := zck_use hf
  obtain ⟨σ1, eσ1⟩ : ∃ z, z = zsi σ 3 (x1.toNatClampNeg) ((x2 >>> ((8 : Int32) &&& 31)) &&& 255) := ⟨_, rfl⟩
  replace hf := zbv_use eσ1 hf
  refine z_iast hC hI 3 2 (wM_e3 ad cy σ) (tM_t3 cy) q ((wM_s3 ad cy σ _ _).trans (congrArg (wM ad cy) eσ1.symm)) dX12_pairTo_13 (fun H locs hI => ?_)
  refine lv_aload_n hx hb dX12_pairTo_14 rfl (lv_at hl 0 rfl) ?_
  refine z_get hC hI hinX12_pairTo_X120 0 (wM_e0 ad cy σ1) rfl 10 (by decide) (List.mem_cons_of_mem _ zw9_7) rfl dX12_pairTo_15 ?_
  refine lv_iload_n hx hb dX12_pairTo_18 rfl (lv_at hl 1 rfl) ?_
  refine lv_iconst (v := 1) hx hb dX12_pairTo_19 (by decide) ?_
  refine lv_iadd hx hb dX12_pairTo_20 ?_
  refine lv_iload_n hx hb dX12_pairTo_21 rfl (lv_at hl 2 rfl) ?_
  refine lv_sipush (v := 255) hx hb dX12_pairTo_22 (by decide) ?_
  refine lv_iand hx hb dX12_pairTo_25 ?_
  obtain ⟨q, hf⟩ := zck_use hf
  obtain ⟨σ2, eσ2⟩ : ∃ z, z = zsi σ1 3 ((x1 + 1).toNatClampNeg) (x2 &&& 255) := ⟨_, rfl⟩
  replace hf := zbv_use eσ2 hf
  refine z_iast hC hI 3 2 (wM_e3 ad cy σ1) (tM_t3 cy) q ((wM_s3 ad cy σ1 _ _).trans (congrArg (wM ad cy) eσ2.symm)) dX12_pairTo_26 (fun H locs hI => ?_)
  exact z_return hC hI hf dX12_pairTo_27
set_option maxRecDepth 20000 in
theorem cX12_pairTo_met (st : Nat → Nat) (l : Launch) (D : va_G) (ad : Nat → Nat) (cy : Nat → ClassId) (σ : zSt) (x1 : Int32) (x2 : Int32) (res : zSt) (hf : fX12_pairTo σ x1 x2 = some res) (sz : Nat) : zMu st l yX12_pairTo wzX12_pairTo rmX12_pairTo [.ref (ad 0), .int x1, .int x2] D (tM cy) (wM ad cy) sz σ res :=
  zMu.of (cc := cX12_pairTo) (maxL := 3) (ret := none) (by decide) rfl (Nat.le_of_ble_eq_true rfl) (fun p e s m args below meth c hC A hI ls hl => bX12_pairTo hC hI hl hf)
theorem hdX12_pairTo : yX12_pairTo.cls = RX12 ∧ yX12_pairTo.cls ≠ "java/lang/invoke/MethodHandle" ∧ yX12_pairTo.cls ≠ "java/lang/invoke/VarHandle" ∧ (parseMethodDescriptor yX12_pairTo.desc).map (fun d => d.parameters.length) = some 2 := by decide +kernel
noncomputable def rmX12_hl : Room := { frames := 1, cells := 0, slots := 0, locals := 21 }
noncomputable def wzX12_hl : List Cond := .code yX12_hl cX12_hl 1 (some .int) :: wsL_law
theorem hinX12_hl_X120 : ∀ w ∈ wsX120, w ∈ wzX12_hl := fun w h => List.mem_cons_of_mem _ (inlX12 w h)
noncomputable def fX12_hl_25  (σ : zSt) (s0 : Int32) : Option (zSt × Int32) :=
  some (σ, s0)
noncomputable def fX12_hl  (σ : zSt)  : Option (zSt × Int32) :=
  if (zgi σ 0 31) = 0 then zbi (fX12_pair σ 6) (fun σ1 v2 =>
  fX12_hl_25 σ1 v2) else
  zck (zin (zgi σ 0 31) 1048) (
  fX12_hl_25 σ (zgi σ 3 (zgi σ 0 31).toNatClampNeg))
set_option maxRecDepth 20000 in
set_option maxHeartbeats 4000000 in
theorem bX12_hl_25 {st : Nat → Nat} {p : Program} {l : Launch} {e : Env} {s : State} {m : MethodId} {args : Array Value} {below : List Frame} {meth : Method} {c : Code} {D : va_G} {A : Nat → Prop} {ad : Nat → Nat} {cy : Nat → ClassId} (hC : zC p m c cX12_hl 1 s args wzX12_hl RX12 meth (some .int))  {res : zSt × Int32} {H : Heap} {locs : List Loc} {σ : zSt} {ls : Array Slot} {s0 : Int32} (hI : zI st D (tM cy) (wM ad cy σ) A s H locs) (hl : lv_has ls 1 []) (hf : fX12_hl_25  σ s0 = some res) : W p l e rmX12_hl s m args below meth c H locs 0 0 (zQi below args s D (tM cy) (wM ad cy) A res) (F0 m 25 ls [.int s0]) := by
  have hx := hC.1
  have hb := hC.2.1
  unfold fX12_hl_25 at hf
  exact z_ireturn hC hI hf dX12_hl_25
set_option maxRecDepth 20000 in
set_option maxHeartbeats 4000000 in
theorem bX12_hl {st : Nat → Nat} {p : Program} {l : Launch} {e : Env} {s : State} {m : MethodId} {args : Array Value} {below : List Frame} {meth : Method} {c : Code} {D : va_G} {A : Nat → Prop} {ad : Nat → Nat} {cy : Nat → ClassId} (hC : zC p m c cX12_hl 1 s args wzX12_hl RX12 meth (some .int))  {res : zSt × Int32} {H : Heap} {locs : List Loc} {σ : zSt} {ls : Array Slot}  (hI : zI st D (tM cy) (wM ad cy σ) A s H locs) (hl : lv_has ls 1 [(0, .ref (ad 0))]) (hf : fX12_hl  σ  = some res) : W p l e rmX12_hl s m args below meth c H locs 0 0 (zQi below args s D (tM cy) (wM ad cy) A res) (F0 m 0 ls []) := by
  have hx := hC.1
  have hb := hC.2.1
  unfold fX12_hl at hf
  refine lv_aload_n hx hb dX12_hl_0 rfl (lv_at hl 0 rfl) ?_
  refine z_get hC hI hinX12_hl_X120 0 (wM_e0 ad cy σ) rfl 31 (by decide) (List.mem_cons_of_mem _ zw49_20) rfl dX12_hl_1 ?_
  refine lv_if_ne (tgt := 16) hx hb dX12_hl_4 (by decide) (fun q => ?_) (fun q => ?_)
  · replace hf := zif_f q hf
    refine lv_aload_n hx hb dX12_hl_16 rfl (lv_at hl 0 rfl) ?_
    refine z_get hC hI hinX12_hl_X120 0 (wM_e0 ad cy σ) rfl 10 (by decide) (List.mem_cons_of_mem _ zw9_7) rfl dX12_hl_17 ?_
    refine lv_aload_n hx hb dX12_hl_20 rfl (lv_at hl 0 rfl) ?_
    refine z_get hC hI hinX12_hl_X120 0 (wM_e0 ad cy σ) rfl 31 (by decide) (List.mem_cons_of_mem _ zw49_20) rfl dX12_hl_21 ?_
    obtain ⟨q, hf⟩ := zck_use hf
    refine z_iald hC hI 3 2 (wM_e3 ad cy σ) (tM_t3 cy) q dX12_hl_24 ?_
    exact bX12_hl_25 hC  hI (lv_sub hl [] rfl) hf
  replace hf := zif_t q hf
  refine lv_aload_n hx hb dX12_hl_7 rfl (lv_at hl 0 rfl) ?_
  refine lv_bipush (v := 6) hx hb dX12_hl_8 (by decide) ?_
  obtain ⟨σ1, v2, g1, hf⟩ := zbi_use hf
  refine z_callVi (As := [.int 6]) (rest := []) hC hI (cX12_pair_met st l D ad cy σ 6 _ g1) (zgV zw52_5 zw52_6 zw52_7 zw1_5 zw52_8) rfl ⟨rfl, rfl⟩ 1 hdX12_pair ⟨Nat.le_of_ble_eq_true rfl, Nat.le_of_ble_eq_true rfl⟩ rfl rfl (wM_e0 ad cy σ) rfl hl rfl (Nat.le_of_ble_eq_true rfl) dX12_hl_10 ⟨Nat.zero_le _, Nat.zero_le _⟩ (fun H locs hI => ?_)
  refine lv_goto (tgt := 25) hx hb dX12_hl_13 (by decide) ?_
  exact bX12_hl_25 hC  hI (lv_sub hl [] rfl) hf
set_option maxRecDepth 20000 in
theorem cX12_hl_met (st : Nat → Nat) (l : Launch) (D : va_G) (ad : Nat → Nat) (cy : Nat → ClassId) (σ : zSt)  (res : zSt × Int32) (hf : fX12_hl σ  = some res) (sz : Nat) : zMi st l yX12_hl wzX12_hl rmX12_hl [.ref (ad 0)] D (tM cy) (wM ad cy) sz σ res :=
  zMi.of (cc := cX12_hl) (maxL := 1) (ret := (some .int)) (by decide) rfl (Nat.le_of_ble_eq_true rfl) (fun p e s m args below meth c hC A hI ls hl => bX12_hl hC hI hl hf)
theorem hdX12_hl : yX12_hl.cls = RX12 ∧ yX12_hl.cls ≠ "java/lang/invoke/MethodHandle" ∧ yX12_hl.cls ≠ "java/lang/invoke/VarHandle" ∧ (parseMethodDescriptor yX12_hl.desc).map (fun d => d.parameters.length) = some 0 := by decide +kernel
noncomputable def rmX12_hlTo : Room := { frames := 1, cells := 0, slots := 0, locals := 22 }
noncomputable def wzX12_hlTo : List Cond := .code yX12_hlTo cX12_hlTo 2 none :: wsL_law
theorem hinX12_hlTo_X120 : ∀ w ∈ wsX120, w ∈ wzX12_hlTo := fun w h => List.mem_cons_of_mem _ (inlX12 w h)
noncomputable def fX12_hlTo_30  (σ : zSt)  : Option (zSt) :=
  some σ
noncomputable def fX12_hlTo  (σ : zSt) (x1 : Int32) : Option (zSt) :=
  if (zgi σ 0 31) = 0 then zbu (fX12_pairTo σ 6 x1) (fun σ2 =>
  fX12_hlTo_30 σ2) else
  zck (zin (zgi σ 0 31) 1048) (zbv (zsi σ 3 ((zgi σ 0 31).toNatClampNeg) (x1 &&& 65535)) (fun σ1 =>
  fX12_hlTo_30 σ1))
set_option maxRecDepth 20000 in
set_option maxHeartbeats 4000000 in
theorem bX12_hlTo_30 {st : Nat → Nat} {p : Program} {l : Launch} {e : Env} {s : State} {m : MethodId} {args : Array Value} {below : List Frame} {meth : Method} {c : Code} {D : va_G} {A : Nat → Prop} {ad : Nat → Nat} {cy : Nat → ClassId} (hC : zC p m c cX12_hlTo 2 s args wzX12_hlTo RX12 meth none)  {res : zSt} {H : Heap} {locs : List Loc} {σ : zSt} {ls : Array Slot}  (hI : zI st D (tM cy) (wM ad cy σ) A s H locs) (hl : lv_has ls 2 []) (hf : fX12_hlTo_30  σ  = some res) : W p l e rmX12_hlTo s m args below meth c H locs 0 0 (zQu below args s D (tM cy) (wM ad cy) A res) (F0 m 30 ls []) := by
  have hx := hC.1
  have hb := hC.2.1
  unfold fX12_hlTo_30 at hf
  exact z_return hC hI hf dX12_hlTo_30
set_option maxRecDepth 20000 in
set_option maxHeartbeats 4000000 in
theorem bX12_hlTo {st : Nat → Nat} {p : Program} {l : Launch} {e : Env} {s : State} {m : MethodId} {args : Array Value} {below : List Frame} {meth : Method} {c : Code} {D : va_G} {A : Nat → Prop} {ad : Nat → Nat} {cy : Nat → ClassId} (hC : zC p m c cX12_hlTo 2 s args wzX12_hlTo RX12 meth none)  {res : zSt} {H : Heap} {locs : List Loc} {σ : zSt} {ls : Array Slot} {x1 : Int32} (hI : zI st D (tM cy) (wM ad cy σ) A s H locs) (hl : lv_has ls 2 [(0, .ref (ad 0)), (1, .int x1)]) (hf : fX12_hlTo  σ x1 = some res) : W p l e rmX12_hlTo s m args below meth c H locs 0 0 (zQu below args s D (tM cy) (wM ad cy) A res) (F0 m 0 ls []) := by
  have hx := hC.1
  have hb := hC.2.1
  unfold fX12_hlTo at hf
  refine lv_aload_n hx hb dX12_hlTo_0 rfl (lv_at hl 0 rfl) ?_
  refine z_get hC hI hinX12_hlTo_X120 0 (wM_e0 ad cy σ) rfl 31 (by decide) (List.mem_cons_of_mem _ zw49_20) rfl dX12_hlTo_1 ?_
  refine lv_if_ne (tgt := 17) hx hb dX12_hlTo_4 (by decide) (fun q => ?_) (fun q => ?_)
  · replace hf := zif_f q hf
    refine lv_aload_n hx hb dX12_hlTo_17 rfl (lv_at hl 0 rfl) ?_
    refine z_get hC hI hinX12_hlTo_X120 0 (wM_e0 ad cy σ) rfl 10 (by decide) (List.mem_cons_of_mem _ zw9_7) rfl dX12_hlTo_18 ?_
    refine lv_aload_n hx hb dX12_hlTo_21 rfl (lv_at hl 0 rfl) ?_
    refine z_get hC hI hinX12_hlTo_X120 0 (wM_e0 ad cy σ) rfl 31 (by decide) (List.mem_cons_of_mem _ zw49_20) rfl dX12_hlTo_22 ?_
    refine lv_iload_n hx hb dX12_hlTo_25 rfl (lv_at hl 1 rfl) ?_
    refine lv_ldc (v := 65535) hx hb hC.2.2.2.1 (hC.2.2.2.2.1 _ (List.mem_cons_of_mem _ zw16_11)) dX12_hlTo_26 ?_
    refine lv_iand hx hb dX12_hlTo_28 ?_
    obtain ⟨q, hf⟩ := zck_use hf
    obtain ⟨σ1, eσ1⟩ : ∃ z, z = zsi σ 3 ((zgi σ 0 31).toNatClampNeg) (x1 &&& 65535) := ⟨_, rfl⟩
    replace hf := zbv_use eσ1 hf
    refine z_iast hC hI 3 2 (wM_e3 ad cy σ) (tM_t3 cy) q ((wM_s3 ad cy σ _ _).trans (congrArg (wM ad cy) eσ1.symm)) dX12_hlTo_29 (fun H locs hI => ?_)
    exact bX12_hlTo_30 hC  hI (lv_sub hl [] rfl) hf
  replace hf := zif_t q hf
  refine lv_aload_n hx hb dX12_hlTo_7 rfl (lv_at hl 0 rfl) ?_
  refine lv_bipush (v := 6) hx hb dX12_hlTo_8 (by decide) ?_
  refine lv_iload_n hx hb dX12_hlTo_10 rfl (lv_at hl 1 rfl) ?_
  obtain ⟨σ2, g2, hf⟩ := zbu_use hf
  refine z_callVu (As := [.int 6, .int x1]) (rest := []) hC hI (cX12_pairTo_met st l D ad cy σ 6 x1 _ g2) (zgV zw51_17 zw51_18 zw51_19 zw1_5 zw51_20) rfl ⟨rfl, rfl⟩ 2 hdX12_pairTo ⟨Nat.le_of_ble_eq_true rfl, Nat.le_of_ble_eq_true rfl⟩ rfl rfl (wM_e0 ad cy σ) rfl hl rfl (Nat.le_of_ble_eq_true rfl) dX12_hlTo_11 ⟨Nat.zero_le _, Nat.zero_le _⟩ (fun H locs hI => ?_)
  refine lv_goto (tgt := 30) hx hb dX12_hlTo_14 (by decide) ?_
  exact bX12_hlTo_30 hC  hI (lv_sub hl [] rfl) hf
set_option maxRecDepth 20000 in
theorem cX12_hlTo_met (st : Nat → Nat) (l : Launch) (D : va_G) (ad : Nat → Nat) (cy : Nat → ClassId) (σ : zSt) (x1 : Int32) (res : zSt) (hf : fX12_hlTo σ x1 = some res) (sz : Nat) : zMu st l yX12_hlTo wzX12_hlTo rmX12_hlTo [.ref (ad 0), .int x1] D (tM cy) (wM ad cy) sz σ res :=
  zMu.of (cc := cX12_hlTo) (maxL := 2) (ret := none) (by decide) rfl (Nat.le_of_ble_eq_true rfl) (fun p e s m args below meth c hC A hI ls hl => bX12_hlTo hC hI hl hf)
theorem hdX12_hlTo : yX12_hlTo.cls = RX12 ∧ yX12_hlTo.cls ≠ "java/lang/invoke/MethodHandle" ∧ yX12_hlTo.cls ≠ "java/lang/invoke/VarHandle" ∧ (parseMethodDescriptor yX12_hlTo.desc).map (fun d => d.parameters.length) = some 1 := by decide +kernel
noncomputable def rmX12_rp : Room := { frames := 2, cells := 0, slots := 0, locals := 41 }
noncomputable def wzX12_rp : List Cond := .code yX12_rp cX12_rp 2 (some .int) :: wsL_law
theorem hinX12_rp_X120 : ∀ w ∈ wsX120, w ∈ wzX12_rp := fun w h => List.mem_cons_of_mem _ (inlX12 w h)
noncomputable def fX12_rp_44  (σ : zSt) (s0 : Int32) : Option (zSt × Int32) :=
  some (σ, s0)
noncomputable def fX12_rp  (σ : zSt) (x1 : Int32) : Option (zSt × Int32) :=
  if x1 = 0 then zbi (fX12_pair σ 2) (fun σ5 v6 =>
  fX12_rp_44 σ5 v6) else
  if x1 = 1 then zbi (fX12_pair σ 4) (fun σ3 v4 =>
  fX12_rp_44 σ3 v4) else
  if x1 = 2 then zbi (fX12_hl σ ) (fun σ1 v2 =>
  fX12_rp_44 σ1 v2) else
  zck (zin 18 1048) (
  fX12_rp_44 σ (zgi σ 3 (18 : Int32).toNatClampNeg))
set_option maxRecDepth 20000 in
set_option maxHeartbeats 4000000 in
theorem bX12_rp_44 {st : Nat → Nat} {p : Program} {l : Launch} {e : Env} {s : State} {m : MethodId} {args : Array Value} {below : List Frame} {meth : Method} {c : Code} {D : va_G} {A : Nat → Prop} {ad : Nat → Nat} {cy : Nat → ClassId} (hC : zC p m c cX12_rp 2 s args wzX12_rp RX12 meth (some .int))  {res : zSt × Int32} {H : Heap} {locs : List Loc} {σ : zSt} {ls : Array Slot} {s0 : Int32} (hI : zI st D (tM cy) (wM ad cy σ) A s H locs) (hl : lv_has ls 2 []) (hf : fX12_rp_44  σ s0 = some res) : W p l e rmX12_rp s m args below meth c H locs 0 0 (zQi below args s D (tM cy) (wM ad cy) A res) (F0 m 44 ls [.int s0]) := by
  have hx := hC.1
  have hb := hC.2.1
  unfold fX12_rp_44 at hf
  exact z_ireturn hC hI hf dX12_rp_44
set_option maxRecDepth 20000 in
set_option maxHeartbeats 4000000 in
theorem bX12_rp {st : Nat → Nat} {p : Program} {l : Launch} {e : Env} {s : State} {m : MethodId} {args : Array Value} {below : List Frame} {meth : Method} {c : Code} {D : va_G} {A : Nat → Prop} {ad : Nat → Nat} {cy : Nat → ClassId} (hC : zC p m c cX12_rp 2 s args wzX12_rp RX12 meth (some .int))  {res : zSt × Int32} {H : Heap} {locs : List Loc} {σ : zSt} {ls : Array Slot} {x1 : Int32} (hI : zI st D (tM cy) (wM ad cy σ) A s H locs) (hl : lv_has ls 2 [(0, .ref (ad 0)), (1, .int x1)]) (hf : fX12_rp  σ x1 = some res) : W p l e rmX12_rp s m args below meth c H locs 0 0 (zQi below args s D (tM cy) (wM ad cy) A res) (F0 m 0 ls []) := by
  have hx := hC.1
  have hb := hC.2.1
  unfold fX12_rp at hf
  refine lv_iload_n hx hb dX12_rp_0 rfl (lv_at hl 1 rfl) ?_
  refine lv_if_ne (tgt := 12) hx hb dX12_rp_1 (by decide) (fun q => ?_) (fun q => ?_)
  · replace hf := zif_f q hf
    refine lv_iload_n hx hb dX12_rp_12 rfl (lv_at hl 1 rfl) ?_
    refine lv_iconst (v := 1) hx hb dX12_rp_13 (by decide) ?_
    refine lv_icmp_ne (tgt := 25) hx hb dX12_rp_14 (by decide) (fun q => ?_) (fun q => ?_)
    · replace hf := zif_f q hf
      refine lv_iload_n hx hb dX12_rp_25 rfl (lv_at hl 1 rfl) ?_
      refine lv_iconst (v := 2) hx hb dX12_rp_26 (by decide) ?_
      refine lv_icmp_ne (tgt := 37) hx hb dX12_rp_27 (by decide) (fun q => ?_) (fun q => ?_)
      · replace hf := zif_f q hf
        refine lv_aload_n hx hb dX12_rp_37 rfl (lv_at hl 0 rfl) ?_
        refine z_get hC hI hinX12_rp_X120 0 (wM_e0 ad cy σ) rfl 10 (by decide) (List.mem_cons_of_mem _ zw9_7) rfl dX12_rp_38 ?_
        refine lv_bipush (v := 18) hx hb dX12_rp_41 (by decide) ?_
        obtain ⟨q, hf⟩ := zck_use hf
        refine z_iald hC hI 3 2 (wM_e3 ad cy σ) (tM_t3 cy) q dX12_rp_43 ?_
        exact bX12_rp_44 hC  hI (lv_sub hl [] rfl) hf
      replace hf := zif_t q hf
      refine lv_aload_n hx hb dX12_rp_30 rfl (lv_at hl 0 rfl) ?_
      obtain ⟨σ1, v2, g1, hf⟩ := zbi_use hf
      refine z_callVi (As := []) (rest := []) hC hI (cX12_hl_met st l D ad cy σ  _ g1) (zgV zw52_1 zw52_2 zw52_3 zw1_5 zw52_4) rfl ⟨rfl, rfl⟩ 0 hdX12_hl ⟨Nat.le_of_ble_eq_true rfl, Nat.le_of_ble_eq_true rfl⟩ rfl rfl (wM_e0 ad cy σ) rfl hl rfl (Nat.le_of_ble_eq_true rfl) dX12_rp_31 ⟨Nat.zero_le _, Nat.zero_le _⟩ (fun H locs hI => ?_)
      refine lv_goto (tgt := 44) hx hb dX12_rp_34 (by decide) ?_
      exact bX12_rp_44 hC  hI (lv_sub hl [] rfl) hf
    replace hf := zif_t q hf
    refine lv_aload_n hx hb dX12_rp_17 rfl (lv_at hl 0 rfl) ?_
    refine lv_iconst (v := 4) hx hb dX12_rp_18 (by decide) ?_
    obtain ⟨σ3, v4, g3, hf⟩ := zbi_use hf
    refine z_callVi (As := [.int 4]) (rest := []) hC hI (cX12_pair_met st l D ad cy σ 4 _ g3) (zgV zw52_5 zw52_6 zw52_7 zw1_5 zw52_8) rfl ⟨rfl, rfl⟩ 1 hdX12_pair ⟨Nat.le_of_ble_eq_true rfl, Nat.le_of_ble_eq_true rfl⟩ rfl rfl (wM_e0 ad cy σ) rfl hl rfl (Nat.le_of_ble_eq_true rfl) dX12_rp_19 ⟨Nat.zero_le _, Nat.zero_le _⟩ (fun H locs hI => ?_)
    refine lv_goto (tgt := 44) hx hb dX12_rp_22 (by decide) ?_
    exact bX12_rp_44 hC  hI (lv_sub hl [] rfl) hf
  replace hf := zif_t q hf
  refine lv_aload_n hx hb dX12_rp_4 rfl (lv_at hl 0 rfl) ?_
  refine lv_iconst (v := 2) hx hb dX12_rp_5 (by decide) ?_
  obtain ⟨σ5, v6, g5, hf⟩ := zbi_use hf
  refine z_callVi (As := [.int 2]) (rest := []) hC hI (cX12_pair_met st l D ad cy σ 2 _ g5) (zgV zw52_5 zw52_6 zw52_7 zw1_5 zw52_8) rfl ⟨rfl, rfl⟩ 1 hdX12_pair ⟨Nat.le_of_ble_eq_true rfl, Nat.le_of_ble_eq_true rfl⟩ rfl rfl (wM_e0 ad cy σ) rfl hl rfl (Nat.le_of_ble_eq_true rfl) dX12_rp_6 ⟨Nat.zero_le _, Nat.zero_le _⟩ (fun H locs hI => ?_)
  refine lv_goto (tgt := 44) hx hb dX12_rp_9 (by decide) ?_
  exact bX12_rp_44 hC  hI (lv_sub hl [] rfl) hf
set_option maxRecDepth 20000 in
theorem cX12_rp_met (st : Nat → Nat) (l : Launch) (D : va_G) (ad : Nat → Nat) (cy : Nat → ClassId) (σ : zSt) (x1 : Int32) (res : zSt × Int32) (hf : fX12_rp σ x1 = some res) (sz : Nat) : zMi st l yX12_rp wzX12_rp rmX12_rp [.ref (ad 0), .int x1] D (tM cy) (wM ad cy) sz σ res :=
  zMi.of (cc := cX12_rp) (maxL := 2) (ret := (some .int)) (by decide) rfl (Nat.le_of_ble_eq_true rfl) (fun p e s m args below meth c hC A hI ls hl => bX12_rp hC hI hl hf)
theorem hdX12_rp : yX12_rp.cls = RX12 ∧ yX12_rp.cls ≠ "java/lang/invoke/MethodHandle" ∧ yX12_rp.cls ≠ "java/lang/invoke/VarHandle" ∧ (parseMethodDescriptor yX12_rp.desc).map (fun d => d.parameters.length) = some 1 := by decide +kernel
noncomputable def rmX12_rpTo : Room := { frames := 2, cells := 0, slots := 0, locals := 43 }
noncomputable def wzX12_rpTo : List Cond := .code yX12_rpTo cX12_rpTo 3 none :: wsL_law
theorem hinX12_rpTo_X120 : ∀ w ∈ wsX120, w ∈ wzX12_rpTo := fun w h => List.mem_cons_of_mem _ (inlX12 w h)
noncomputable def fX12_rpTo_51  (σ : zSt)  : Option (zSt) :=
  some σ
noncomputable def fX12_rpTo  (σ : zSt) (x1 : Int32) (x2 : Int32) : Option (zSt) :=
  if x1 = 0 then zbu (fX12_pairTo σ 2 x2) (fun σ4 =>
  fX12_rpTo_51 σ4) else
  if x1 = 1 then zbu (fX12_pairTo σ 4 x2) (fun σ3 =>
  fX12_rpTo_51 σ3) else
  if x1 = 2 then zbu (fX12_hlTo σ x2) (fun σ2 =>
  fX12_rpTo_51 σ2) else
  zck (zin 18 1048) (zbv (zsi σ 3 ((18 : Int32).toNatClampNeg) (x2 &&& 65535)) (fun σ1 =>
  fX12_rpTo_51 σ1))
set_option maxRecDepth 20000 in
set_option maxHeartbeats 4000000 in
theorem bX12_rpTo_51 {st : Nat → Nat} {p : Program} {l : Launch} {e : Env} {s : State} {m : MethodId} {args : Array Value} {below : List Frame} {meth : Method} {c : Code} {D : va_G} {A : Nat → Prop} {ad : Nat → Nat} {cy : Nat → ClassId} (hC : zC p m c cX12_rpTo 3 s args wzX12_rpTo RX12 meth none)  {res : zSt} {H : Heap} {locs : List Loc} {σ : zSt} {ls : Array Slot}  (hI : zI st D (tM cy) (wM ad cy σ) A s H locs) (hl : lv_has ls 3 []) (hf : fX12_rpTo_51  σ  = some res) : W p l e rmX12_rpTo s m args below meth c H locs 0 0 (zQu below args s D (tM cy) (wM ad cy) A res) (F0 m 51 ls []) := by
  have hx := hC.1
  have hb := hC.2.1
  unfold fX12_rpTo_51 at hf
  exact z_return hC hI hf dX12_rpTo_51
set_option maxRecDepth 20000 in
set_option maxHeartbeats 4000000 in
theorem bX12_rpTo {st : Nat → Nat} {p : Program} {l : Launch} {e : Env} {s : State} {m : MethodId} {args : Array Value} {below : List Frame} {meth : Method} {c : Code} {D : va_G} {A : Nat → Prop} {ad : Nat → Nat} {cy : Nat → ClassId} (hC : zC p m c cX12_rpTo 3 s args wzX12_rpTo RX12 meth none)  {res : zSt} {H : Heap} {locs : List Loc} {σ : zSt} {ls : Array Slot} {x1 : Int32} {x2 : Int32} (hI : zI st D (tM cy) (wM ad cy σ) A s H locs) (hl : lv_has ls 3 [(0, .ref (ad 0)), (1, .int x1), (2, .int x2)]) (hf : fX12_rpTo  σ x1 x2 = some res) : W p l e rmX12_rpTo s m args below meth c H locs 0 0 (zQu below args s D (tM cy) (wM ad cy) A res) (F0 m 0 ls []) := by
  have hx := hC.1
  have hb := hC.2.1
  unfold fX12_rpTo at hf
  refine lv_iload_n hx hb dX12_rpTo_0 rfl (lv_at hl 1 rfl) ?_
  refine lv_if_ne (tgt := 13) hx hb dX12_rpTo_1 (by decide) (fun q => ?_) (fun q => ?_)
  · replace hf := zif_f q hf
    refine lv_iload_n hx hb dX12_rpTo_13 rfl (lv_at hl 1 rfl) ?_
    refine lv_iconst (v := 1) hx hb dX12_rpTo_14 (by decide) ?_
    refine lv_icmp_ne (tgt := 27) hx hb dX12_rpTo_15 (by decide) (fun q => ?_) (fun q => ?_)
    · replace hf := zif_f q hf
      refine lv_iload_n hx hb dX12_rpTo_27 rfl (lv_at hl 1 rfl) ?_
      refine lv_iconst (v := 2) hx hb dX12_rpTo_28 (by decide) ?_
      refine lv_icmp_ne (tgt := 40) hx hb dX12_rpTo_29 (by decide) (fun q => ?_) (fun q => ?_)
      · replace hf := zif_f q hf
        refine lv_aload_n hx hb dX12_rpTo_40 rfl (lv_at hl 0 rfl) ?_
        refine z_get hC hI hinX12_rpTo_X120 0 (wM_e0 ad cy σ) rfl 10 (by decide) (List.mem_cons_of_mem _ zw9_7) rfl dX12_rpTo_41 ?_
        refine lv_bipush (v := 18) hx hb dX12_rpTo_44 (by decide) ?_
        refine lv_iload_n hx hb dX12_rpTo_46 rfl (lv_at hl 2 rfl) ?_
        refine lv_ldc (v := 65535) hx hb hC.2.2.2.1 (hC.2.2.2.2.1 _ (List.mem_cons_of_mem _ zw16_11)) dX12_rpTo_47 ?_
        refine lv_iand hx hb dX12_rpTo_49 ?_
        obtain ⟨q, hf⟩ := zck_use hf
        obtain ⟨σ1, eσ1⟩ : ∃ z, z = zsi σ 3 ((18 : Int32).toNatClampNeg) (x2 &&& 65535) := ⟨_, rfl⟩
        replace hf := zbv_use eσ1 hf
        refine z_iast hC hI 3 2 (wM_e3 ad cy σ) (tM_t3 cy) q ((wM_s3 ad cy σ _ _).trans (congrArg (wM ad cy) eσ1.symm)) dX12_rpTo_50 (fun H locs hI => ?_)
        exact bX12_rpTo_51 hC  hI (lv_sub hl [] rfl) hf
      replace hf := zif_t q hf
      refine lv_aload_n hx hb dX12_rpTo_32 rfl (lv_at hl 0 rfl) ?_
      refine lv_iload_n hx hb dX12_rpTo_33 rfl (lv_at hl 2 rfl) ?_
      obtain ⟨σ2, g2, hf⟩ := zbu_use hf
      refine z_callVu (As := [.int x2]) (rest := []) hC hI (cX12_hlTo_met st l D ad cy σ x2 _ g2) (zgV zw51_21 zw51_22 zw51_23 zw1_5 zw52_0) rfl ⟨rfl, rfl⟩ 1 hdX12_hlTo ⟨Nat.le_of_ble_eq_true rfl, Nat.le_of_ble_eq_true rfl⟩ rfl rfl (wM_e0 ad cy σ) rfl hl rfl (Nat.le_of_ble_eq_true rfl) dX12_rpTo_34 ⟨Nat.zero_le _, Nat.zero_le _⟩ (fun H locs hI => ?_)
      refine lv_goto (tgt := 51) hx hb dX12_rpTo_37 (by decide) ?_
      exact bX12_rpTo_51 hC  hI (lv_sub hl [] rfl) hf
    replace hf := zif_t q hf
    refine lv_aload_n hx hb dX12_rpTo_18 rfl (lv_at hl 0 rfl) ?_
    refine lv_iconst (v := 4) hx hb dX12_rpTo_19 (by decide) ?_
    refine lv_iload_n hx hb dX12_rpTo_20 rfl (lv_at hl 2 rfl) ?_
    obtain ⟨σ3, g3, hf⟩ := zbu_use hf
    refine z_callVu (As := [.int 4, .int x2]) (rest := []) hC hI (cX12_pairTo_met st l D ad cy σ 4 x2 _ g3) (zgV zw51_17 zw51_18 zw51_19 zw1_5 zw51_20) rfl ⟨rfl, rfl⟩ 2 hdX12_pairTo ⟨Nat.le_of_ble_eq_true rfl, Nat.le_of_ble_eq_true rfl⟩ rfl rfl (wM_e0 ad cy σ) rfl hl rfl (Nat.le_of_ble_eq_true rfl) dX12_rpTo_21 ⟨Nat.zero_le _, Nat.zero_le _⟩ (fun H locs hI => ?_)
    refine lv_goto (tgt := 51) hx hb dX12_rpTo_24 (by decide) ?_
    exact bX12_rpTo_51 hC  hI (lv_sub hl [] rfl) hf
  replace hf := zif_t q hf
  refine lv_aload_n hx hb dX12_rpTo_4 rfl (lv_at hl 0 rfl) ?_
  refine lv_iconst (v := 2) hx hb dX12_rpTo_5 (by decide) ?_
  refine lv_iload_n hx hb dX12_rpTo_6 rfl (lv_at hl 2 rfl) ?_
  obtain ⟨σ4, g4, hf⟩ := zbu_use hf
  refine z_callVu (As := [.int 2, .int x2]) (rest := []) hC hI (cX12_pairTo_met st l D ad cy σ 2 x2 _ g4) (zgV zw51_17 zw51_18 zw51_19 zw1_5 zw51_20) rfl ⟨rfl, rfl⟩ 2 hdX12_pairTo ⟨Nat.le_of_ble_eq_true rfl, Nat.le_of_ble_eq_true rfl⟩ rfl rfl (wM_e0 ad cy σ) rfl hl rfl (Nat.le_of_ble_eq_true rfl) dX12_rpTo_7 ⟨Nat.zero_le _, Nat.zero_le _⟩ (fun H locs hI => ?_)
  refine lv_goto (tgt := 51) hx hb dX12_rpTo_10 (by decide) ?_
  exact bX12_rpTo_51 hC  hI (lv_sub hl [] rfl) hf
set_option maxRecDepth 20000 in
theorem cX12_rpTo_met (st : Nat → Nat) (l : Launch) (D : va_G) (ad : Nat → Nat) (cy : Nat → ClassId) (σ : zSt) (x1 : Int32) (x2 : Int32) (res : zSt) (hf : fX12_rpTo σ x1 x2 = some res) (sz : Nat) : zMu st l yX12_rpTo wzX12_rpTo rmX12_rpTo [.ref (ad 0), .int x1, .int x2] D (tM cy) (wM ad cy) sz σ res :=
  zMu.of (cc := cX12_rpTo) (maxL := 3) (ret := none) (by decide) rfl (Nat.le_of_ble_eq_true rfl) (fun p e s m args below meth c hC A hI ls hl => bX12_rpTo hC hI hl hf)
theorem hdX12_rpTo : yX12_rpTo.cls = RX12 ∧ yX12_rpTo.cls ≠ "java/lang/invoke/MethodHandle" ∧ yX12_rpTo.cls ≠ "java/lang/invoke/VarHandle" ∧ (parseMethodDescriptor yX12_rpTo.desc).map (fun d => d.parameters.length) = some 2 := by decide +kernel
noncomputable def rmX12_m : Room := { frames := 1, cells := 0, slots := 0, locals := 21 }
noncomputable def wzX12_m : List Cond := .code yX12_m cX12_m 1 (some .int) :: wsL_law
theorem hinX12_m_X120 : ∀ w ∈ wsX120, w ∈ wzX12_m := fun w h => List.mem_cons_of_mem _ (inlX12 w h)
noncomputable def fX12_m_23  (σ : zSt) (s0 : Int32) : Option (zSt × Int32) :=
  some (σ, s0)
noncomputable def fX12_m  (σ : zSt)  : Option (zSt × Int32) :=
  if (zgi σ 0 32) = 0 then zbi (fX12_pair σ 6) (fun σ1 v2 =>
  fX12_m_23 σ1 v2) else
  zck (zin 20 1048) (
  fX12_m_23 σ (zgi σ 3 (20 : Int32).toNatClampNeg))
set_option maxRecDepth 20000 in
set_option maxHeartbeats 4000000 in
theorem bX12_m_23 {st : Nat → Nat} {p : Program} {l : Launch} {e : Env} {s : State} {m : MethodId} {args : Array Value} {below : List Frame} {meth : Method} {c : Code} {D : va_G} {A : Nat → Prop} {ad : Nat → Nat} {cy : Nat → ClassId} (hC : zC p m c cX12_m 1 s args wzX12_m RX12 meth (some .int))  {res : zSt × Int32} {H : Heap} {locs : List Loc} {σ : zSt} {ls : Array Slot} {s0 : Int32} (hI : zI st D (tM cy) (wM ad cy σ) A s H locs) (hl : lv_has ls 1 []) (hf : fX12_m_23  σ s0 = some res) : W p l e rmX12_m s m args below meth c H locs 0 0 (zQi below args s D (tM cy) (wM ad cy) A res) (F0 m 23 ls [.int s0]) := by
  have hx := hC.1
  have hb := hC.2.1
  unfold fX12_m_23 at hf
  exact z_ireturn hC hI hf dX12_m_23
set_option maxRecDepth 20000 in
set_option maxHeartbeats 4000000 in
theorem bX12_m {st : Nat → Nat} {p : Program} {l : Launch} {e : Env} {s : State} {m : MethodId} {args : Array Value} {below : List Frame} {meth : Method} {c : Code} {D : va_G} {A : Nat → Prop} {ad : Nat → Nat} {cy : Nat → ClassId} (hC : zC p m c cX12_m 1 s args wzX12_m RX12 meth (some .int))  {res : zSt × Int32} {H : Heap} {locs : List Loc} {σ : zSt} {ls : Array Slot}  (hI : zI st D (tM cy) (wM ad cy σ) A s H locs) (hl : lv_has ls 1 [(0, .ref (ad 0))]) (hf : fX12_m  σ  = some res) : W p l e rmX12_m s m args below meth c H locs 0 0 (zQi below args s D (tM cy) (wM ad cy) A res) (F0 m 0 ls []) := by
  have hx := hC.1
  have hb := hC.2.1
  unfold fX12_m at hf
  refine lv_aload_n hx hb dX12_m_0 rfl (lv_at hl 0 rfl) ?_
  refine z_get hC hI hinX12_m_X120 0 (wM_e0 ad cy σ) rfl 32 (by decide) (List.mem_cons_of_mem _ zw49_21) rfl dX12_m_1 ?_
  refine lv_if_eq (tgt := 17) hx hb dX12_m_4 (by decide) (fun q => ?_) (fun q => ?_)
  · replace hf := zif_t q hf
    refine lv_aload_n hx hb dX12_m_17 rfl (lv_at hl 0 rfl) ?_
    refine lv_bipush (v := 6) hx hb dX12_m_18 (by decide) ?_
    obtain ⟨σ1, v2, g1, hf⟩ := zbi_use hf
    refine z_callVi (As := [.int 6]) (rest := []) hC hI (cX12_pair_met st l D ad cy σ 6 _ g1) (zgV zw52_5 zw52_6 zw52_7 zw1_5 zw52_8) rfl ⟨rfl, rfl⟩ 1 hdX12_pair ⟨Nat.le_of_ble_eq_true rfl, Nat.le_of_ble_eq_true rfl⟩ rfl rfl (wM_e0 ad cy σ) rfl hl rfl (Nat.le_of_ble_eq_true rfl) dX12_m_20 ⟨Nat.zero_le _, Nat.zero_le _⟩ (fun H locs hI => ?_)
    exact bX12_m_23 hC  hI (lv_sub hl [] rfl) hf
  replace hf := zif_f q hf
  refine lv_aload_n hx hb dX12_m_7 rfl (lv_at hl 0 rfl) ?_
  refine z_get hC hI hinX12_m_X120 0 (wM_e0 ad cy σ) rfl 10 (by decide) (List.mem_cons_of_mem _ zw9_7) rfl dX12_m_8 ?_
  refine lv_bipush (v := 20) hx hb dX12_m_11 (by decide) ?_
  obtain ⟨q, hf⟩ := zck_use hf
  refine z_iald hC hI 3 2 (wM_e3 ad cy σ) (tM_t3 cy) q dX12_m_13 ?_
  refine lv_goto (tgt := 23) hx hb dX12_m_14 (by decide) ?_
  exact bX12_m_23 hC  hI (lv_sub hl [] rfl) hf
set_option maxRecDepth 20000 in
theorem cX12_m_met (st : Nat → Nat) (l : Launch) (D : va_G) (ad : Nat → Nat) (cy : Nat → ClassId) (σ : zSt)  (res : zSt × Int32) (hf : fX12_m σ  = some res) (sz : Nat) : zMi st l yX12_m wzX12_m rmX12_m [.ref (ad 0)] D (tM cy) (wM ad cy) sz σ res :=
  zMi.of (cc := cX12_m) (maxL := 1) (ret := (some .int)) (by decide) rfl (Nat.le_of_ble_eq_true rfl) (fun p e s m args below meth c hC A hI ls hl => bX12_m hC hI hl hf)
theorem hdX12_m : yX12_m.cls = RX12 ∧ yX12_m.cls ≠ "java/lang/invoke/MethodHandle" ∧ yX12_m.cls ≠ "java/lang/invoke/VarHandle" ∧ (parseMethodDescriptor yX12_m.desc).map (fun d => d.parameters.length) = some 0 := by decide +kernel
end ZJN0
section ZJN1
noncomputable def kn_cX12_r : Nat := 0xac2e601b051600b42aac7eff00112eae00b42a1600b42a1000a77a08102eae00b42a1600b42a1200a0071b2500a4061b2a009eae00b42aac2e031600b42a0a00a007101baca600b6c200b62a2a0c00a006101b
theorem zk_cX12_r : zkd cX12_r.data.toList kn_cX12_r = true := by decide +kernel
theorem zn_cX12_r : cX12_r.data.toList.length = 83 := by decide +kernel
theorem dX12_r_0 : decode cX12_r 0 = .ok (.iload_n 1, 1) := zo_27 (zkb zk_cX12_r zn_cX12_r rfl)
theorem dX12_r_1 : decode cX12_r 1 = .ok (.bipush 6, 2) := zo_16 (b1 := 6) (zkb2 zk_cX12_r zn_cX12_r rfl) rfl
theorem dX12_r_3 : decode cX12_r 3 = .ok (.if_icmp .ne 12, 3) := zo_160 (b1 := 0) (b2 := 12) (zkb3 zk_cX12_r zn_cX12_r rfl) rfl
theorem dX12_r_6 : decode cX12_r 6 = .ok (.aload_n 0, 1) := zo_42 (zkb zk_cX12_r zn_cX12_r rfl)
theorem dX12_r_7 : decode cX12_r 7 = .ok (.aload_n 0, 1) := zo_42 (zkb zk_cX12_r zn_cX12_r rfl)
theorem dX12_r_8 : decode cX12_r 8 = .ok (.invokevirtual 194, 3) := zo_182 (b1 := 0) (b2 := 194) (zkb3 zk_cX12_r zn_cX12_r rfl) rfl
theorem dX12_r_11 : decode cX12_r 11 = .ok (.invokevirtual 166, 3) := zo_182 (b1 := 0) (b2 := 166) (zkb3 zk_cX12_r zn_cX12_r rfl) rfl
theorem dX12_r_14 : decode cX12_r 14 = .ok (.ireturn, 1) := zo_172 (zkb zk_cX12_r zn_cX12_r rfl)
theorem dX12_r_15 : decode cX12_r 15 = .ok (.iload_n 1, 1) := zo_27 (zkb zk_cX12_r zn_cX12_r rfl)
theorem dX12_r_16 : decode cX12_r 16 = .ok (.bipush 7, 2) := zo_16 (b1 := 7) (zkb2 zk_cX12_r zn_cX12_r rfl) rfl
theorem dX12_r_18 : decode cX12_r 18 = .ok (.if_icmp .ne 10, 3) := zo_160 (b1 := 0) (b2 := 10) (zkb3 zk_cX12_r zn_cX12_r rfl) rfl
theorem dX12_r_21 : decode cX12_r 21 = .ok (.aload_n 0, 1) := zo_42 (zkb zk_cX12_r zn_cX12_r rfl)
theorem dX12_r_22 : decode cX12_r 22 = .ok (.getfield 22, 3) := zo_180 (b1 := 0) (b2 := 22) (zkb3 zk_cX12_r zn_cX12_r rfl) rfl
theorem dX12_r_25 : decode cX12_r 25 = .ok (.iconst 0, 1) := zo_3 (zkb zk_cX12_r zn_cX12_r rfl)
theorem dX12_r_26 : decode cX12_r 26 = .ok (.iaload, 1) := zo_46 (zkb zk_cX12_r zn_cX12_r rfl)
theorem dX12_r_27 : decode cX12_r 27 = .ok (.ireturn, 1) := zo_172 (zkb zk_cX12_r zn_cX12_r rfl)
theorem dX12_r_28 : decode cX12_r 28 = .ok (.aload_n 0, 1) := zo_42 (zkb zk_cX12_r zn_cX12_r rfl)
theorem dX12_r_29 : decode cX12_r 29 = .ok (.getfield 174, 3) := zo_180 (b1 := 0) (b2 := 174) (zkb3 zk_cX12_r zn_cX12_r rfl) rfl
theorem dX12_r_32 : decode cX12_r 32 = .ok (.ifCond .le 42, 3) := zo_158 (b1 := 0) (b2 := 42) (zkb3 zk_cX12_r zn_cX12_r rfl) rfl
theorem dX12_r_35 : decode cX12_r 35 = .ok (.iload_n 1, 1) := zo_27 (zkb zk_cX12_r zn_cX12_r rfl)
theorem dX12_r_36 : decode cX12_r 36 = .ok (.iconst 3, 1) := zo_6 (zkb zk_cX12_r zn_cX12_r rfl)
theorem dX12_r_37 : decode cX12_r 37 = .ok (.if_icmp .le 37, 3) := zo_164 (b1 := 0) (b2 := 37) (zkb3 zk_cX12_r zn_cX12_r rfl) rfl
theorem dX12_r_40 : decode cX12_r 40 = .ok (.iload_n 1, 1) := zo_27 (zkb zk_cX12_r zn_cX12_r rfl)
theorem dX12_r_41 : decode cX12_r 41 = .ok (.iconst 4, 1) := zo_7 (zkb zk_cX12_r zn_cX12_r rfl)
theorem dX12_r_42 : decode cX12_r 42 = .ok (.if_icmp .ne 18, 3) := zo_160 (b1 := 0) (b2 := 18) (zkb3 zk_cX12_r zn_cX12_r rfl) rfl
theorem dX12_r_45 : decode cX12_r 45 = .ok (.aload_n 0, 1) := zo_42 (zkb zk_cX12_r zn_cX12_r rfl)
theorem dX12_r_46 : decode cX12_r 46 = .ok (.getfield 22, 3) := zo_180 (b1 := 0) (b2 := 22) (zkb3 zk_cX12_r zn_cX12_r rfl) rfl
theorem dX12_r_49 : decode cX12_r 49 = .ok (.aload_n 0, 1) := zo_42 (zkb zk_cX12_r zn_cX12_r rfl)
theorem dX12_r_50 : decode cX12_r 50 = .ok (.getfield 174, 3) := zo_180 (b1 := 0) (b2 := 174) (zkb3 zk_cX12_r zn_cX12_r rfl) rfl
theorem dX12_r_53 : decode cX12_r 53 = .ok (.iaload, 1) := zo_46 (zkb zk_cX12_r zn_cX12_r rfl)
theorem dX12_r_54 : decode cX12_r 54 = .ok (.bipush 8, 2) := zo_16 (b1 := 8) (zkb2 zk_cX12_r zn_cX12_r rfl) rfl
theorem dX12_r_56 : decode cX12_r 56 = .ok (.ishr, 1) := zo_122 (zkb zk_cX12_r zn_cX12_r rfl)
theorem dX12_r_57 : decode cX12_r 57 = .ok (.goto 16, 3) := zo_167 (b1 := 0) (b2 := 16) (zkb3 zk_cX12_r zn_cX12_r rfl) rfl
theorem dX12_r_60 : decode cX12_r 60 = .ok (.aload_n 0, 1) := zo_42 (zkb zk_cX12_r zn_cX12_r rfl)
theorem dX12_r_61 : decode cX12_r 61 = .ok (.getfield 22, 3) := zo_180 (b1 := 0) (b2 := 22) (zkb3 zk_cX12_r zn_cX12_r rfl) rfl
theorem dX12_r_64 : decode cX12_r 64 = .ok (.aload_n 0, 1) := zo_42 (zkb zk_cX12_r zn_cX12_r rfl)
theorem dX12_r_65 : decode cX12_r 65 = .ok (.getfield 174, 3) := zo_180 (b1 := 0) (b2 := 174) (zkb3 zk_cX12_r zn_cX12_r rfl) rfl
theorem dX12_r_68 : decode cX12_r 68 = .ok (.iaload, 1) := zo_46 (zkb zk_cX12_r zn_cX12_r rfl)
theorem dX12_r_69 : decode cX12_r 69 = .ok (.sipush 255, 3) := zo_17 (b1 := 0) (b2 := 255) (zkb3 zk_cX12_r zn_cX12_r rfl) rfl
theorem dX12_r_72 : decode cX12_r 72 = .ok (.iand, 1) := zo_126 (zkb zk_cX12_r zn_cX12_r rfl)
theorem dX12_r_73 : decode cX12_r 73 = .ok (.ireturn, 1) := zo_172 (zkb zk_cX12_r zn_cX12_r rfl)
theorem dX12_r_74 : decode cX12_r 74 = .ok (.aload_n 0, 1) := zo_42 (zkb zk_cX12_r zn_cX12_r rfl)
theorem dX12_r_75 : decode cX12_r 75 = .ok (.getfield 22, 3) := zo_180 (b1 := 0) (b2 := 22) (zkb3 zk_cX12_r zn_cX12_r rfl) rfl
theorem dX12_r_78 : decode cX12_r 78 = .ok (.iconst 2, 1) := zo_5 (zkb zk_cX12_r zn_cX12_r rfl)
theorem dX12_r_79 : decode cX12_r 79 = .ok (.iload_n 1, 1) := zo_27 (zkb zk_cX12_r zn_cX12_r rfl)
theorem dX12_r_80 : decode cX12_r 80 = .ok (.iadd, 1) := zo_96 (zkb zk_cX12_r zn_cX12_r rfl)
theorem dX12_r_81 : decode cX12_r 81 = .ok (.iaload, 1) := zo_46 (zkb zk_cX12_r zn_cX12_r rfl)
theorem dX12_r_82 : decode cX12_r 82 = .ok (.ireturn, 1) := zo_172 (zkb zk_cX12_r zn_cX12_r rfl)
noncomputable def kn_cX12_rTo : Nat := 0xb14f1d601b051600b42a0c00a74f801d7ec5122eae00b42a1600b42a1100a7807eff00112eae00b42a1600b42a7808101d1800a0071bae00b42a1600b42a3700a4061b3c009eae00b42a4c00a74f1d031600b42a0d00a007101b5c00a7a900b61dc200b62a2a0f00a006101b3e7eff00111c
theorem zk_cX12_rTo : zkd cX12_rTo.data.toList kn_cX12_rTo = true := by decide +kernel
theorem zn_cX12_rTo : cX12_rTo.data.toList.length = 114 := by decide +kernel
theorem dX12_rTo_0 : decode cX12_rTo 0 = .ok (.iload_n 2, 1) := zo_28 (zkb zk_cX12_rTo zn_cX12_rTo rfl)
theorem dX12_rTo_1 : decode cX12_rTo 1 = .ok (.sipush 255, 3) := zo_17 (b1 := 0) (b2 := 255) (zkb3 zk_cX12_rTo zn_cX12_rTo rfl) rfl
theorem dX12_rTo_4 : decode cX12_rTo 4 = .ok (.iand, 1) := zo_126 (zkb zk_cX12_rTo zn_cX12_rTo rfl)
theorem dX12_rTo_5 : decode cX12_rTo 5 = .ok (.istore_n 3, 1) := zo_62 (zkb zk_cX12_rTo zn_cX12_rTo rfl)
theorem dX12_rTo_6 : decode cX12_rTo 6 = .ok (.iload_n 1, 1) := zo_27 (zkb zk_cX12_rTo zn_cX12_rTo rfl)
theorem dX12_rTo_7 : decode cX12_rTo 7 = .ok (.bipush 6, 2) := zo_16 (b1 := 6) (zkb2 zk_cX12_rTo zn_cX12_rTo rfl) rfl
theorem dX12_rTo_9 : decode cX12_rTo 9 = .ok (.if_icmp .ne 15, 3) := zo_160 (b1 := 0) (b2 := 15) (zkb3 zk_cX12_rTo zn_cX12_rTo rfl) rfl
theorem dX12_rTo_12 : decode cX12_rTo 12 = .ok (.aload_n 0, 1) := zo_42 (zkb zk_cX12_rTo zn_cX12_rTo rfl)
theorem dX12_rTo_13 : decode cX12_rTo 13 = .ok (.aload_n 0, 1) := zo_42 (zkb zk_cX12_rTo zn_cX12_rTo rfl)
theorem dX12_rTo_14 : decode cX12_rTo 14 = .ok (.invokevirtual 194, 3) := zo_182 (b1 := 0) (b2 := 194) (zkb3 zk_cX12_rTo zn_cX12_rTo rfl) rfl
theorem dX12_rTo_17 : decode cX12_rTo 17 = .ok (.iload_n 3, 1) := zo_29 (zkb zk_cX12_rTo zn_cX12_rTo rfl)
theorem dX12_rTo_18 : decode cX12_rTo 18 = .ok (.invokevirtual 169, 3) := zo_182 (b1 := 0) (b2 := 169) (zkb3 zk_cX12_rTo zn_cX12_rTo rfl) rfl
theorem dX12_rTo_21 : decode cX12_rTo 21 = .ok (.goto 92, 3) := zo_167 (b1 := 0) (b2 := 92) (zkb3 zk_cX12_rTo zn_cX12_rTo rfl) rfl
theorem dX12_rTo_24 : decode cX12_rTo 24 = .ok (.iload_n 1, 1) := zo_27 (zkb zk_cX12_rTo zn_cX12_rTo rfl)
theorem dX12_rTo_25 : decode cX12_rTo 25 = .ok (.bipush 7, 2) := zo_16 (b1 := 7) (zkb2 zk_cX12_rTo zn_cX12_rTo rfl) rfl
theorem dX12_rTo_27 : decode cX12_rTo 27 = .ok (.if_icmp .ne 13, 3) := zo_160 (b1 := 0) (b2 := 13) (zkb3 zk_cX12_rTo zn_cX12_rTo rfl) rfl
theorem dX12_rTo_30 : decode cX12_rTo 30 = .ok (.aload_n 0, 1) := zo_42 (zkb zk_cX12_rTo zn_cX12_rTo rfl)
theorem dX12_rTo_31 : decode cX12_rTo 31 = .ok (.getfield 22, 3) := zo_180 (b1 := 0) (b2 := 22) (zkb3 zk_cX12_rTo zn_cX12_rTo rfl) rfl
theorem dX12_rTo_34 : decode cX12_rTo 34 = .ok (.iconst 0, 1) := zo_3 (zkb zk_cX12_rTo zn_cX12_rTo rfl)
theorem dX12_rTo_35 : decode cX12_rTo 35 = .ok (.iload_n 3, 1) := zo_29 (zkb zk_cX12_rTo zn_cX12_rTo rfl)
theorem dX12_rTo_36 : decode cX12_rTo 36 = .ok (.iastore, 1) := zo_79 (zkb zk_cX12_rTo zn_cX12_rTo rfl)
theorem dX12_rTo_37 : decode cX12_rTo 37 = .ok (.goto 76, 3) := zo_167 (b1 := 0) (b2 := 76) (zkb3 zk_cX12_rTo zn_cX12_rTo rfl) rfl
theorem dX12_rTo_40 : decode cX12_rTo 40 = .ok (.aload_n 0, 1) := zo_42 (zkb zk_cX12_rTo zn_cX12_rTo rfl)
theorem dX12_rTo_41 : decode cX12_rTo 41 = .ok (.getfield 174, 3) := zo_180 (b1 := 0) (b2 := 174) (zkb3 zk_cX12_rTo zn_cX12_rTo rfl) rfl
theorem dX12_rTo_44 : decode cX12_rTo 44 = .ok (.ifCond .le 60, 3) := zo_158 (b1 := 0) (b2 := 60) (zkb3 zk_cX12_rTo zn_cX12_rTo rfl) rfl
theorem dX12_rTo_47 : decode cX12_rTo 47 = .ok (.iload_n 1, 1) := zo_27 (zkb zk_cX12_rTo zn_cX12_rTo rfl)
theorem dX12_rTo_48 : decode cX12_rTo 48 = .ok (.iconst 3, 1) := zo_6 (zkb zk_cX12_rTo zn_cX12_rTo rfl)
theorem dX12_rTo_49 : decode cX12_rTo 49 = .ok (.if_icmp .le 55, 3) := zo_164 (b1 := 0) (b2 := 55) (zkb3 zk_cX12_rTo zn_cX12_rTo rfl) rfl
theorem dX12_rTo_52 : decode cX12_rTo 52 = .ok (.aload_n 0, 1) := zo_42 (zkb zk_cX12_rTo zn_cX12_rTo rfl)
theorem dX12_rTo_53 : decode cX12_rTo 53 = .ok (.getfield 22, 3) := zo_180 (b1 := 0) (b2 := 22) (zkb3 zk_cX12_rTo zn_cX12_rTo rfl) rfl
theorem dX12_rTo_56 : decode cX12_rTo 56 = .ok (.aload_n 0, 1) := zo_42 (zkb zk_cX12_rTo zn_cX12_rTo rfl)
theorem dX12_rTo_57 : decode cX12_rTo 57 = .ok (.getfield 174, 3) := zo_180 (b1 := 0) (b2 := 174) (zkb3 zk_cX12_rTo zn_cX12_rTo rfl) rfl
theorem dX12_rTo_60 : decode cX12_rTo 60 = .ok (.iload_n 1, 1) := zo_27 (zkb zk_cX12_rTo zn_cX12_rTo rfl)
theorem dX12_rTo_61 : decode cX12_rTo 61 = .ok (.iconst 4, 1) := zo_7 (zkb zk_cX12_rTo zn_cX12_rTo rfl)
theorem dX12_rTo_62 : decode cX12_rTo 62 = .ok (.if_icmp .ne 24, 3) := zo_160 (b1 := 0) (b2 := 24) (zkb3 zk_cX12_rTo zn_cX12_rTo rfl) rfl
theorem dX12_rTo_65 : decode cX12_rTo 65 = .ok (.iload_n 3, 1) := zo_29 (zkb zk_cX12_rTo zn_cX12_rTo rfl)
theorem dX12_rTo_66 : decode cX12_rTo 66 = .ok (.bipush 8, 2) := zo_16 (b1 := 8) (zkb2 zk_cX12_rTo zn_cX12_rTo rfl) rfl
theorem dX12_rTo_68 : decode cX12_rTo 68 = .ok (.ishl, 1) := zo_120 (zkb zk_cX12_rTo zn_cX12_rTo rfl)
theorem dX12_rTo_69 : decode cX12_rTo 69 = .ok (.aload_n 0, 1) := zo_42 (zkb zk_cX12_rTo zn_cX12_rTo rfl)
theorem dX12_rTo_70 : decode cX12_rTo 70 = .ok (.getfield 22, 3) := zo_180 (b1 := 0) (b2 := 22) (zkb3 zk_cX12_rTo zn_cX12_rTo rfl) rfl
theorem dX12_rTo_73 : decode cX12_rTo 73 = .ok (.aload_n 0, 1) := zo_42 (zkb zk_cX12_rTo zn_cX12_rTo rfl)
theorem dX12_rTo_74 : decode cX12_rTo 74 = .ok (.getfield 174, 3) := zo_180 (b1 := 0) (b2 := 174) (zkb3 zk_cX12_rTo zn_cX12_rTo rfl) rfl
theorem dX12_rTo_77 : decode cX12_rTo 77 = .ok (.iaload, 1) := zo_46 (zkb zk_cX12_rTo zn_cX12_rTo rfl)
theorem dX12_rTo_78 : decode cX12_rTo 78 = .ok (.sipush 255, 3) := zo_17 (b1 := 0) (b2 := 255) (zkb3 zk_cX12_rTo zn_cX12_rTo rfl) rfl
theorem dX12_rTo_81 : decode cX12_rTo 81 = .ok (.iand, 1) := zo_126 (zkb zk_cX12_rTo zn_cX12_rTo rfl)
theorem dX12_rTo_82 : decode cX12_rTo 82 = .ok (.ior, 1) := zo_128 (zkb zk_cX12_rTo zn_cX12_rTo rfl)
theorem dX12_rTo_83 : decode cX12_rTo 83 = .ok (.goto 17, 3) := zo_167 (b1 := 0) (b2 := 17) (zkb3 zk_cX12_rTo zn_cX12_rTo rfl) rfl
theorem dX12_rTo_86 : decode cX12_rTo 86 = .ok (.aload_n 0, 1) := zo_42 (zkb zk_cX12_rTo zn_cX12_rTo rfl)
theorem dX12_rTo_87 : decode cX12_rTo 87 = .ok (.getfield 22, 3) := zo_180 (b1 := 0) (b2 := 22) (zkb3 zk_cX12_rTo zn_cX12_rTo rfl) rfl
theorem dX12_rTo_90 : decode cX12_rTo 90 = .ok (.aload_n 0, 1) := zo_42 (zkb zk_cX12_rTo zn_cX12_rTo rfl)
theorem dX12_rTo_91 : decode cX12_rTo 91 = .ok (.getfield 174, 3) := zo_180 (b1 := 0) (b2 := 174) (zkb3 zk_cX12_rTo zn_cX12_rTo rfl) rfl
theorem dX12_rTo_94 : decode cX12_rTo 94 = .ok (.iaload, 1) := zo_46 (zkb zk_cX12_rTo zn_cX12_rTo rfl)
theorem dX12_rTo_95 : decode cX12_rTo 95 = .ok (.ldc 197, 2) := zo_18 (b1 := 197) (zkb2 zk_cX12_rTo zn_cX12_rTo rfl)
theorem dX12_rTo_97 : decode cX12_rTo 97 = .ok (.iand, 1) := zo_126 (zkb zk_cX12_rTo zn_cX12_rTo rfl)
theorem dX12_rTo_98 : decode cX12_rTo 98 = .ok (.iload_n 3, 1) := zo_29 (zkb zk_cX12_rTo zn_cX12_rTo rfl)
theorem dX12_rTo_99 : decode cX12_rTo 99 = .ok (.ior, 1) := zo_128 (zkb zk_cX12_rTo zn_cX12_rTo rfl)
theorem dX12_rTo_100 : decode cX12_rTo 100 = .ok (.iastore, 1) := zo_79 (zkb zk_cX12_rTo zn_cX12_rTo rfl)
theorem dX12_rTo_101 : decode cX12_rTo 101 = .ok (.goto 12, 3) := zo_167 (b1 := 0) (b2 := 12) (zkb3 zk_cX12_rTo zn_cX12_rTo rfl) rfl
theorem dX12_rTo_104 : decode cX12_rTo 104 = .ok (.aload_n 0, 1) := zo_42 (zkb zk_cX12_rTo zn_cX12_rTo rfl)
theorem dX12_rTo_105 : decode cX12_rTo 105 = .ok (.getfield 22, 3) := zo_180 (b1 := 0) (b2 := 22) (zkb3 zk_cX12_rTo zn_cX12_rTo rfl) rfl
theorem dX12_rTo_108 : decode cX12_rTo 108 = .ok (.iconst 2, 1) := zo_5 (zkb zk_cX12_rTo zn_cX12_rTo rfl)
theorem dX12_rTo_109 : decode cX12_rTo 109 = .ok (.iload_n 1, 1) := zo_27 (zkb zk_cX12_rTo zn_cX12_rTo rfl)
theorem dX12_rTo_110 : decode cX12_rTo 110 = .ok (.iadd, 1) := zo_96 (zkb zk_cX12_rTo zn_cX12_rTo rfl)
theorem dX12_rTo_111 : decode cX12_rTo 111 = .ok (.iload_n 3, 1) := zo_29 (zkb zk_cX12_rTo zn_cX12_rTo rfl)
theorem dX12_rTo_112 : decode cX12_rTo 112 = .ok (.iastore, 1) := zo_79 (zkb zk_cX12_rTo zn_cX12_rTo rfl)
theorem dX12_rTo_113 : decode cX12_rTo 113 = .ok (.return_, 1) := zo_177 (zkb zk_cX12_rTo zn_cX12_rTo rfl)
noncomputable def kn_cX12_put : Nat := 0xb14f7e8202781b042e041600b42a0f00a780781b042e041600b42a1000991c041600b42a
theorem zk_cX12_put : zkd cX12_put.data.toList kn_cX12_put = true := by decide +kernel
theorem zn_cX12_put : cX12_put.data.toList.length = 36 := by decide +kernel
theorem dX12_put_0 : decode cX12_put 0 = .ok (.aload_n 0, 1) := zo_42 (zkb zk_cX12_put zn_cX12_put rfl)
theorem dX12_put_1 : decode cX12_put 1 = .ok (.getfield 22, 3) := zo_180 (b1 := 0) (b2 := 22) (zkb3 zk_cX12_put zn_cX12_put rfl) rfl
theorem dX12_put_4 : decode cX12_put 4 = .ok (.iconst 1, 1) := zo_4 (zkb zk_cX12_put zn_cX12_put rfl)
theorem dX12_put_5 : decode cX12_put 5 = .ok (.iload_n 2, 1) := zo_28 (zkb zk_cX12_put zn_cX12_put rfl)
theorem dX12_put_6 : decode cX12_put 6 = .ok (.ifCond .eq 16, 3) := zo_153 (b1 := 0) (b2 := 16) (zkb3 zk_cX12_put zn_cX12_put rfl) rfl
theorem dX12_put_9 : decode cX12_put 9 = .ok (.aload_n 0, 1) := zo_42 (zkb zk_cX12_put zn_cX12_put rfl)
theorem dX12_put_10 : decode cX12_put 10 = .ok (.getfield 22, 3) := zo_180 (b1 := 0) (b2 := 22) (zkb3 zk_cX12_put zn_cX12_put rfl) rfl
theorem dX12_put_13 : decode cX12_put 13 = .ok (.iconst 1, 1) := zo_4 (zkb zk_cX12_put zn_cX12_put rfl)
theorem dX12_put_14 : decode cX12_put 14 = .ok (.iaload, 1) := zo_46 (zkb zk_cX12_put zn_cX12_put rfl)
theorem dX12_put_15 : decode cX12_put 15 = .ok (.iconst 1, 1) := zo_4 (zkb zk_cX12_put zn_cX12_put rfl)
theorem dX12_put_16 : decode cX12_put 16 = .ok (.iload_n 1, 1) := zo_27 (zkb zk_cX12_put zn_cX12_put rfl)
theorem dX12_put_17 : decode cX12_put 17 = .ok (.ishl, 1) := zo_120 (zkb zk_cX12_put zn_cX12_put rfl)
theorem dX12_put_18 : decode cX12_put 18 = .ok (.ior, 1) := zo_128 (zkb zk_cX12_put zn_cX12_put rfl)
theorem dX12_put_19 : decode cX12_put 19 = .ok (.goto 15, 3) := zo_167 (b1 := 0) (b2 := 15) (zkb3 zk_cX12_put zn_cX12_put rfl) rfl
theorem dX12_put_22 : decode cX12_put 22 = .ok (.aload_n 0, 1) := zo_42 (zkb zk_cX12_put zn_cX12_put rfl)
theorem dX12_put_23 : decode cX12_put 23 = .ok (.getfield 22, 3) := zo_180 (b1 := 0) (b2 := 22) (zkb3 zk_cX12_put zn_cX12_put rfl) rfl
theorem dX12_put_26 : decode cX12_put 26 = .ok (.iconst 1, 1) := zo_4 (zkb zk_cX12_put zn_cX12_put rfl)
theorem dX12_put_27 : decode cX12_put 27 = .ok (.iaload, 1) := zo_46 (zkb zk_cX12_put zn_cX12_put rfl)
theorem dX12_put_28 : decode cX12_put 28 = .ok (.iconst 1, 1) := zo_4 (zkb zk_cX12_put zn_cX12_put rfl)
theorem dX12_put_29 : decode cX12_put 29 = .ok (.iload_n 1, 1) := zo_27 (zkb zk_cX12_put zn_cX12_put rfl)
theorem dX12_put_30 : decode cX12_put 30 = .ok (.ishl, 1) := zo_120 (zkb zk_cX12_put zn_cX12_put rfl)
theorem dX12_put_31 : decode cX12_put 31 = .ok (.iconst (-1), 1) := zo_2 (zkb zk_cX12_put zn_cX12_put rfl)
theorem dX12_put_32 : decode cX12_put 32 = .ok (.ixor, 1) := zo_130 (zkb zk_cX12_put zn_cX12_put rfl)
theorem dX12_put_33 : decode cX12_put 33 = .ok (.iand, 1) := zo_126 (zkb zk_cX12_put zn_cX12_put rfl)
theorem dX12_put_34 : decode cX12_put 34 = .ok (.iastore, 1) := zo_79 (zkb zk_cX12_put zn_cX12_put rfl)
theorem dX12_put_35 : decode cX12_put 35 = .ok (.return_, 1) := zo_177 (zkb zk_cX12_put zn_cX12_put rfl)
noncomputable def kn_cX12_flag : Nat := 0xac7e047a1b2e041600b42a
theorem zk_cX12_flag : zkd cX12_flag.data.toList kn_cX12_flag = true := by decide +kernel
theorem zn_cX12_flag : cX12_flag.data.toList.length = 11 := by decide +kernel
theorem dX12_flag_0 : decode cX12_flag 0 = .ok (.aload_n 0, 1) := zo_42 (zkb zk_cX12_flag zn_cX12_flag rfl)
theorem dX12_flag_1 : decode cX12_flag 1 = .ok (.getfield 22, 3) := zo_180 (b1 := 0) (b2 := 22) (zkb3 zk_cX12_flag zn_cX12_flag rfl) rfl
theorem dX12_flag_4 : decode cX12_flag 4 = .ok (.iconst 1, 1) := zo_4 (zkb zk_cX12_flag zn_cX12_flag rfl)
theorem dX12_flag_5 : decode cX12_flag 5 = .ok (.iaload, 1) := zo_46 (zkb zk_cX12_flag zn_cX12_flag rfl)
theorem dX12_flag_6 : decode cX12_flag 6 = .ok (.iload_n 1, 1) := zo_27 (zkb zk_cX12_flag zn_cX12_flag rfl)
theorem dX12_flag_7 : decode cX12_flag 7 = .ok (.ishr, 1) := zo_122 (zkb zk_cX12_flag zn_cX12_flag rfl)
theorem dX12_flag_8 : decode cX12_flag 8 = .ok (.iconst 1, 1) := zo_4 (zkb zk_cX12_flag zn_cX12_flag rfl)
theorem dX12_flag_9 : decode cX12_flag 9 = .ok (.iand, 1) := zo_126 (zkb zk_cX12_flag zn_cX12_flag rfl)
theorem dX12_flag_10 : decode cX12_flag 10 = .ok (.ireturn, 1) := zo_172 (zkb zk_cX12_flag zn_cX12_flag rfl)
noncomputable def kn_cX12_xy : Nat := 0xb1c600b6030400a7040700997e08101b062ac600b6030400a7040700997e20101b082a
theorem zk_cX12_xy : zkd cX12_xy.data.toList kn_cX12_xy = true := by decide +kernel
theorem zn_cX12_xy : cX12_xy.data.toList.length = 35 := by decide +kernel
theorem dX12_xy_0 : decode cX12_xy 0 = .ok (.aload_n 0, 1) := zo_42 (zkb zk_cX12_xy zn_cX12_xy rfl)
theorem dX12_xy_1 : decode cX12_xy 1 = .ok (.iconst 5, 1) := zo_8 (zkb zk_cX12_xy zn_cX12_xy rfl)
theorem dX12_xy_2 : decode cX12_xy 2 = .ok (.iload_n 1, 1) := zo_27 (zkb zk_cX12_xy zn_cX12_xy rfl)
theorem dX12_xy_3 : decode cX12_xy 3 = .ok (.bipush 32, 2) := zo_16 (b1 := 32) (zkb2 zk_cX12_xy zn_cX12_xy rfl) rfl
theorem dX12_xy_5 : decode cX12_xy 5 = .ok (.iand, 1) := zo_126 (zkb zk_cX12_xy zn_cX12_xy rfl)
theorem dX12_xy_6 : decode cX12_xy 6 = .ok (.ifCond .eq 7, 3) := zo_153 (b1 := 0) (b2 := 7) (zkb3 zk_cX12_xy zn_cX12_xy rfl) rfl
theorem dX12_xy_9 : decode cX12_xy 9 = .ok (.iconst 1, 1) := zo_4 (zkb zk_cX12_xy zn_cX12_xy rfl)
theorem dX12_xy_10 : decode cX12_xy 10 = .ok (.goto 4, 3) := zo_167 (b1 := 0) (b2 := 4) (zkb3 zk_cX12_xy zn_cX12_xy rfl) rfl
theorem dX12_xy_13 : decode cX12_xy 13 = .ok (.iconst 0, 1) := zo_3 (zkb zk_cX12_xy zn_cX12_xy rfl)
theorem dX12_xy_14 : decode cX12_xy 14 = .ok (.invokevirtual 198, 3) := zo_182 (b1 := 0) (b2 := 198) (zkb3 zk_cX12_xy zn_cX12_xy rfl) rfl
theorem dX12_xy_17 : decode cX12_xy 17 = .ok (.aload_n 0, 1) := zo_42 (zkb zk_cX12_xy zn_cX12_xy rfl)
theorem dX12_xy_18 : decode cX12_xy 18 = .ok (.iconst 3, 1) := zo_6 (zkb zk_cX12_xy zn_cX12_xy rfl)
theorem dX12_xy_19 : decode cX12_xy 19 = .ok (.iload_n 1, 1) := zo_27 (zkb zk_cX12_xy zn_cX12_xy rfl)
theorem dX12_xy_20 : decode cX12_xy 20 = .ok (.bipush 8, 2) := zo_16 (b1 := 8) (zkb2 zk_cX12_xy zn_cX12_xy rfl) rfl
theorem dX12_xy_22 : decode cX12_xy 22 = .ok (.iand, 1) := zo_126 (zkb zk_cX12_xy zn_cX12_xy rfl)
theorem dX12_xy_23 : decode cX12_xy 23 = .ok (.ifCond .eq 7, 3) := zo_153 (b1 := 0) (b2 := 7) (zkb3 zk_cX12_xy zn_cX12_xy rfl) rfl
theorem dX12_xy_26 : decode cX12_xy 26 = .ok (.iconst 1, 1) := zo_4 (zkb zk_cX12_xy zn_cX12_xy rfl)
theorem dX12_xy_27 : decode cX12_xy 27 = .ok (.goto 4, 3) := zo_167 (b1 := 0) (b2 := 4) (zkb3 zk_cX12_xy zn_cX12_xy rfl) rfl
theorem dX12_xy_30 : decode cX12_xy 30 = .ok (.iconst 0, 1) := zo_3 (zkb zk_cX12_xy zn_cX12_xy rfl)
theorem dX12_xy_31 : decode cX12_xy 31 = .ok (.invokevirtual 198, 3) := zo_182 (b1 := 0) (b2 := 198) (zkb3 zk_cX12_xy zn_cX12_xy rfl) rfl
theorem dX12_xy_34 : decode cX12_xy 34 = .ok (.return_, 1) := zo_177 (zkb zk_cX12_xy zn_cX12_xy rfl)
noncomputable def kn_cX12_by : Nat := 0xb1ca00b61b2ac600b6030400a70407009a1b06102ac600b6030400a7040700997e8000111b07102a
theorem zk_cX12_by : zkd cX12_by.data.toList kn_cX12_by = true := by decide +kernel
theorem zn_cX12_by : cX12_by.data.toList.length = 40 := by decide +kernel
theorem dX12_by_0 : decode cX12_by 0 = .ok (.aload_n 0, 1) := zo_42 (zkb zk_cX12_by zn_cX12_by rfl)
theorem dX12_by_1 : decode cX12_by 1 = .ok (.bipush 7, 2) := zo_16 (b1 := 7) (zkb2 zk_cX12_by zn_cX12_by rfl) rfl
theorem dX12_by_3 : decode cX12_by 3 = .ok (.iload_n 1, 1) := zo_27 (zkb zk_cX12_by zn_cX12_by rfl)
theorem dX12_by_4 : decode cX12_by 4 = .ok (.sipush 128, 3) := zo_17 (b1 := 0) (b2 := 128) (zkb3 zk_cX12_by zn_cX12_by rfl) rfl
theorem dX12_by_7 : decode cX12_by 7 = .ok (.iand, 1) := zo_126 (zkb zk_cX12_by zn_cX12_by rfl)
theorem dX12_by_8 : decode cX12_by 8 = .ok (.ifCond .eq 7, 3) := zo_153 (b1 := 0) (b2 := 7) (zkb3 zk_cX12_by zn_cX12_by rfl) rfl
theorem dX12_by_11 : decode cX12_by 11 = .ok (.iconst 1, 1) := zo_4 (zkb zk_cX12_by zn_cX12_by rfl)
theorem dX12_by_12 : decode cX12_by 12 = .ok (.goto 4, 3) := zo_167 (b1 := 0) (b2 := 4) (zkb3 zk_cX12_by zn_cX12_by rfl) rfl
theorem dX12_by_15 : decode cX12_by 15 = .ok (.iconst 0, 1) := zo_3 (zkb zk_cX12_by zn_cX12_by rfl)
theorem dX12_by_16 : decode cX12_by 16 = .ok (.invokevirtual 198, 3) := zo_182 (b1 := 0) (b2 := 198) (zkb3 zk_cX12_by zn_cX12_by rfl) rfl
theorem dX12_by_19 : decode cX12_by 19 = .ok (.aload_n 0, 1) := zo_42 (zkb zk_cX12_by zn_cX12_by rfl)
theorem dX12_by_20 : decode cX12_by 20 = .ok (.bipush 6, 2) := zo_16 (b1 := 6) (zkb2 zk_cX12_by zn_cX12_by rfl) rfl
theorem dX12_by_22 : decode cX12_by 22 = .ok (.iload_n 1, 1) := zo_27 (zkb zk_cX12_by zn_cX12_by rfl)
theorem dX12_by_23 : decode cX12_by 23 = .ok (.ifCond .ne 7, 3) := zo_154 (b1 := 0) (b2 := 7) (zkb3 zk_cX12_by zn_cX12_by rfl) rfl
theorem dX12_by_26 : decode cX12_by 26 = .ok (.iconst 1, 1) := zo_4 (zkb zk_cX12_by zn_cX12_by rfl)
theorem dX12_by_27 : decode cX12_by 27 = .ok (.goto 4, 3) := zo_167 (b1 := 0) (b2 := 4) (zkb3 zk_cX12_by zn_cX12_by rfl) rfl
theorem dX12_by_30 : decode cX12_by 30 = .ok (.iconst 0, 1) := zo_3 (zkb zk_cX12_by zn_cX12_by rfl)
theorem dX12_by_31 : decode cX12_by 31 = .ok (.invokevirtual 198, 3) := zo_182 (b1 := 0) (b2 := 198) (zkb3 zk_cX12_by zn_cX12_by rfl) rfl
theorem dX12_by_34 : decode cX12_by 34 = .ok (.aload_n 0, 1) := zo_42 (zkb zk_cX12_by zn_cX12_by rfl)
theorem dX12_by_35 : decode cX12_by 35 = .ok (.iload_n 1, 1) := zo_27 (zkb zk_cX12_by zn_cX12_by rfl)
theorem dX12_by_36 : decode cX12_by 36 = .ok (.invokevirtual 202, 3) := zo_182 (b1 := 0) (b2 := 202) (zkb3 zk_cX12_by zn_cX12_by rfl) rfl
theorem dX12_by_39 : decode cX12_by 39 = .ok (.return_, 1) := zo_177 (zkb zk_cX12_by zn_cX12_by rfl)
noncomputable def kn_cX12_isEven : Nat := 0xac030400a70407009a70051befffa70102843c607e047a1c1a1b1100a208101c3d033c03
theorem zk_cX12_isEven : zkd cX12_isEven.data.toList kn_cX12_isEven = true := by decide +kernel
theorem zn_cX12_isEven : cX12_isEven.data.toList.length = 36 := by decide +kernel
theorem dX12_isEven_0 : decode cX12_isEven 0 = .ok (.iconst 0, 1) := zo_3 (zkb zk_cX12_isEven zn_cX12_isEven rfl)
theorem dX12_isEven_1 : decode cX12_isEven 1 = .ok (.istore_n 1, 1) := zo_60 (zkb zk_cX12_isEven zn_cX12_isEven rfl)
theorem dX12_isEven_2 : decode cX12_isEven 2 = .ok (.iconst 0, 1) := zo_3 (zkb zk_cX12_isEven zn_cX12_isEven rfl)
theorem dX12_isEven_3 : decode cX12_isEven 3 = .ok (.istore_n 2, 1) := zo_61 (zkb zk_cX12_isEven zn_cX12_isEven rfl)
theorem dX12_isEven_4 : decode cX12_isEven 4 = .ok (.iload_n 2, 1) := zo_28 (zkb zk_cX12_isEven zn_cX12_isEven rfl)
theorem dX12_isEven_5 : decode cX12_isEven 5 = .ok (.bipush 8, 2) := zo_16 (b1 := 8) (zkb2 zk_cX12_isEven zn_cX12_isEven rfl) rfl
theorem dX12_isEven_7 : decode cX12_isEven 7 = .ok (.if_icmp .ge 17, 3) := zo_162 (b1 := 0) (b2 := 17) (zkb3 zk_cX12_isEven zn_cX12_isEven rfl) rfl
theorem dX12_isEven_10 : decode cX12_isEven 10 = .ok (.iload_n 1, 1) := zo_27 (zkb zk_cX12_isEven zn_cX12_isEven rfl)
theorem dX12_isEven_11 : decode cX12_isEven 11 = .ok (.iload_n 0, 1) := zo_26 (zkb zk_cX12_isEven zn_cX12_isEven rfl)
theorem dX12_isEven_12 : decode cX12_isEven 12 = .ok (.iload_n 2, 1) := zo_28 (zkb zk_cX12_isEven zn_cX12_isEven rfl)
theorem dX12_isEven_13 : decode cX12_isEven 13 = .ok (.ishr, 1) := zo_122 (zkb zk_cX12_isEven zn_cX12_isEven rfl)
theorem dX12_isEven_14 : decode cX12_isEven 14 = .ok (.iconst 1, 1) := zo_4 (zkb zk_cX12_isEven zn_cX12_isEven rfl)
theorem dX12_isEven_15 : decode cX12_isEven 15 = .ok (.iand, 1) := zo_126 (zkb zk_cX12_isEven zn_cX12_isEven rfl)
theorem dX12_isEven_16 : decode cX12_isEven 16 = .ok (.iadd, 1) := zo_96 (zkb zk_cX12_isEven zn_cX12_isEven rfl)
theorem dX12_isEven_17 : decode cX12_isEven 17 = .ok (.istore_n 1, 1) := zo_60 (zkb zk_cX12_isEven zn_cX12_isEven rfl)
theorem dX12_isEven_18 : decode cX12_isEven 18 = .ok (.iinc 2 1, 3) := zo_132 (b1 := 2) (b2 := 1) (zkb3 zk_cX12_isEven zn_cX12_isEven rfl) rfl
theorem dX12_isEven_21 : decode cX12_isEven 21 = .ok (.goto (-17), 3) := zo_167 (b1 := 255) (b2 := 239) (zkb3 zk_cX12_isEven zn_cX12_isEven rfl) rfl
theorem dX12_isEven_24 : decode cX12_isEven 24 = .ok (.iload_n 1, 1) := zo_27 (zkb zk_cX12_isEven zn_cX12_isEven rfl)
theorem dX12_isEven_25 : decode cX12_isEven 25 = .ok (.iconst 2, 1) := zo_5 (zkb zk_cX12_isEven zn_cX12_isEven rfl)
theorem dX12_isEven_26 : decode cX12_isEven 26 = .ok (.irem, 1) := zo_112 (zkb zk_cX12_isEven zn_cX12_isEven rfl)
theorem dX12_isEven_27 : decode cX12_isEven 27 = .ok (.ifCond .ne 7, 3) := zo_154 (b1 := 0) (b2 := 7) (zkb3 zk_cX12_isEven zn_cX12_isEven rfl) rfl
theorem dX12_isEven_30 : decode cX12_isEven 30 = .ok (.iconst 1, 1) := zo_4 (zkb zk_cX12_isEven zn_cX12_isEven rfl)
theorem dX12_isEven_31 : decode cX12_isEven 31 = .ok (.goto 4, 3) := zo_167 (b1 := 0) (b2 := 4) (zkb3 zk_cX12_isEven zn_cX12_isEven rfl) rfl
theorem dX12_isEven_34 : decode cX12_isEven 34 = .ok (.iconst 0, 1) := zo_3 (zkb zk_cX12_isEven zn_cX12_isEven rfl)
theorem dX12_isEven_35 : decode cX12_isEven 35 = .ok (.ireturn, 1) := zo_172 (zkb zk_cX12_isEven zn_cX12_isEven rfl)
noncomputable def kn_cX12_cc : Nat := 0xac030400a7040700a0030400a7040700a00470051b030400a7040700a004cd00b607100500a7050700a206101b0f00a7030700a2071b1800a706100800a2051b2a
theorem zk_cX12_cc : zkd cX12_cc.data.toList kn_cX12_cc = true := by decide +kernel
theorem zn_cX12_cc : cX12_cc.data.toList.length = 65 := by decide +kernel
theorem dX12_cc_0 : decode cX12_cc 0 = .ok (.aload_n 0, 1) := zo_42 (zkb zk_cX12_cc zn_cX12_cc rfl)
theorem dX12_cc_1 : decode cX12_cc 1 = .ok (.iload_n 1, 1) := zo_27 (zkb zk_cX12_cc zn_cX12_cc rfl)
theorem dX12_cc_2 : decode cX12_cc 2 = .ok (.iconst 2, 1) := zo_5 (zkb zk_cX12_cc zn_cX12_cc rfl)
theorem dX12_cc_3 : decode cX12_cc 3 = .ok (.if_icmp .ge 8, 3) := zo_162 (b1 := 0) (b2 := 8) (zkb3 zk_cX12_cc zn_cX12_cc rfl) rfl
theorem dX12_cc_6 : decode cX12_cc 6 = .ok (.bipush 6, 2) := zo_16 (b1 := 6) (zkb2 zk_cX12_cc zn_cX12_cc rfl) rfl
theorem dX12_cc_8 : decode cX12_cc 8 = .ok (.goto 24, 3) := zo_167 (b1 := 0) (b2 := 24) (zkb3 zk_cX12_cc zn_cX12_cc rfl) rfl
theorem dX12_cc_11 : decode cX12_cc 11 = .ok (.iload_n 1, 1) := zo_27 (zkb zk_cX12_cc zn_cX12_cc rfl)
theorem dX12_cc_12 : decode cX12_cc 12 = .ok (.iconst 4, 1) := zo_7 (zkb zk_cX12_cc zn_cX12_cc rfl)
theorem dX12_cc_13 : decode cX12_cc 13 = .ok (.if_icmp .ge 7, 3) := zo_162 (b1 := 0) (b2 := 7) (zkb3 zk_cX12_cc zn_cX12_cc rfl) rfl
theorem dX12_cc_16 : decode cX12_cc 16 = .ok (.iconst 0, 1) := zo_3 (zkb zk_cX12_cc zn_cX12_cc rfl)
theorem dX12_cc_17 : decode cX12_cc 17 = .ok (.goto 15, 3) := zo_167 (b1 := 0) (b2 := 15) (zkb3 zk_cX12_cc zn_cX12_cc rfl) rfl
theorem dX12_cc_20 : decode cX12_cc 20 = .ok (.iload_n 1, 1) := zo_27 (zkb zk_cX12_cc zn_cX12_cc rfl)
theorem dX12_cc_21 : decode cX12_cc 21 = .ok (.bipush 6, 2) := zo_16 (b1 := 6) (zkb2 zk_cX12_cc zn_cX12_cc rfl) rfl
theorem dX12_cc_23 : decode cX12_cc 23 = .ok (.if_icmp .ge 7, 3) := zo_162 (b1 := 0) (b2 := 7) (zkb3 zk_cX12_cc zn_cX12_cc rfl) rfl
theorem dX12_cc_26 : decode cX12_cc 26 = .ok (.iconst 2, 1) := zo_5 (zkb zk_cX12_cc zn_cX12_cc rfl)
theorem dX12_cc_27 : decode cX12_cc 27 = .ok (.goto 5, 3) := zo_167 (b1 := 0) (b2 := 5) (zkb3 zk_cX12_cc zn_cX12_cc rfl) rfl
theorem dX12_cc_30 : decode cX12_cc 30 = .ok (.bipush 7, 2) := zo_16 (b1 := 7) (zkb2 zk_cX12_cc zn_cX12_cc rfl) rfl
theorem dX12_cc_32 : decode cX12_cc 32 = .ok (.invokevirtual 205, 3) := zo_182 (b1 := 0) (b2 := 205) (zkb3 zk_cX12_cc zn_cX12_cc rfl) rfl
theorem dX12_cc_35 : decode cX12_cc 35 = .ok (.iconst 1, 1) := zo_4 (zkb zk_cX12_cc zn_cX12_cc rfl)
theorem dX12_cc_36 : decode cX12_cc 36 = .ok (.if_icmp .ne 7, 3) := zo_160 (b1 := 0) (b2 := 7) (zkb3 zk_cX12_cc zn_cX12_cc rfl) rfl
theorem dX12_cc_39 : decode cX12_cc 39 = .ok (.iconst 1, 1) := zo_4 (zkb zk_cX12_cc zn_cX12_cc rfl)
theorem dX12_cc_40 : decode cX12_cc 40 = .ok (.goto 4, 3) := zo_167 (b1 := 0) (b2 := 4) (zkb3 zk_cX12_cc zn_cX12_cc rfl) rfl
theorem dX12_cc_43 : decode cX12_cc 43 = .ok (.iconst 0, 1) := zo_3 (zkb zk_cX12_cc zn_cX12_cc rfl)
theorem dX12_cc_44 : decode cX12_cc 44 = .ok (.iload_n 1, 1) := zo_27 (zkb zk_cX12_cc zn_cX12_cc rfl)
theorem dX12_cc_45 : decode cX12_cc 45 = .ok (.iconst 2, 1) := zo_5 (zkb zk_cX12_cc zn_cX12_cc rfl)
theorem dX12_cc_46 : decode cX12_cc 46 = .ok (.irem, 1) := zo_112 (zkb zk_cX12_cc zn_cX12_cc rfl)
theorem dX12_cc_47 : decode cX12_cc 47 = .ok (.iconst 1, 1) := zo_4 (zkb zk_cX12_cc zn_cX12_cc rfl)
theorem dX12_cc_48 : decode cX12_cc 48 = .ok (.if_icmp .ne 7, 3) := zo_160 (b1 := 0) (b2 := 7) (zkb3 zk_cX12_cc zn_cX12_cc rfl) rfl
theorem dX12_cc_51 : decode cX12_cc 51 = .ok (.iconst 1, 1) := zo_4 (zkb zk_cX12_cc zn_cX12_cc rfl)
theorem dX12_cc_52 : decode cX12_cc 52 = .ok (.goto 4, 3) := zo_167 (b1 := 0) (b2 := 4) (zkb3 zk_cX12_cc zn_cX12_cc rfl) rfl
theorem dX12_cc_55 : decode cX12_cc 55 = .ok (.iconst 0, 1) := zo_3 (zkb zk_cX12_cc zn_cX12_cc rfl)
theorem dX12_cc_56 : decode cX12_cc 56 = .ok (.if_icmp .ne 7, 3) := zo_160 (b1 := 0) (b2 := 7) (zkb3 zk_cX12_cc zn_cX12_cc rfl) rfl
theorem dX12_cc_59 : decode cX12_cc 59 = .ok (.iconst 1, 1) := zo_4 (zkb zk_cX12_cc zn_cX12_cc rfl)
theorem dX12_cc_60 : decode cX12_cc 60 = .ok (.goto 4, 3) := zo_167 (b1 := 0) (b2 := 4) (zkb3 zk_cX12_cc zn_cX12_cc rfl) rfl
theorem dX12_cc_63 : decode cX12_cc 63 = .ok (.iconst 0, 1) := zo_3 (zkb zk_cX12_cc zn_cX12_cc rfl)
theorem dX12_cc_64 : decode cX12_cc 64 = .ok (.ireturn, 1) := zo_172 (zkb zk_cX12_cc zn_cX12_cc rfl)
noncomputable def kn_cX12_push : Nat := 0xb1a900b61b2e12101600b42a2a4f7e8f1264042e12101600b42a12101600b42aa900b67a08101b2e12101600b42a2a4f7e8f1264042e12101600b42a12101600b42a
theorem zk_cX12_push : zkd cX12_push.data.toList kn_cX12_push = true := by decide +kernel
theorem zn_cX12_push : cX12_push.data.toList.length = 66 := by decide +kernel
theorem dX12_push_0 : decode cX12_push 0 = .ok (.aload_n 0, 1) := zo_42 (zkb zk_cX12_push zn_cX12_push rfl)
theorem dX12_push_1 : decode cX12_push 1 = .ok (.getfield 22, 3) := zo_180 (b1 := 0) (b2 := 22) (zkb3 zk_cX12_push zn_cX12_push rfl) rfl
theorem dX12_push_4 : decode cX12_push 4 = .ok (.bipush 18, 2) := zo_16 (b1 := 18) (zkb2 zk_cX12_push zn_cX12_push rfl) rfl
theorem dX12_push_6 : decode cX12_push 6 = .ok (.aload_n 0, 1) := zo_42 (zkb zk_cX12_push zn_cX12_push rfl)
theorem dX12_push_7 : decode cX12_push 7 = .ok (.getfield 22, 3) := zo_180 (b1 := 0) (b2 := 22) (zkb3 zk_cX12_push zn_cX12_push rfl) rfl
theorem dX12_push_10 : decode cX12_push 10 = .ok (.bipush 18, 2) := zo_16 (b1 := 18) (zkb2 zk_cX12_push zn_cX12_push rfl) rfl
theorem dX12_push_12 : decode cX12_push 12 = .ok (.iaload, 1) := zo_46 (zkb zk_cX12_push zn_cX12_push rfl)
theorem dX12_push_13 : decode cX12_push 13 = .ok (.iconst 1, 1) := zo_4 (zkb zk_cX12_push zn_cX12_push rfl)
theorem dX12_push_14 : decode cX12_push 14 = .ok (.isub, 1) := zo_100 (zkb zk_cX12_push zn_cX12_push rfl)
theorem dX12_push_15 : decode cX12_push 15 = .ok (.ldc 143, 2) := zo_18 (b1 := 143) (zkb2 zk_cX12_push zn_cX12_push rfl)
theorem dX12_push_17 : decode cX12_push 17 = .ok (.iand, 1) := zo_126 (zkb zk_cX12_push zn_cX12_push rfl)
theorem dX12_push_18 : decode cX12_push 18 = .ok (.iastore, 1) := zo_79 (zkb zk_cX12_push zn_cX12_push rfl)
theorem dX12_push_19 : decode cX12_push 19 = .ok (.aload_n 0, 1) := zo_42 (zkb zk_cX12_push zn_cX12_push rfl)
theorem dX12_push_20 : decode cX12_push 20 = .ok (.aload_n 0, 1) := zo_42 (zkb zk_cX12_push zn_cX12_push rfl)
theorem dX12_push_21 : decode cX12_push 21 = .ok (.getfield 22, 3) := zo_180 (b1 := 0) (b2 := 22) (zkb3 zk_cX12_push zn_cX12_push rfl) rfl
theorem dX12_push_24 : decode cX12_push 24 = .ok (.bipush 18, 2) := zo_16 (b1 := 18) (zkb2 zk_cX12_push zn_cX12_push rfl) rfl
theorem dX12_push_26 : decode cX12_push 26 = .ok (.iaload, 1) := zo_46 (zkb zk_cX12_push zn_cX12_push rfl)
theorem dX12_push_27 : decode cX12_push 27 = .ok (.iload_n 1, 1) := zo_27 (zkb zk_cX12_push zn_cX12_push rfl)
theorem dX12_push_28 : decode cX12_push 28 = .ok (.bipush 8, 2) := zo_16 (b1 := 8) (zkb2 zk_cX12_push zn_cX12_push rfl) rfl
theorem dX12_push_30 : decode cX12_push 30 = .ok (.ishr, 1) := zo_122 (zkb zk_cX12_push zn_cX12_push rfl)
theorem dX12_push_31 : decode cX12_push 31 = .ok (.invokevirtual 169, 3) := zo_182 (b1 := 0) (b2 := 169) (zkb3 zk_cX12_push zn_cX12_push rfl) rfl
theorem dX12_push_34 : decode cX12_push 34 = .ok (.aload_n 0, 1) := zo_42 (zkb zk_cX12_push zn_cX12_push rfl)
theorem dX12_push_35 : decode cX12_push 35 = .ok (.getfield 22, 3) := zo_180 (b1 := 0) (b2 := 22) (zkb3 zk_cX12_push zn_cX12_push rfl) rfl
theorem dX12_push_38 : decode cX12_push 38 = .ok (.bipush 18, 2) := zo_16 (b1 := 18) (zkb2 zk_cX12_push zn_cX12_push rfl) rfl
theorem dX12_push_40 : decode cX12_push 40 = .ok (.aload_n 0, 1) := zo_42 (zkb zk_cX12_push zn_cX12_push rfl)
theorem dX12_push_41 : decode cX12_push 41 = .ok (.getfield 22, 3) := zo_180 (b1 := 0) (b2 := 22) (zkb3 zk_cX12_push zn_cX12_push rfl) rfl
theorem dX12_push_44 : decode cX12_push 44 = .ok (.bipush 18, 2) := zo_16 (b1 := 18) (zkb2 zk_cX12_push zn_cX12_push rfl) rfl
theorem dX12_push_46 : decode cX12_push 46 = .ok (.iaload, 1) := zo_46 (zkb zk_cX12_push zn_cX12_push rfl)
theorem dX12_push_47 : decode cX12_push 47 = .ok (.iconst 1, 1) := zo_4 (zkb zk_cX12_push zn_cX12_push rfl)
theorem dX12_push_48 : decode cX12_push 48 = .ok (.isub, 1) := zo_100 (zkb zk_cX12_push zn_cX12_push rfl)
theorem dX12_push_49 : decode cX12_push 49 = .ok (.ldc 143, 2) := zo_18 (b1 := 143) (zkb2 zk_cX12_push zn_cX12_push rfl)
theorem dX12_push_51 : decode cX12_push 51 = .ok (.iand, 1) := zo_126 (zkb zk_cX12_push zn_cX12_push rfl)
theorem dX12_push_52 : decode cX12_push 52 = .ok (.iastore, 1) := zo_79 (zkb zk_cX12_push zn_cX12_push rfl)
theorem dX12_push_53 : decode cX12_push 53 = .ok (.aload_n 0, 1) := zo_42 (zkb zk_cX12_push zn_cX12_push rfl)
theorem dX12_push_54 : decode cX12_push 54 = .ok (.aload_n 0, 1) := zo_42 (zkb zk_cX12_push zn_cX12_push rfl)
theorem dX12_push_55 : decode cX12_push 55 = .ok (.getfield 22, 3) := zo_180 (b1 := 0) (b2 := 22) (zkb3 zk_cX12_push zn_cX12_push rfl) rfl
theorem dX12_push_58 : decode cX12_push 58 = .ok (.bipush 18, 2) := zo_16 (b1 := 18) (zkb2 zk_cX12_push zn_cX12_push rfl) rfl
theorem dX12_push_60 : decode cX12_push 60 = .ok (.iaload, 1) := zo_46 (zkb zk_cX12_push zn_cX12_push rfl)
theorem dX12_push_61 : decode cX12_push 61 = .ok (.iload_n 1, 1) := zo_27 (zkb zk_cX12_push zn_cX12_push rfl)
theorem dX12_push_62 : decode cX12_push 62 = .ok (.invokevirtual 169, 3) := zo_182 (b1 := 0) (b2 := 169) (zkb3 zk_cX12_push zn_cX12_push rfl) rfl
theorem dX12_push_65 : decode cX12_push 65 = .ok (.return_, 1) := zo_177 (zkb zk_cX12_push zn_cX12_push rfl)
noncomputable def kn_cX12_pop : Nat := 0xac1b4f7e8f1260042e12101600b42a12101600b42a3c80780810a600b62e12101600b42a2a1b4f7e8f1260042e12101600b42a12101600b42a3ca600b62e12101600b42a2a
theorem zk_cX12_pop : zkd cX12_pop.data.toList kn_cX12_pop = true := by decide +kernel
theorem zn_cX12_pop : cX12_pop.data.toList.length = 69 := by decide +kernel
theorem dX12_pop_0 : decode cX12_pop 0 = .ok (.aload_n 0, 1) := zo_42 (zkb zk_cX12_pop zn_cX12_pop rfl)
theorem dX12_pop_1 : decode cX12_pop 1 = .ok (.aload_n 0, 1) := zo_42 (zkb zk_cX12_pop zn_cX12_pop rfl)
theorem dX12_pop_2 : decode cX12_pop 2 = .ok (.getfield 22, 3) := zo_180 (b1 := 0) (b2 := 22) (zkb3 zk_cX12_pop zn_cX12_pop rfl) rfl
theorem dX12_pop_5 : decode cX12_pop 5 = .ok (.bipush 18, 2) := zo_16 (b1 := 18) (zkb2 zk_cX12_pop zn_cX12_pop rfl) rfl
theorem dX12_pop_7 : decode cX12_pop 7 = .ok (.iaload, 1) := zo_46 (zkb zk_cX12_pop zn_cX12_pop rfl)
theorem dX12_pop_8 : decode cX12_pop 8 = .ok (.invokevirtual 166, 3) := zo_182 (b1 := 0) (b2 := 166) (zkb3 zk_cX12_pop zn_cX12_pop rfl) rfl
theorem dX12_pop_11 : decode cX12_pop 11 = .ok (.istore_n 1, 1) := zo_60 (zkb zk_cX12_pop zn_cX12_pop rfl)
theorem dX12_pop_12 : decode cX12_pop 12 = .ok (.aload_n 0, 1) := zo_42 (zkb zk_cX12_pop zn_cX12_pop rfl)
theorem dX12_pop_13 : decode cX12_pop 13 = .ok (.getfield 22, 3) := zo_180 (b1 := 0) (b2 := 22) (zkb3 zk_cX12_pop zn_cX12_pop rfl) rfl
theorem dX12_pop_16 : decode cX12_pop 16 = .ok (.bipush 18, 2) := zo_16 (b1 := 18) (zkb2 zk_cX12_pop zn_cX12_pop rfl) rfl
theorem dX12_pop_18 : decode cX12_pop 18 = .ok (.aload_n 0, 1) := zo_42 (zkb zk_cX12_pop zn_cX12_pop rfl)
theorem dX12_pop_19 : decode cX12_pop 19 = .ok (.getfield 22, 3) := zo_180 (b1 := 0) (b2 := 22) (zkb3 zk_cX12_pop zn_cX12_pop rfl) rfl
theorem dX12_pop_22 : decode cX12_pop 22 = .ok (.bipush 18, 2) := zo_16 (b1 := 18) (zkb2 zk_cX12_pop zn_cX12_pop rfl) rfl
theorem dX12_pop_24 : decode cX12_pop 24 = .ok (.iaload, 1) := zo_46 (zkb zk_cX12_pop zn_cX12_pop rfl)
theorem dX12_pop_25 : decode cX12_pop 25 = .ok (.iconst 1, 1) := zo_4 (zkb zk_cX12_pop zn_cX12_pop rfl)
theorem dX12_pop_26 : decode cX12_pop 26 = .ok (.iadd, 1) := zo_96 (zkb zk_cX12_pop zn_cX12_pop rfl)
theorem dX12_pop_27 : decode cX12_pop 27 = .ok (.ldc 143, 2) := zo_18 (b1 := 143) (zkb2 zk_cX12_pop zn_cX12_pop rfl)
theorem dX12_pop_29 : decode cX12_pop 29 = .ok (.iand, 1) := zo_126 (zkb zk_cX12_pop zn_cX12_pop rfl)
theorem dX12_pop_30 : decode cX12_pop 30 = .ok (.iastore, 1) := zo_79 (zkb zk_cX12_pop zn_cX12_pop rfl)
theorem dX12_pop_31 : decode cX12_pop 31 = .ok (.iload_n 1, 1) := zo_27 (zkb zk_cX12_pop zn_cX12_pop rfl)
theorem dX12_pop_32 : decode cX12_pop 32 = .ok (.aload_n 0, 1) := zo_42 (zkb zk_cX12_pop zn_cX12_pop rfl)
theorem dX12_pop_33 : decode cX12_pop 33 = .ok (.aload_n 0, 1) := zo_42 (zkb zk_cX12_pop zn_cX12_pop rfl)
theorem dX12_pop_34 : decode cX12_pop 34 = .ok (.getfield 22, 3) := zo_180 (b1 := 0) (b2 := 22) (zkb3 zk_cX12_pop zn_cX12_pop rfl) rfl
theorem dX12_pop_37 : decode cX12_pop 37 = .ok (.bipush 18, 2) := zo_16 (b1 := 18) (zkb2 zk_cX12_pop zn_cX12_pop rfl) rfl
theorem dX12_pop_39 : decode cX12_pop 39 = .ok (.iaload, 1) := zo_46 (zkb zk_cX12_pop zn_cX12_pop rfl)
theorem dX12_pop_40 : decode cX12_pop 40 = .ok (.invokevirtual 166, 3) := zo_182 (b1 := 0) (b2 := 166) (zkb3 zk_cX12_pop zn_cX12_pop rfl) rfl
theorem dX12_pop_43 : decode cX12_pop 43 = .ok (.bipush 8, 2) := zo_16 (b1 := 8) (zkb2 zk_cX12_pop zn_cX12_pop rfl) rfl
theorem dX12_pop_45 : decode cX12_pop 45 = .ok (.ishl, 1) := zo_120 (zkb zk_cX12_pop zn_cX12_pop rfl)
theorem dX12_pop_46 : decode cX12_pop 46 = .ok (.ior, 1) := zo_128 (zkb zk_cX12_pop zn_cX12_pop rfl)
theorem dX12_pop_47 : decode cX12_pop 47 = .ok (.istore_n 1, 1) := zo_60 (zkb zk_cX12_pop zn_cX12_pop rfl)
theorem dX12_pop_48 : decode cX12_pop 48 = .ok (.aload_n 0, 1) := zo_42 (zkb zk_cX12_pop zn_cX12_pop rfl)
theorem dX12_pop_49 : decode cX12_pop 49 = .ok (.getfield 22, 3) := zo_180 (b1 := 0) (b2 := 22) (zkb3 zk_cX12_pop zn_cX12_pop rfl) rfl
theorem dX12_pop_52 : decode cX12_pop 52 = .ok (.bipush 18, 2) := zo_16 (b1 := 18) (zkb2 zk_cX12_pop zn_cX12_pop rfl) rfl
theorem dX12_pop_54 : decode cX12_pop 54 = .ok (.aload_n 0, 1) := zo_42 (zkb zk_cX12_pop zn_cX12_pop rfl)
theorem dX12_pop_55 : decode cX12_pop 55 = .ok (.getfield 22, 3) := zo_180 (b1 := 0) (b2 := 22) (zkb3 zk_cX12_pop zn_cX12_pop rfl) rfl
theorem dX12_pop_58 : decode cX12_pop 58 = .ok (.bipush 18, 2) := zo_16 (b1 := 18) (zkb2 zk_cX12_pop zn_cX12_pop rfl) rfl
theorem dX12_pop_60 : decode cX12_pop 60 = .ok (.iaload, 1) := zo_46 (zkb zk_cX12_pop zn_cX12_pop rfl)
theorem dX12_pop_61 : decode cX12_pop 61 = .ok (.iconst 1, 1) := zo_4 (zkb zk_cX12_pop zn_cX12_pop rfl)
theorem dX12_pop_62 : decode cX12_pop 62 = .ok (.iadd, 1) := zo_96 (zkb zk_cX12_pop zn_cX12_pop rfl)
theorem dX12_pop_63 : decode cX12_pop 63 = .ok (.ldc 143, 2) := zo_18 (b1 := 143) (zkb2 zk_cX12_pop zn_cX12_pop rfl)
theorem dX12_pop_65 : decode cX12_pop 65 = .ok (.iand, 1) := zo_126 (zkb zk_cX12_pop zn_cX12_pop rfl)
theorem dX12_pop_66 : decode cX12_pop 66 = .ok (.iastore, 1) := zo_79 (zkb zk_cX12_pop zn_cX12_pop rfl)
theorem dX12_pop_67 : decode cX12_pop 67 = .ok (.iload_n 1, 1) := zo_27 (zkb zk_cX12_pop zn_cX12_pop rfl)
theorem dX12_pop_68 : decode cX12_pop 68 = .ok (.ireturn, 1) := zo_172 (zkb zk_cX12_pop zn_cX12_pop rfl)
noncomputable def kn_cX12_grows : Nat := 0xb14f807e7f1060042e16101600b42a7e8000112e16101600b42a16101600b42a
theorem zk_cX12_grows : zkd cX12_grows.data.toList kn_cX12_grows = true := by decide +kernel
theorem zn_cX12_grows : cX12_grows.data.toList.length = 32 := by decide +kernel
theorem dX12_grows_0 : decode cX12_grows 0 = .ok (.aload_n 0, 1) := zo_42 (zkb zk_cX12_grows zn_cX12_grows rfl)
theorem dX12_grows_1 : decode cX12_grows 1 = .ok (.getfield 22, 3) := zo_180 (b1 := 0) (b2 := 22) (zkb3 zk_cX12_grows zn_cX12_grows rfl) rfl
theorem dX12_grows_4 : decode cX12_grows 4 = .ok (.bipush 22, 2) := zo_16 (b1 := 22) (zkb2 zk_cX12_grows zn_cX12_grows rfl) rfl
theorem dX12_grows_6 : decode cX12_grows 6 = .ok (.aload_n 0, 1) := zo_42 (zkb zk_cX12_grows zn_cX12_grows rfl)
theorem dX12_grows_7 : decode cX12_grows 7 = .ok (.getfield 22, 3) := zo_180 (b1 := 0) (b2 := 22) (zkb3 zk_cX12_grows zn_cX12_grows rfl) rfl
theorem dX12_grows_10 : decode cX12_grows 10 = .ok (.bipush 22, 2) := zo_16 (b1 := 22) (zkb2 zk_cX12_grows zn_cX12_grows rfl) rfl
theorem dX12_grows_12 : decode cX12_grows 12 = .ok (.iaload, 1) := zo_46 (zkb zk_cX12_grows zn_cX12_grows rfl)
theorem dX12_grows_13 : decode cX12_grows 13 = .ok (.sipush 128, 3) := zo_17 (b1 := 0) (b2 := 128) (zkb3 zk_cX12_grows zn_cX12_grows rfl) rfl
theorem dX12_grows_16 : decode cX12_grows 16 = .ok (.iand, 1) := zo_126 (zkb zk_cX12_grows zn_cX12_grows rfl)
theorem dX12_grows_17 : decode cX12_grows 17 = .ok (.aload_n 0, 1) := zo_42 (zkb zk_cX12_grows zn_cX12_grows rfl)
theorem dX12_grows_18 : decode cX12_grows 18 = .ok (.getfield 22, 3) := zo_180 (b1 := 0) (b2 := 22) (zkb3 zk_cX12_grows zn_cX12_grows rfl) rfl
theorem dX12_grows_21 : decode cX12_grows 21 = .ok (.bipush 22, 2) := zo_16 (b1 := 22) (zkb2 zk_cX12_grows zn_cX12_grows rfl) rfl
theorem dX12_grows_23 : decode cX12_grows 23 = .ok (.iaload, 1) := zo_46 (zkb zk_cX12_grows zn_cX12_grows rfl)
theorem dX12_grows_24 : decode cX12_grows 24 = .ok (.iconst 1, 1) := zo_4 (zkb zk_cX12_grows zn_cX12_grows rfl)
theorem dX12_grows_25 : decode cX12_grows 25 = .ok (.iadd, 1) := zo_96 (zkb zk_cX12_grows zn_cX12_grows rfl)
theorem dX12_grows_26 : decode cX12_grows 26 = .ok (.bipush 127, 2) := zo_16 (b1 := 127) (zkb2 zk_cX12_grows zn_cX12_grows rfl) rfl
theorem dX12_grows_28 : decode cX12_grows 28 = .ok (.iand, 1) := zo_126 (zkb zk_cX12_grows zn_cX12_grows rfl)
theorem dX12_grows_29 : decode cX12_grows 29 = .ok (.ior, 1) := zo_128 (zkb zk_cX12_grows zn_cX12_grows rfl)
theorem dX12_grows_30 : decode cX12_grows 30 = .ok (.iastore, 1) := zo_79 (zkb zk_cX12_grows zn_cX12_grows rfl)
theorem dX12_grows_31 : decode cX12_grows 31 = .ok (.return_, 1) := zo_177 (zkb zk_cX12_grows zn_cX12_grows rfl)
noncomputable def kn_cX12_next : Nat := 0xac1b4f7e8f1260042e13101600b42a13101600b42a3ca600b62e13101600b42a2a
theorem zk_cX12_next : zkd cX12_next.data.toList kn_cX12_next = true := by decide +kernel
theorem zn_cX12_next : cX12_next.data.toList.length = 33 := by decide +kernel
theorem dX12_next_0 : decode cX12_next 0 = .ok (.aload_n 0, 1) := zo_42 (zkb zk_cX12_next zn_cX12_next rfl)
theorem dX12_next_1 : decode cX12_next 1 = .ok (.aload_n 0, 1) := zo_42 (zkb zk_cX12_next zn_cX12_next rfl)
theorem dX12_next_2 : decode cX12_next 2 = .ok (.getfield 22, 3) := zo_180 (b1 := 0) (b2 := 22) (zkb3 zk_cX12_next zn_cX12_next rfl) rfl
theorem dX12_next_5 : decode cX12_next 5 = .ok (.bipush 19, 2) := zo_16 (b1 := 19) (zkb2 zk_cX12_next zn_cX12_next rfl) rfl
theorem dX12_next_7 : decode cX12_next 7 = .ok (.iaload, 1) := zo_46 (zkb zk_cX12_next zn_cX12_next rfl)
theorem dX12_next_8 : decode cX12_next 8 = .ok (.invokevirtual 166, 3) := zo_182 (b1 := 0) (b2 := 166) (zkb3 zk_cX12_next zn_cX12_next rfl) rfl
theorem dX12_next_11 : decode cX12_next 11 = .ok (.istore_n 1, 1) := zo_60 (zkb zk_cX12_next zn_cX12_next rfl)
theorem dX12_next_12 : decode cX12_next 12 = .ok (.aload_n 0, 1) := zo_42 (zkb zk_cX12_next zn_cX12_next rfl)
theorem dX12_next_13 : decode cX12_next 13 = .ok (.getfield 22, 3) := zo_180 (b1 := 0) (b2 := 22) (zkb3 zk_cX12_next zn_cX12_next rfl) rfl
theorem dX12_next_16 : decode cX12_next 16 = .ok (.bipush 19, 2) := zo_16 (b1 := 19) (zkb2 zk_cX12_next zn_cX12_next rfl) rfl
theorem dX12_next_18 : decode cX12_next 18 = .ok (.aload_n 0, 1) := zo_42 (zkb zk_cX12_next zn_cX12_next rfl)
theorem dX12_next_19 : decode cX12_next 19 = .ok (.getfield 22, 3) := zo_180 (b1 := 0) (b2 := 22) (zkb3 zk_cX12_next zn_cX12_next rfl) rfl
theorem dX12_next_22 : decode cX12_next 22 = .ok (.bipush 19, 2) := zo_16 (b1 := 19) (zkb2 zk_cX12_next zn_cX12_next rfl) rfl
theorem dX12_next_24 : decode cX12_next 24 = .ok (.iaload, 1) := zo_46 (zkb zk_cX12_next zn_cX12_next rfl)
theorem dX12_next_25 : decode cX12_next 25 = .ok (.iconst 1, 1) := zo_4 (zkb zk_cX12_next zn_cX12_next rfl)
theorem dX12_next_26 : decode cX12_next 26 = .ok (.iadd, 1) := zo_96 (zkb zk_cX12_next zn_cX12_next rfl)
theorem dX12_next_27 : decode cX12_next 27 = .ok (.ldc 143, 2) := zo_18 (b1 := 143) (zkb2 zk_cX12_next zn_cX12_next rfl)
theorem dX12_next_29 : decode cX12_next 29 = .ok (.iand, 1) := zo_126 (zkb zk_cX12_next zn_cX12_next rfl)
theorem dX12_next_30 : decode cX12_next 30 = .ok (.iastore, 1) := zo_79 (zkb zk_cX12_next zn_cX12_next rfl)
theorem dX12_next_31 : decode cX12_next 31 = .ok (.iload_n 1, 1) := zo_27 (zkb zk_cX12_next zn_cX12_next rfl)
theorem dX12_next_32 : decode cX12_next 32 = .ok (.ireturn, 1) := zo_172 (zkb zk_cX12_next zn_cX12_next rfl)
noncomputable def kn_cX12_fetch : Nat := 0xac1bd300b62a3cd000b62a
theorem zk_cX12_fetch : zkd cX12_fetch.data.toList kn_cX12_fetch = true := by decide +kernel
theorem zn_cX12_fetch : cX12_fetch.data.toList.length = 11 := by decide +kernel
theorem dX12_fetch_0 : decode cX12_fetch 0 = .ok (.aload_n 0, 1) := zo_42 (zkb zk_cX12_fetch zn_cX12_fetch rfl)
theorem dX12_fetch_1 : decode cX12_fetch 1 = .ok (.invokevirtual 208, 3) := zo_182 (b1 := 0) (b2 := 208) (zkb3 zk_cX12_fetch zn_cX12_fetch rfl) rfl
theorem dX12_fetch_4 : decode cX12_fetch 4 = .ok (.istore_n 1, 1) := zo_60 (zkb zk_cX12_fetch zn_cX12_fetch rfl)
theorem dX12_fetch_5 : decode cX12_fetch 5 = .ok (.aload_n 0, 1) := zo_42 (zkb zk_cX12_fetch zn_cX12_fetch rfl)
theorem dX12_fetch_6 : decode cX12_fetch 6 = .ok (.invokevirtual 211, 3) := zo_182 (b1 := 0) (b2 := 211) (zkb3 zk_cX12_fetch zn_cX12_fetch rfl) rfl
theorem dX12_fetch_9 : decode cX12_fetch 9 = .ok (.iload_n 1, 1) := zo_27 (zkb zk_cX12_fetch zn_cX12_fetch rfl)
theorem dX12_fetch_10 : decode cX12_fetch 10 = .ok (.ireturn, 1) := zo_172 (zkb zk_cX12_fetch zn_cX12_fetch rfl)
noncomputable def kn_cX12_nextWord : Nat := 0xac80780810d000b62a1b3cd000b62a
theorem zk_cX12_nextWord : zkd cX12_nextWord.data.toList kn_cX12_nextWord = true := by decide +kernel
theorem zn_cX12_nextWord : cX12_nextWord.data.toList.length = 15 := by decide +kernel
theorem dX12_nextWord_0 : decode cX12_nextWord 0 = .ok (.aload_n 0, 1) := zo_42 (zkb zk_cX12_nextWord zn_cX12_nextWord rfl)
theorem dX12_nextWord_1 : decode cX12_nextWord 1 = .ok (.invokevirtual 208, 3) := zo_182 (b1 := 0) (b2 := 208) (zkb3 zk_cX12_nextWord zn_cX12_nextWord rfl) rfl
theorem dX12_nextWord_4 : decode cX12_nextWord 4 = .ok (.istore_n 1, 1) := zo_60 (zkb zk_cX12_nextWord zn_cX12_nextWord rfl)
theorem dX12_nextWord_5 : decode cX12_nextWord 5 = .ok (.iload_n 1, 1) := zo_27 (zkb zk_cX12_nextWord zn_cX12_nextWord rfl)
theorem dX12_nextWord_6 : decode cX12_nextWord 6 = .ok (.aload_n 0, 1) := zo_42 (zkb zk_cX12_nextWord zn_cX12_nextWord rfl)
theorem dX12_nextWord_7 : decode cX12_nextWord 7 = .ok (.invokevirtual 208, 3) := zo_182 (b1 := 0) (b2 := 208) (zkb3 zk_cX12_nextWord zn_cX12_nextWord rfl) rfl
theorem dX12_nextWord_10 : decode cX12_nextWord 10 = .ok (.bipush 8, 2) := zo_16 (b1 := 8) (zkb2 zk_cX12_nextWord zn_cX12_nextWord rfl) rfl
theorem dX12_nextWord_12 : decode cX12_nextWord 12 = .ok (.ishl, 1) := zo_120 (zkb zk_cX12_nextWord zn_cX12_nextWord rfl)
theorem dX12_nextWord_13 : decode cX12_nextWord 13 = .ok (.ior, 1) := zo_128 (zkb zk_cX12_nextWord zn_cX12_nextWord rfl)
theorem dX12_nextWord_14 : decode cX12_nextWord 14 = .ok (.ireturn, 1) := zo_172 (zkb zk_cX12_nextWord zn_cX12_nextWord rfl)
noncomputable def kn_cX12_signed : Nat := 0xac640001111a0800a71a0700a28000111a
theorem zk_cX12_signed : zkd cX12_signed.data.toList kn_cX12_signed = true := by decide +kernel
theorem zn_cX12_signed : cX12_signed.data.toList.length = 17 := by decide +kernel
theorem dX12_signed_0 : decode cX12_signed 0 = .ok (.iload_n 0, 1) := zo_26 (zkb zk_cX12_signed zn_cX12_signed rfl)
theorem dX12_signed_1 : decode cX12_signed 1 = .ok (.sipush 128, 3) := zo_17 (b1 := 0) (b2 := 128) (zkb3 zk_cX12_signed zn_cX12_signed rfl) rfl
theorem dX12_signed_4 : decode cX12_signed 4 = .ok (.if_icmp .ge 7, 3) := zo_162 (b1 := 0) (b2 := 7) (zkb3 zk_cX12_signed zn_cX12_signed rfl) rfl
theorem dX12_signed_7 : decode cX12_signed 7 = .ok (.iload_n 0, 1) := zo_26 (zkb zk_cX12_signed zn_cX12_signed rfl)
theorem dX12_signed_8 : decode cX12_signed 8 = .ok (.goto 8, 3) := zo_167 (b1 := 0) (b2 := 8) (zkb3 zk_cX12_signed zn_cX12_signed rfl) rfl
theorem dX12_signed_11 : decode cX12_signed 11 = .ok (.iload_n 0, 1) := zo_26 (zkb zk_cX12_signed zn_cX12_signed rfl)
theorem dX12_signed_12 : decode cX12_signed 12 = .ok (.sipush 256, 3) := zo_17 (b1 := 1) (b2 := 0) (zkb3 zk_cX12_signed zn_cX12_signed rfl) rfl
theorem dX12_signed_15 : decode cX12_signed 15 = .ok (.isub, 1) := zo_100 (zkb zk_cX12_signed zn_cX12_signed rfl)
theorem dX12_signed_16 : decode cX12_signed 16 = .ok (.ireturn, 1) := zo_172 (zkb zk_cX12_signed zn_cX12_signed rfl)
noncomputable def kn_cX12_call : Nat := 0xb14f1b14101600b42a4f1b13101600b42ad600b62e13101600b42a2a
theorem zk_cX12_call : zkd cX12_call.data.toList kn_cX12_call = true := by decide +kernel
theorem zn_cX12_call : cX12_call.data.toList.length = 28 := by decide +kernel
theorem dX12_call_0 : decode cX12_call 0 = .ok (.aload_n 0, 1) := zo_42 (zkb zk_cX12_call zn_cX12_call rfl)
theorem dX12_call_1 : decode cX12_call 1 = .ok (.aload_n 0, 1) := zo_42 (zkb zk_cX12_call zn_cX12_call rfl)
theorem dX12_call_2 : decode cX12_call 2 = .ok (.getfield 22, 3) := zo_180 (b1 := 0) (b2 := 22) (zkb3 zk_cX12_call zn_cX12_call rfl) rfl
theorem dX12_call_5 : decode cX12_call 5 = .ok (.bipush 19, 2) := zo_16 (b1 := 19) (zkb2 zk_cX12_call zn_cX12_call rfl) rfl
theorem dX12_call_7 : decode cX12_call 7 = .ok (.iaload, 1) := zo_46 (zkb zk_cX12_call zn_cX12_call rfl)
theorem dX12_call_8 : decode cX12_call 8 = .ok (.invokevirtual 214, 3) := zo_182 (b1 := 0) (b2 := 214) (zkb3 zk_cX12_call zn_cX12_call rfl) rfl
theorem dX12_call_11 : decode cX12_call 11 = .ok (.aload_n 0, 1) := zo_42 (zkb zk_cX12_call zn_cX12_call rfl)
theorem dX12_call_12 : decode cX12_call 12 = .ok (.getfield 22, 3) := zo_180 (b1 := 0) (b2 := 22) (zkb3 zk_cX12_call zn_cX12_call rfl) rfl
theorem dX12_call_15 : decode cX12_call 15 = .ok (.bipush 19, 2) := zo_16 (b1 := 19) (zkb2 zk_cX12_call zn_cX12_call rfl) rfl
theorem dX12_call_17 : decode cX12_call 17 = .ok (.iload_n 1, 1) := zo_27 (zkb zk_cX12_call zn_cX12_call rfl)
theorem dX12_call_18 : decode cX12_call 18 = .ok (.iastore, 1) := zo_79 (zkb zk_cX12_call zn_cX12_call rfl)
theorem dX12_call_19 : decode cX12_call 19 = .ok (.aload_n 0, 1) := zo_42 (zkb zk_cX12_call zn_cX12_call rfl)
theorem dX12_call_20 : decode cX12_call 20 = .ok (.getfield 22, 3) := zo_180 (b1 := 0) (b2 := 22) (zkb3 zk_cX12_call zn_cX12_call rfl) rfl
theorem dX12_call_23 : decode cX12_call 23 = .ok (.bipush 20, 2) := zo_16 (b1 := 20) (zkb2 zk_cX12_call zn_cX12_call rfl) rfl
theorem dX12_call_25 : decode cX12_call 25 = .ok (.iload_n 1, 1) := zo_27 (zkb zk_cX12_call zn_cX12_call rfl)
theorem dX12_call_26 : decode cX12_call 26 = .ok (.iastore, 1) := zo_79 (zkb zk_cX12_call zn_cX12_call rfl)
theorem dX12_call_27 : decode cX12_call 27 = .ok (.return_, 1) := zo_177 (zkb zk_cX12_call zn_cX12_call rfl)
noncomputable def kn_cX12_change : Nat := 0xb14f1d1c1600b42a4f2e1c1600b42a1b1600b42a3e2e1b1600b42a
theorem zk_cX12_change : zkd cX12_change.data.toList kn_cX12_change = true := by decide +kernel
theorem zn_cX12_change : cX12_change.data.toList.length = 27 := by decide +kernel
theorem dX12_change_0 : decode cX12_change 0 = .ok (.aload_n 0, 1) := zo_42 (zkb zk_cX12_change zn_cX12_change rfl)
theorem dX12_change_1 : decode cX12_change 1 = .ok (.getfield 22, 3) := zo_180 (b1 := 0) (b2 := 22) (zkb3 zk_cX12_change zn_cX12_change rfl) rfl
theorem dX12_change_4 : decode cX12_change 4 = .ok (.iload_n 1, 1) := zo_27 (zkb zk_cX12_change zn_cX12_change rfl)
theorem dX12_change_5 : decode cX12_change 5 = .ok (.iaload, 1) := zo_46 (zkb zk_cX12_change zn_cX12_change rfl)
theorem dX12_change_6 : decode cX12_change 6 = .ok (.istore_n 3, 1) := zo_62 (zkb zk_cX12_change zn_cX12_change rfl)
theorem dX12_change_7 : decode cX12_change 7 = .ok (.aload_n 0, 1) := zo_42 (zkb zk_cX12_change zn_cX12_change rfl)
theorem dX12_change_8 : decode cX12_change 8 = .ok (.getfield 22, 3) := zo_180 (b1 := 0) (b2 := 22) (zkb3 zk_cX12_change zn_cX12_change rfl) rfl
theorem dX12_change_11 : decode cX12_change 11 = .ok (.iload_n 1, 1) := zo_27 (zkb zk_cX12_change zn_cX12_change rfl)
theorem dX12_change_12 : decode cX12_change 12 = .ok (.aload_n 0, 1) := zo_42 (zkb zk_cX12_change zn_cX12_change rfl)
theorem dX12_change_13 : decode cX12_change 13 = .ok (.getfield 22, 3) := zo_180 (b1 := 0) (b2 := 22) (zkb3 zk_cX12_change zn_cX12_change rfl) rfl
theorem dX12_change_16 : decode cX12_change 16 = .ok (.iload_n 2, 1) := zo_28 (zkb zk_cX12_change zn_cX12_change rfl)
theorem dX12_change_17 : decode cX12_change 17 = .ok (.iaload, 1) := zo_46 (zkb zk_cX12_change zn_cX12_change rfl)
theorem dX12_change_18 : decode cX12_change 18 = .ok (.iastore, 1) := zo_79 (zkb zk_cX12_change zn_cX12_change rfl)
theorem dX12_change_19 : decode cX12_change 19 = .ok (.aload_n 0, 1) := zo_42 (zkb zk_cX12_change zn_cX12_change rfl)
theorem dX12_change_20 : decode cX12_change 20 = .ok (.getfield 22, 3) := zo_180 (b1 := 0) (b2 := 22) (zkb3 zk_cX12_change zn_cX12_change rfl) rfl
theorem dX12_change_23 : decode cX12_change 23 = .ok (.iload_n 2, 1) := zo_28 (zkb zk_cX12_change zn_cX12_change rfl)
theorem dX12_change_24 : decode cX12_change 24 = .ok (.iload_n 3, 1) := zo_29 (zkb zk_cX12_change zn_cX12_change rfl)
theorem dX12_change_25 : decode cX12_change 25 = .ok (.iastore, 1) := zo_79 (zkb zk_cX12_change zn_cX12_change rfl)
theorem dX12_change_26 : decode cX12_change 26 = .ok (.return_, 1) := zo_177 (zkb zk_cX12_change zn_cX12_change rfl)
noncomputable def kn_cX12_lineAt : Nat := 0xac2e601b2d101600b42a0c00a77e047a60681b05082e21101600b42a15009a7e047a60681b05042e21101600b42a
theorem zk_cX12_lineAt : zkd cX12_lineAt.data.toList kn_cX12_lineAt = true := by decide +kernel
theorem zn_cX12_lineAt : cX12_lineAt.data.toList.length = 46 := by decide +kernel
theorem dX12_lineAt_0 : decode cX12_lineAt 0 = .ok (.aload_n 0, 1) := zo_42 (zkb zk_cX12_lineAt zn_cX12_lineAt rfl)
theorem dX12_lineAt_1 : decode cX12_lineAt 1 = .ok (.getfield 22, 3) := zo_180 (b1 := 0) (b2 := 22) (zkb3 zk_cX12_lineAt zn_cX12_lineAt rfl) rfl
theorem dX12_lineAt_4 : decode cX12_lineAt 4 = .ok (.bipush 33, 2) := zo_16 (b1 := 33) (zkb2 zk_cX12_lineAt zn_cX12_lineAt rfl) rfl
theorem dX12_lineAt_6 : decode cX12_lineAt 6 = .ok (.iaload, 1) := zo_46 (zkb zk_cX12_lineAt zn_cX12_lineAt rfl)
theorem dX12_lineAt_7 : decode cX12_lineAt 7 = .ok (.iconst 1, 1) := zo_4 (zkb zk_cX12_lineAt zn_cX12_lineAt rfl)
theorem dX12_lineAt_8 : decode cX12_lineAt 8 = .ok (.iconst 2, 1) := zo_5 (zkb zk_cX12_lineAt zn_cX12_lineAt rfl)
theorem dX12_lineAt_9 : decode cX12_lineAt 9 = .ok (.iload_n 1, 1) := zo_27 (zkb zk_cX12_lineAt zn_cX12_lineAt rfl)
theorem dX12_lineAt_10 : decode cX12_lineAt 10 = .ok (.imul, 1) := zo_104 (zkb zk_cX12_lineAt zn_cX12_lineAt rfl)
theorem dX12_lineAt_11 : decode cX12_lineAt 11 = .ok (.iadd, 1) := zo_96 (zkb zk_cX12_lineAt zn_cX12_lineAt rfl)
theorem dX12_lineAt_12 : decode cX12_lineAt 12 = .ok (.ishr, 1) := zo_122 (zkb zk_cX12_lineAt zn_cX12_lineAt rfl)
theorem dX12_lineAt_13 : decode cX12_lineAt 13 = .ok (.iconst 1, 1) := zo_4 (zkb zk_cX12_lineAt zn_cX12_lineAt rfl)
theorem dX12_lineAt_14 : decode cX12_lineAt 14 = .ok (.iand, 1) := zo_126 (zkb zk_cX12_lineAt zn_cX12_lineAt rfl)
theorem dX12_lineAt_15 : decode cX12_lineAt 15 = .ok (.ifCond .ne 21, 3) := zo_154 (b1 := 0) (b2 := 21) (zkb3 zk_cX12_lineAt zn_cX12_lineAt rfl) rfl
theorem dX12_lineAt_18 : decode cX12_lineAt 18 = .ok (.aload_n 0, 1) := zo_42 (zkb zk_cX12_lineAt zn_cX12_lineAt rfl)
theorem dX12_lineAt_19 : decode cX12_lineAt 19 = .ok (.getfield 22, 3) := zo_180 (b1 := 0) (b2 := 22) (zkb3 zk_cX12_lineAt zn_cX12_lineAt rfl) rfl
theorem dX12_lineAt_22 : decode cX12_lineAt 22 = .ok (.bipush 33, 2) := zo_16 (b1 := 33) (zkb2 zk_cX12_lineAt zn_cX12_lineAt rfl) rfl
theorem dX12_lineAt_24 : decode cX12_lineAt 24 = .ok (.iaload, 1) := zo_46 (zkb zk_cX12_lineAt zn_cX12_lineAt rfl)
theorem dX12_lineAt_25 : decode cX12_lineAt 25 = .ok (.iconst 5, 1) := zo_8 (zkb zk_cX12_lineAt zn_cX12_lineAt rfl)
theorem dX12_lineAt_26 : decode cX12_lineAt 26 = .ok (.iconst 2, 1) := zo_5 (zkb zk_cX12_lineAt zn_cX12_lineAt rfl)
theorem dX12_lineAt_27 : decode cX12_lineAt 27 = .ok (.iload_n 1, 1) := zo_27 (zkb zk_cX12_lineAt zn_cX12_lineAt rfl)
theorem dX12_lineAt_28 : decode cX12_lineAt 28 = .ok (.imul, 1) := zo_104 (zkb zk_cX12_lineAt zn_cX12_lineAt rfl)
theorem dX12_lineAt_29 : decode cX12_lineAt 29 = .ok (.iadd, 1) := zo_96 (zkb zk_cX12_lineAt zn_cX12_lineAt rfl)
theorem dX12_lineAt_30 : decode cX12_lineAt 30 = .ok (.ishr, 1) := zo_122 (zkb zk_cX12_lineAt zn_cX12_lineAt rfl)
theorem dX12_lineAt_31 : decode cX12_lineAt 31 = .ok (.iconst 1, 1) := zo_4 (zkb zk_cX12_lineAt zn_cX12_lineAt rfl)
theorem dX12_lineAt_32 : decode cX12_lineAt 32 = .ok (.iand, 1) := zo_126 (zkb zk_cX12_lineAt zn_cX12_lineAt rfl)
theorem dX12_lineAt_33 : decode cX12_lineAt 33 = .ok (.goto 12, 3) := zo_167 (b1 := 0) (b2 := 12) (zkb3 zk_cX12_lineAt zn_cX12_lineAt rfl) rfl
theorem dX12_lineAt_36 : decode cX12_lineAt 36 = .ok (.aload_n 0, 1) := zo_42 (zkb zk_cX12_lineAt zn_cX12_lineAt rfl)
theorem dX12_lineAt_37 : decode cX12_lineAt 37 = .ok (.getfield 22, 3) := zo_180 (b1 := 0) (b2 := 22) (zkb3 zk_cX12_lineAt zn_cX12_lineAt rfl) rfl
theorem dX12_lineAt_40 : decode cX12_lineAt 40 = .ok (.bipush 45, 2) := zo_16 (b1 := 45) (zkb2 zk_cX12_lineAt zn_cX12_lineAt rfl) rfl
theorem dX12_lineAt_42 : decode cX12_lineAt 42 = .ok (.iload_n 1, 1) := zo_27 (zkb zk_cX12_lineAt zn_cX12_lineAt rfl)
theorem dX12_lineAt_43 : decode cX12_lineAt 43 = .ok (.iadd, 1) := zo_96 (zkb zk_cX12_lineAt zn_cX12_lineAt rfl)
theorem dX12_lineAt_44 : decode cX12_lineAt 44 = .ok (.iaload, 1) := zo_46 (zkb zk_cX12_lineAt zn_cX12_lineAt rfl)
theorem dX12_lineAt_45 : decode cX12_lineAt 45 = .ok (.ireturn, 1) := zo_172 (zkb zk_cX12_lineAt zn_cX12_lineAt rfl)
noncomputable def kn_cX12_without : Nat := 0xac7e8202781c041b0a00a780781c041b0b00a0041d
theorem zk_cX12_without : zkd cX12_without.data.toList kn_cX12_without = true := by decide +kernel
theorem zn_cX12_without : cX12_without.data.toList.length = 21 := by decide +kernel
theorem dX12_without_0 : decode cX12_without 0 = .ok (.iload_n 3, 1) := zo_29 (zkb zk_cX12_without zn_cX12_without rfl)
theorem dX12_without_1 : decode cX12_without 1 = .ok (.iconst 1, 1) := zo_4 (zkb zk_cX12_without zn_cX12_without rfl)
theorem dX12_without_2 : decode cX12_without 2 = .ok (.if_icmp .ne 11, 3) := zo_160 (b1 := 0) (b2 := 11) (zkb3 zk_cX12_without zn_cX12_without rfl) rfl
theorem dX12_without_5 : decode cX12_without 5 = .ok (.iload_n 1, 1) := zo_27 (zkb zk_cX12_without zn_cX12_without rfl)
theorem dX12_without_6 : decode cX12_without 6 = .ok (.iconst 1, 1) := zo_4 (zkb zk_cX12_without zn_cX12_without rfl)
theorem dX12_without_7 : decode cX12_without 7 = .ok (.iload_n 2, 1) := zo_28 (zkb zk_cX12_without zn_cX12_without rfl)
theorem dX12_without_8 : decode cX12_without 8 = .ok (.ishl, 1) := zo_120 (zkb zk_cX12_without zn_cX12_without rfl)
theorem dX12_without_9 : decode cX12_without 9 = .ok (.ior, 1) := zo_128 (zkb zk_cX12_without zn_cX12_without rfl)
theorem dX12_without_10 : decode cX12_without 10 = .ok (.goto 10, 3) := zo_167 (b1 := 0) (b2 := 10) (zkb3 zk_cX12_without zn_cX12_without rfl) rfl
theorem dX12_without_13 : decode cX12_without 13 = .ok (.iload_n 1, 1) := zo_27 (zkb zk_cX12_without zn_cX12_without rfl)
theorem dX12_without_14 : decode cX12_without 14 = .ok (.iconst 1, 1) := zo_4 (zkb zk_cX12_without zn_cX12_without rfl)
theorem dX12_without_15 : decode cX12_without 15 = .ok (.iload_n 2, 1) := zo_28 (zkb zk_cX12_without zn_cX12_without rfl)
theorem dX12_without_16 : decode cX12_without 16 = .ok (.ishl, 1) := zo_120 (zkb zk_cX12_without zn_cX12_without rfl)
theorem dX12_without_17 : decode cX12_without 17 = .ok (.iconst (-1), 1) := zo_2 (zkb zk_cX12_without zn_cX12_without rfl)
theorem dX12_without_18 : decode cX12_without 18 = .ok (.ixor, 1) := zo_130 (zkb zk_cX12_without zn_cX12_without rfl)
theorem dX12_without_19 : decode cX12_without 19 = .ok (.iand, 1) := zo_126 (zkb zk_cX12_without zn_cX12_without rfl)
theorem dX12_without_20 : decode cX12_without 20 = .ok (.ireturn, 1) := zo_172 (zkb zk_cX12_without zn_cX12_without rfl)
noncomputable def kn_cX12_port : Nat := 0xac1d0400a74f01b67e047a072e21101600b42a081d2a17009a7e042e21101600b42a3e7e8202807806102e2b101600b42a2e2a101600b42aff0011ac1d0400a74f01b67e047a06102e21101600b42a061d2a18009a7e072e21101600b42a3e4f01b64c01b6042a07101d2a3e4f01b64c01b6032a06101d2a3e8030107e82027a052e2b101600b42aff00115300991cac2ea300111600b42a0c009f056300b42a1400a0f200111bac4901b62a0700a74601b62a0a00991c1300a2c000111bac4301b62a0700a72e23101600b42a0d00991c1600a28000111bac2e601b24101600b42a0c00a7808000110600a7030700a0042e2c101600b42a40101b009a1bacff00110700a4081b0800a0056300b42a3a00a240101b3d030400a7040700a00470051b
theorem zk_cX12_port : zkd cX12_port.data.toList kn_cX12_port = true := by decide +kernel
theorem zn_cX12_port : cX12_port.data.toList.length = 290 := by decide +kernel
theorem dX12_port_0 : decode cX12_port 0 = .ok (.iload_n 1, 1) := zo_27 (zkb zk_cX12_port zn_cX12_port rfl)
theorem dX12_port_1 : decode cX12_port 1 = .ok (.iconst 2, 1) := zo_5 (zkb zk_cX12_port zn_cX12_port rfl)
theorem dX12_port_2 : decode cX12_port 2 = .ok (.irem, 1) := zo_112 (zkb zk_cX12_port zn_cX12_port rfl)
theorem dX12_port_3 : decode cX12_port 3 = .ok (.iconst 1, 1) := zo_4 (zkb zk_cX12_port zn_cX12_port rfl)
theorem dX12_port_4 : decode cX12_port 4 = .ok (.if_icmp .ne 7, 3) := zo_160 (b1 := 0) (b2 := 7) (zkb3 zk_cX12_port zn_cX12_port rfl) rfl
theorem dX12_port_7 : decode cX12_port 7 = .ok (.iconst 1, 1) := zo_4 (zkb zk_cX12_port zn_cX12_port rfl)
theorem dX12_port_8 : decode cX12_port 8 = .ok (.goto 4, 3) := zo_167 (b1 := 0) (b2 := 4) (zkb3 zk_cX12_port zn_cX12_port rfl) rfl
theorem dX12_port_11 : decode cX12_port 11 = .ok (.iconst 0, 1) := zo_3 (zkb zk_cX12_port zn_cX12_port rfl)
theorem dX12_port_12 : decode cX12_port 12 = .ok (.istore_n 2, 1) := zo_61 (zkb zk_cX12_port zn_cX12_port rfl)
theorem dX12_port_13 : decode cX12_port 13 = .ok (.iload_n 1, 1) := zo_27 (zkb zk_cX12_port zn_cX12_port rfl)
theorem dX12_port_14 : decode cX12_port 14 = .ok (.bipush 64, 2) := zo_16 (b1 := 64) (zkb2 zk_cX12_port zn_cX12_port rfl) rfl
theorem dX12_port_16 : decode cX12_port 16 = .ok (.if_icmp .ge 58, 3) := zo_162 (b1 := 0) (b2 := 58) (zkb3 zk_cX12_port zn_cX12_port rfl) rfl
theorem dX12_port_19 : decode cX12_port 19 = .ok (.aload_n 0, 1) := zo_42 (zkb zk_cX12_port zn_cX12_port rfl)
theorem dX12_port_20 : decode cX12_port 20 = .ok (.getfield 99, 3) := zo_180 (b1 := 0) (b2 := 99) (zkb3 zk_cX12_port zn_cX12_port rfl) rfl
theorem dX12_port_23 : decode cX12_port 23 = .ok (.iconst 2, 1) := zo_5 (zkb zk_cX12_port zn_cX12_port rfl)
theorem dX12_port_24 : decode cX12_port 24 = .ok (.if_icmp .ne 8, 3) := zo_160 (b1 := 0) (b2 := 8) (zkb3 zk_cX12_port zn_cX12_port rfl) rfl
theorem dX12_port_27 : decode cX12_port 27 = .ok (.iload_n 1, 1) := zo_27 (zkb zk_cX12_port zn_cX12_port rfl)
theorem dX12_port_28 : decode cX12_port 28 = .ok (.iconst 5, 1) := zo_8 (zkb zk_cX12_port zn_cX12_port rfl)
theorem dX12_port_29 : decode cX12_port 29 = .ok (.if_icmp .le 7, 3) := zo_164 (b1 := 0) (b2 := 7) (zkb3 zk_cX12_port zn_cX12_port rfl) rfl
theorem dX12_port_32 : decode cX12_port 32 = .ok (.sipush 255, 3) := zo_17 (b1 := 0) (b2 := 255) (zkb3 zk_cX12_port zn_cX12_port rfl) rfl
theorem dX12_port_35 : decode cX12_port 35 = .ok (.ireturn, 1) := zo_172 (zkb zk_cX12_port zn_cX12_port rfl)
theorem dX12_port_36 : decode cX12_port 36 = .ok (.iload_n 1, 1) := zo_27 (zkb zk_cX12_port zn_cX12_port rfl)
theorem dX12_port_37 : decode cX12_port 37 = .ok (.ifCond .ne 27, 3) := zo_154 (b1 := 0) (b2 := 27) (zkb3 zk_cX12_port zn_cX12_port rfl) rfl
theorem dX12_port_40 : decode cX12_port 40 = .ok (.bipush 64, 2) := zo_16 (b1 := 64) (zkb2 zk_cX12_port zn_cX12_port rfl) rfl
theorem dX12_port_42 : decode cX12_port 42 = .ok (.aload_n 0, 1) := zo_42 (zkb zk_cX12_port zn_cX12_port rfl)
theorem dX12_port_43 : decode cX12_port 43 = .ok (.getfield 22, 3) := zo_180 (b1 := 0) (b2 := 22) (zkb3 zk_cX12_port zn_cX12_port rfl) rfl
theorem dX12_port_46 : decode cX12_port 46 = .ok (.bipush 44, 2) := zo_16 (b1 := 44) (zkb2 zk_cX12_port zn_cX12_port rfl) rfl
theorem dX12_port_48 : decode cX12_port 48 = .ok (.iaload, 1) := zo_46 (zkb zk_cX12_port zn_cX12_port rfl)
theorem dX12_port_49 : decode cX12_port 49 = .ok (.iconst 1, 1) := zo_4 (zkb zk_cX12_port zn_cX12_port rfl)
theorem dX12_port_50 : decode cX12_port 50 = .ok (.if_icmp .ne 7, 3) := zo_160 (b1 := 0) (b2 := 7) (zkb3 zk_cX12_port zn_cX12_port rfl) rfl
theorem dX12_port_53 : decode cX12_port 53 = .ok (.iconst 0, 1) := zo_3 (zkb zk_cX12_port zn_cX12_port rfl)
theorem dX12_port_54 : decode cX12_port 54 = .ok (.goto 6, 3) := zo_167 (b1 := 0) (b2 := 6) (zkb3 zk_cX12_port zn_cX12_port rfl) rfl
theorem dX12_port_57 : decode cX12_port 57 = .ok (.sipush 128, 3) := zo_17 (b1 := 0) (b2 := 128) (zkb3 zk_cX12_port zn_cX12_port rfl) rfl
theorem dX12_port_60 : decode cX12_port 60 = .ok (.ior, 1) := zo_128 (zkb zk_cX12_port zn_cX12_port rfl)
theorem dX12_port_61 : decode cX12_port 61 = .ok (.goto 12, 3) := zo_167 (b1 := 0) (b2 := 12) (zkb3 zk_cX12_port zn_cX12_port rfl) rfl
theorem dX12_port_64 : decode cX12_port 64 = .ok (.aload_n 0, 1) := zo_42 (zkb zk_cX12_port zn_cX12_port rfl)
theorem dX12_port_65 : decode cX12_port 65 = .ok (.getfield 22, 3) := zo_180 (b1 := 0) (b2 := 22) (zkb3 zk_cX12_port zn_cX12_port rfl) rfl
theorem dX12_port_68 : decode cX12_port 68 = .ok (.bipush 36, 2) := zo_16 (b1 := 36) (zkb2 zk_cX12_port zn_cX12_port rfl) rfl
theorem dX12_port_70 : decode cX12_port 70 = .ok (.iload_n 1, 1) := zo_27 (zkb zk_cX12_port zn_cX12_port rfl)
theorem dX12_port_71 : decode cX12_port 71 = .ok (.iadd, 1) := zo_96 (zkb zk_cX12_port zn_cX12_port rfl)
theorem dX12_port_72 : decode cX12_port 72 = .ok (.iaload, 1) := zo_46 (zkb zk_cX12_port zn_cX12_port rfl)
theorem dX12_port_73 : decode cX12_port 73 = .ok (.ireturn, 1) := zo_172 (zkb zk_cX12_port zn_cX12_port rfl)
theorem dX12_port_74 : decode cX12_port 74 = .ok (.iload_n 1, 1) := zo_27 (zkb zk_cX12_port zn_cX12_port rfl)
theorem dX12_port_75 : decode cX12_port 75 = .ok (.sipush 128, 3) := zo_17 (b1 := 0) (b2 := 128) (zkb3 zk_cX12_port zn_cX12_port rfl) rfl
theorem dX12_port_78 : decode cX12_port 78 = .ok (.if_icmp .ge 22, 3) := zo_162 (b1 := 0) (b2 := 22) (zkb3 zk_cX12_port zn_cX12_port rfl) rfl
theorem dX12_port_81 : decode cX12_port 81 = .ok (.iload_n 2, 1) := zo_28 (zkb zk_cX12_port zn_cX12_port rfl)
theorem dX12_port_82 : decode cX12_port 82 = .ok (.ifCond .eq 13, 3) := zo_153 (b1 := 0) (b2 := 13) (zkb3 zk_cX12_port zn_cX12_port rfl) rfl
theorem dX12_port_85 : decode cX12_port 85 = .ok (.aload_n 0, 1) := zo_42 (zkb zk_cX12_port zn_cX12_port rfl)
theorem dX12_port_86 : decode cX12_port 86 = .ok (.getfield 22, 3) := zo_180 (b1 := 0) (b2 := 22) (zkb3 zk_cX12_port zn_cX12_port rfl) rfl
theorem dX12_port_89 : decode cX12_port 89 = .ok (.bipush 35, 2) := zo_16 (b1 := 35) (zkb2 zk_cX12_port zn_cX12_port rfl) rfl
theorem dX12_port_91 : decode cX12_port 91 = .ok (.iaload, 1) := zo_46 (zkb zk_cX12_port zn_cX12_port rfl)
theorem dX12_port_92 : decode cX12_port 92 = .ok (.goto 7, 3) := zo_167 (b1 := 0) (b2 := 7) (zkb3 zk_cX12_port zn_cX12_port rfl) rfl
theorem dX12_port_95 : decode cX12_port 95 = .ok (.aload_n 0, 1) := zo_42 (zkb zk_cX12_port zn_cX12_port rfl)
theorem dX12_port_96 : decode cX12_port 96 = .ok (.invokevirtual 323, 3) := zo_182 (b1 := 1) (b2 := 67) (zkb3 zk_cX12_port zn_cX12_port rfl) rfl
theorem dX12_port_99 : decode cX12_port 99 = .ok (.ireturn, 1) := zo_172 (zkb zk_cX12_port zn_cX12_port rfl)
theorem dX12_port_100 : decode cX12_port 100 = .ok (.iload_n 1, 1) := zo_27 (zkb zk_cX12_port zn_cX12_port rfl)
theorem dX12_port_101 : decode cX12_port 101 = .ok (.sipush 192, 3) := zo_17 (b1 := 0) (b2 := 192) (zkb3 zk_cX12_port zn_cX12_port rfl) rfl
theorem dX12_port_104 : decode cX12_port 104 = .ok (.if_icmp .ge 19, 3) := zo_162 (b1 := 0) (b2 := 19) (zkb3 zk_cX12_port zn_cX12_port rfl) rfl
theorem dX12_port_107 : decode cX12_port 107 = .ok (.iload_n 2, 1) := zo_28 (zkb zk_cX12_port zn_cX12_port rfl)
theorem dX12_port_108 : decode cX12_port 108 = .ok (.ifCond .eq 10, 3) := zo_153 (b1 := 0) (b2 := 10) (zkb3 zk_cX12_port zn_cX12_port rfl) rfl
theorem dX12_port_111 : decode cX12_port 111 = .ok (.aload_n 0, 1) := zo_42 (zkb zk_cX12_port zn_cX12_port rfl)
theorem dX12_port_112 : decode cX12_port 112 = .ok (.invokevirtual 326, 3) := zo_182 (b1 := 1) (b2 := 70) (zkb3 zk_cX12_port zn_cX12_port rfl) rfl
theorem dX12_port_115 : decode cX12_port 115 = .ok (.goto 7, 3) := zo_167 (b1 := 0) (b2 := 7) (zkb3 zk_cX12_port zn_cX12_port rfl) rfl
theorem dX12_port_118 : decode cX12_port 118 = .ok (.aload_n 0, 1) := zo_42 (zkb zk_cX12_port zn_cX12_port rfl)
theorem dX12_port_119 : decode cX12_port 119 = .ok (.invokevirtual 329, 3) := zo_182 (b1 := 1) (b2 := 73) (zkb3 zk_cX12_port zn_cX12_port rfl) rfl
theorem dX12_port_122 : decode cX12_port 122 = .ok (.ireturn, 1) := zo_172 (zkb zk_cX12_port zn_cX12_port rfl)
theorem dX12_port_123 : decode cX12_port 123 = .ok (.iload_n 1, 1) := zo_27 (zkb zk_cX12_port zn_cX12_port rfl)
theorem dX12_port_124 : decode cX12_port 124 = .ok (.sipush 242, 3) := zo_17 (b1 := 0) (b2 := 242) (zkb3 zk_cX12_port zn_cX12_port rfl) rfl
theorem dX12_port_127 : decode cX12_port 127 = .ok (.if_icmp .ne 20, 3) := zo_160 (b1 := 0) (b2 := 20) (zkb3 zk_cX12_port zn_cX12_port rfl) rfl
theorem dX12_port_130 : decode cX12_port 130 = .ok (.aload_n 0, 1) := zo_42 (zkb zk_cX12_port zn_cX12_port rfl)
theorem dX12_port_131 : decode cX12_port 131 = .ok (.getfield 99, 3) := zo_180 (b1 := 0) (b2 := 99) (zkb3 zk_cX12_port zn_cX12_port rfl) rfl
theorem dX12_port_134 : decode cX12_port 134 = .ok (.iconst 2, 1) := zo_5 (zkb zk_cX12_port zn_cX12_port rfl)
theorem dX12_port_135 : decode cX12_port 135 = .ok (.if_icmp .eq 12, 3) := zo_159 (b1 := 0) (b2 := 12) (zkb3 zk_cX12_port zn_cX12_port rfl) rfl
theorem dX12_port_138 : decode cX12_port 138 = .ok (.aload_n 0, 1) := zo_42 (zkb zk_cX12_port zn_cX12_port rfl)
theorem dX12_port_139 : decode cX12_port 139 = .ok (.getfield 22, 3) := zo_180 (b1 := 0) (b2 := 22) (zkb3 zk_cX12_port zn_cX12_port rfl) rfl
theorem dX12_port_142 : decode cX12_port 142 = .ok (.sipush 163, 3) := zo_17 (b1 := 0) (b2 := 163) (zkb3 zk_cX12_port zn_cX12_port rfl) rfl
theorem dX12_port_145 : decode cX12_port 145 = .ok (.iaload, 1) := zo_46 (zkb zk_cX12_port zn_cX12_port rfl)
theorem dX12_port_146 : decode cX12_port 146 = .ok (.ireturn, 1) := zo_172 (zkb zk_cX12_port zn_cX12_port rfl)
theorem dX12_port_147 : decode cX12_port 147 = .ok (.iload_n 2, 1) := zo_28 (zkb zk_cX12_port zn_cX12_port rfl)
theorem dX12_port_148 : decode cX12_port 148 = .ok (.ifCond .eq 83, 3) := zo_153 (b1 := 0) (b2 := 83) (zkb3 zk_cX12_port zn_cX12_port rfl) rfl
theorem dX12_port_151 : decode cX12_port 151 = .ok (.sipush 255, 3) := zo_17 (b1 := 0) (b2 := 255) (zkb3 zk_cX12_port zn_cX12_port rfl) rfl
theorem dX12_port_154 : decode cX12_port 154 = .ok (.aload_n 0, 1) := zo_42 (zkb zk_cX12_port zn_cX12_port rfl)
theorem dX12_port_155 : decode cX12_port 155 = .ok (.getfield 22, 3) := zo_180 (b1 := 0) (b2 := 22) (zkb3 zk_cX12_port zn_cX12_port rfl) rfl
theorem dX12_port_158 : decode cX12_port 158 = .ok (.bipush 43, 2) := zo_16 (b1 := 43) (zkb2 zk_cX12_port zn_cX12_port rfl) rfl
theorem dX12_port_160 : decode cX12_port 160 = .ok (.iaload, 1) := zo_46 (zkb zk_cX12_port zn_cX12_port rfl)
theorem dX12_port_161 : decode cX12_port 161 = .ok (.iconst 2, 1) := zo_5 (zkb zk_cX12_port zn_cX12_port rfl)
theorem dX12_port_162 : decode cX12_port 162 = .ok (.ishr, 1) := zo_122 (zkb zk_cX12_port zn_cX12_port rfl)
theorem dX12_port_163 : decode cX12_port 163 = .ok (.iconst (-1), 1) := zo_2 (zkb zk_cX12_port zn_cX12_port rfl)
theorem dX12_port_164 : decode cX12_port 164 = .ok (.ixor, 1) := zo_130 (zkb zk_cX12_port zn_cX12_port rfl)
theorem dX12_port_165 : decode cX12_port 165 = .ok (.iand, 1) := zo_126 (zkb zk_cX12_port zn_cX12_port rfl)
theorem dX12_port_166 : decode cX12_port 166 = .ok (.bipush 48, 2) := zo_16 (b1 := 48) (zkb2 zk_cX12_port zn_cX12_port rfl) rfl
theorem dX12_port_168 : decode cX12_port 168 = .ok (.ior, 1) := zo_128 (zkb zk_cX12_port zn_cX12_port rfl)
theorem dX12_port_169 : decode cX12_port 169 = .ok (.istore_n 3, 1) := zo_62 (zkb zk_cX12_port zn_cX12_port rfl)
theorem dX12_port_170 : decode cX12_port 170 = .ok (.aload_n 0, 1) := zo_42 (zkb zk_cX12_port zn_cX12_port rfl)
theorem dX12_port_171 : decode cX12_port 171 = .ok (.iload_n 3, 1) := zo_29 (zkb zk_cX12_port zn_cX12_port rfl)
theorem dX12_port_172 : decode cX12_port 172 = .ok (.bipush 6, 2) := zo_16 (b1 := 6) (zkb2 zk_cX12_port zn_cX12_port rfl) rfl
theorem dX12_port_174 : decode cX12_port 174 = .ok (.aload_n 0, 1) := zo_42 (zkb zk_cX12_port zn_cX12_port rfl)
theorem dX12_port_175 : decode cX12_port 175 = .ok (.iconst 0, 1) := zo_3 (zkb zk_cX12_port zn_cX12_port rfl)
theorem dX12_port_176 : decode cX12_port 176 = .ok (.invokevirtual 332, 3) := zo_182 (b1 := 1) (b2 := 76) (zkb3 zk_cX12_port zn_cX12_port rfl) rfl
theorem dX12_port_179 : decode cX12_port 179 = .ok (.invokevirtual 335, 3) := zo_182 (b1 := 1) (b2 := 79) (zkb3 zk_cX12_port zn_cX12_port rfl) rfl
theorem dX12_port_182 : decode cX12_port 182 = .ok (.istore_n 3, 1) := zo_62 (zkb zk_cX12_port zn_cX12_port rfl)
theorem dX12_port_183 : decode cX12_port 183 = .ok (.aload_n 0, 1) := zo_42 (zkb zk_cX12_port zn_cX12_port rfl)
theorem dX12_port_184 : decode cX12_port 184 = .ok (.iload_n 3, 1) := zo_29 (zkb zk_cX12_port zn_cX12_port rfl)
theorem dX12_port_185 : decode cX12_port 185 = .ok (.bipush 7, 2) := zo_16 (b1 := 7) (zkb2 zk_cX12_port zn_cX12_port rfl) rfl
theorem dX12_port_187 : decode cX12_port 187 = .ok (.aload_n 0, 1) := zo_42 (zkb zk_cX12_port zn_cX12_port rfl)
theorem dX12_port_188 : decode cX12_port 188 = .ok (.iconst 1, 1) := zo_4 (zkb zk_cX12_port zn_cX12_port rfl)
theorem dX12_port_189 : decode cX12_port 189 = .ok (.invokevirtual 332, 3) := zo_182 (b1 := 1) (b2 := 76) (zkb3 zk_cX12_port zn_cX12_port rfl) rfl
theorem dX12_port_192 : decode cX12_port 192 = .ok (.invokevirtual 335, 3) := zo_182 (b1 := 1) (b2 := 79) (zkb3 zk_cX12_port zn_cX12_port rfl) rfl
theorem dX12_port_195 : decode cX12_port 195 = .ok (.istore_n 3, 1) := zo_62 (zkb zk_cX12_port zn_cX12_port rfl)
theorem dX12_port_196 : decode cX12_port 196 = .ok (.aload_n 0, 1) := zo_42 (zkb zk_cX12_port zn_cX12_port rfl)
theorem dX12_port_197 : decode cX12_port 197 = .ok (.getfield 22, 3) := zo_180 (b1 := 0) (b2 := 22) (zkb3 zk_cX12_port zn_cX12_port rfl) rfl
theorem dX12_port_200 : decode cX12_port 200 = .ok (.bipush 33, 2) := zo_16 (b1 := 33) (zkb2 zk_cX12_port zn_cX12_port rfl) rfl
theorem dX12_port_202 : decode cX12_port 202 = .ok (.iaload, 1) := zo_46 (zkb zk_cX12_port zn_cX12_port rfl)
theorem dX12_port_203 : decode cX12_port 203 = .ok (.iconst 4, 1) := zo_7 (zkb zk_cX12_port zn_cX12_port rfl)
theorem dX12_port_204 : decode cX12_port 204 = .ok (.iand, 1) := zo_126 (zkb zk_cX12_port zn_cX12_port rfl)
theorem dX12_port_205 : decode cX12_port 205 = .ok (.ifCond .ne 24, 3) := zo_154 (b1 := 0) (b2 := 24) (zkb3 zk_cX12_port zn_cX12_port rfl) rfl
theorem dX12_port_208 : decode cX12_port 208 = .ok (.aload_n 0, 1) := zo_42 (zkb zk_cX12_port zn_cX12_port rfl)
theorem dX12_port_209 : decode cX12_port 209 = .ok (.iload_n 3, 1) := zo_29 (zkb zk_cX12_port zn_cX12_port rfl)
theorem dX12_port_210 : decode cX12_port 210 = .ok (.iconst 3, 1) := zo_6 (zkb zk_cX12_port zn_cX12_port rfl)
theorem dX12_port_211 : decode cX12_port 211 = .ok (.aload_n 0, 1) := zo_42 (zkb zk_cX12_port zn_cX12_port rfl)
theorem dX12_port_212 : decode cX12_port 212 = .ok (.getfield 22, 3) := zo_180 (b1 := 0) (b2 := 22) (zkb3 zk_cX12_port zn_cX12_port rfl) rfl
theorem dX12_port_215 : decode cX12_port 215 = .ok (.bipush 33, 2) := zo_16 (b1 := 33) (zkb2 zk_cX12_port zn_cX12_port rfl) rfl
theorem dX12_port_217 : decode cX12_port 217 = .ok (.iaload, 1) := zo_46 (zkb zk_cX12_port zn_cX12_port rfl)
theorem dX12_port_218 : decode cX12_port 218 = .ok (.bipush 6, 2) := zo_16 (b1 := 6) (zkb2 zk_cX12_port zn_cX12_port rfl) rfl
theorem dX12_port_220 : decode cX12_port 220 = .ok (.ishr, 1) := zo_122 (zkb zk_cX12_port zn_cX12_port rfl)
theorem dX12_port_221 : decode cX12_port 221 = .ok (.iconst 1, 1) := zo_4 (zkb zk_cX12_port zn_cX12_port rfl)
theorem dX12_port_222 : decode cX12_port 222 = .ok (.iand, 1) := zo_126 (zkb zk_cX12_port zn_cX12_port rfl)
theorem dX12_port_223 : decode cX12_port 223 = .ok (.invokevirtual 335, 3) := zo_182 (b1 := 1) (b2 := 79) (zkb3 zk_cX12_port zn_cX12_port rfl) rfl
theorem dX12_port_226 : decode cX12_port 226 = .ok (.goto 4, 3) := zo_167 (b1 := 0) (b2 := 4) (zkb3 zk_cX12_port zn_cX12_port rfl) rfl
theorem dX12_port_229 : decode cX12_port 229 = .ok (.iload_n 3, 1) := zo_29 (zkb zk_cX12_port zn_cX12_port rfl)
theorem dX12_port_230 : decode cX12_port 230 = .ok (.ireturn, 1) := zo_172 (zkb zk_cX12_port zn_cX12_port rfl)
theorem dX12_port_231 : decode cX12_port 231 = .ok (.sipush 255, 3) := zo_17 (b1 := 0) (b2 := 255) (zkb3 zk_cX12_port zn_cX12_port rfl) rfl
theorem dX12_port_234 : decode cX12_port 234 = .ok (.aload_n 0, 1) := zo_42 (zkb zk_cX12_port zn_cX12_port rfl)
theorem dX12_port_235 : decode cX12_port 235 = .ok (.getfield 22, 3) := zo_180 (b1 := 0) (b2 := 22) (zkb3 zk_cX12_port zn_cX12_port rfl) rfl
theorem dX12_port_238 : decode cX12_port 238 = .ok (.bipush 42, 2) := zo_16 (b1 := 42) (zkb2 zk_cX12_port zn_cX12_port rfl) rfl
theorem dX12_port_240 : decode cX12_port 240 = .ok (.iaload, 1) := zo_46 (zkb zk_cX12_port zn_cX12_port rfl)
theorem dX12_port_241 : decode cX12_port 241 = .ok (.aload_n 0, 1) := zo_42 (zkb zk_cX12_port zn_cX12_port rfl)
theorem dX12_port_242 : decode cX12_port 242 = .ok (.getfield 22, 3) := zo_180 (b1 := 0) (b2 := 22) (zkb3 zk_cX12_port zn_cX12_port rfl) rfl
theorem dX12_port_245 : decode cX12_port 245 = .ok (.bipush 43, 2) := zo_16 (b1 := 43) (zkb2 zk_cX12_port zn_cX12_port rfl) rfl
theorem dX12_port_247 : decode cX12_port 247 = .ok (.iaload, 1) := zo_46 (zkb zk_cX12_port zn_cX12_port rfl)
theorem dX12_port_248 : decode cX12_port 248 = .ok (.bipush 6, 2) := zo_16 (b1 := 6) (zkb2 zk_cX12_port zn_cX12_port rfl) rfl
theorem dX12_port_250 : decode cX12_port 250 = .ok (.ishl, 1) := zo_120 (zkb zk_cX12_port zn_cX12_port rfl)
theorem dX12_port_251 : decode cX12_port 251 = .ok (.ior, 1) := zo_128 (zkb zk_cX12_port zn_cX12_port rfl)
theorem dX12_port_252 : decode cX12_port 252 = .ok (.iconst (-1), 1) := zo_2 (zkb zk_cX12_port zn_cX12_port rfl)
theorem dX12_port_253 : decode cX12_port 253 = .ok (.ixor, 1) := zo_130 (zkb zk_cX12_port zn_cX12_port rfl)
theorem dX12_port_254 : decode cX12_port 254 = .ok (.iand, 1) := zo_126 (zkb zk_cX12_port zn_cX12_port rfl)
theorem dX12_port_255 : decode cX12_port 255 = .ok (.istore_n 3, 1) := zo_62 (zkb zk_cX12_port zn_cX12_port rfl)
theorem dX12_port_256 : decode cX12_port 256 = .ok (.aload_n 0, 1) := zo_42 (zkb zk_cX12_port zn_cX12_port rfl)
theorem dX12_port_257 : decode cX12_port 257 = .ok (.getfield 22, 3) := zo_180 (b1 := 0) (b2 := 22) (zkb3 zk_cX12_port zn_cX12_port rfl) rfl
theorem dX12_port_260 : decode cX12_port 260 = .ok (.bipush 33, 2) := zo_16 (b1 := 33) (zkb2 zk_cX12_port zn_cX12_port rfl) rfl
theorem dX12_port_262 : decode cX12_port 262 = .ok (.iaload, 1) := zo_46 (zkb zk_cX12_port zn_cX12_port rfl)
theorem dX12_port_263 : decode cX12_port 263 = .ok (.iconst 1, 1) := zo_4 (zkb zk_cX12_port zn_cX12_port rfl)
theorem dX12_port_264 : decode cX12_port 264 = .ok (.iand, 1) := zo_126 (zkb zk_cX12_port zn_cX12_port rfl)
theorem dX12_port_265 : decode cX12_port 265 = .ok (.ifCond .ne 23, 3) := zo_154 (b1 := 0) (b2 := 23) (zkb3 zk_cX12_port zn_cX12_port rfl) rfl
theorem dX12_port_268 : decode cX12_port 268 = .ok (.aload_n 0, 1) := zo_42 (zkb zk_cX12_port zn_cX12_port rfl)
theorem dX12_port_269 : decode cX12_port 269 = .ok (.iload_n 3, 1) := zo_29 (zkb zk_cX12_port zn_cX12_port rfl)
theorem dX12_port_270 : decode cX12_port 270 = .ok (.iconst 5, 1) := zo_8 (zkb zk_cX12_port zn_cX12_port rfl)
theorem dX12_port_271 : decode cX12_port 271 = .ok (.aload_n 0, 1) := zo_42 (zkb zk_cX12_port zn_cX12_port rfl)
theorem dX12_port_272 : decode cX12_port 272 = .ok (.getfield 22, 3) := zo_180 (b1 := 0) (b2 := 22) (zkb3 zk_cX12_port zn_cX12_port rfl) rfl
theorem dX12_port_275 : decode cX12_port 275 = .ok (.bipush 33, 2) := zo_16 (b1 := 33) (zkb2 zk_cX12_port zn_cX12_port rfl) rfl
theorem dX12_port_277 : decode cX12_port 277 = .ok (.iaload, 1) := zo_46 (zkb zk_cX12_port zn_cX12_port rfl)
theorem dX12_port_278 : decode cX12_port 278 = .ok (.iconst 4, 1) := zo_7 (zkb zk_cX12_port zn_cX12_port rfl)
theorem dX12_port_279 : decode cX12_port 279 = .ok (.ishr, 1) := zo_122 (zkb zk_cX12_port zn_cX12_port rfl)
theorem dX12_port_280 : decode cX12_port 280 = .ok (.iconst 1, 1) := zo_4 (zkb zk_cX12_port zn_cX12_port rfl)
theorem dX12_port_281 : decode cX12_port 281 = .ok (.iand, 1) := zo_126 (zkb zk_cX12_port zn_cX12_port rfl)
theorem dX12_port_282 : decode cX12_port 282 = .ok (.invokevirtual 335, 3) := zo_182 (b1 := 1) (b2 := 79) (zkb3 zk_cX12_port zn_cX12_port rfl) rfl
theorem dX12_port_285 : decode cX12_port 285 = .ok (.goto 4, 3) := zo_167 (b1 := 0) (b2 := 4) (zkb3 zk_cX12_port zn_cX12_port rfl) rfl
theorem dX12_port_288 : decode cX12_port 288 = .ok (.iload_n 3, 1) := zo_29 (zkb zk_cX12_port zn_cX12_port rfl)
theorem dX12_port_289 : decode cX12_port 289 = .ok (.ireturn, 1) := zo_172 (zkb zk_cX12_port zn_cX12_port rfl)
noncomputable def kn_cX12_bit : Nat := 0xac7e047a1c2e601b2f101600b42a
theorem zk_cX12_bit : zkd cX12_bit.data.toList kn_cX12_bit = true := by decide +kernel
theorem zn_cX12_bit : cX12_bit.data.toList.length = 14 := by decide +kernel
theorem dX12_bit_0 : decode cX12_bit 0 = .ok (.aload_n 0, 1) := zo_42 (zkb zk_cX12_bit zn_cX12_bit rfl)
theorem dX12_bit_1 : decode cX12_bit 1 = .ok (.getfield 22, 3) := zo_180 (b1 := 0) (b2 := 22) (zkb3 zk_cX12_bit zn_cX12_bit rfl) rfl
theorem dX12_bit_4 : decode cX12_bit 4 = .ok (.bipush 47, 2) := zo_16 (b1 := 47) (zkb2 zk_cX12_bit zn_cX12_bit rfl) rfl
theorem dX12_bit_6 : decode cX12_bit 6 = .ok (.iload_n 1, 1) := zo_27 (zkb zk_cX12_bit zn_cX12_bit rfl)
theorem dX12_bit_7 : decode cX12_bit 7 = .ok (.iadd, 1) := zo_96 (zkb zk_cX12_bit zn_cX12_bit rfl)
theorem dX12_bit_8 : decode cX12_bit 8 = .ok (.iaload, 1) := zo_46 (zkb zk_cX12_bit zn_cX12_bit rfl)
theorem dX12_bit_9 : decode cX12_bit 9 = .ok (.iload_n 2, 1) := zo_28 (zkb zk_cX12_bit zn_cX12_bit rfl)
theorem dX12_bit_10 : decode cX12_bit 10 = .ok (.ishr, 1) := zo_122 (zkb zk_cX12_bit zn_cX12_bit rfl)
theorem dX12_bit_11 : decode cX12_bit 11 = .ok (.iconst 1, 1) := zo_4 (zkb zk_cX12_bit zn_cX12_bit rfl)
theorem dX12_bit_12 : decode cX12_bit 12 = .ok (.iand, 1) := zo_126 (zkb zk_cX12_bit zn_cX12_bit rfl)
theorem dX12_bit_13 : decode cX12_bit 13 = .ok (.ireturn, 1) := zo_172 (zkb zk_cX12_bit zn_cX12_bit rfl)
noncomputable def kn_cX12_mode : Nat := 0xac030400a7050700a0048b01b604032a1200a7060700a0048b01b606042a2000a7040700a0048b01b607042a2e00a7070700a0048b01b605032a
theorem zk_cX12_mode : zkd cX12_mode.data.toList kn_cX12_mode = true := by decide +kernel
theorem zn_cX12_mode : cX12_mode.data.toList.length = 58 := by decide +kernel
theorem dX12_mode_0 : decode cX12_mode 0 = .ok (.aload_n 0, 1) := zo_42 (zkb zk_cX12_mode zn_cX12_mode rfl)
theorem dX12_mode_1 : decode cX12_mode 1 = .ok (.iconst 0, 1) := zo_3 (zkb zk_cX12_mode zn_cX12_mode rfl)
theorem dX12_mode_2 : decode cX12_mode 2 = .ok (.iconst 2, 1) := zo_5 (zkb zk_cX12_mode zn_cX12_mode rfl)
theorem dX12_mode_3 : decode cX12_mode 3 = .ok (.invokevirtual 395, 3) := zo_182 (b1 := 1) (b2 := 139) (zkb3 zk_cX12_mode zn_cX12_mode rfl) rfl
theorem dX12_mode_6 : decode cX12_mode 6 = .ok (.iconst 1, 1) := zo_4 (zkb zk_cX12_mode zn_cX12_mode rfl)
theorem dX12_mode_7 : decode cX12_mode 7 = .ok (.if_icmp .ne 7, 3) := zo_160 (b1 := 0) (b2 := 7) (zkb3 zk_cX12_mode zn_cX12_mode rfl) rfl
theorem dX12_mode_10 : decode cX12_mode 10 = .ok (.iconst 4, 1) := zo_7 (zkb zk_cX12_mode zn_cX12_mode rfl)
theorem dX12_mode_11 : decode cX12_mode 11 = .ok (.goto 46, 3) := zo_167 (b1 := 0) (b2 := 46) (zkb3 zk_cX12_mode zn_cX12_mode rfl) rfl
theorem dX12_mode_14 : decode cX12_mode 14 = .ok (.aload_n 0, 1) := zo_42 (zkb zk_cX12_mode zn_cX12_mode rfl)
theorem dX12_mode_15 : decode cX12_mode 15 = .ok (.iconst 1, 1) := zo_4 (zkb zk_cX12_mode zn_cX12_mode rfl)
theorem dX12_mode_16 : decode cX12_mode 16 = .ok (.iconst 4, 1) := zo_7 (zkb zk_cX12_mode zn_cX12_mode rfl)
theorem dX12_mode_17 : decode cX12_mode 17 = .ok (.invokevirtual 395, 3) := zo_182 (b1 := 1) (b2 := 139) (zkb3 zk_cX12_mode zn_cX12_mode rfl) rfl
theorem dX12_mode_20 : decode cX12_mode 20 = .ok (.iconst 1, 1) := zo_4 (zkb zk_cX12_mode zn_cX12_mode rfl)
theorem dX12_mode_21 : decode cX12_mode 21 = .ok (.if_icmp .ne 7, 3) := zo_160 (b1 := 0) (b2 := 7) (zkb3 zk_cX12_mode zn_cX12_mode rfl) rfl
theorem dX12_mode_24 : decode cX12_mode 24 = .ok (.iconst 1, 1) := zo_4 (zkb zk_cX12_mode zn_cX12_mode rfl)
theorem dX12_mode_25 : decode cX12_mode 25 = .ok (.goto 32, 3) := zo_167 (b1 := 0) (b2 := 32) (zkb3 zk_cX12_mode zn_cX12_mode rfl) rfl
theorem dX12_mode_28 : decode cX12_mode 28 = .ok (.aload_n 0, 1) := zo_42 (zkb zk_cX12_mode zn_cX12_mode rfl)
theorem dX12_mode_29 : decode cX12_mode 29 = .ok (.iconst 1, 1) := zo_4 (zkb zk_cX12_mode zn_cX12_mode rfl)
theorem dX12_mode_30 : decode cX12_mode 30 = .ok (.iconst 3, 1) := zo_6 (zkb zk_cX12_mode zn_cX12_mode rfl)
theorem dX12_mode_31 : decode cX12_mode 31 = .ok (.invokevirtual 395, 3) := zo_182 (b1 := 1) (b2 := 139) (zkb3 zk_cX12_mode zn_cX12_mode rfl) rfl
theorem dX12_mode_34 : decode cX12_mode 34 = .ok (.iconst 1, 1) := zo_4 (zkb zk_cX12_mode zn_cX12_mode rfl)
theorem dX12_mode_35 : decode cX12_mode 35 = .ok (.if_icmp .ne 7, 3) := zo_160 (b1 := 0) (b2 := 7) (zkb3 zk_cX12_mode zn_cX12_mode rfl) rfl
theorem dX12_mode_38 : decode cX12_mode 38 = .ok (.iconst 3, 1) := zo_6 (zkb zk_cX12_mode zn_cX12_mode rfl)
theorem dX12_mode_39 : decode cX12_mode 39 = .ok (.goto 18, 3) := zo_167 (b1 := 0) (b2 := 18) (zkb3 zk_cX12_mode zn_cX12_mode rfl) rfl
theorem dX12_mode_42 : decode cX12_mode 42 = .ok (.aload_n 0, 1) := zo_42 (zkb zk_cX12_mode zn_cX12_mode rfl)
theorem dX12_mode_43 : decode cX12_mode 43 = .ok (.iconst 0, 1) := zo_3 (zkb zk_cX12_mode zn_cX12_mode rfl)
theorem dX12_mode_44 : decode cX12_mode 44 = .ok (.iconst 1, 1) := zo_4 (zkb zk_cX12_mode zn_cX12_mode rfl)
theorem dX12_mode_45 : decode cX12_mode 45 = .ok (.invokevirtual 395, 3) := zo_182 (b1 := 1) (b2 := 139) (zkb3 zk_cX12_mode zn_cX12_mode rfl) rfl
theorem dX12_mode_48 : decode cX12_mode 48 = .ok (.iconst 1, 1) := zo_4 (zkb zk_cX12_mode zn_cX12_mode rfl)
theorem dX12_mode_49 : decode cX12_mode 49 = .ok (.if_icmp .ne 7, 3) := zo_160 (b1 := 0) (b2 := 7) (zkb3 zk_cX12_mode zn_cX12_mode rfl) rfl
theorem dX12_mode_52 : decode cX12_mode 52 = .ok (.iconst 2, 1) := zo_5 (zkb zk_cX12_mode zn_cX12_mode rfl)
theorem dX12_mode_53 : decode cX12_mode 53 = .ok (.goto 4, 3) := zo_167 (b1 := 0) (b2 := 4) (zkb3 zk_cX12_mode zn_cX12_mode rfl) rfl
theorem dX12_mode_56 : decode cX12_mode 56 = .ok (.iconst 0, 1) := zo_3 (zkb zk_cX12_mode zn_cX12_mode rfl)
theorem dX12_mode_57 : decode cX12_mode 57 = .ok (.ireturn, 1) := zo_172 (zkb zk_cX12_mode zn_cX12_mode rfl)
noncomputable def kn_cX12_height : Nat := 0xacf000110600a7e000110900a0048b01b607042aacc000110700a08b01b606042a8b01b607042a1200998b01b604032a1b00a0078e01b62a
theorem zk_cX12_height : zkd cX12_height.data.toList kn_cX12_height = true := by decide +kernel
theorem zn_cX12_height : cX12_height.data.toList.length = 56 := by decide +kernel
theorem dX12_height_0 : decode cX12_height 0 = .ok (.aload_n 0, 1) := zo_42 (zkb zk_cX12_height zn_cX12_height rfl)
theorem dX12_height_1 : decode cX12_height 1 = .ok (.invokevirtual 398, 3) := zo_182 (b1 := 1) (b2 := 142) (zkb3 zk_cX12_height zn_cX12_height rfl) rfl
theorem dX12_height_4 : decode cX12_height 4 = .ok (.iconst 4, 1) := zo_7 (zkb zk_cX12_height zn_cX12_height rfl)
theorem dX12_height_5 : decode cX12_height 5 = .ok (.if_icmp .ne 27, 3) := zo_160 (b1 := 0) (b2 := 27) (zkb3 zk_cX12_height zn_cX12_height rfl) rfl
theorem dX12_height_8 : decode cX12_height 8 = .ok (.aload_n 0, 1) := zo_42 (zkb zk_cX12_height zn_cX12_height rfl)
theorem dX12_height_9 : decode cX12_height 9 = .ok (.iconst 0, 1) := zo_3 (zkb zk_cX12_height zn_cX12_height rfl)
theorem dX12_height_10 : decode cX12_height 10 = .ok (.iconst 1, 1) := zo_4 (zkb zk_cX12_height zn_cX12_height rfl)
theorem dX12_height_11 : decode cX12_height 11 = .ok (.invokevirtual 395, 3) := zo_182 (b1 := 1) (b2 := 139) (zkb3 zk_cX12_height zn_cX12_height rfl) rfl
theorem dX12_height_14 : decode cX12_height 14 = .ok (.ifCond .eq 18, 3) := zo_153 (b1 := 0) (b2 := 18) (zkb3 zk_cX12_height zn_cX12_height rfl) rfl
theorem dX12_height_17 : decode cX12_height 17 = .ok (.aload_n 0, 1) := zo_42 (zkb zk_cX12_height zn_cX12_height rfl)
theorem dX12_height_18 : decode cX12_height 18 = .ok (.iconst 1, 1) := zo_4 (zkb zk_cX12_height zn_cX12_height rfl)
theorem dX12_height_19 : decode cX12_height 19 = .ok (.iconst 4, 1) := zo_7 (zkb zk_cX12_height zn_cX12_height rfl)
theorem dX12_height_20 : decode cX12_height 20 = .ok (.invokevirtual 395, 3) := zo_182 (b1 := 1) (b2 := 139) (zkb3 zk_cX12_height zn_cX12_height rfl) rfl
theorem dX12_height_23 : decode cX12_height 23 = .ok (.aload_n 0, 1) := zo_42 (zkb zk_cX12_height zn_cX12_height rfl)
theorem dX12_height_24 : decode cX12_height 24 = .ok (.iconst 1, 1) := zo_4 (zkb zk_cX12_height zn_cX12_height rfl)
theorem dX12_height_25 : decode cX12_height 25 = .ok (.iconst 3, 1) := zo_6 (zkb zk_cX12_height zn_cX12_height rfl)
theorem dX12_height_26 : decode cX12_height 26 = .ok (.invokevirtual 395, 3) := zo_182 (b1 := 1) (b2 := 139) (zkb3 zk_cX12_height zn_cX12_height rfl) rfl
theorem dX12_height_29 : decode cX12_height 29 = .ok (.if_icmp .ne 7, 3) := zo_160 (b1 := 0) (b2 := 7) (zkb3 zk_cX12_height zn_cX12_height rfl) rfl
theorem dX12_height_32 : decode cX12_height 32 = .ok (.sipush 192, 3) := zo_17 (b1 := 0) (b2 := 192) (zkb3 zk_cX12_height zn_cX12_height rfl) rfl
theorem dX12_height_35 : decode cX12_height 35 = .ok (.ireturn, 1) := zo_172 (zkb zk_cX12_height zn_cX12_height rfl)
theorem dX12_height_36 : decode cX12_height 36 = .ok (.aload_n 0, 1) := zo_42 (zkb zk_cX12_height zn_cX12_height rfl)
theorem dX12_height_37 : decode cX12_height 37 = .ok (.iconst 1, 1) := zo_4 (zkb zk_cX12_height zn_cX12_height rfl)
theorem dX12_height_38 : decode cX12_height 38 = .ok (.iconst 4, 1) := zo_7 (zkb zk_cX12_height zn_cX12_height rfl)
theorem dX12_height_39 : decode cX12_height 39 = .ok (.invokevirtual 395, 3) := zo_182 (b1 := 1) (b2 := 139) (zkb3 zk_cX12_height zn_cX12_height rfl) rfl
theorem dX12_height_42 : decode cX12_height 42 = .ok (.iconst 1, 1) := zo_4 (zkb zk_cX12_height zn_cX12_height rfl)
theorem dX12_height_43 : decode cX12_height 43 = .ok (.if_icmp .ne 9, 3) := zo_160 (b1 := 0) (b2 := 9) (zkb3 zk_cX12_height zn_cX12_height rfl) rfl
theorem dX12_height_46 : decode cX12_height 46 = .ok (.sipush 224, 3) := zo_17 (b1 := 0) (b2 := 224) (zkb3 zk_cX12_height zn_cX12_height rfl) rfl
theorem dX12_height_49 : decode cX12_height 49 = .ok (.goto 6, 3) := zo_167 (b1 := 0) (b2 := 6) (zkb3 zk_cX12_height zn_cX12_height rfl) rfl
theorem dX12_height_52 : decode cX12_height 52 = .ok (.sipush 240, 3) := zo_17 (b1 := 0) (b2 := 240) (zkb3 zk_cX12_height zn_cX12_height rfl) rfl
theorem dX12_height_55 : decode cX12_height 55 = .ok (.ireturn, 1) := zo_172 (zkb zk_cX12_height zn_cX12_height rfl)
noncomputable def kn_cX12_video8 : Nat := 0xac7eff0011337eff3f111b2500b42a
theorem zk_cX12_video8 : zkd cX12_video8.data.toList kn_cX12_video8 = true := by decide +kernel
theorem zn_cX12_video8 : cX12_video8.data.toList.length = 15 := by decide +kernel
theorem dX12_video8_0 : decode cX12_video8 0 = .ok (.aload_n 0, 1) := zo_42 (zkb zk_cX12_video8 zn_cX12_video8 rfl)
theorem dX12_video8_1 : decode cX12_video8 1 = .ok (.getfield 37, 3) := zo_180 (b1 := 0) (b2 := 37) (zkb3 zk_cX12_video8 zn_cX12_video8 rfl) rfl
theorem dX12_video8_4 : decode cX12_video8 4 = .ok (.iload_n 1, 1) := zo_27 (zkb zk_cX12_video8 zn_cX12_video8 rfl)
theorem dX12_video8_5 : decode cX12_video8 5 = .ok (.sipush 16383, 3) := zo_17 (b1 := 63) (b2 := 255) (zkb3 zk_cX12_video8 zn_cX12_video8 rfl) rfl
theorem dX12_video8_8 : decode cX12_video8 8 = .ok (.iand, 1) := zo_126 (zkb zk_cX12_video8 zn_cX12_video8 rfl)
theorem dX12_video8_9 : decode cX12_video8 9 = .ok (.baload, 1) := zo_51 (zkb zk_cX12_video8 zn_cX12_video8 rfl)
theorem dX12_video8_10 : decode cX12_video8 10 = .ok (.sipush 255, 3) := zo_17 (b1 := 0) (b2 := 255) (zkb3 zk_cX12_video8 zn_cX12_video8 rfl) rfl
theorem dX12_video8_13 : decode cX12_video8 13 = .ok (.iand, 1) := zo_126 (zkb zk_cX12_video8 zn_cX12_video8 rfl)
theorem dX12_video8_14 : decode cX12_video8 14 = .ok (.ireturn, 1) := zo_172 (zkb zk_cX12_video8 zn_cX12_video8 rfl)
noncomputable def kn_cX12_further : Nat := 0xb14f7eff3f1160042e3a101600b42a3a101600b42a
theorem zk_cX12_further : zkd cX12_further.data.toList kn_cX12_further = true := by decide +kernel
theorem zn_cX12_further : cX12_further.data.toList.length = 21 := by decide +kernel
theorem dX12_further_0 : decode cX12_further 0 = .ok (.aload_n 0, 1) := zo_42 (zkb zk_cX12_further zn_cX12_further rfl)
theorem dX12_further_1 : decode cX12_further 1 = .ok (.getfield 22, 3) := zo_180 (b1 := 0) (b2 := 22) (zkb3 zk_cX12_further zn_cX12_further rfl) rfl
theorem dX12_further_4 : decode cX12_further 4 = .ok (.bipush 58, 2) := zo_16 (b1 := 58) (zkb2 zk_cX12_further zn_cX12_further rfl) rfl
theorem dX12_further_6 : decode cX12_further 6 = .ok (.aload_n 0, 1) := zo_42 (zkb zk_cX12_further zn_cX12_further rfl)
theorem dX12_further_7 : decode cX12_further 7 = .ok (.getfield 22, 3) := zo_180 (b1 := 0) (b2 := 22) (zkb3 zk_cX12_further zn_cX12_further rfl) rfl
theorem dX12_further_10 : decode cX12_further 10 = .ok (.bipush 58, 2) := zo_16 (b1 := 58) (zkb2 zk_cX12_further zn_cX12_further rfl) rfl
theorem dX12_further_12 : decode cX12_further 12 = .ok (.iaload, 1) := zo_46 (zkb zk_cX12_further zn_cX12_further rfl)
theorem dX12_further_13 : decode cX12_further 13 = .ok (.iconst 1, 1) := zo_4 (zkb zk_cX12_further zn_cX12_further rfl)
theorem dX12_further_14 : decode cX12_further 14 = .ok (.iadd, 1) := zo_96 (zkb zk_cX12_further zn_cX12_further rfl)
theorem dX12_further_15 : decode cX12_further 15 = .ok (.sipush 16383, 3) := zo_17 (b1 := 63) (b2 := 255) (zkb3 zk_cX12_further zn_cX12_further rfl) rfl
theorem dX12_further_18 : decode cX12_further 18 = .ok (.iand, 1) := zo_126 (zkb zk_cX12_further zn_cX12_further rfl)
theorem dX12_further_19 : decode cX12_further 19 = .ok (.iastore, 1) := zo_79 (zkb zk_cX12_further zn_cX12_further rfl)
theorem dX12_further_20 : decode cX12_further 20 = .ok (.return_, 1) := zo_177 (zkb zk_cX12_further zn_cX12_further rfl)
noncomputable def kn_cX12_control : Nat := 0xb14f7eff00112e3a101600b42a607010101b2f101600b42a1a00a20b107010101b2300a0052e3b101600b42a2e00a79401b62a4f9101b62e3a101600b42a2a3c101600b42a1c009a2e3b101600b42a4f7a06101b3b101600b42a4f807eff00112e3a101600b42a7808107e3f101b3a101600b42a4f033d101600b42ab14f043d101600b42a4f801b7e003f112e3a101600b42a3a101600b42a20009a2e3d101600b42a
theorem zk_cX12_control : zkd cX12_control.data.toList kn_cX12_control = true := by decide +kernel
theorem zn_cX12_control : cX12_control.data.toList.length = 163 := by decide +kernel
theorem dX12_control_0 : decode cX12_control 0 = .ok (.aload_n 0, 1) := zo_42 (zkb zk_cX12_control zn_cX12_control rfl)
theorem dX12_control_1 : decode cX12_control 1 = .ok (.getfield 22, 3) := zo_180 (b1 := 0) (b2 := 22) (zkb3 zk_cX12_control zn_cX12_control rfl) rfl
theorem dX12_control_4 : decode cX12_control 4 = .ok (.bipush 61, 2) := zo_16 (b1 := 61) (zkb2 zk_cX12_control zn_cX12_control rfl) rfl
theorem dX12_control_6 : decode cX12_control 6 = .ok (.iaload, 1) := zo_46 (zkb zk_cX12_control zn_cX12_control rfl)
theorem dX12_control_7 : decode cX12_control 7 = .ok (.ifCond .ne 32, 3) := zo_154 (b1 := 0) (b2 := 32) (zkb3 zk_cX12_control zn_cX12_control rfl) rfl
theorem dX12_control_10 : decode cX12_control 10 = .ok (.aload_n 0, 1) := zo_42 (zkb zk_cX12_control zn_cX12_control rfl)
theorem dX12_control_11 : decode cX12_control 11 = .ok (.getfield 22, 3) := zo_180 (b1 := 0) (b2 := 22) (zkb3 zk_cX12_control zn_cX12_control rfl) rfl
theorem dX12_control_14 : decode cX12_control 14 = .ok (.bipush 58, 2) := zo_16 (b1 := 58) (zkb2 zk_cX12_control zn_cX12_control rfl) rfl
theorem dX12_control_16 : decode cX12_control 16 = .ok (.aload_n 0, 1) := zo_42 (zkb zk_cX12_control zn_cX12_control rfl)
theorem dX12_control_17 : decode cX12_control 17 = .ok (.getfield 22, 3) := zo_180 (b1 := 0) (b2 := 22) (zkb3 zk_cX12_control zn_cX12_control rfl) rfl
theorem dX12_control_20 : decode cX12_control 20 = .ok (.bipush 58, 2) := zo_16 (b1 := 58) (zkb2 zk_cX12_control zn_cX12_control rfl) rfl
theorem dX12_control_22 : decode cX12_control 22 = .ok (.iaload, 1) := zo_46 (zkb zk_cX12_control zn_cX12_control rfl)
theorem dX12_control_23 : decode cX12_control 23 = .ok (.sipush 16128, 3) := zo_17 (b1 := 63) (b2 := 0) (zkb3 zk_cX12_control zn_cX12_control rfl) rfl
theorem dX12_control_26 : decode cX12_control 26 = .ok (.iand, 1) := zo_126 (zkb zk_cX12_control zn_cX12_control rfl)
theorem dX12_control_27 : decode cX12_control 27 = .ok (.iload_n 1, 1) := zo_27 (zkb zk_cX12_control zn_cX12_control rfl)
theorem dX12_control_28 : decode cX12_control 28 = .ok (.ior, 1) := zo_128 (zkb zk_cX12_control zn_cX12_control rfl)
theorem dX12_control_29 : decode cX12_control 29 = .ok (.iastore, 1) := zo_79 (zkb zk_cX12_control zn_cX12_control rfl)
theorem dX12_control_30 : decode cX12_control 30 = .ok (.aload_n 0, 1) := zo_42 (zkb zk_cX12_control zn_cX12_control rfl)
theorem dX12_control_31 : decode cX12_control 31 = .ok (.getfield 22, 3) := zo_180 (b1 := 0) (b2 := 22) (zkb3 zk_cX12_control zn_cX12_control rfl) rfl
theorem dX12_control_34 : decode cX12_control 34 = .ok (.bipush 61, 2) := zo_16 (b1 := 61) (zkb2 zk_cX12_control zn_cX12_control rfl) rfl
theorem dX12_control_36 : decode cX12_control 36 = .ok (.iconst 1, 1) := zo_4 (zkb zk_cX12_control zn_cX12_control rfl)
theorem dX12_control_37 : decode cX12_control 37 = .ok (.iastore, 1) := zo_79 (zkb zk_cX12_control zn_cX12_control rfl)
theorem dX12_control_38 : decode cX12_control 38 = .ok (.return_, 1) := zo_177 (zkb zk_cX12_control zn_cX12_control rfl)
theorem dX12_control_39 : decode cX12_control 39 = .ok (.aload_n 0, 1) := zo_42 (zkb zk_cX12_control zn_cX12_control rfl)
theorem dX12_control_40 : decode cX12_control 40 = .ok (.getfield 22, 3) := zo_180 (b1 := 0) (b2 := 22) (zkb3 zk_cX12_control zn_cX12_control rfl) rfl
theorem dX12_control_43 : decode cX12_control 43 = .ok (.bipush 61, 2) := zo_16 (b1 := 61) (zkb2 zk_cX12_control zn_cX12_control rfl) rfl
theorem dX12_control_45 : decode cX12_control 45 = .ok (.iconst 0, 1) := zo_3 (zkb zk_cX12_control zn_cX12_control rfl)
theorem dX12_control_46 : decode cX12_control 46 = .ok (.iastore, 1) := zo_79 (zkb zk_cX12_control zn_cX12_control rfl)
theorem dX12_control_47 : decode cX12_control 47 = .ok (.aload_n 0, 1) := zo_42 (zkb zk_cX12_control zn_cX12_control rfl)
theorem dX12_control_48 : decode cX12_control 48 = .ok (.getfield 22, 3) := zo_180 (b1 := 0) (b2 := 22) (zkb3 zk_cX12_control zn_cX12_control rfl) rfl
theorem dX12_control_51 : decode cX12_control 51 = .ok (.bipush 58, 2) := zo_16 (b1 := 58) (zkb2 zk_cX12_control zn_cX12_control rfl) rfl
theorem dX12_control_53 : decode cX12_control 53 = .ok (.iload_n 1, 1) := zo_27 (zkb zk_cX12_control zn_cX12_control rfl)
theorem dX12_control_54 : decode cX12_control 54 = .ok (.bipush 63, 2) := zo_16 (b1 := 63) (zkb2 zk_cX12_control zn_cX12_control rfl) rfl
theorem dX12_control_56 : decode cX12_control 56 = .ok (.iand, 1) := zo_126 (zkb zk_cX12_control zn_cX12_control rfl)
theorem dX12_control_57 : decode cX12_control 57 = .ok (.bipush 8, 2) := zo_16 (b1 := 8) (zkb2 zk_cX12_control zn_cX12_control rfl) rfl
theorem dX12_control_59 : decode cX12_control 59 = .ok (.ishl, 1) := zo_120 (zkb zk_cX12_control zn_cX12_control rfl)
theorem dX12_control_60 : decode cX12_control 60 = .ok (.aload_n 0, 1) := zo_42 (zkb zk_cX12_control zn_cX12_control rfl)
theorem dX12_control_61 : decode cX12_control 61 = .ok (.getfield 22, 3) := zo_180 (b1 := 0) (b2 := 22) (zkb3 zk_cX12_control zn_cX12_control rfl) rfl
theorem dX12_control_64 : decode cX12_control 64 = .ok (.bipush 58, 2) := zo_16 (b1 := 58) (zkb2 zk_cX12_control zn_cX12_control rfl) rfl
theorem dX12_control_66 : decode cX12_control 66 = .ok (.iaload, 1) := zo_46 (zkb zk_cX12_control zn_cX12_control rfl)
theorem dX12_control_67 : decode cX12_control 67 = .ok (.sipush 255, 3) := zo_17 (b1 := 0) (b2 := 255) (zkb3 zk_cX12_control zn_cX12_control rfl) rfl
theorem dX12_control_70 : decode cX12_control 70 = .ok (.iand, 1) := zo_126 (zkb zk_cX12_control zn_cX12_control rfl)
theorem dX12_control_71 : decode cX12_control 71 = .ok (.ior, 1) := zo_128 (zkb zk_cX12_control zn_cX12_control rfl)
theorem dX12_control_72 : decode cX12_control 72 = .ok (.iastore, 1) := zo_79 (zkb zk_cX12_control zn_cX12_control rfl)
theorem dX12_control_73 : decode cX12_control 73 = .ok (.aload_n 0, 1) := zo_42 (zkb zk_cX12_control zn_cX12_control rfl)
theorem dX12_control_74 : decode cX12_control 74 = .ok (.getfield 22, 3) := zo_180 (b1 := 0) (b2 := 22) (zkb3 zk_cX12_control zn_cX12_control rfl) rfl
theorem dX12_control_77 : decode cX12_control 77 = .ok (.bipush 59, 2) := zo_16 (b1 := 59) (zkb2 zk_cX12_control zn_cX12_control rfl) rfl
theorem dX12_control_79 : decode cX12_control 79 = .ok (.iload_n 1, 1) := zo_27 (zkb zk_cX12_control zn_cX12_control rfl)
theorem dX12_control_80 : decode cX12_control 80 = .ok (.bipush 6, 2) := zo_16 (b1 := 6) (zkb2 zk_cX12_control zn_cX12_control rfl) rfl
theorem dX12_control_82 : decode cX12_control 82 = .ok (.ishr, 1) := zo_122 (zkb zk_cX12_control zn_cX12_control rfl)
theorem dX12_control_83 : decode cX12_control 83 = .ok (.iastore, 1) := zo_79 (zkb zk_cX12_control zn_cX12_control rfl)
theorem dX12_control_84 : decode cX12_control 84 = .ok (.aload_n 0, 1) := zo_42 (zkb zk_cX12_control zn_cX12_control rfl)
theorem dX12_control_85 : decode cX12_control 85 = .ok (.getfield 22, 3) := zo_180 (b1 := 0) (b2 := 22) (zkb3 zk_cX12_control zn_cX12_control rfl) rfl
theorem dX12_control_88 : decode cX12_control 88 = .ok (.bipush 59, 2) := zo_16 (b1 := 59) (zkb2 zk_cX12_control zn_cX12_control rfl) rfl
theorem dX12_control_90 : decode cX12_control 90 = .ok (.iaload, 1) := zo_46 (zkb zk_cX12_control zn_cX12_control rfl)
theorem dX12_control_91 : decode cX12_control 91 = .ok (.ifCond .ne 28, 3) := zo_154 (b1 := 0) (b2 := 28) (zkb3 zk_cX12_control zn_cX12_control rfl) rfl
theorem dX12_control_94 : decode cX12_control 94 = .ok (.aload_n 0, 1) := zo_42 (zkb zk_cX12_control zn_cX12_control rfl)
theorem dX12_control_95 : decode cX12_control 95 = .ok (.getfield 22, 3) := zo_180 (b1 := 0) (b2 := 22) (zkb3 zk_cX12_control zn_cX12_control rfl) rfl
theorem dX12_control_98 : decode cX12_control 98 = .ok (.bipush 60, 2) := zo_16 (b1 := 60) (zkb2 zk_cX12_control zn_cX12_control rfl) rfl
theorem dX12_control_100 : decode cX12_control 100 = .ok (.aload_n 0, 1) := zo_42 (zkb zk_cX12_control zn_cX12_control rfl)
theorem dX12_control_101 : decode cX12_control 101 = .ok (.aload_n 0, 1) := zo_42 (zkb zk_cX12_control zn_cX12_control rfl)
theorem dX12_control_102 : decode cX12_control 102 = .ok (.getfield 22, 3) := zo_180 (b1 := 0) (b2 := 22) (zkb3 zk_cX12_control zn_cX12_control rfl) rfl
theorem dX12_control_105 : decode cX12_control 105 = .ok (.bipush 58, 2) := zo_16 (b1 := 58) (zkb2 zk_cX12_control zn_cX12_control rfl) rfl
theorem dX12_control_107 : decode cX12_control 107 = .ok (.iaload, 1) := zo_46 (zkb zk_cX12_control zn_cX12_control rfl)
theorem dX12_control_108 : decode cX12_control 108 = .ok (.invokevirtual 401, 3) := zo_182 (b1 := 1) (b2 := 145) (zkb3 zk_cX12_control zn_cX12_control rfl) rfl
theorem dX12_control_111 : decode cX12_control 111 = .ok (.iastore, 1) := zo_79 (zkb zk_cX12_control zn_cX12_control rfl)
theorem dX12_control_112 : decode cX12_control 112 = .ok (.aload_n 0, 1) := zo_42 (zkb zk_cX12_control zn_cX12_control rfl)
theorem dX12_control_113 : decode cX12_control 113 = .ok (.invokevirtual 404, 3) := zo_182 (b1 := 1) (b2 := 148) (zkb3 zk_cX12_control zn_cX12_control rfl) rfl
theorem dX12_control_116 : decode cX12_control 116 = .ok (.goto 46, 3) := zo_167 (b1 := 0) (b2 := 46) (zkb3 zk_cX12_control zn_cX12_control rfl) rfl
theorem dX12_control_119 : decode cX12_control 119 = .ok (.aload_n 0, 1) := zo_42 (zkb zk_cX12_control zn_cX12_control rfl)
theorem dX12_control_120 : decode cX12_control 120 = .ok (.getfield 22, 3) := zo_180 (b1 := 0) (b2 := 22) (zkb3 zk_cX12_control zn_cX12_control rfl) rfl
theorem dX12_control_123 : decode cX12_control 123 = .ok (.bipush 59, 2) := zo_16 (b1 := 59) (zkb2 zk_cX12_control zn_cX12_control rfl) rfl
theorem dX12_control_125 : decode cX12_control 125 = .ok (.iaload, 1) := zo_46 (zkb zk_cX12_control zn_cX12_control rfl)
theorem dX12_control_126 : decode cX12_control 126 = .ok (.iconst 2, 1) := zo_5 (zkb zk_cX12_control zn_cX12_control rfl)
theorem dX12_control_127 : decode cX12_control 127 = .ok (.if_icmp .ne 35, 3) := zo_160 (b1 := 0) (b2 := 35) (zkb3 zk_cX12_control zn_cX12_control rfl) rfl
theorem dX12_control_130 : decode cX12_control 130 = .ok (.iload_n 1, 1) := zo_27 (zkb zk_cX12_control zn_cX12_control rfl)
theorem dX12_control_131 : decode cX12_control 131 = .ok (.bipush 16, 2) := zo_16 (b1 := 16) (zkb2 zk_cX12_control zn_cX12_control rfl) rfl
theorem dX12_control_133 : decode cX12_control 133 = .ok (.irem, 1) := zo_112 (zkb zk_cX12_control zn_cX12_control rfl)
theorem dX12_control_134 : decode cX12_control 134 = .ok (.bipush 11, 2) := zo_16 (b1 := 11) (zkb2 zk_cX12_control zn_cX12_control rfl) rfl
theorem dX12_control_136 : decode cX12_control 136 = .ok (.if_icmp .ge 26, 3) := zo_162 (b1 := 0) (b2 := 26) (zkb3 zk_cX12_control zn_cX12_control rfl) rfl
theorem dX12_control_139 : decode cX12_control 139 = .ok (.aload_n 0, 1) := zo_42 (zkb zk_cX12_control zn_cX12_control rfl)
theorem dX12_control_140 : decode cX12_control 140 = .ok (.getfield 22, 3) := zo_180 (b1 := 0) (b2 := 22) (zkb3 zk_cX12_control zn_cX12_control rfl) rfl
theorem dX12_control_143 : decode cX12_control 143 = .ok (.bipush 47, 2) := zo_16 (b1 := 47) (zkb2 zk_cX12_control zn_cX12_control rfl) rfl
theorem dX12_control_145 : decode cX12_control 145 = .ok (.iload_n 1, 1) := zo_27 (zkb zk_cX12_control zn_cX12_control rfl)
theorem dX12_control_146 : decode cX12_control 146 = .ok (.bipush 16, 2) := zo_16 (b1 := 16) (zkb2 zk_cX12_control zn_cX12_control rfl) rfl
theorem dX12_control_148 : decode cX12_control 148 = .ok (.irem, 1) := zo_112 (zkb zk_cX12_control zn_cX12_control rfl)
theorem dX12_control_149 : decode cX12_control 149 = .ok (.iadd, 1) := zo_96 (zkb zk_cX12_control zn_cX12_control rfl)
theorem dX12_control_150 : decode cX12_control 150 = .ok (.aload_n 0, 1) := zo_42 (zkb zk_cX12_control zn_cX12_control rfl)
theorem dX12_control_151 : decode cX12_control 151 = .ok (.getfield 22, 3) := zo_180 (b1 := 0) (b2 := 22) (zkb3 zk_cX12_control zn_cX12_control rfl) rfl
theorem dX12_control_154 : decode cX12_control 154 = .ok (.bipush 58, 2) := zo_16 (b1 := 58) (zkb2 zk_cX12_control zn_cX12_control rfl) rfl
theorem dX12_control_156 : decode cX12_control 156 = .ok (.iaload, 1) := zo_46 (zkb zk_cX12_control zn_cX12_control rfl)
theorem dX12_control_157 : decode cX12_control 157 = .ok (.sipush 255, 3) := zo_17 (b1 := 0) (b2 := 255) (zkb3 zk_cX12_control zn_cX12_control rfl) rfl
theorem dX12_control_160 : decode cX12_control 160 = .ok (.iand, 1) := zo_126 (zkb zk_cX12_control zn_cX12_control rfl)
theorem dX12_control_161 : decode cX12_control 161 = .ok (.iastore, 1) := zo_79 (zkb zk_cX12_control zn_cX12_control rfl)
theorem dX12_control_162 : decode cX12_control 162 = .ok (.return_, 1) := zo_177 (zkb zk_cX12_control zn_cX12_control rfl)
noncomputable def kn_cX12_status : Nat := 0xac1b4f033f101600b42a4f033e101600b42a4f033d101600b42a3c2e3e101600b42a
theorem zk_cX12_status : zkd cX12_status.data.toList kn_cX12_status = true := by decide +kernel
theorem zn_cX12_status : cX12_status.data.toList.length = 34 := by decide +kernel
theorem dX12_status_0 : decode cX12_status 0 = .ok (.aload_n 0, 1) := zo_42 (zkb zk_cX12_status zn_cX12_status rfl)
theorem dX12_status_1 : decode cX12_status 1 = .ok (.getfield 22, 3) := zo_180 (b1 := 0) (b2 := 22) (zkb3 zk_cX12_status zn_cX12_status rfl) rfl
theorem dX12_status_4 : decode cX12_status 4 = .ok (.bipush 62, 2) := zo_16 (b1 := 62) (zkb2 zk_cX12_status zn_cX12_status rfl) rfl
theorem dX12_status_6 : decode cX12_status 6 = .ok (.iaload, 1) := zo_46 (zkb zk_cX12_status zn_cX12_status rfl)
theorem dX12_status_7 : decode cX12_status 7 = .ok (.istore_n 1, 1) := zo_60 (zkb zk_cX12_status zn_cX12_status rfl)
theorem dX12_status_8 : decode cX12_status 8 = .ok (.aload_n 0, 1) := zo_42 (zkb zk_cX12_status zn_cX12_status rfl)
theorem dX12_status_9 : decode cX12_status 9 = .ok (.getfield 22, 3) := zo_180 (b1 := 0) (b2 := 22) (zkb3 zk_cX12_status zn_cX12_status rfl) rfl
theorem dX12_status_12 : decode cX12_status 12 = .ok (.bipush 61, 2) := zo_16 (b1 := 61) (zkb2 zk_cX12_status zn_cX12_status rfl) rfl
theorem dX12_status_14 : decode cX12_status 14 = .ok (.iconst 0, 1) := zo_3 (zkb zk_cX12_status zn_cX12_status rfl)
theorem dX12_status_15 : decode cX12_status 15 = .ok (.iastore, 1) := zo_79 (zkb zk_cX12_status zn_cX12_status rfl)
theorem dX12_status_16 : decode cX12_status 16 = .ok (.aload_n 0, 1) := zo_42 (zkb zk_cX12_status zn_cX12_status rfl)
theorem dX12_status_17 : decode cX12_status 17 = .ok (.getfield 22, 3) := zo_180 (b1 := 0) (b2 := 22) (zkb3 zk_cX12_status zn_cX12_status rfl) rfl
theorem dX12_status_20 : decode cX12_status 20 = .ok (.bipush 62, 2) := zo_16 (b1 := 62) (zkb2 zk_cX12_status zn_cX12_status rfl) rfl
theorem dX12_status_22 : decode cX12_status 22 = .ok (.iconst 0, 1) := zo_3 (zkb zk_cX12_status zn_cX12_status rfl)
theorem dX12_status_23 : decode cX12_status 23 = .ok (.iastore, 1) := zo_79 (zkb zk_cX12_status zn_cX12_status rfl)
theorem dX12_status_24 : decode cX12_status 24 = .ok (.aload_n 0, 1) := zo_42 (zkb zk_cX12_status zn_cX12_status rfl)
theorem dX12_status_25 : decode cX12_status 25 = .ok (.getfield 22, 3) := zo_180 (b1 := 0) (b2 := 22) (zkb3 zk_cX12_status zn_cX12_status rfl) rfl
theorem dX12_status_28 : decode cX12_status 28 = .ok (.bipush 63, 2) := zo_16 (b1 := 63) (zkb2 zk_cX12_status zn_cX12_status rfl) rfl
theorem dX12_status_30 : decode cX12_status 30 = .ok (.iconst 0, 1) := zo_3 (zkb zk_cX12_status zn_cX12_status rfl)
theorem dX12_status_31 : decode cX12_status 31 = .ok (.iastore, 1) := zo_79 (zkb zk_cX12_status zn_cX12_status rfl)
theorem dX12_status_32 : decode cX12_status 32 = .ok (.iload_n 1, 1) := zo_27 (zkb zk_cX12_status zn_cX12_status rfl)
theorem dX12_status_33 : decode cX12_status 33 = .ok (.ireturn, 1) := zo_172 (zkb zk_cX12_status zn_cX12_status rfl)
noncomputable def kn_cX12_data : Nat := 0xac1b9401b62a4f9101b62e3a101600b42a2a3c101600b42a4f033d101600b42a3c2e3c101600b42a
theorem zk_cX12_data : zkd cX12_data.data.toList kn_cX12_data = true := by decide +kernel
theorem zn_cX12_data : cX12_data.data.toList.length = 40 := by decide +kernel
theorem dX12_data_0 : decode cX12_data 0 = .ok (.aload_n 0, 1) := zo_42 (zkb zk_cX12_data zn_cX12_data rfl)
theorem dX12_data_1 : decode cX12_data 1 = .ok (.getfield 22, 3) := zo_180 (b1 := 0) (b2 := 22) (zkb3 zk_cX12_data zn_cX12_data rfl) rfl
theorem dX12_data_4 : decode cX12_data 4 = .ok (.bipush 60, 2) := zo_16 (b1 := 60) (zkb2 zk_cX12_data zn_cX12_data rfl) rfl
theorem dX12_data_6 : decode cX12_data 6 = .ok (.iaload, 1) := zo_46 (zkb zk_cX12_data zn_cX12_data rfl)
theorem dX12_data_7 : decode cX12_data 7 = .ok (.istore_n 1, 1) := zo_60 (zkb zk_cX12_data zn_cX12_data rfl)
theorem dX12_data_8 : decode cX12_data 8 = .ok (.aload_n 0, 1) := zo_42 (zkb zk_cX12_data zn_cX12_data rfl)
theorem dX12_data_9 : decode cX12_data 9 = .ok (.getfield 22, 3) := zo_180 (b1 := 0) (b2 := 22) (zkb3 zk_cX12_data zn_cX12_data rfl) rfl
theorem dX12_data_12 : decode cX12_data 12 = .ok (.bipush 61, 2) := zo_16 (b1 := 61) (zkb2 zk_cX12_data zn_cX12_data rfl) rfl
theorem dX12_data_14 : decode cX12_data 14 = .ok (.iconst 0, 1) := zo_3 (zkb zk_cX12_data zn_cX12_data rfl)
theorem dX12_data_15 : decode cX12_data 15 = .ok (.iastore, 1) := zo_79 (zkb zk_cX12_data zn_cX12_data rfl)
theorem dX12_data_16 : decode cX12_data 16 = .ok (.aload_n 0, 1) := zo_42 (zkb zk_cX12_data zn_cX12_data rfl)
theorem dX12_data_17 : decode cX12_data 17 = .ok (.getfield 22, 3) := zo_180 (b1 := 0) (b2 := 22) (zkb3 zk_cX12_data zn_cX12_data rfl) rfl
theorem dX12_data_20 : decode cX12_data 20 = .ok (.bipush 60, 2) := zo_16 (b1 := 60) (zkb2 zk_cX12_data zn_cX12_data rfl) rfl
theorem dX12_data_22 : decode cX12_data 22 = .ok (.aload_n 0, 1) := zo_42 (zkb zk_cX12_data zn_cX12_data rfl)
theorem dX12_data_23 : decode cX12_data 23 = .ok (.aload_n 0, 1) := zo_42 (zkb zk_cX12_data zn_cX12_data rfl)
theorem dX12_data_24 : decode cX12_data 24 = .ok (.getfield 22, 3) := zo_180 (b1 := 0) (b2 := 22) (zkb3 zk_cX12_data zn_cX12_data rfl) rfl
theorem dX12_data_27 : decode cX12_data 27 = .ok (.bipush 58, 2) := zo_16 (b1 := 58) (zkb2 zk_cX12_data zn_cX12_data rfl) rfl
theorem dX12_data_29 : decode cX12_data 29 = .ok (.iaload, 1) := zo_46 (zkb zk_cX12_data zn_cX12_data rfl)
theorem dX12_data_30 : decode cX12_data 30 = .ok (.invokevirtual 401, 3) := zo_182 (b1 := 1) (b2 := 145) (zkb3 zk_cX12_data zn_cX12_data rfl) rfl
theorem dX12_data_33 : decode cX12_data 33 = .ok (.iastore, 1) := zo_79 (zkb zk_cX12_data zn_cX12_data rfl)
theorem dX12_data_34 : decode cX12_data 34 = .ok (.aload_n 0, 1) := zo_42 (zkb zk_cX12_data zn_cX12_data rfl)
theorem dX12_data_35 : decode cX12_data 35 = .ok (.invokevirtual 404, 3) := zo_182 (b1 := 1) (b2 := 148) (zkb3 zk_cX12_data zn_cX12_data rfl) rfl
theorem dX12_data_38 : decode cX12_data 38 = .ok (.iload_n 1, 1) := zo_27 (zkb zk_cX12_data zn_cX12_data rfl)
theorem dX12_data_39 : decode cX12_data 39 = .ok (.ireturn, 1) := zo_172 (zkb zk_cX12_data zn_cX12_data rfl)
noncomputable def kn_cX12_dataTo : Nat := 0xb19401b62a54911b7040101c2800b42a54912e44101600b42a64047040101c2800b42a2100a74f1b44101600b42a0e009a70051c3200a754911b7020101c2800b42a11009f056300b42a4800a754911b1c2500b42a0e009f062e3b101600b42a3d2e3a101600b42a4f1b3c101600b42a4f033d101600b42a
theorem zk_cX12_dataTo : zkd cX12_dataTo.data.toList kn_cX12_dataTo = true := by decide +kernel
theorem zn_cX12_dataTo : cX12_dataTo.data.toList.length = 120 := by decide +kernel
theorem dX12_dataTo_0 : decode cX12_dataTo 0 = .ok (.aload_n 0, 1) := zo_42 (zkb zk_cX12_dataTo zn_cX12_dataTo rfl)
theorem dX12_dataTo_1 : decode cX12_dataTo 1 = .ok (.getfield 22, 3) := zo_180 (b1 := 0) (b2 := 22) (zkb3 zk_cX12_dataTo zn_cX12_dataTo rfl) rfl
theorem dX12_dataTo_4 : decode cX12_dataTo 4 = .ok (.bipush 61, 2) := zo_16 (b1 := 61) (zkb2 zk_cX12_dataTo zn_cX12_dataTo rfl) rfl
theorem dX12_dataTo_6 : decode cX12_dataTo 6 = .ok (.iconst 0, 1) := zo_3 (zkb zk_cX12_dataTo zn_cX12_dataTo rfl)
theorem dX12_dataTo_7 : decode cX12_dataTo 7 = .ok (.iastore, 1) := zo_79 (zkb zk_cX12_dataTo zn_cX12_dataTo rfl)
theorem dX12_dataTo_8 : decode cX12_dataTo 8 = .ok (.aload_n 0, 1) := zo_42 (zkb zk_cX12_dataTo zn_cX12_dataTo rfl)
theorem dX12_dataTo_9 : decode cX12_dataTo 9 = .ok (.getfield 22, 3) := zo_180 (b1 := 0) (b2 := 22) (zkb3 zk_cX12_dataTo zn_cX12_dataTo rfl) rfl
theorem dX12_dataTo_12 : decode cX12_dataTo 12 = .ok (.bipush 60, 2) := zo_16 (b1 := 60) (zkb2 zk_cX12_dataTo zn_cX12_dataTo rfl) rfl
theorem dX12_dataTo_14 : decode cX12_dataTo 14 = .ok (.iload_n 1, 1) := zo_27 (zkb zk_cX12_dataTo zn_cX12_dataTo rfl)
theorem dX12_dataTo_15 : decode cX12_dataTo 15 = .ok (.iastore, 1) := zo_79 (zkb zk_cX12_dataTo zn_cX12_dataTo rfl)
theorem dX12_dataTo_16 : decode cX12_dataTo 16 = .ok (.aload_n 0, 1) := zo_42 (zkb zk_cX12_dataTo zn_cX12_dataTo rfl)
theorem dX12_dataTo_17 : decode cX12_dataTo 17 = .ok (.getfield 22, 3) := zo_180 (b1 := 0) (b2 := 22) (zkb3 zk_cX12_dataTo zn_cX12_dataTo rfl) rfl
theorem dX12_dataTo_20 : decode cX12_dataTo 20 = .ok (.bipush 58, 2) := zo_16 (b1 := 58) (zkb2 zk_cX12_dataTo zn_cX12_dataTo rfl) rfl
theorem dX12_dataTo_22 : decode cX12_dataTo 22 = .ok (.iaload, 1) := zo_46 (zkb zk_cX12_dataTo zn_cX12_dataTo rfl)
theorem dX12_dataTo_23 : decode cX12_dataTo 23 = .ok (.istore_n 2, 1) := zo_61 (zkb zk_cX12_dataTo zn_cX12_dataTo rfl)
theorem dX12_dataTo_24 : decode cX12_dataTo 24 = .ok (.aload_n 0, 1) := zo_42 (zkb zk_cX12_dataTo zn_cX12_dataTo rfl)
theorem dX12_dataTo_25 : decode cX12_dataTo 25 = .ok (.getfield 22, 3) := zo_180 (b1 := 0) (b2 := 22) (zkb3 zk_cX12_dataTo zn_cX12_dataTo rfl) rfl
theorem dX12_dataTo_28 : decode cX12_dataTo 28 = .ok (.bipush 59, 2) := zo_16 (b1 := 59) (zkb2 zk_cX12_dataTo zn_cX12_dataTo rfl) rfl
theorem dX12_dataTo_30 : decode cX12_dataTo 30 = .ok (.iaload, 1) := zo_46 (zkb zk_cX12_dataTo zn_cX12_dataTo rfl)
theorem dX12_dataTo_31 : decode cX12_dataTo 31 = .ok (.iconst 3, 1) := zo_6 (zkb zk_cX12_dataTo zn_cX12_dataTo rfl)
theorem dX12_dataTo_32 : decode cX12_dataTo 32 = .ok (.if_icmp .eq 14, 3) := zo_159 (b1 := 0) (b2 := 14) (zkb3 zk_cX12_dataTo zn_cX12_dataTo rfl) rfl
theorem dX12_dataTo_35 : decode cX12_dataTo 35 = .ok (.aload_n 0, 1) := zo_42 (zkb zk_cX12_dataTo zn_cX12_dataTo rfl)
theorem dX12_dataTo_36 : decode cX12_dataTo 36 = .ok (.getfield 37, 3) := zo_180 (b1 := 0) (b2 := 37) (zkb3 zk_cX12_dataTo zn_cX12_dataTo rfl) rfl
theorem dX12_dataTo_39 : decode cX12_dataTo 39 = .ok (.iload_n 2, 1) := zo_28 (zkb zk_cX12_dataTo zn_cX12_dataTo rfl)
theorem dX12_dataTo_40 : decode cX12_dataTo 40 = .ok (.iload_n 1, 1) := zo_27 (zkb zk_cX12_dataTo zn_cX12_dataTo rfl)
theorem dX12_dataTo_41 : decode cX12_dataTo 41 = .ok (.i2b, 1) := zo_145 (zkb zk_cX12_dataTo zn_cX12_dataTo rfl)
theorem dX12_dataTo_42 : decode cX12_dataTo 42 = .ok (.bastore, 1) := zo_84 (zkb zk_cX12_dataTo zn_cX12_dataTo rfl)
theorem dX12_dataTo_43 : decode cX12_dataTo 43 = .ok (.goto 72, 3) := zo_167 (b1 := 0) (b2 := 72) (zkb3 zk_cX12_dataTo zn_cX12_dataTo rfl) rfl
theorem dX12_dataTo_46 : decode cX12_dataTo 46 = .ok (.aload_n 0, 1) := zo_42 (zkb zk_cX12_dataTo zn_cX12_dataTo rfl)
theorem dX12_dataTo_47 : decode cX12_dataTo 47 = .ok (.getfield 99, 3) := zo_180 (b1 := 0) (b2 := 99) (zkb3 zk_cX12_dataTo zn_cX12_dataTo rfl) rfl
theorem dX12_dataTo_50 : decode cX12_dataTo 50 = .ok (.iconst 2, 1) := zo_5 (zkb zk_cX12_dataTo zn_cX12_dataTo rfl)
theorem dX12_dataTo_51 : decode cX12_dataTo 51 = .ok (.if_icmp .eq 17, 3) := zo_159 (b1 := 0) (b2 := 17) (zkb3 zk_cX12_dataTo zn_cX12_dataTo rfl) rfl
theorem dX12_dataTo_54 : decode cX12_dataTo 54 = .ok (.aload_n 0, 1) := zo_42 (zkb zk_cX12_dataTo zn_cX12_dataTo rfl)
theorem dX12_dataTo_55 : decode cX12_dataTo 55 = .ok (.getfield 40, 3) := zo_180 (b1 := 0) (b2 := 40) (zkb3 zk_cX12_dataTo zn_cX12_dataTo rfl) rfl
theorem dX12_dataTo_58 : decode cX12_dataTo 58 = .ok (.iload_n 2, 1) := zo_28 (zkb zk_cX12_dataTo zn_cX12_dataTo rfl)
theorem dX12_dataTo_59 : decode cX12_dataTo 59 = .ok (.bipush 32, 2) := zo_16 (b1 := 32) (zkb2 zk_cX12_dataTo zn_cX12_dataTo rfl) rfl
theorem dX12_dataTo_61 : decode cX12_dataTo 61 = .ok (.irem, 1) := zo_112 (zkb zk_cX12_dataTo zn_cX12_dataTo rfl)
theorem dX12_dataTo_62 : decode cX12_dataTo 62 = .ok (.iload_n 1, 1) := zo_27 (zkb zk_cX12_dataTo zn_cX12_dataTo rfl)
theorem dX12_dataTo_63 : decode cX12_dataTo 63 = .ok (.i2b, 1) := zo_145 (zkb zk_cX12_dataTo zn_cX12_dataTo rfl)
theorem dX12_dataTo_64 : decode cX12_dataTo 64 = .ok (.bastore, 1) := zo_84 (zkb zk_cX12_dataTo zn_cX12_dataTo rfl)
theorem dX12_dataTo_65 : decode cX12_dataTo 65 = .ok (.goto 50, 3) := zo_167 (b1 := 0) (b2 := 50) (zkb3 zk_cX12_dataTo zn_cX12_dataTo rfl) rfl
theorem dX12_dataTo_68 : decode cX12_dataTo 68 = .ok (.iload_n 2, 1) := zo_28 (zkb zk_cX12_dataTo zn_cX12_dataTo rfl)
theorem dX12_dataTo_69 : decode cX12_dataTo 69 = .ok (.iconst 2, 1) := zo_5 (zkb zk_cX12_dataTo zn_cX12_dataTo rfl)
theorem dX12_dataTo_70 : decode cX12_dataTo 70 = .ok (.irem, 1) := zo_112 (zkb zk_cX12_dataTo zn_cX12_dataTo rfl)
theorem dX12_dataTo_71 : decode cX12_dataTo 71 = .ok (.ifCond .ne 14, 3) := zo_154 (b1 := 0) (b2 := 14) (zkb3 zk_cX12_dataTo zn_cX12_dataTo rfl) rfl
theorem dX12_dataTo_74 : decode cX12_dataTo 74 = .ok (.aload_n 0, 1) := zo_42 (zkb zk_cX12_dataTo zn_cX12_dataTo rfl)
theorem dX12_dataTo_75 : decode cX12_dataTo 75 = .ok (.getfield 22, 3) := zo_180 (b1 := 0) (b2 := 22) (zkb3 zk_cX12_dataTo zn_cX12_dataTo rfl) rfl
theorem dX12_dataTo_78 : decode cX12_dataTo 78 = .ok (.bipush 68, 2) := zo_16 (b1 := 68) (zkb2 zk_cX12_dataTo zn_cX12_dataTo rfl) rfl
theorem dX12_dataTo_80 : decode cX12_dataTo 80 = .ok (.iload_n 1, 1) := zo_27 (zkb zk_cX12_dataTo zn_cX12_dataTo rfl)
theorem dX12_dataTo_81 : decode cX12_dataTo 81 = .ok (.iastore, 1) := zo_79 (zkb zk_cX12_dataTo zn_cX12_dataTo rfl)
theorem dX12_dataTo_82 : decode cX12_dataTo 82 = .ok (.goto 33, 3) := zo_167 (b1 := 0) (b2 := 33) (zkb3 zk_cX12_dataTo zn_cX12_dataTo rfl) rfl
theorem dX12_dataTo_85 : decode cX12_dataTo 85 = .ok (.aload_n 0, 1) := zo_42 (zkb zk_cX12_dataTo zn_cX12_dataTo rfl)
theorem dX12_dataTo_86 : decode cX12_dataTo 86 = .ok (.getfield 40, 3) := zo_180 (b1 := 0) (b2 := 40) (zkb3 zk_cX12_dataTo zn_cX12_dataTo rfl) rfl
theorem dX12_dataTo_89 : decode cX12_dataTo 89 = .ok (.iload_n 2, 1) := zo_28 (zkb zk_cX12_dataTo zn_cX12_dataTo rfl)
theorem dX12_dataTo_90 : decode cX12_dataTo 90 = .ok (.bipush 64, 2) := zo_16 (b1 := 64) (zkb2 zk_cX12_dataTo zn_cX12_dataTo rfl) rfl
theorem dX12_dataTo_92 : decode cX12_dataTo 92 = .ok (.irem, 1) := zo_112 (zkb zk_cX12_dataTo zn_cX12_dataTo rfl)
theorem dX12_dataTo_93 : decode cX12_dataTo 93 = .ok (.iconst 1, 1) := zo_4 (zkb zk_cX12_dataTo zn_cX12_dataTo rfl)
theorem dX12_dataTo_94 : decode cX12_dataTo 94 = .ok (.isub, 1) := zo_100 (zkb zk_cX12_dataTo zn_cX12_dataTo rfl)
theorem dX12_dataTo_95 : decode cX12_dataTo 95 = .ok (.aload_n 0, 1) := zo_42 (zkb zk_cX12_dataTo zn_cX12_dataTo rfl)
theorem dX12_dataTo_96 : decode cX12_dataTo 96 = .ok (.getfield 22, 3) := zo_180 (b1 := 0) (b2 := 22) (zkb3 zk_cX12_dataTo zn_cX12_dataTo rfl) rfl
theorem dX12_dataTo_99 : decode cX12_dataTo 99 = .ok (.bipush 68, 2) := zo_16 (b1 := 68) (zkb2 zk_cX12_dataTo zn_cX12_dataTo rfl) rfl
theorem dX12_dataTo_101 : decode cX12_dataTo 101 = .ok (.iaload, 1) := zo_46 (zkb zk_cX12_dataTo zn_cX12_dataTo rfl)
theorem dX12_dataTo_102 : decode cX12_dataTo 102 = .ok (.i2b, 1) := zo_145 (zkb zk_cX12_dataTo zn_cX12_dataTo rfl)
theorem dX12_dataTo_103 : decode cX12_dataTo 103 = .ok (.bastore, 1) := zo_84 (zkb zk_cX12_dataTo zn_cX12_dataTo rfl)
theorem dX12_dataTo_104 : decode cX12_dataTo 104 = .ok (.aload_n 0, 1) := zo_42 (zkb zk_cX12_dataTo zn_cX12_dataTo rfl)
theorem dX12_dataTo_105 : decode cX12_dataTo 105 = .ok (.getfield 40, 3) := zo_180 (b1 := 0) (b2 := 40) (zkb3 zk_cX12_dataTo zn_cX12_dataTo rfl) rfl
theorem dX12_dataTo_108 : decode cX12_dataTo 108 = .ok (.iload_n 2, 1) := zo_28 (zkb zk_cX12_dataTo zn_cX12_dataTo rfl)
theorem dX12_dataTo_109 : decode cX12_dataTo 109 = .ok (.bipush 64, 2) := zo_16 (b1 := 64) (zkb2 zk_cX12_dataTo zn_cX12_dataTo rfl) rfl
theorem dX12_dataTo_111 : decode cX12_dataTo 111 = .ok (.irem, 1) := zo_112 (zkb zk_cX12_dataTo zn_cX12_dataTo rfl)
theorem dX12_dataTo_112 : decode cX12_dataTo 112 = .ok (.iload_n 1, 1) := zo_27 (zkb zk_cX12_dataTo zn_cX12_dataTo rfl)
theorem dX12_dataTo_113 : decode cX12_dataTo 113 = .ok (.i2b, 1) := zo_145 (zkb zk_cX12_dataTo zn_cX12_dataTo rfl)
theorem dX12_dataTo_114 : decode cX12_dataTo 114 = .ok (.bastore, 1) := zo_84 (zkb zk_cX12_dataTo zn_cX12_dataTo rfl)
theorem dX12_dataTo_115 : decode cX12_dataTo 115 = .ok (.aload_n 0, 1) := zo_42 (zkb zk_cX12_dataTo zn_cX12_dataTo rfl)
theorem dX12_dataTo_116 : decode cX12_dataTo 116 = .ok (.invokevirtual 404, 3) := zo_182 (b1 := 1) (b2 := 148) (zkb3 zk_cX12_dataTo zn_cX12_dataTo rfl) rfl
theorem dX12_dataTo_119 : decode cX12_dataTo 119 = .ok (.return_, 1) := zo_177 (zkb zk_cX12_dataTo zn_cX12_dataTo rfl)
noncomputable def kn_cX12_hCount : Nat := 0xac6055101b0700a71b0700a29400111b3c6c0768062e43101600b42a
theorem zk_cX12_hCount : zkd cX12_hCount.data.toList kn_cX12_hCount = true := by decide +kernel
theorem zn_cX12_hCount : cX12_hCount.data.toList.length = 28 := by decide +kernel
theorem dX12_hCount_0 : decode cX12_hCount 0 = .ok (.aload_n 0, 1) := zo_42 (zkb zk_cX12_hCount zn_cX12_hCount rfl)
theorem dX12_hCount_1 : decode cX12_hCount 1 = .ok (.getfield 22, 3) := zo_180 (b1 := 0) (b2 := 22) (zkb3 zk_cX12_hCount zn_cX12_hCount rfl) rfl
theorem dX12_hCount_4 : decode cX12_hCount 4 = .ok (.bipush 67, 2) := zo_16 (b1 := 67) (zkb2 zk_cX12_hCount zn_cX12_hCount rfl) rfl
theorem dX12_hCount_6 : decode cX12_hCount 6 = .ok (.iaload, 1) := zo_46 (zkb zk_cX12_hCount zn_cX12_hCount rfl)
theorem dX12_hCount_7 : decode cX12_hCount 7 = .ok (.iconst 3, 1) := zo_6 (zkb zk_cX12_hCount zn_cX12_hCount rfl)
theorem dX12_hCount_8 : decode cX12_hCount 8 = .ok (.imul, 1) := zo_104 (zkb zk_cX12_hCount zn_cX12_hCount rfl)
theorem dX12_hCount_9 : decode cX12_hCount 9 = .ok (.iconst 4, 1) := zo_7 (zkb zk_cX12_hCount zn_cX12_hCount rfl)
theorem dX12_hCount_10 : decode cX12_hCount 10 = .ok (.idiv, 1) := zo_108 (zkb zk_cX12_hCount zn_cX12_hCount rfl)
theorem dX12_hCount_11 : decode cX12_hCount 11 = .ok (.istore_n 1, 1) := zo_60 (zkb zk_cX12_hCount zn_cX12_hCount rfl)
theorem dX12_hCount_12 : decode cX12_hCount 12 = .ok (.iload_n 1, 1) := zo_27 (zkb zk_cX12_hCount zn_cX12_hCount rfl)
theorem dX12_hCount_13 : decode cX12_hCount 13 = .ok (.sipush 148, 3) := zo_17 (b1 := 0) (b2 := 148) (zkb3 zk_cX12_hCount zn_cX12_hCount rfl) rfl
theorem dX12_hCount_16 : decode cX12_hCount 16 = .ok (.if_icmp .ge 7, 3) := zo_162 (b1 := 0) (b2 := 7) (zkb3 zk_cX12_hCount zn_cX12_hCount rfl) rfl
theorem dX12_hCount_19 : decode cX12_hCount 19 = .ok (.iload_n 1, 1) := zo_27 (zkb zk_cX12_hCount zn_cX12_hCount rfl)
theorem dX12_hCount_20 : decode cX12_hCount 20 = .ok (.goto 7, 3) := zo_167 (b1 := 0) (b2 := 7) (zkb3 zk_cX12_hCount zn_cX12_hCount rfl) rfl
theorem dX12_hCount_23 : decode cX12_hCount 23 = .ok (.iload_n 1, 1) := zo_27 (zkb zk_cX12_hCount zn_cX12_hCount rfl)
theorem dX12_hCount_24 : decode cX12_hCount 24 = .ok (.bipush 85, 2) := zo_16 (b1 := 85) (zkb2 zk_cX12_hCount zn_cX12_hCount rfl) rfl
theorem dX12_hCount_26 : decode cX12_hCount 26 = .ok (.iadd, 1) := zo_96 (zkb zk_cX12_hCount zn_cX12_hCount rfl)
theorem dX12_hCount_27 : decode cX12_hCount 27 = .ok (.ireturn, 1) := zo_172 (zkb zk_cX12_hCount zn_cX12_hCount rfl)
noncomputable def kn_cX12_vCount : Nat := 0xac7eff00116406100500a739100800a0046300b42a1b1400a71b0700a21d1b3ee803110600a7eb00110900a0e000111c1300a7db00110900a0c000111c2000a70b01112600a70301110900a0e000111c3300a7f300110900a0c000111c2300a0046300b42a3d9701b62a3c2e42101600b42a
theorem zk_cX12_vCount : zkd cX12_vCount.data.toList kn_cX12_vCount = true := by decide +kernel
theorem zn_cX12_vCount : cX12_vCount.data.toList.length = 114 := by decide +kernel
theorem dX12_vCount_0 : decode cX12_vCount 0 = .ok (.aload_n 0, 1) := zo_42 (zkb zk_cX12_vCount zn_cX12_vCount rfl)
theorem dX12_vCount_1 : decode cX12_vCount 1 = .ok (.getfield 22, 3) := zo_180 (b1 := 0) (b2 := 22) (zkb3 zk_cX12_vCount zn_cX12_vCount rfl) rfl
theorem dX12_vCount_4 : decode cX12_vCount 4 = .ok (.bipush 66, 2) := zo_16 (b1 := 66) (zkb2 zk_cX12_vCount zn_cX12_vCount rfl) rfl
theorem dX12_vCount_6 : decode cX12_vCount 6 = .ok (.iaload, 1) := zo_46 (zkb zk_cX12_vCount zn_cX12_vCount rfl)
theorem dX12_vCount_7 : decode cX12_vCount 7 = .ok (.istore_n 1, 1) := zo_60 (zkb zk_cX12_vCount zn_cX12_vCount rfl)
theorem dX12_vCount_8 : decode cX12_vCount 8 = .ok (.aload_n 0, 1) := zo_42 (zkb zk_cX12_vCount zn_cX12_vCount rfl)
theorem dX12_vCount_9 : decode cX12_vCount 9 = .ok (.invokevirtual 407, 3) := zo_182 (b1 := 1) (b2 := 151) (zkb3 zk_cX12_vCount zn_cX12_vCount rfl) rfl
theorem dX12_vCount_12 : decode cX12_vCount 12 = .ok (.istore_n 2, 1) := zo_61 (zkb zk_cX12_vCount zn_cX12_vCount rfl)
theorem dX12_vCount_13 : decode cX12_vCount 13 = .ok (.aload_n 0, 1) := zo_42 (zkb zk_cX12_vCount zn_cX12_vCount rfl)
theorem dX12_vCount_14 : decode cX12_vCount 14 = .ok (.getfield 99, 3) := zo_180 (b1 := 0) (b2 := 99) (zkb3 zk_cX12_vCount zn_cX12_vCount rfl) rfl
theorem dX12_vCount_17 : decode cX12_vCount 17 = .ok (.iconst 1, 1) := zo_4 (zkb zk_cX12_vCount zn_cX12_vCount rfl)
theorem dX12_vCount_18 : decode cX12_vCount 18 = .ok (.if_icmp .ne 35, 3) := zo_160 (b1 := 0) (b2 := 35) (zkb3 zk_cX12_vCount zn_cX12_vCount rfl) rfl
theorem dX12_vCount_21 : decode cX12_vCount 21 = .ok (.iload_n 2, 1) := zo_28 (zkb zk_cX12_vCount zn_cX12_vCount rfl)
theorem dX12_vCount_22 : decode cX12_vCount 22 = .ok (.sipush 192, 3) := zo_17 (b1 := 0) (b2 := 192) (zkb3 zk_cX12_vCount zn_cX12_vCount rfl) rfl
theorem dX12_vCount_25 : decode cX12_vCount 25 = .ok (.if_icmp .ne 9, 3) := zo_160 (b1 := 0) (b2 := 9) (zkb3 zk_cX12_vCount zn_cX12_vCount rfl) rfl
theorem dX12_vCount_28 : decode cX12_vCount 28 = .ok (.sipush 243, 3) := zo_17 (b1 := 0) (b2 := 243) (zkb3 zk_cX12_vCount zn_cX12_vCount rfl) rfl
theorem dX12_vCount_31 : decode cX12_vCount 31 = .ok (.goto 51, 3) := zo_167 (b1 := 0) (b2 := 51) (zkb3 zk_cX12_vCount zn_cX12_vCount rfl) rfl
theorem dX12_vCount_34 : decode cX12_vCount 34 = .ok (.iload_n 2, 1) := zo_28 (zkb zk_cX12_vCount zn_cX12_vCount rfl)
theorem dX12_vCount_35 : decode cX12_vCount 35 = .ok (.sipush 224, 3) := zo_17 (b1 := 0) (b2 := 224) (zkb3 zk_cX12_vCount zn_cX12_vCount rfl) rfl
theorem dX12_vCount_38 : decode cX12_vCount 38 = .ok (.if_icmp .ne 9, 3) := zo_160 (b1 := 0) (b2 := 9) (zkb3 zk_cX12_vCount zn_cX12_vCount rfl) rfl
theorem dX12_vCount_41 : decode cX12_vCount 41 = .ok (.sipush 259, 3) := zo_17 (b1 := 1) (b2 := 3) (zkb3 zk_cX12_vCount zn_cX12_vCount rfl) rfl
theorem dX12_vCount_44 : decode cX12_vCount 44 = .ok (.goto 38, 3) := zo_167 (b1 := 0) (b2 := 38) (zkb3 zk_cX12_vCount zn_cX12_vCount rfl) rfl
theorem dX12_vCount_47 : decode cX12_vCount 47 = .ok (.sipush 267, 3) := zo_17 (b1 := 1) (b2 := 11) (zkb3 zk_cX12_vCount zn_cX12_vCount rfl) rfl
theorem dX12_vCount_50 : decode cX12_vCount 50 = .ok (.goto 32, 3) := zo_167 (b1 := 0) (b2 := 32) (zkb3 zk_cX12_vCount zn_cX12_vCount rfl) rfl
theorem dX12_vCount_53 : decode cX12_vCount 53 = .ok (.iload_n 2, 1) := zo_28 (zkb zk_cX12_vCount zn_cX12_vCount rfl)
theorem dX12_vCount_54 : decode cX12_vCount 54 = .ok (.sipush 192, 3) := zo_17 (b1 := 0) (b2 := 192) (zkb3 zk_cX12_vCount zn_cX12_vCount rfl) rfl
theorem dX12_vCount_57 : decode cX12_vCount 57 = .ok (.if_icmp .ne 9, 3) := zo_160 (b1 := 0) (b2 := 9) (zkb3 zk_cX12_vCount zn_cX12_vCount rfl) rfl
theorem dX12_vCount_60 : decode cX12_vCount 60 = .ok (.sipush 219, 3) := zo_17 (b1 := 0) (b2 := 219) (zkb3 zk_cX12_vCount zn_cX12_vCount rfl) rfl
theorem dX12_vCount_63 : decode cX12_vCount 63 = .ok (.goto 19, 3) := zo_167 (b1 := 0) (b2 := 19) (zkb3 zk_cX12_vCount zn_cX12_vCount rfl) rfl
theorem dX12_vCount_66 : decode cX12_vCount 66 = .ok (.iload_n 2, 1) := zo_28 (zkb zk_cX12_vCount zn_cX12_vCount rfl)
theorem dX12_vCount_67 : decode cX12_vCount 67 = .ok (.sipush 224, 3) := zo_17 (b1 := 0) (b2 := 224) (zkb3 zk_cX12_vCount zn_cX12_vCount rfl) rfl
theorem dX12_vCount_70 : decode cX12_vCount 70 = .ok (.if_icmp .ne 9, 3) := zo_160 (b1 := 0) (b2 := 9) (zkb3 zk_cX12_vCount zn_cX12_vCount rfl) rfl
theorem dX12_vCount_73 : decode cX12_vCount 73 = .ok (.sipush 235, 3) := zo_17 (b1 := 0) (b2 := 235) (zkb3 zk_cX12_vCount zn_cX12_vCount rfl) rfl
theorem dX12_vCount_76 : decode cX12_vCount 76 = .ok (.goto 6, 3) := zo_167 (b1 := 0) (b2 := 6) (zkb3 zk_cX12_vCount zn_cX12_vCount rfl) rfl
theorem dX12_vCount_79 : decode cX12_vCount 79 = .ok (.sipush 1000, 3) := zo_17 (b1 := 3) (b2 := 232) (zkb3 zk_cX12_vCount zn_cX12_vCount rfl) rfl
theorem dX12_vCount_82 : decode cX12_vCount 82 = .ok (.istore_n 3, 1) := zo_62 (zkb zk_cX12_vCount zn_cX12_vCount rfl)
theorem dX12_vCount_83 : decode cX12_vCount 83 = .ok (.iload_n 1, 1) := zo_27 (zkb zk_cX12_vCount zn_cX12_vCount rfl)
theorem dX12_vCount_84 : decode cX12_vCount 84 = .ok (.iload_n 3, 1) := zo_29 (zkb zk_cX12_vCount zn_cX12_vCount rfl)
theorem dX12_vCount_85 : decode cX12_vCount 85 = .ok (.if_icmp .ge 7, 3) := zo_162 (b1 := 0) (b2 := 7) (zkb3 zk_cX12_vCount zn_cX12_vCount rfl) rfl
theorem dX12_vCount_88 : decode cX12_vCount 88 = .ok (.iload_n 1, 1) := zo_27 (zkb zk_cX12_vCount zn_cX12_vCount rfl)
theorem dX12_vCount_89 : decode cX12_vCount 89 = .ok (.goto 20, 3) := zo_167 (b1 := 0) (b2 := 20) (zkb3 zk_cX12_vCount zn_cX12_vCount rfl) rfl
theorem dX12_vCount_92 : decode cX12_vCount 92 = .ok (.iload_n 1, 1) := zo_27 (zkb zk_cX12_vCount zn_cX12_vCount rfl)
theorem dX12_vCount_93 : decode cX12_vCount 93 = .ok (.aload_n 0, 1) := zo_42 (zkb zk_cX12_vCount zn_cX12_vCount rfl)
theorem dX12_vCount_94 : decode cX12_vCount 94 = .ok (.getfield 99, 3) := zo_180 (b1 := 0) (b2 := 99) (zkb3 zk_cX12_vCount zn_cX12_vCount rfl) rfl
theorem dX12_vCount_97 : decode cX12_vCount 97 = .ok (.iconst 1, 1) := zo_4 (zkb zk_cX12_vCount zn_cX12_vCount rfl)
theorem dX12_vCount_98 : decode cX12_vCount 98 = .ok (.if_icmp .ne 8, 3) := zo_160 (b1 := 0) (b2 := 8) (zkb3 zk_cX12_vCount zn_cX12_vCount rfl) rfl
theorem dX12_vCount_101 : decode cX12_vCount 101 = .ok (.bipush 57, 2) := zo_16 (b1 := 57) (zkb2 zk_cX12_vCount zn_cX12_vCount rfl) rfl
theorem dX12_vCount_103 : decode cX12_vCount 103 = .ok (.goto 5, 3) := zo_167 (b1 := 0) (b2 := 5) (zkb3 zk_cX12_vCount zn_cX12_vCount rfl) rfl
theorem dX12_vCount_106 : decode cX12_vCount 106 = .ok (.bipush 6, 2) := zo_16 (b1 := 6) (zkb2 zk_cX12_vCount zn_cX12_vCount rfl) rfl
theorem dX12_vCount_108 : decode cX12_vCount 108 = .ok (.isub, 1) := zo_100 (zkb zk_cX12_vCount zn_cX12_vCount rfl)
theorem dX12_vCount_109 : decode cX12_vCount 109 = .ok (.sipush 255, 3) := zo_17 (b1 := 0) (b2 := 255) (zkb3 zk_cX12_vCount zn_cX12_vCount rfl) rfl
theorem dX12_vCount_112 : decode cX12_vCount 112 = .ok (.iand, 1) := zo_126 (zkb zk_cX12_vCount zn_cX12_vCount rfl)
theorem dX12_vCount_113 : decode cX12_vCount 113 = .ok (.ireturn, 1) := zo_172 (zkb zk_cX12_vCount zn_cX12_vCount rfl)
noncomputable def kn_cX12_noise : Nat := 0xb14f8078077e3f101b7e0f102e601c45101600b42a1600a7807e0f101b7ef003112e601c45101600b42a1800a47f101b601c45101600b42a3a00a74f211255101600b42a4f7e07101b52101600b42a1a00a0061c5600a74f7e0f101b601c4e101600b42a1300a00470052e56101600b42a3d6c052e56101600b42a4f7e07107a071b56101600b42a1000a47f101b
theorem zk_cX12_noise : zkd cX12_noise.data.toList kn_cX12_noise = true := by decide +kernel
theorem zn_cX12_noise : cX12_noise.data.toList.length = 142 := by decide +kernel
theorem dX12_noise_0 : decode cX12_noise 0 = .ok (.iload_n 1, 1) := zo_27 (zkb zk_cX12_noise zn_cX12_noise rfl)
theorem dX12_noise_1 : decode cX12_noise 1 = .ok (.bipush 127, 2) := zo_16 (b1 := 127) (zkb2 zk_cX12_noise zn_cX12_noise rfl) rfl
theorem dX12_noise_3 : decode cX12_noise 3 = .ok (.if_icmp .le 16, 3) := zo_164 (b1 := 0) (b2 := 16) (zkb3 zk_cX12_noise zn_cX12_noise rfl) rfl
theorem dX12_noise_6 : decode cX12_noise 6 = .ok (.aload_n 0, 1) := zo_42 (zkb zk_cX12_noise zn_cX12_noise rfl)
theorem dX12_noise_7 : decode cX12_noise 7 = .ok (.getfield 22, 3) := zo_180 (b1 := 0) (b2 := 22) (zkb3 zk_cX12_noise zn_cX12_noise rfl) rfl
theorem dX12_noise_10 : decode cX12_noise 10 = .ok (.bipush 86, 2) := zo_16 (b1 := 86) (zkb2 zk_cX12_noise zn_cX12_noise rfl) rfl
theorem dX12_noise_12 : decode cX12_noise 12 = .ok (.iload_n 1, 1) := zo_27 (zkb zk_cX12_noise zn_cX12_noise rfl)
theorem dX12_noise_13 : decode cX12_noise 13 = .ok (.iconst 4, 1) := zo_7 (zkb zk_cX12_noise zn_cX12_noise rfl)
theorem dX12_noise_14 : decode cX12_noise 14 = .ok (.ishr, 1) := zo_122 (zkb zk_cX12_noise zn_cX12_noise rfl)
theorem dX12_noise_15 : decode cX12_noise 15 = .ok (.bipush 7, 2) := zo_16 (b1 := 7) (zkb2 zk_cX12_noise zn_cX12_noise rfl) rfl
theorem dX12_noise_17 : decode cX12_noise 17 = .ok (.iand, 1) := zo_126 (zkb zk_cX12_noise zn_cX12_noise rfl)
theorem dX12_noise_18 : decode cX12_noise 18 = .ok (.iastore, 1) := zo_79 (zkb zk_cX12_noise zn_cX12_noise rfl)
theorem dX12_noise_19 : decode cX12_noise 19 = .ok (.aload_n 0, 1) := zo_42 (zkb zk_cX12_noise zn_cX12_noise rfl)
theorem dX12_noise_20 : decode cX12_noise 20 = .ok (.getfield 22, 3) := zo_180 (b1 := 0) (b2 := 22) (zkb3 zk_cX12_noise zn_cX12_noise rfl) rfl
theorem dX12_noise_23 : decode cX12_noise 23 = .ok (.bipush 86, 2) := zo_16 (b1 := 86) (zkb2 zk_cX12_noise zn_cX12_noise rfl) rfl
theorem dX12_noise_25 : decode cX12_noise 25 = .ok (.iaload, 1) := zo_46 (zkb zk_cX12_noise zn_cX12_noise rfl)
theorem dX12_noise_26 : decode cX12_noise 26 = .ok (.iconst 2, 1) := zo_5 (zkb zk_cX12_noise zn_cX12_noise rfl)
theorem dX12_noise_27 : decode cX12_noise 27 = .ok (.idiv, 1) := zo_108 (zkb zk_cX12_noise zn_cX12_noise rfl)
theorem dX12_noise_28 : decode cX12_noise 28 = .ok (.istore_n 2, 1) := zo_61 (zkb zk_cX12_noise zn_cX12_noise rfl)
theorem dX12_noise_29 : decode cX12_noise 29 = .ok (.aload_n 0, 1) := zo_42 (zkb zk_cX12_noise zn_cX12_noise rfl)
theorem dX12_noise_30 : decode cX12_noise 30 = .ok (.getfield 22, 3) := zo_180 (b1 := 0) (b2 := 22) (zkb3 zk_cX12_noise zn_cX12_noise rfl) rfl
theorem dX12_noise_33 : decode cX12_noise 33 = .ok (.bipush 86, 2) := zo_16 (b1 := 86) (zkb2 zk_cX12_noise zn_cX12_noise rfl) rfl
theorem dX12_noise_35 : decode cX12_noise 35 = .ok (.iaload, 1) := zo_46 (zkb zk_cX12_noise zn_cX12_noise rfl)
theorem dX12_noise_36 : decode cX12_noise 36 = .ok (.iconst 2, 1) := zo_5 (zkb zk_cX12_noise zn_cX12_noise rfl)
theorem dX12_noise_37 : decode cX12_noise 37 = .ok (.irem, 1) := zo_112 (zkb zk_cX12_noise zn_cX12_noise rfl)
theorem dX12_noise_38 : decode cX12_noise 38 = .ok (.iconst 1, 1) := zo_4 (zkb zk_cX12_noise zn_cX12_noise rfl)
theorem dX12_noise_39 : decode cX12_noise 39 = .ok (.if_icmp .ne 19, 3) := zo_160 (b1 := 0) (b2 := 19) (zkb3 zk_cX12_noise zn_cX12_noise rfl) rfl
theorem dX12_noise_42 : decode cX12_noise 42 = .ok (.aload_n 0, 1) := zo_42 (zkb zk_cX12_noise zn_cX12_noise rfl)
theorem dX12_noise_43 : decode cX12_noise 43 = .ok (.getfield 22, 3) := zo_180 (b1 := 0) (b2 := 22) (zkb3 zk_cX12_noise zn_cX12_noise rfl) rfl
theorem dX12_noise_46 : decode cX12_noise 46 = .ok (.bipush 78, 2) := zo_16 (b1 := 78) (zkb2 zk_cX12_noise zn_cX12_noise rfl) rfl
theorem dX12_noise_48 : decode cX12_noise 48 = .ok (.iload_n 2, 1) := zo_28 (zkb zk_cX12_noise zn_cX12_noise rfl)
theorem dX12_noise_49 : decode cX12_noise 49 = .ok (.iadd, 1) := zo_96 (zkb zk_cX12_noise zn_cX12_noise rfl)
theorem dX12_noise_50 : decode cX12_noise 50 = .ok (.iload_n 1, 1) := zo_27 (zkb zk_cX12_noise zn_cX12_noise rfl)
theorem dX12_noise_51 : decode cX12_noise 51 = .ok (.bipush 15, 2) := zo_16 (b1 := 15) (zkb2 zk_cX12_noise zn_cX12_noise rfl) rfl
theorem dX12_noise_53 : decode cX12_noise 53 = .ok (.iand, 1) := zo_126 (zkb zk_cX12_noise zn_cX12_noise rfl)
theorem dX12_noise_54 : decode cX12_noise 54 = .ok (.iastore, 1) := zo_79 (zkb zk_cX12_noise zn_cX12_noise rfl)
theorem dX12_noise_55 : decode cX12_noise 55 = .ok (.goto 86, 3) := zo_167 (b1 := 0) (b2 := 86) (zkb3 zk_cX12_noise zn_cX12_noise rfl) rfl
theorem dX12_noise_58 : decode cX12_noise 58 = .ok (.iload_n 2, 1) := zo_28 (zkb zk_cX12_noise zn_cX12_noise rfl)
theorem dX12_noise_59 : decode cX12_noise 59 = .ok (.iconst 3, 1) := zo_6 (zkb zk_cX12_noise zn_cX12_noise rfl)
theorem dX12_noise_60 : decode cX12_noise 60 = .ok (.if_icmp .ne 26, 3) := zo_160 (b1 := 0) (b2 := 26) (zkb3 zk_cX12_noise zn_cX12_noise rfl) rfl
theorem dX12_noise_63 : decode cX12_noise 63 = .ok (.aload_n 0, 1) := zo_42 (zkb zk_cX12_noise zn_cX12_noise rfl)
theorem dX12_noise_64 : decode cX12_noise 64 = .ok (.getfield 22, 3) := zo_180 (b1 := 0) (b2 := 22) (zkb3 zk_cX12_noise zn_cX12_noise rfl) rfl
theorem dX12_noise_67 : decode cX12_noise 67 = .ok (.bipush 82, 2) := zo_16 (b1 := 82) (zkb2 zk_cX12_noise zn_cX12_noise rfl) rfl
theorem dX12_noise_69 : decode cX12_noise 69 = .ok (.iload_n 1, 1) := zo_27 (zkb zk_cX12_noise zn_cX12_noise rfl)
theorem dX12_noise_70 : decode cX12_noise 70 = .ok (.bipush 7, 2) := zo_16 (b1 := 7) (zkb2 zk_cX12_noise zn_cX12_noise rfl) rfl
theorem dX12_noise_72 : decode cX12_noise 72 = .ok (.iand, 1) := zo_126 (zkb zk_cX12_noise zn_cX12_noise rfl)
theorem dX12_noise_73 : decode cX12_noise 73 = .ok (.iastore, 1) := zo_79 (zkb zk_cX12_noise zn_cX12_noise rfl)
theorem dX12_noise_74 : decode cX12_noise 74 = .ok (.aload_n 0, 1) := zo_42 (zkb zk_cX12_noise zn_cX12_noise rfl)
theorem dX12_noise_75 : decode cX12_noise 75 = .ok (.getfield 22, 3) := zo_180 (b1 := 0) (b2 := 22) (zkb3 zk_cX12_noise zn_cX12_noise rfl) rfl
theorem dX12_noise_78 : decode cX12_noise 78 = .ok (.bipush 85, 2) := zo_16 (b1 := 85) (zkb2 zk_cX12_noise zn_cX12_noise rfl) rfl
theorem dX12_noise_80 : decode cX12_noise 80 = .ok (.ldc 33, 2) := zo_18 (b1 := 33) (zkb2 zk_cX12_noise zn_cX12_noise rfl)
theorem dX12_noise_82 : decode cX12_noise 82 = .ok (.iastore, 1) := zo_79 (zkb zk_cX12_noise zn_cX12_noise rfl)
theorem dX12_noise_83 : decode cX12_noise 83 = .ok (.goto 58, 3) := zo_167 (b1 := 0) (b2 := 58) (zkb3 zk_cX12_noise zn_cX12_noise rfl) rfl
theorem dX12_noise_86 : decode cX12_noise 86 = .ok (.aload_n 0, 1) := zo_42 (zkb zk_cX12_noise zn_cX12_noise rfl)
theorem dX12_noise_87 : decode cX12_noise 87 = .ok (.getfield 22, 3) := zo_180 (b1 := 0) (b2 := 22) (zkb3 zk_cX12_noise zn_cX12_noise rfl) rfl
theorem dX12_noise_90 : decode cX12_noise 90 = .ok (.bipush 69, 2) := zo_16 (b1 := 69) (zkb2 zk_cX12_noise zn_cX12_noise rfl) rfl
theorem dX12_noise_92 : decode cX12_noise 92 = .ok (.iload_n 2, 1) := zo_28 (zkb zk_cX12_noise zn_cX12_noise rfl)
theorem dX12_noise_93 : decode cX12_noise 93 = .ok (.iadd, 1) := zo_96 (zkb zk_cX12_noise zn_cX12_noise rfl)
theorem dX12_noise_94 : decode cX12_noise 94 = .ok (.iload_n 1, 1) := zo_27 (zkb zk_cX12_noise zn_cX12_noise rfl)
theorem dX12_noise_95 : decode cX12_noise 95 = .ok (.bipush 127, 2) := zo_16 (b1 := 127) (zkb2 zk_cX12_noise zn_cX12_noise rfl) rfl
theorem dX12_noise_97 : decode cX12_noise 97 = .ok (.if_icmp .le 24, 3) := zo_164 (b1 := 0) (b2 := 24) (zkb3 zk_cX12_noise zn_cX12_noise rfl) rfl
theorem dX12_noise_100 : decode cX12_noise 100 = .ok (.aload_n 0, 1) := zo_42 (zkb zk_cX12_noise zn_cX12_noise rfl)
theorem dX12_noise_101 : decode cX12_noise 101 = .ok (.getfield 22, 3) := zo_180 (b1 := 0) (b2 := 22) (zkb3 zk_cX12_noise zn_cX12_noise rfl) rfl
theorem dX12_noise_104 : decode cX12_noise 104 = .ok (.bipush 69, 2) := zo_16 (b1 := 69) (zkb2 zk_cX12_noise zn_cX12_noise rfl) rfl
theorem dX12_noise_106 : decode cX12_noise 106 = .ok (.iload_n 2, 1) := zo_28 (zkb zk_cX12_noise zn_cX12_noise rfl)
theorem dX12_noise_107 : decode cX12_noise 107 = .ok (.iadd, 1) := zo_96 (zkb zk_cX12_noise zn_cX12_noise rfl)
theorem dX12_noise_108 : decode cX12_noise 108 = .ok (.iaload, 1) := zo_46 (zkb zk_cX12_noise zn_cX12_noise rfl)
theorem dX12_noise_109 : decode cX12_noise 109 = .ok (.sipush 1008, 3) := zo_17 (b1 := 3) (b2 := 240) (zkb3 zk_cX12_noise zn_cX12_noise rfl) rfl
theorem dX12_noise_112 : decode cX12_noise 112 = .ok (.iand, 1) := zo_126 (zkb zk_cX12_noise zn_cX12_noise rfl)
theorem dX12_noise_113 : decode cX12_noise 113 = .ok (.iload_n 1, 1) := zo_27 (zkb zk_cX12_noise zn_cX12_noise rfl)
theorem dX12_noise_114 : decode cX12_noise 114 = .ok (.bipush 15, 2) := zo_16 (b1 := 15) (zkb2 zk_cX12_noise zn_cX12_noise rfl) rfl
theorem dX12_noise_116 : decode cX12_noise 116 = .ok (.iand, 1) := zo_126 (zkb zk_cX12_noise zn_cX12_noise rfl)
theorem dX12_noise_117 : decode cX12_noise 117 = .ok (.ior, 1) := zo_128 (zkb zk_cX12_noise zn_cX12_noise rfl)
theorem dX12_noise_118 : decode cX12_noise 118 = .ok (.goto 22, 3) := zo_167 (b1 := 0) (b2 := 22) (zkb3 zk_cX12_noise zn_cX12_noise rfl) rfl
theorem dX12_noise_121 : decode cX12_noise 121 = .ok (.aload_n 0, 1) := zo_42 (zkb zk_cX12_noise zn_cX12_noise rfl)
theorem dX12_noise_122 : decode cX12_noise 122 = .ok (.getfield 22, 3) := zo_180 (b1 := 0) (b2 := 22) (zkb3 zk_cX12_noise zn_cX12_noise rfl) rfl
theorem dX12_noise_125 : decode cX12_noise 125 = .ok (.bipush 69, 2) := zo_16 (b1 := 69) (zkb2 zk_cX12_noise zn_cX12_noise rfl) rfl
theorem dX12_noise_127 : decode cX12_noise 127 = .ok (.iload_n 2, 1) := zo_28 (zkb zk_cX12_noise zn_cX12_noise rfl)
theorem dX12_noise_128 : decode cX12_noise 128 = .ok (.iadd, 1) := zo_96 (zkb zk_cX12_noise zn_cX12_noise rfl)
theorem dX12_noise_129 : decode cX12_noise 129 = .ok (.iaload, 1) := zo_46 (zkb zk_cX12_noise zn_cX12_noise rfl)
theorem dX12_noise_130 : decode cX12_noise 130 = .ok (.bipush 15, 2) := zo_16 (b1 := 15) (zkb2 zk_cX12_noise zn_cX12_noise rfl) rfl
theorem dX12_noise_132 : decode cX12_noise 132 = .ok (.iand, 1) := zo_126 (zkb zk_cX12_noise zn_cX12_noise rfl)
theorem dX12_noise_133 : decode cX12_noise 133 = .ok (.iload_n 1, 1) := zo_27 (zkb zk_cX12_noise zn_cX12_noise rfl)
theorem dX12_noise_134 : decode cX12_noise 134 = .ok (.bipush 63, 2) := zo_16 (b1 := 63) (zkb2 zk_cX12_noise zn_cX12_noise rfl) rfl
theorem dX12_noise_136 : decode cX12_noise 136 = .ok (.iand, 1) := zo_126 (zkb zk_cX12_noise zn_cX12_noise rfl)
theorem dX12_noise_137 : decode cX12_noise 137 = .ok (.iconst 4, 1) := zo_7 (zkb zk_cX12_noise zn_cX12_noise rfl)
theorem dX12_noise_138 : decode cX12_noise 138 = .ok (.ishl, 1) := zo_120 (zkb zk_cX12_noise zn_cX12_noise rfl)
theorem dX12_noise_139 : decode cX12_noise 139 = .ok (.ior, 1) := zo_128 (zkb zk_cX12_noise zn_cX12_noise rfl)
theorem dX12_noise_140 : decode cX12_noise 140 = .ok (.iastore, 1) := zo_79 (zkb zk_cX12_noise zn_cX12_noise rfl)
theorem dX12_noise_141 : decode cX12_noise 141 = .ok (.return_, 1) := zo_177 (zkb zk_cX12_noise zn_cX12_noise rfl)
noncomputable def rmX12_r : Room := { frames := 2, cells := 0, slots := 0, locals := 44 }
noncomputable def wzX12_r : List Cond := .code yX12_r cX12_r 2 (some .int) :: wsL_law
theorem hinX12_r_X120 : ∀ w ∈ wsX120, w ∈ wzX12_r := fun w h => List.mem_cons_of_mem _ (inlX12 w h)
noncomputable def fX12_r_74  (σ : zSt) (x1 : Int32) : Option (zSt × Int32) :=
  zck (zin (2 + x1) 1048) (
  some (σ, zgi σ 3 (2 + x1).toNatClampNeg))
noncomputable def fX12_r_73  (σ : zSt) (s0 : Int32) : Option (zSt × Int32) :=
  some (σ, s0)
noncomputable def fX12_r  (σ : zSt) (x1 : Int32) : Option (zSt × Int32) :=
  if x1 = 6 then zbi (fX12_m σ ) (fun σ1 v2 =>
  zbi (fX12_read σ1 v2) (fun σ3 v4 =>
  some (σ3, v4))) else
  if x1 = 7 then zck (zin 0 1048) (
  some (σ, zgi σ 3 (0 : Int32).toNatClampNeg)) else
  if (zgi σ 0 31) ≤ 0 then fX12_r_74 σ x1 else
  if x1 ≤ 3 then fX12_r_74 σ x1 else
  if x1 = 4 then zck (zin (zgi σ 0 31) 1048) (
  fX12_r_73 σ ((zgi σ 3 (zgi σ 0 31).toNatClampNeg) >>> ((8 : Int32) &&& 31))) else
  zck (zin (zgi σ 0 31) 1048) (
  fX12_r_73 σ ((zgi σ 3 (zgi σ 0 31).toNatClampNeg) &&& 255))
set_option maxRecDepth 20000 in
set_option maxHeartbeats 4000000 in
theorem bX12_r_74 {st : Nat → Nat} {p : Program} {l : Launch} {e : Env} {s : State} {m : MethodId} {args : Array Value} {below : List Frame} {meth : Method} {c : Code} {D : va_G} {A : Nat → Prop} {ad : Nat → Nat} {cy : Nat → ClassId} (hC : zC p m c cX12_r 2 s args wzX12_r RX12 meth (some .int))  {res : zSt × Int32} {H : Heap} {locs : List Loc} {σ : zSt} {ls : Array Slot} {x1 : Int32} (hI : zI st D (tM cy) (wM ad cy σ) A s H locs) (hl : lv_has ls 2 [(0, .ref (ad 0)), (1, .int x1)]) (hf : fX12_r_74  σ x1 = some res) : W p l e rmX12_r s m args below meth c H locs 0 0 (zQi below args s D (tM cy) (wM ad cy) A res) (F0 m 74 ls []) := by
  have hx := hC.1
  have hb := hC.2.1
  unfold fX12_r_74 at hf
  refine lv_aload_n hx hb dX12_r_74 rfl (lv_at hl 0 rfl) ?_
  refine z_get hC hI hinX12_r_X120 0 (wM_e0 ad cy σ) rfl 10 (by decide) (List.mem_cons_of_mem _ zw9_7) rfl dX12_r_75 ?_
  refine lv_iconst (v := 2) hx hb dX12_r_78 (by decide) ?_
  refine lv_iload_n hx hb dX12_r_79 rfl (lv_at hl 1 rfl) ?_
  refine lv_iadd hx hb dX12_r_80 ?_
  obtain ⟨q, hf⟩ := zck_use hf
  refine z_iald hC hI 3 2 (wM_e3 ad cy σ) (tM_t3 cy) q dX12_r_81 ?_
  exact z_ireturn hC hI hf dX12_r_82
set_option maxRecDepth 20000 in
set_option maxHeartbeats 4000000 in
theorem bX12_r_73 {st : Nat → Nat} {p : Program} {l : Launch} {e : Env} {s : State} {m : MethodId} {args : Array Value} {below : List Frame} {meth : Method} {c : Code} {D : va_G} {A : Nat → Prop} {ad : Nat → Nat} {cy : Nat → ClassId} (hC : zC p m c cX12_r 2 s args wzX12_r RX12 meth (some .int))  {res : zSt × Int32} {H : Heap} {locs : List Loc} {σ : zSt} {ls : Array Slot} {s0 : Int32} (hI : zI st D (tM cy) (wM ad cy σ) A s H locs) (hl : lv_has ls 2 []) (hf : fX12_r_73  σ s0 = some res) : W p l e rmX12_r s m args below meth c H locs 0 0 (zQi below args s D (tM cy) (wM ad cy) A res) (F0 m 73 ls [.int s0]) := by
  have hx := hC.1
  have hb := hC.2.1
  unfold fX12_r_73 at hf
  exact z_ireturn hC hI hf dX12_r_73
set_option maxRecDepth 20000 in
set_option maxHeartbeats 4000000 in
theorem bX12_r {st : Nat → Nat} {p : Program} {l : Launch} {e : Env} {s : State} {m : MethodId} {args : Array Value} {below : List Frame} {meth : Method} {c : Code} {D : va_G} {A : Nat → Prop} {ad : Nat → Nat} {cy : Nat → ClassId} (hC : zC p m c cX12_r 2 s args wzX12_r RX12 meth (some .int))  {res : zSt × Int32} {H : Heap} {locs : List Loc} {σ : zSt} {ls : Array Slot} {x1 : Int32} (hI : zI st D (tM cy) (wM ad cy σ) A s H locs) (hl : lv_has ls 2 [(0, .ref (ad 0)), (1, .int x1)]) (hf : fX12_r  σ x1 = some res) : W p l e rmX12_r s m args below meth c H locs 0 0 (zQi below args s D (tM cy) (wM ad cy) A res) (F0 m 0 ls []) := by
  have hx := hC.1
  have hb := hC.2.1
  unfold fX12_r at hf
  refine lv_iload_n hx hb dX12_r_0 rfl (lv_at hl 1 rfl) ?_
  refine lv_bipush (v := 6) hx hb dX12_r_1 (by decide) ?_
  refine lv_icmp_ne (tgt := 15) hx hb dX12_r_3 (by decide) (fun q => ?_) (fun q => ?_)
  · replace hf := zif_f q hf
    refine lv_iload_n hx hb dX12_r_15 rfl (lv_at hl 1 rfl) ?_
    refine lv_bipush (v := 7) hx hb dX12_r_16 (by decide) ?_
    refine lv_icmp_ne (tgt := 28) hx hb dX12_r_18 (by decide) (fun q => ?_) (fun q => ?_)
    · replace hf := zif_f q hf
      refine lv_aload_n hx hb dX12_r_28 rfl (lv_at hl 0 rfl) ?_
      refine z_get hC hI hinX12_r_X120 0 (wM_e0 ad cy σ) rfl 31 (by decide) (List.mem_cons_of_mem _ zw49_20) rfl dX12_r_29 ?_
      refine lv_if_le (tgt := 74) hx hb dX12_r_32 (by decide) (fun q => ?_) (fun q => ?_)
      · replace hf := zif_t q hf
        exact bX12_r_74 hC  hI hl hf
      replace hf := zif_f q hf
      refine lv_iload_n hx hb dX12_r_35 rfl (lv_at hl 1 rfl) ?_
      refine lv_iconst (v := 3) hx hb dX12_r_36 (by decide) ?_
      refine lv_icmp_le (tgt := 74) hx hb dX12_r_37 (by decide) (fun q => ?_) (fun q => ?_)
      · replace hf := zif_t q hf
        exact bX12_r_74 hC  hI hl hf
      replace hf := zif_f q hf
      refine lv_iload_n hx hb dX12_r_40 rfl (lv_at hl 1 rfl) ?_
      refine lv_iconst (v := 4) hx hb dX12_r_41 (by decide) ?_
      refine lv_icmp_ne (tgt := 60) hx hb dX12_r_42 (by decide) (fun q => ?_) (fun q => ?_)
      · replace hf := zif_f q hf
        refine lv_aload_n hx hb dX12_r_60 rfl (lv_at hl 0 rfl) ?_
        refine z_get hC hI hinX12_r_X120 0 (wM_e0 ad cy σ) rfl 10 (by decide) (List.mem_cons_of_mem _ zw9_7) rfl dX12_r_61 ?_
        refine lv_aload_n hx hb dX12_r_64 rfl (lv_at hl 0 rfl) ?_
        refine z_get hC hI hinX12_r_X120 0 (wM_e0 ad cy σ) rfl 31 (by decide) (List.mem_cons_of_mem _ zw49_20) rfl dX12_r_65 ?_
        obtain ⟨q, hf⟩ := zck_use hf
        refine z_iald hC hI 3 2 (wM_e3 ad cy σ) (tM_t3 cy) q dX12_r_68 ?_
        refine lv_sipush (v := 255) hx hb dX12_r_69 (by decide) ?_
        refine lv_iand hx hb dX12_r_72 ?_
        exact bX12_r_73 hC  hI (lv_sub hl [] rfl) hf
      replace hf := zif_t q hf
      refine lv_aload_n hx hb dX12_r_45 rfl (lv_at hl 0 rfl) ?_
      refine z_get hC hI hinX12_r_X120 0 (wM_e0 ad cy σ) rfl 10 (by decide) (List.mem_cons_of_mem _ zw9_7) rfl dX12_r_46 ?_
      refine lv_aload_n hx hb dX12_r_49 rfl (lv_at hl 0 rfl) ?_
      refine z_get hC hI hinX12_r_X120 0 (wM_e0 ad cy σ) rfl 31 (by decide) (List.mem_cons_of_mem _ zw49_20) rfl dX12_r_50 ?_
      obtain ⟨q, hf⟩ := zck_use hf
      refine z_iald hC hI 3 2 (wM_e3 ad cy σ) (tM_t3 cy) q dX12_r_53 ?_
      refine lv_bipush (v := 8) hx hb dX12_r_54 (by decide) ?_
      refine lv_ishr hx hb dX12_r_56 ?_
      refine lv_goto (tgt := 73) hx hb dX12_r_57 (by decide) ?_
      exact bX12_r_73 hC  hI (lv_sub hl [] rfl) hf
    replace hf := zif_t q hf
    refine lv_aload_n hx hb dX12_r_21 rfl (lv_at hl 0 rfl) ?_
    refine z_get hC hI hinX12_r_X120 0 (wM_e0 ad cy σ) rfl 10 (by decide) (List.mem_cons_of_mem _ zw9_7) rfl dX12_r_22 ?_
    refine lv_iconst (v := 0) hx hb dX12_r_25 (by decide) ?_
    obtain ⟨q, hf⟩ := zck_use hf
    refine z_iald hC hI 3 2 (wM_e3 ad cy σ) (tM_t3 cy) q dX12_r_26 ?_
    exact z_ireturn hC hI hf dX12_r_27
  replace hf := zif_t q hf
  refine lv_aload_n hx hb dX12_r_6 rfl (lv_at hl 0 rfl) ?_
  refine lv_aload_n hx hb dX12_r_7 rfl (lv_at hl 0 rfl) ?_
  obtain ⟨σ1, v2, g1, hf⟩ := zbi_use hf
  refine z_callVi (As := []) (rest := [.ref (ad 0)]) hC hI (cX12_m_met st l D ad cy σ  _ g1) (zgV zw53_14 zw53_15 zw53_16 zw1_5 zw53_17) rfl ⟨rfl, rfl⟩ 0 hdX12_m ⟨Nat.le_of_ble_eq_true rfl, Nat.le_of_ble_eq_true rfl⟩ rfl rfl (wM_e0 ad cy σ) rfl hl rfl (Nat.le_of_ble_eq_true rfl) dX12_r_8 ⟨Nat.zero_le _, Nat.zero_le _⟩ (fun H locs hI => ?_)
  obtain ⟨σ3, v4, g3, hf⟩ := zbi_use hf
  refine z_callVi (As := [.int v2]) (rest := []) hC hI (cX12_read_met st l D ad cy σ1 v2 _ g3) (zgV zw49_8 zw49_9 zw49_10 zw1_5 zw49_11) rfl ⟨rfl, rfl⟩ 1 hdX12_read ⟨Nat.le_of_ble_eq_true rfl, Nat.le_of_ble_eq_true rfl⟩ rfl rfl (wM_e0 ad cy σ1) rfl hl rfl (Nat.le_of_ble_eq_true rfl) dX12_r_11 ⟨Nat.zero_le _, Nat.zero_le _⟩ (fun H locs hI => ?_)
  exact z_ireturn hC hI hf dX12_r_14
set_option maxRecDepth 20000 in
theorem cX12_r_met (st : Nat → Nat) (l : Launch) (D : va_G) (ad : Nat → Nat) (cy : Nat → ClassId) (σ : zSt) (x1 : Int32) (res : zSt × Int32) (hf : fX12_r σ x1 = some res) (sz : Nat) : zMi st l yX12_r wzX12_r rmX12_r [.ref (ad 0), .int x1] D (tM cy) (wM ad cy) sz σ res :=
  zMi.of (cc := cX12_r) (maxL := 2) (ret := (some .int)) (by decide) rfl (Nat.le_of_ble_eq_true rfl) (fun p e s m args below meth c hC A hI ls hl => bX12_r hC hI hl hf)
theorem hdX12_r : yX12_r.cls = RX12 ∧ yX12_r.cls ≠ "java/lang/invoke/MethodHandle" ∧ yX12_r.cls ≠ "java/lang/invoke/VarHandle" ∧ (parseMethodDescriptor yX12_r.desc).map (fun d => d.parameters.length) = some 1 := by decide +kernel
noncomputable def rmX12_rTo : Room := { frames := 2, cells := 0, slots := 0, locals := 45 }
noncomputable def wzX12_rTo : List Cond := .code yX12_rTo cX12_rTo 4 none :: wsL_law
theorem hinX12_rTo_X120 : ∀ w ∈ wsX120, w ∈ wzX12_rTo := fun w h => List.mem_cons_of_mem _ (inlX12 w h)
noncomputable def fX12_rTo_113  (σ : zSt)  : Option (zSt) :=
  some σ
noncomputable def fX12_rTo_104  (σ : zSt) (x1 : Int32) (x3 : Int32) : Option (zSt) :=
  zck (zin (2 + x1) 1048) (zbv (zsi σ 3 ((2 + x1).toNatClampNeg) x3) (fun σ1 =>
  fX12_rTo_113 σ1))
noncomputable def fX12_rTo_100  (σ : zSt) (s0 : Int32) (s1 : Int32) : Option (zSt) :=
  zck (zin s1 1048) (zbv (zsi σ 3 (s1.toNatClampNeg) s0) (fun σ2 =>
  fX12_rTo_113 σ2))
noncomputable def fX12_rTo  (σ : zSt) (x1 : Int32) (x2 : Int32) : Option (zSt) :=
  zbv (x2 &&& 255) (fun v3 =>
  if x1 = 6 then zbi (fX12_m σ ) (fun σ5 v6 =>
  zbu (fX12_write σ5 v6 v3) (fun σ7 =>
  fX12_rTo_113 σ7)) else
  if x1 = 7 then zck (zin 0 1048) (zbv (zsi σ 3 ((0 : Int32).toNatClampNeg) v3) (fun σ4 =>
  fX12_rTo_113 σ4)) else
  if (zgi σ 0 31) ≤ 0 then fX12_rTo_104 σ x1 v3 else
  if x1 ≤ 3 then fX12_rTo_104 σ x1 v3 else
  if x1 = 4 then zck (zin (zgi σ 0 31) 1048) (
  fX12_rTo_100 σ ((v3 <<< ((8 : Int32) &&& 31)) ||| ((zgi σ 3 (zgi σ 0 31).toNatClampNeg) &&& 255)) (zgi σ 0 31)) else
  zck (zin (zgi σ 0 31) 1048) (
  fX12_rTo_100 σ (((zgi σ 3 (zgi σ 0 31).toNatClampNeg) &&& 65280) ||| v3) (zgi σ 0 31)))
set_option maxRecDepth 20000 in
set_option maxHeartbeats 4000000 in
theorem bX12_rTo_113 {st : Nat → Nat} {p : Program} {l : Launch} {e : Env} {s : State} {m : MethodId} {args : Array Value} {below : List Frame} {meth : Method} {c : Code} {D : va_G} {A : Nat → Prop} {ad : Nat → Nat} {cy : Nat → ClassId} (hC : zC p m c cX12_rTo 4 s args wzX12_rTo RX12 meth none)  {res : zSt} {H : Heap} {locs : List Loc} {σ : zSt} {ls : Array Slot}  (hI : zI st D (tM cy) (wM ad cy σ) A s H locs) (hl : lv_has ls 4 []) (hf : fX12_rTo_113  σ  = some res) : W p l e rmX12_rTo s m args below meth c H locs 0 0 (zQu below args s D (tM cy) (wM ad cy) A res) (F0 m 113 ls []) := by
  have hx := hC.1
  have hb := hC.2.1
  unfold fX12_rTo_113 at hf
  exact z_return hC hI hf dX12_rTo_113
set_option maxRecDepth 20000 in
set_option maxHeartbeats 4000000 in
theorem bX12_rTo_104 {st : Nat → Nat} {p : Program} {l : Launch} {e : Env} {s : State} {m : MethodId} {args : Array Value} {below : List Frame} {meth : Method} {c : Code} {D : va_G} {A : Nat → Prop} {ad : Nat → Nat} {cy : Nat → ClassId} (hC : zC p m c cX12_rTo 4 s args wzX12_rTo RX12 meth none)  {res : zSt} {H : Heap} {locs : List Loc} {σ : zSt} {ls : Array Slot} {x1 : Int32} {x3 : Int32} (hI : zI st D (tM cy) (wM ad cy σ) A s H locs) (hl : lv_has ls 4 [(0, .ref (ad 0)), (1, .int x1), (3, .int x3)]) (hf : fX12_rTo_104  σ x1 x3 = some res) : W p l e rmX12_rTo s m args below meth c H locs 0 0 (zQu below args s D (tM cy) (wM ad cy) A res) (F0 m 104 ls []) := by
  have hx := hC.1
  have hb := hC.2.1
  unfold fX12_rTo_104 at hf
  refine lv_aload_n hx hb dX12_rTo_104 rfl (lv_at hl 0 rfl) ?_
  refine z_get hC hI hinX12_rTo_X120 0 (wM_e0 ad cy σ) rfl 10 (by decide) (List.mem_cons_of_mem _ zw9_7) rfl dX12_rTo_105 ?_
  refine lv_iconst (v := 2) hx hb dX12_rTo_108 (by decide) ?_
  refine lv_iload_n hx hb dX12_rTo_109 rfl (lv_at hl 1 rfl) ?_
  refine lv_iadd hx hb dX12_rTo_110 ?_
  refine lv_iload_n hx hb dX12_rTo_111 rfl (lv_at hl 2 rfl) ?_
  obtain ⟨q, hf⟩ := zck_use hf
  obtain ⟨σ1, eσ1⟩ : ∃ z, z = zsi σ 3 ((2 + x1).toNatClampNeg) x3 := ⟨_, rfl⟩
  replace hf := zbv_use eσ1 hf
  refine z_iast hC hI 3 2 (wM_e3 ad cy σ) (tM_t3 cy) q ((wM_s3 ad cy σ _ _).trans (congrArg (wM ad cy) eσ1.symm)) dX12_rTo_112 (fun H locs hI => ?_)
  exact bX12_rTo_113 hC  hI (lv_sub hl [] rfl) hf
set_option maxRecDepth 20000 in
set_option maxHeartbeats 4000000 in
theorem bX12_rTo_100 {st : Nat → Nat} {p : Program} {l : Launch} {e : Env} {s : State} {m : MethodId} {args : Array Value} {below : List Frame} {meth : Method} {c : Code} {D : va_G} {A : Nat → Prop} {ad : Nat → Nat} {cy : Nat → ClassId} (hC : zC p m c cX12_rTo 4 s args wzX12_rTo RX12 meth none)  {res : zSt} {H : Heap} {locs : List Loc} {σ : zSt} {ls : Array Slot} {s0 : Int32} {s1 : Int32} (hI : zI st D (tM cy) (wM ad cy σ) A s H locs) (hl : lv_has ls 4 []) (hf : fX12_rTo_100  σ s0 s1 = some res) : W p l e rmX12_rTo s m args below meth c H locs 0 0 (zQu below args s D (tM cy) (wM ad cy) A res) (F0 m 100 ls [.int s0, .int s1, .ref (ad 3)]) := by
  have hx := hC.1
  have hb := hC.2.1
  unfold fX12_rTo_100 at hf
  obtain ⟨q, hf⟩ := zck_use hf
  obtain ⟨σ2, eσ2⟩ : ∃ z, z = zsi σ 3 (s1.toNatClampNeg) s0 := ⟨_, rfl⟩
  replace hf := zbv_use eσ2 hf
  refine z_iast hC hI 3 2 (wM_e3 ad cy σ) (tM_t3 cy) q ((wM_s3 ad cy σ _ _).trans (congrArg (wM ad cy) eσ2.symm)) dX12_rTo_100 (fun H locs hI => ?_)
  refine lv_goto (tgt := 113) hx hb dX12_rTo_101 (by decide) ?_
  exact bX12_rTo_113 hC  hI hl hf
set_option maxRecDepth 20000 in
set_option maxHeartbeats 4000000 in
theorem bX12_rTo {st : Nat → Nat} {p : Program} {l : Launch} {e : Env} {s : State} {m : MethodId} {args : Array Value} {below : List Frame} {meth : Method} {c : Code} {D : va_G} {A : Nat → Prop} {ad : Nat → Nat} {cy : Nat → ClassId} (hC : zC p m c cX12_rTo 4 s args wzX12_rTo RX12 meth none)  {res : zSt} {H : Heap} {locs : List Loc} {σ : zSt} {ls : Array Slot} {x1 : Int32} {x2 : Int32} (hI : zI st D (tM cy) (wM ad cy σ) A s H locs) (hl : lv_has ls 4 [(0, .ref (ad 0)), (1, .int x1), (2, .int x2)]) (hf : fX12_rTo  σ x1 x2 = some res) : W p l e rmX12_rTo s m args below meth c H locs 0 0 (zQu below args s D (tM cy) (wM ad cy) A res) (F0 m 0 ls []) := by
  have hx := hC.1
  have hb := hC.2.1
  unfold fX12_rTo at hf
  refine lv_iload_n hx hb dX12_rTo_0 rfl (lv_at hl 2 rfl) ?_
  refine lv_sipush (v := 255) hx hb dX12_rTo_1 (by decide) ?_
  refine lv_iand hx hb dX12_rTo_4 ?_
  refine lv_topi (fun v3 ev3 => ?_)
  replace hf := zbv_use ev3 hf
  refine lv_istore_n (lv' := [(3, .int v3), (0, .ref (ad 0)), (1, .int x1), (2, .int x2)]) hx hb dX12_rTo_5 rfl hl (by decide) rfl (fun ls hl => ?_)
  refine lv_iload_n hx hb dX12_rTo_6 rfl (lv_at hl 2 rfl) ?_
  refine lv_bipush (v := 6) hx hb dX12_rTo_7 (by decide) ?_
  refine lv_icmp_ne (tgt := 24) hx hb dX12_rTo_9 (by decide) (fun q => ?_) (fun q => ?_)
  · replace hf := zif_f q hf
    refine lv_iload_n hx hb dX12_rTo_24 rfl (lv_at hl 2 rfl) ?_
    refine lv_bipush (v := 7) hx hb dX12_rTo_25 (by decide) ?_
    refine lv_icmp_ne (tgt := 40) hx hb dX12_rTo_27 (by decide) (fun q => ?_) (fun q => ?_)
    · replace hf := zif_f q hf
      refine lv_aload_n hx hb dX12_rTo_40 rfl (lv_at hl 1 rfl) ?_
      refine z_get hC hI hinX12_rTo_X120 0 (wM_e0 ad cy σ) rfl 31 (by decide) (List.mem_cons_of_mem _ zw49_20) rfl dX12_rTo_41 ?_
      refine lv_if_le (tgt := 104) hx hb dX12_rTo_44 (by decide) (fun q => ?_) (fun q => ?_)
      · replace hf := zif_t q hf
        exact bX12_rTo_104 hC  hI (lv_sub hl [1, 2, 0] rfl) hf
      replace hf := zif_f q hf
      refine lv_iload_n hx hb dX12_rTo_47 rfl (lv_at hl 2 rfl) ?_
      refine lv_iconst (v := 3) hx hb dX12_rTo_48 (by decide) ?_
      refine lv_icmp_le (tgt := 104) hx hb dX12_rTo_49 (by decide) (fun q => ?_) (fun q => ?_)
      · replace hf := zif_t q hf
        exact bX12_rTo_104 hC  hI (lv_sub hl [1, 2, 0] rfl) hf
      replace hf := zif_f q hf
      refine lv_aload_n hx hb dX12_rTo_52 rfl (lv_at hl 1 rfl) ?_
      refine z_get hC hI hinX12_rTo_X120 0 (wM_e0 ad cy σ) rfl 10 (by decide) (List.mem_cons_of_mem _ zw9_7) rfl dX12_rTo_53 ?_
      refine lv_aload_n hx hb dX12_rTo_56 rfl (lv_at hl 1 rfl) ?_
      refine z_get hC hI hinX12_rTo_X120 0 (wM_e0 ad cy σ) rfl 31 (by decide) (List.mem_cons_of_mem _ zw49_20) rfl dX12_rTo_57 ?_
      refine lv_iload_n hx hb dX12_rTo_60 rfl (lv_at hl 2 rfl) ?_
      refine lv_iconst (v := 4) hx hb dX12_rTo_61 (by decide) ?_
      refine lv_icmp_ne (tgt := 86) hx hb dX12_rTo_62 (by decide) (fun q => ?_) (fun q => ?_)
      · replace hf := zif_f q hf
        refine lv_aload_n hx hb dX12_rTo_86 rfl (lv_at hl 1 rfl) ?_
        refine z_get hC hI hinX12_rTo_X120 0 (wM_e0 ad cy σ) rfl 10 (by decide) (List.mem_cons_of_mem _ zw9_7) rfl dX12_rTo_87 ?_
        refine lv_aload_n hx hb dX12_rTo_90 rfl (lv_at hl 1 rfl) ?_
        refine z_get hC hI hinX12_rTo_X120 0 (wM_e0 ad cy σ) rfl 31 (by decide) (List.mem_cons_of_mem _ zw49_20) rfl dX12_rTo_91 ?_
        obtain ⟨q, hf⟩ := zck_use hf
        refine z_iald hC hI 3 2 (wM_e3 ad cy σ) (tM_t3 cy) q dX12_rTo_94 ?_
        refine lv_ldc (v := 65280) hx hb hC.2.2.2.1 (hC.2.2.2.2.1 _ (List.mem_cons_of_mem _ zw53_13)) dX12_rTo_95 ?_
        refine lv_iand hx hb dX12_rTo_97 ?_
        refine lv_iload_n hx hb dX12_rTo_98 rfl (lv_at hl 0 rfl) ?_
        refine lv_ior hx hb dX12_rTo_99 ?_
        exact bX12_rTo_100 hC  hI (lv_sub hl [] rfl) hf
      replace hf := zif_t q hf
      refine lv_iload_n hx hb dX12_rTo_65 rfl (lv_at hl 0 rfl) ?_
      refine lv_bipush (v := 8) hx hb dX12_rTo_66 (by decide) ?_
      refine lv_ishl hx hb dX12_rTo_68 ?_
      refine lv_aload_n hx hb dX12_rTo_69 rfl (lv_at hl 1 rfl) ?_
      refine z_get hC hI hinX12_rTo_X120 0 (wM_e0 ad cy σ) rfl 10 (by decide) (List.mem_cons_of_mem _ zw9_7) rfl dX12_rTo_70 ?_
      refine lv_aload_n hx hb dX12_rTo_73 rfl (lv_at hl 1 rfl) ?_
      refine z_get hC hI hinX12_rTo_X120 0 (wM_e0 ad cy σ) rfl 31 (by decide) (List.mem_cons_of_mem _ zw49_20) rfl dX12_rTo_74 ?_
      obtain ⟨q, hf⟩ := zck_use hf
      refine z_iald hC hI 3 2 (wM_e3 ad cy σ) (tM_t3 cy) q dX12_rTo_77 ?_
      refine lv_sipush (v := 255) hx hb dX12_rTo_78 (by decide) ?_
      refine lv_iand hx hb dX12_rTo_81 ?_
      refine lv_ior hx hb dX12_rTo_82 ?_
      refine lv_goto (tgt := 100) hx hb dX12_rTo_83 (by decide) ?_
      exact bX12_rTo_100 hC  hI (lv_sub hl [] rfl) hf
    replace hf := zif_t q hf
    refine lv_aload_n hx hb dX12_rTo_30 rfl (lv_at hl 1 rfl) ?_
    refine z_get hC hI hinX12_rTo_X120 0 (wM_e0 ad cy σ) rfl 10 (by decide) (List.mem_cons_of_mem _ zw9_7) rfl dX12_rTo_31 ?_
    refine lv_iconst (v := 0) hx hb dX12_rTo_34 (by decide) ?_
    refine lv_iload_n hx hb dX12_rTo_35 rfl (lv_at hl 0 rfl) ?_
    obtain ⟨q, hf⟩ := zck_use hf
    obtain ⟨σ4, eσ4⟩ : ∃ z, z = zsi σ 3 ((0 : Int32).toNatClampNeg) v3 := ⟨_, rfl⟩
    replace hf := zbv_use eσ4 hf
    refine z_iast hC hI 3 2 (wM_e3 ad cy σ) (tM_t3 cy) q ((wM_s3 ad cy σ _ _).trans (congrArg (wM ad cy) eσ4.symm)) dX12_rTo_36 (fun H locs hI => ?_)
    refine lv_goto (tgt := 113) hx hb dX12_rTo_37 (by decide) ?_
    exact bX12_rTo_113 hC  hI (lv_sub hl [] rfl) hf
  replace hf := zif_t q hf
  refine lv_aload_n hx hb dX12_rTo_12 rfl (lv_at hl 1 rfl) ?_
  refine lv_aload_n hx hb dX12_rTo_13 rfl (lv_at hl 1 rfl) ?_
  obtain ⟨σ5, v6, g5, hf⟩ := zbi_use hf
  refine z_callVi (As := []) (rest := [.ref (ad 0)]) hC hI (cX12_m_met st l D ad cy σ  _ g5) (zgV zw53_14 zw53_15 zw53_16 zw1_5 zw53_17) rfl ⟨rfl, rfl⟩ 0 hdX12_m ⟨Nat.le_of_ble_eq_true rfl, Nat.le_of_ble_eq_true rfl⟩ rfl rfl (wM_e0 ad cy σ) rfl hl rfl (Nat.le_of_ble_eq_true rfl) dX12_rTo_14 ⟨Nat.zero_le _, Nat.zero_le _⟩ (fun H locs hI => ?_)
  refine lv_iload_n hx hb dX12_rTo_17 rfl (lv_at hl 0 rfl) ?_
  obtain ⟨σ7, g7, hf⟩ := zbu_use hf
  refine z_callVu (As := [.int v6, .int v3]) (rest := []) hC hI (cX12_write_met st l D ad cy σ5 v6 v3 _ g7) (zgV zw48_5 zw48_6 zw48_7 zw1_5 zw48_8) rfl ⟨rfl, rfl⟩ 2 hdX12_write ⟨Nat.le_of_ble_eq_true rfl, Nat.le_of_ble_eq_true rfl⟩ rfl rfl (wM_e0 ad cy σ5) rfl hl rfl (Nat.le_of_ble_eq_true rfl) dX12_rTo_18 ⟨Nat.zero_le _, Nat.zero_le _⟩ (fun H locs hI => ?_)
  refine lv_goto (tgt := 113) hx hb dX12_rTo_21 (by decide) ?_
  exact bX12_rTo_113 hC  hI (lv_sub hl [] rfl) hf
set_option maxRecDepth 20000 in
theorem cX12_rTo_met (st : Nat → Nat) (l : Launch) (D : va_G) (ad : Nat → Nat) (cy : Nat → ClassId) (σ : zSt) (x1 : Int32) (x2 : Int32) (res : zSt) (hf : fX12_rTo σ x1 x2 = some res) (sz : Nat) : zMu st l yX12_rTo wzX12_rTo rmX12_rTo [.ref (ad 0), .int x1, .int x2] D (tM cy) (wM ad cy) sz σ res :=
  zMu.of (cc := cX12_rTo) (maxL := 4) (ret := none) (by decide) rfl (Nat.le_of_ble_eq_true rfl) (fun p e s m args below meth c hC A hI ls hl => bX12_rTo hC hI hl hf)
theorem hdX12_rTo : yX12_rTo.cls = RX12 ∧ yX12_rTo.cls ≠ "java/lang/invoke/MethodHandle" ∧ yX12_rTo.cls ≠ "java/lang/invoke/VarHandle" ∧ (parseMethodDescriptor yX12_rTo.desc).map (fun d => d.parameters.length) = some 2 := by decide +kernel
noncomputable def rmX12_put : Room := { frames := 0, cells := 0, slots := 0, locals := 0 }
noncomputable def wzX12_put : List Cond := .code yX12_put cX12_put 3 none :: wsL_law
theorem hinX12_put_X120 : ∀ w ∈ wsX120, w ∈ wzX12_put := fun w h => List.mem_cons_of_mem _ (inlX12 w h)
noncomputable def fX12_put_34  (σ : zSt) (s0 : Int32) (s1 : Int32) : Option (zSt) :=
  zck (zin s1 1048) (zbv (zsi σ 3 (s1.toNatClampNeg) s0) (fun σ1 =>
  some σ1))
noncomputable def fX12_put  (σ : zSt) (x1 : Int32) (x2 : Int32) : Option (zSt) :=
  if x2 = 0 then zck (zin 1 1048) (
  fX12_put_34 σ ((zgi σ 3 (1 : Int32).toNatClampNeg) &&& ((1 <<< (x1 &&& 31)) ^^^ (-1))) 1) else
  zck (zin 1 1048) (
  fX12_put_34 σ ((zgi σ 3 (1 : Int32).toNatClampNeg) ||| (1 <<< (x1 &&& 31))) 1)
set_option maxRecDepth 20000 in
set_option maxHeartbeats 4000000 in
theorem bX12_put_34 {st : Nat → Nat} {p : Program} {l : Launch} {e : Env} {s : State} {m : MethodId} {args : Array Value} {below : List Frame} {meth : Method} {c : Code} {D : va_G} {A : Nat → Prop} {ad : Nat → Nat} {cy : Nat → ClassId} (hC : zC p m c cX12_put 3 s args wzX12_put RX12 meth none)  {res : zSt} {H : Heap} {locs : List Loc} {σ : zSt} {ls : Array Slot} {s0 : Int32} {s1 : Int32} (hI : zI st D (tM cy) (wM ad cy σ) A s H locs) (hl : lv_has ls 3 []) (hf : fX12_put_34  σ s0 s1 = some res) : W p l e rmX12_put s m args below meth c H locs 0 0 (zQu below args s D (tM cy) (wM ad cy) A res) (F0 m 34 ls [.int s0, .int s1, .ref (ad 3)]) := by
  have hx := hC.1
  have hb := hC.2.1
  unfold fX12_put_34 at hf
  obtain ⟨q, hf⟩ := zck_use hf
  obtain ⟨σ1, eσ1⟩ : ∃ z, z = zsi σ 3 (s1.toNatClampNeg) s0 := ⟨_, rfl⟩
  replace hf := zbv_use eσ1 hf
  refine z_iast hC hI 3 2 (wM_e3 ad cy σ) (tM_t3 cy) q ((wM_s3 ad cy σ _ _).trans (congrArg (wM ad cy) eσ1.symm)) dX12_put_34 (fun H locs hI => ?_)
  exact z_return hC hI hf dX12_put_35
set_option maxRecDepth 20000 in
set_option maxHeartbeats 4000000 in
theorem bX12_put {st : Nat → Nat} {p : Program} {l : Launch} {e : Env} {s : State} {m : MethodId} {args : Array Value} {below : List Frame} {meth : Method} {c : Code} {D : va_G} {A : Nat → Prop} {ad : Nat → Nat} {cy : Nat → ClassId} (hC : zC p m c cX12_put 3 s args wzX12_put RX12 meth none)  {res : zSt} {H : Heap} {locs : List Loc} {σ : zSt} {ls : Array Slot} {x1 : Int32} {x2 : Int32} (hI : zI st D (tM cy) (wM ad cy σ) A s H locs) (hl : lv_has ls 3 [(0, .ref (ad 0)), (1, .int x1), (2, .int x2)]) (hf : fX12_put  σ x1 x2 = some res) : W p l e rmX12_put s m args below meth c H locs 0 0 (zQu below args s D (tM cy) (wM ad cy) A res) (F0 m 0 ls []) := by
  have hx := hC.1
  have hb := hC.2.1
  unfold fX12_put at hf
  refine lv_aload_n hx hb dX12_put_0 rfl (lv_at hl 0 rfl) ?_
  refine z_get hC hI hinX12_put_X120 0 (wM_e0 ad cy σ) rfl 10 (by decide) (List.mem_cons_of_mem _ zw9_7) rfl dX12_put_1 ?_
  refine lv_iconst (v := 1) hx hb dX12_put_4 (by decide) ?_
  refine lv_iload_n hx hb dX12_put_5 rfl (lv_at hl 2 rfl) ?_
  refine lv_if_eq (tgt := 22) hx hb dX12_put_6 (by decide) (fun q => ?_) (fun q => ?_)
  · replace hf := zif_t q hf
    refine lv_aload_n hx hb dX12_put_22 rfl (lv_at hl 0 rfl) ?_
    refine z_get hC hI hinX12_put_X120 0 (wM_e0 ad cy σ) rfl 10 (by decide) (List.mem_cons_of_mem _ zw9_7) rfl dX12_put_23 ?_
    refine lv_iconst (v := 1) hx hb dX12_put_26 (by decide) ?_
    obtain ⟨q, hf⟩ := zck_use hf
    refine z_iald hC hI 3 2 (wM_e3 ad cy σ) (tM_t3 cy) q dX12_put_27 ?_
    refine lv_iconst (v := 1) hx hb dX12_put_28 (by decide) ?_
    refine lv_iload_n hx hb dX12_put_29 rfl (lv_at hl 1 rfl) ?_
    refine lv_ishl hx hb dX12_put_30 ?_
    refine lv_iconst (v := (-1)) hx hb dX12_put_31 (by decide) ?_
    refine lv_ixor hx hb dX12_put_32 ?_
    refine lv_iand hx hb dX12_put_33 ?_
    exact bX12_put_34 hC  hI (lv_sub hl [] rfl) hf
  replace hf := zif_f q hf
  refine lv_aload_n hx hb dX12_put_9 rfl (lv_at hl 0 rfl) ?_
  refine z_get hC hI hinX12_put_X120 0 (wM_e0 ad cy σ) rfl 10 (by decide) (List.mem_cons_of_mem _ zw9_7) rfl dX12_put_10 ?_
  refine lv_iconst (v := 1) hx hb dX12_put_13 (by decide) ?_
  obtain ⟨q, hf⟩ := zck_use hf
  refine z_iald hC hI 3 2 (wM_e3 ad cy σ) (tM_t3 cy) q dX12_put_14 ?_
  refine lv_iconst (v := 1) hx hb dX12_put_15 (by decide) ?_
  refine lv_iload_n hx hb dX12_put_16 rfl (lv_at hl 1 rfl) ?_
  refine lv_ishl hx hb dX12_put_17 ?_
  refine lv_ior hx hb dX12_put_18 ?_
  refine lv_goto (tgt := 34) hx hb dX12_put_19 (by decide) ?_
  exact bX12_put_34 hC  hI (lv_sub hl [] rfl) hf
set_option maxRecDepth 20000 in
theorem cX12_put_met (st : Nat → Nat) (l : Launch) (D : va_G) (ad : Nat → Nat) (cy : Nat → ClassId) (σ : zSt) (x1 : Int32) (x2 : Int32) (res : zSt) (hf : fX12_put σ x1 x2 = some res) (sz : Nat) : zMu st l yX12_put wzX12_put rmX12_put [.ref (ad 0), .int x1, .int x2] D (tM cy) (wM ad cy) sz σ res :=
  zMu.of (cc := cX12_put) (maxL := 3) (ret := none) (by decide) rfl (Nat.le_of_ble_eq_true rfl) (fun p e s m args below meth c hC A hI ls hl => bX12_put hC hI hl hf)
theorem hdX12_put : yX12_put.cls = RX12 ∧ yX12_put.cls ≠ "java/lang/invoke/MethodHandle" ∧ yX12_put.cls ≠ "java/lang/invoke/VarHandle" ∧ (parseMethodDescriptor yX12_put.desc).map (fun d => d.parameters.length) = some 2 := by decide +kernel
noncomputable def rmX12_flag : Room := { frames := 0, cells := 0, slots := 0, locals := 0 }
noncomputable def wzX12_flag : List Cond := .code yX12_flag cX12_flag 2 (some .int) :: wsL_law
theorem hinX12_flag_X120 : ∀ w ∈ wsX120, w ∈ wzX12_flag := fun w h => List.mem_cons_of_mem _ (inlX12 w h)
noncomputable def fX12_flag  (σ : zSt) (x1 : Int32) : Option (zSt × Int32) :=
  zck (zin 1 1048) (
  some (σ, ((zgi σ 3 (1 : Int32).toNatClampNeg) >>> (x1 &&& 31)) &&& 1))
set_option maxRecDepth 20000 in
set_option maxHeartbeats 4000000 in
theorem bX12_flag {st : Nat → Nat} {p : Program} {l : Launch} {e : Env} {s : State} {m : MethodId} {args : Array Value} {below : List Frame} {meth : Method} {c : Code} {D : va_G} {A : Nat → Prop} {ad : Nat → Nat} {cy : Nat → ClassId} (hC : zC p m c cX12_flag 2 s args wzX12_flag RX12 meth (some .int))  {res : zSt × Int32} {H : Heap} {locs : List Loc} {σ : zSt} {ls : Array Slot} {x1 : Int32} (hI : zI st D (tM cy) (wM ad cy σ) A s H locs) (hl : lv_has ls 2 [(0, .ref (ad 0)), (1, .int x1)]) (hf : fX12_flag  σ x1 = some res) : W p l e rmX12_flag s m args below meth c H locs 0 0 (zQi below args s D (tM cy) (wM ad cy) A res) (F0 m 0 ls []) := by
  have hx := hC.1
  have hb := hC.2.1
  unfold fX12_flag at hf
  refine lv_aload_n hx hb dX12_flag_0 rfl (lv_at hl 0 rfl) ?_
  refine z_get hC hI hinX12_flag_X120 0 (wM_e0 ad cy σ) rfl 10 (by decide) (List.mem_cons_of_mem _ zw9_7) rfl dX12_flag_1 ?_
  refine lv_iconst (v := 1) hx hb dX12_flag_4 (by decide) ?_
  obtain ⟨q, hf⟩ := zck_use hf
  refine z_iald hC hI 3 2 (wM_e3 ad cy σ) (tM_t3 cy) q dX12_flag_5 ?_
  refine lv_iload_n hx hb dX12_flag_6 rfl (lv_at hl 1 rfl) ?_
  refine lv_ishr hx hb dX12_flag_7 ?_
  refine lv_iconst (v := 1) hx hb dX12_flag_8 (by decide) ?_
  refine lv_iand hx hb dX12_flag_9 ?_
  exact z_ireturn hC hI hf dX12_flag_10
set_option maxRecDepth 20000 in
theorem cX12_flag_met (st : Nat → Nat) (l : Launch) (D : va_G) (ad : Nat → Nat) (cy : Nat → ClassId) (σ : zSt) (x1 : Int32) (res : zSt × Int32) (hf : fX12_flag σ x1 = some res) (sz : Nat) : zMi st l yX12_flag wzX12_flag rmX12_flag [.ref (ad 0), .int x1] D (tM cy) (wM ad cy) sz σ res :=
  zMi.of (cc := cX12_flag) (maxL := 2) (ret := (some .int)) (by decide) rfl (Nat.le_of_ble_eq_true rfl) (fun p e s m args below meth c hC A hI ls hl => bX12_flag hC hI hl hf)
theorem hdX12_flag : yX12_flag.cls = RX12 ∧ yX12_flag.cls ≠ "java/lang/invoke/MethodHandle" ∧ yX12_flag.cls ≠ "java/lang/invoke/VarHandle" ∧ (parseMethodDescriptor yX12_flag.desc).map (fun d => d.parameters.length) = some 1 := by decide +kernel
noncomputable def rmX12_xy : Room := { frames := 1, cells := 0, slots := 0, locals := 22 }
noncomputable def wzX12_xy : List Cond := .code yX12_xy cX12_xy 2 none :: wsL_law
noncomputable def fX12_xy_31  (σ : zSt) (s0 : Int32) (s1 : Int32) : Option (zSt) :=
  zbu (fX12_put σ s1 s0) (fun σ1 =>
  some σ1)
noncomputable def fX12_xy_14  (σ : zSt) (x1 : Int32) (s0 : Int32) (s1 : Int32) : Option (zSt) :=
  zbu (fX12_put σ s1 s0) (fun σ2 =>
  if (x1 &&& 8) = 0 then fX12_xy_31 σ2 0 3 else
  fX12_xy_31 σ2 1 3)
noncomputable def fX12_xy  (σ : zSt) (x1 : Int32) : Option (zSt) :=
  if (x1 &&& 32) = 0 then fX12_xy_14 σ x1 0 5 else
  fX12_xy_14 σ x1 1 5
set_option maxRecDepth 20000 in
set_option maxHeartbeats 4000000 in
theorem bX12_xy_31 {st : Nat → Nat} {p : Program} {l : Launch} {e : Env} {s : State} {m : MethodId} {args : Array Value} {below : List Frame} {meth : Method} {c : Code} {D : va_G} {A : Nat → Prop} {ad : Nat → Nat} {cy : Nat → ClassId} (hC : zC p m c cX12_xy 2 s args wzX12_xy RX12 meth none)  {res : zSt} {H : Heap} {locs : List Loc} {σ : zSt} {ls : Array Slot} {s0 : Int32} {s1 : Int32} (hI : zI st D (tM cy) (wM ad cy σ) A s H locs) (hl : lv_has ls 2 []) (hf : fX12_xy_31  σ s0 s1 = some res) : W p l e rmX12_xy s m args below meth c H locs 0 0 (zQu below args s D (tM cy) (wM ad cy) A res) (F0 m 31 ls [.int s0, .int s1, .ref (ad 0)]) := by
  have hx := hC.1
  have hb := hC.2.1
  unfold fX12_xy_31 at hf
  obtain ⟨σ1, g1, hf⟩ := zbu_use hf
  refine z_callVu (As := [.int s1, .int s0]) (rest := []) hC hI (cX12_put_met st l D ad cy σ s1 s0 _ g1) (zgV zw52_13 zw52_14 zw52_15 zw1_5 zw52_16) rfl ⟨rfl, rfl⟩ 2 hdX12_put ⟨Nat.le_of_ble_eq_true rfl, Nat.le_of_ble_eq_true rfl⟩ rfl rfl (wM_e0 ad cy σ) rfl hl rfl (Nat.le_of_ble_eq_true rfl) dX12_xy_31 ⟨Nat.zero_le _, Nat.zero_le _⟩ (fun H locs hI => ?_)
  exact z_return hC hI hf dX12_xy_34
set_option maxRecDepth 20000 in
set_option maxHeartbeats 4000000 in
theorem bX12_xy_14 {st : Nat → Nat} {p : Program} {l : Launch} {e : Env} {s : State} {m : MethodId} {args : Array Value} {below : List Frame} {meth : Method} {c : Code} {D : va_G} {A : Nat → Prop} {ad : Nat → Nat} {cy : Nat → ClassId} (hC : zC p m c cX12_xy 2 s args wzX12_xy RX12 meth none)  {res : zSt} {H : Heap} {locs : List Loc} {σ : zSt} {ls : Array Slot} {x1 : Int32} {s0 : Int32} {s1 : Int32} (hI : zI st D (tM cy) (wM ad cy σ) A s H locs) (hl : lv_has ls 2 [(0, .ref (ad 0)), (1, .int x1)]) (hf : fX12_xy_14  σ x1 s0 s1 = some res) : W p l e rmX12_xy s m args below meth c H locs 0 0 (zQu below args s D (tM cy) (wM ad cy) A res) (F0 m 14 ls [.int s0, .int s1, .ref (ad 0)]) := by
  have hx := hC.1
  have hb := hC.2.1
  unfold fX12_xy_14 at hf
  obtain ⟨σ2, g2, hf⟩ := zbu_use hf
  refine z_callVu (As := [.int s1, .int s0]) (rest := []) hC hI (cX12_put_met st l D ad cy σ s1 s0 _ g2) (zgV zw52_13 zw52_14 zw52_15 zw1_5 zw52_16) rfl ⟨rfl, rfl⟩ 2 hdX12_put ⟨Nat.le_of_ble_eq_true rfl, Nat.le_of_ble_eq_true rfl⟩ rfl rfl (wM_e0 ad cy σ) rfl hl rfl (Nat.le_of_ble_eq_true rfl) dX12_xy_14 ⟨Nat.zero_le _, Nat.zero_le _⟩ (fun H locs hI => ?_)
  refine lv_aload_n hx hb dX12_xy_17 rfl (lv_at hl 0 rfl) ?_
  refine lv_iconst (v := 3) hx hb dX12_xy_18 (by decide) ?_
  refine lv_iload_n hx hb dX12_xy_19 rfl (lv_at hl 1 rfl) ?_
  refine lv_bipush (v := 8) hx hb dX12_xy_20 (by decide) ?_
  refine lv_iand hx hb dX12_xy_22 ?_
  refine lv_if_eq (tgt := 30) hx hb dX12_xy_23 (by decide) (fun q => ?_) (fun q => ?_)
  · replace hf := zif_t q hf
    refine lv_iconst (v := 0) hx hb dX12_xy_30 (by decide) ?_
    exact bX12_xy_31 hC  hI (lv_sub hl [] rfl) hf
  replace hf := zif_f q hf
  refine lv_iconst (v := 1) hx hb dX12_xy_26 (by decide) ?_
  refine lv_goto (tgt := 31) hx hb dX12_xy_27 (by decide) ?_
  exact bX12_xy_31 hC  hI (lv_sub hl [] rfl) hf
set_option maxRecDepth 20000 in
set_option maxHeartbeats 4000000 in
theorem bX12_xy {st : Nat → Nat} {p : Program} {l : Launch} {e : Env} {s : State} {m : MethodId} {args : Array Value} {below : List Frame} {meth : Method} {c : Code} {D : va_G} {A : Nat → Prop} {ad : Nat → Nat} {cy : Nat → ClassId} (hC : zC p m c cX12_xy 2 s args wzX12_xy RX12 meth none)  {res : zSt} {H : Heap} {locs : List Loc} {σ : zSt} {ls : Array Slot} {x1 : Int32} (hI : zI st D (tM cy) (wM ad cy σ) A s H locs) (hl : lv_has ls 2 [(0, .ref (ad 0)), (1, .int x1)]) (hf : fX12_xy  σ x1 = some res) : W p l e rmX12_xy s m args below meth c H locs 0 0 (zQu below args s D (tM cy) (wM ad cy) A res) (F0 m 0 ls []) := by
  have hx := hC.1
  have hb := hC.2.1
  unfold fX12_xy at hf
  refine lv_aload_n hx hb dX12_xy_0 rfl (lv_at hl 0 rfl) ?_
  refine lv_iconst (v := 5) hx hb dX12_xy_1 (by decide) ?_
  refine lv_iload_n hx hb dX12_xy_2 rfl (lv_at hl 1 rfl) ?_
  refine lv_bipush (v := 32) hx hb dX12_xy_3 (by decide) ?_
  refine lv_iand hx hb dX12_xy_5 ?_
  refine lv_if_eq (tgt := 13) hx hb dX12_xy_6 (by decide) (fun q => ?_) (fun q => ?_)
  · replace hf := zif_t q hf
    refine lv_iconst (v := 0) hx hb dX12_xy_13 (by decide) ?_
    exact bX12_xy_14 hC  hI hl hf
  replace hf := zif_f q hf
  refine lv_iconst (v := 1) hx hb dX12_xy_9 (by decide) ?_
  refine lv_goto (tgt := 14) hx hb dX12_xy_10 (by decide) ?_
  exact bX12_xy_14 hC  hI hl hf
set_option maxRecDepth 20000 in
theorem cX12_xy_met (st : Nat → Nat) (l : Launch) (D : va_G) (ad : Nat → Nat) (cy : Nat → ClassId) (σ : zSt) (x1 : Int32) (res : zSt) (hf : fX12_xy σ x1 = some res) (sz : Nat) : zMu st l yX12_xy wzX12_xy rmX12_xy [.ref (ad 0), .int x1] D (tM cy) (wM ad cy) sz σ res :=
  zMu.of (cc := cX12_xy) (maxL := 2) (ret := none) (by decide) rfl (Nat.le_of_ble_eq_true rfl) (fun p e s m args below meth c hC A hI ls hl => bX12_xy hC hI hl hf)
theorem hdX12_xy : yX12_xy.cls = RX12 ∧ yX12_xy.cls ≠ "java/lang/invoke/MethodHandle" ∧ yX12_xy.cls ≠ "java/lang/invoke/VarHandle" ∧ (parseMethodDescriptor yX12_xy.desc).map (fun d => d.parameters.length) = some 1 := by decide +kernel
noncomputable def rmX12_by : Room := { frames := 2, cells := 0, slots := 0, locals := 43 }
noncomputable def wzX12_by : List Cond := .code yX12_by cX12_by 2 none :: wsL_law
noncomputable def fX12_by_31  (σ : zSt) (x1 : Int32) (s0 : Int32) (s1 : Int32) : Option (zSt) :=
  zbu (fX12_put σ s1 s0) (fun σ1 =>
  zbu (fX12_xy σ1 x1) (fun σ2 =>
  some σ2))
noncomputable def fX12_by_16  (σ : zSt) (x1 : Int32) (s0 : Int32) (s1 : Int32) : Option (zSt) :=
  zbu (fX12_put σ s1 s0) (fun σ3 =>
  if x1 = 0 then fX12_by_31 σ3 x1 1 6 else
  fX12_by_31 σ3 x1 0 6)
noncomputable def fX12_by  (σ : zSt) (x1 : Int32) : Option (zSt) :=
  if (x1 &&& 128) = 0 then fX12_by_16 σ x1 0 7 else
  fX12_by_16 σ x1 1 7
set_option maxRecDepth 20000 in
set_option maxHeartbeats 4000000 in
theorem bX12_by_31 {st : Nat → Nat} {p : Program} {l : Launch} {e : Env} {s : State} {m : MethodId} {args : Array Value} {below : List Frame} {meth : Method} {c : Code} {D : va_G} {A : Nat → Prop} {ad : Nat → Nat} {cy : Nat → ClassId} (hC : zC p m c cX12_by 2 s args wzX12_by RX12 meth none)  {res : zSt} {H : Heap} {locs : List Loc} {σ : zSt} {ls : Array Slot} {x1 : Int32} {s0 : Int32} {s1 : Int32} (hI : zI st D (tM cy) (wM ad cy σ) A s H locs) (hl : lv_has ls 2 [(0, .ref (ad 0)), (1, .int x1)]) (hf : fX12_by_31  σ x1 s0 s1 = some res) : W p l e rmX12_by s m args below meth c H locs 0 0 (zQu below args s D (tM cy) (wM ad cy) A res) (F0 m 31 ls [.int s0, .int s1, .ref (ad 0)]) := by
  have hx := hC.1
  have hb := hC.2.1
  unfold fX12_by_31 at hf
  obtain ⟨σ1, g1, hf⟩ := zbu_use hf
  refine z_callVu (As := [.int s1, .int s0]) (rest := []) hC hI (cX12_put_met st l D ad cy σ s1 s0 _ g1) (zgV zw52_13 zw52_14 zw52_15 zw1_5 zw52_16) rfl ⟨rfl, rfl⟩ 2 hdX12_put ⟨Nat.le_of_ble_eq_true rfl, Nat.le_of_ble_eq_true rfl⟩ rfl rfl (wM_e0 ad cy σ) rfl hl rfl (Nat.le_of_ble_eq_true rfl) dX12_by_31 ⟨Nat.zero_le _, Nat.zero_le _⟩ (fun H locs hI => ?_)
  refine lv_aload_n hx hb dX12_by_34 rfl (lv_at hl 0 rfl) ?_
  refine lv_iload_n hx hb dX12_by_35 rfl (lv_at hl 1 rfl) ?_
  obtain ⟨σ2, g2, hf⟩ := zbu_use hf
  refine z_callVu (As := [.int x1]) (rest := []) hC hI (cX12_xy_met st l D ad cy σ1 x1 _ g2) (zgV zw52_17 zw52_18 zw52_19 zw1_5 zw52_20) rfl ⟨rfl, rfl⟩ 1 hdX12_xy ⟨Nat.le_of_ble_eq_true rfl, Nat.le_of_ble_eq_true rfl⟩ rfl rfl (wM_e0 ad cy σ1) rfl hl rfl (Nat.le_of_ble_eq_true rfl) dX12_by_36 ⟨Nat.zero_le _, Nat.zero_le _⟩ (fun H locs hI => ?_)
  exact z_return hC hI hf dX12_by_39
set_option maxRecDepth 20000 in
set_option maxHeartbeats 4000000 in
theorem bX12_by_16 {st : Nat → Nat} {p : Program} {l : Launch} {e : Env} {s : State} {m : MethodId} {args : Array Value} {below : List Frame} {meth : Method} {c : Code} {D : va_G} {A : Nat → Prop} {ad : Nat → Nat} {cy : Nat → ClassId} (hC : zC p m c cX12_by 2 s args wzX12_by RX12 meth none)  {res : zSt} {H : Heap} {locs : List Loc} {σ : zSt} {ls : Array Slot} {x1 : Int32} {s0 : Int32} {s1 : Int32} (hI : zI st D (tM cy) (wM ad cy σ) A s H locs) (hl : lv_has ls 2 [(0, .ref (ad 0)), (1, .int x1)]) (hf : fX12_by_16  σ x1 s0 s1 = some res) : W p l e rmX12_by s m args below meth c H locs 0 0 (zQu below args s D (tM cy) (wM ad cy) A res) (F0 m 16 ls [.int s0, .int s1, .ref (ad 0)]) := by
  have hx := hC.1
  have hb := hC.2.1
  unfold fX12_by_16 at hf
  obtain ⟨σ3, g3, hf⟩ := zbu_use hf
  refine z_callVu (As := [.int s1, .int s0]) (rest := []) hC hI (cX12_put_met st l D ad cy σ s1 s0 _ g3) (zgV zw52_13 zw52_14 zw52_15 zw1_5 zw52_16) rfl ⟨rfl, rfl⟩ 2 hdX12_put ⟨Nat.le_of_ble_eq_true rfl, Nat.le_of_ble_eq_true rfl⟩ rfl rfl (wM_e0 ad cy σ) rfl hl rfl (Nat.le_of_ble_eq_true rfl) dX12_by_16 ⟨Nat.zero_le _, Nat.zero_le _⟩ (fun H locs hI => ?_)
  refine lv_aload_n hx hb dX12_by_19 rfl (lv_at hl 0 rfl) ?_
  refine lv_bipush (v := 6) hx hb dX12_by_20 (by decide) ?_
  refine lv_iload_n hx hb dX12_by_22 rfl (lv_at hl 1 rfl) ?_
  refine lv_if_ne (tgt := 30) hx hb dX12_by_23 (by decide) (fun q => ?_) (fun q => ?_)
  · replace hf := zif_f q hf
    refine lv_iconst (v := 0) hx hb dX12_by_30 (by decide) ?_
    exact bX12_by_31 hC  hI hl hf
  replace hf := zif_t q hf
  refine lv_iconst (v := 1) hx hb dX12_by_26 (by decide) ?_
  refine lv_goto (tgt := 31) hx hb dX12_by_27 (by decide) ?_
  exact bX12_by_31 hC  hI hl hf
set_option maxRecDepth 20000 in
set_option maxHeartbeats 4000000 in
theorem bX12_by {st : Nat → Nat} {p : Program} {l : Launch} {e : Env} {s : State} {m : MethodId} {args : Array Value} {below : List Frame} {meth : Method} {c : Code} {D : va_G} {A : Nat → Prop} {ad : Nat → Nat} {cy : Nat → ClassId} (hC : zC p m c cX12_by 2 s args wzX12_by RX12 meth none)  {res : zSt} {H : Heap} {locs : List Loc} {σ : zSt} {ls : Array Slot} {x1 : Int32} (hI : zI st D (tM cy) (wM ad cy σ) A s H locs) (hl : lv_has ls 2 [(0, .ref (ad 0)), (1, .int x1)]) (hf : fX12_by  σ x1 = some res) : W p l e rmX12_by s m args below meth c H locs 0 0 (zQu below args s D (tM cy) (wM ad cy) A res) (F0 m 0 ls []) := by
  have hx := hC.1
  have hb := hC.2.1
  unfold fX12_by at hf
  refine lv_aload_n hx hb dX12_by_0 rfl (lv_at hl 0 rfl) ?_
  refine lv_bipush (v := 7) hx hb dX12_by_1 (by decide) ?_
  refine lv_iload_n hx hb dX12_by_3 rfl (lv_at hl 1 rfl) ?_
  refine lv_sipush (v := 128) hx hb dX12_by_4 (by decide) ?_
  refine lv_iand hx hb dX12_by_7 ?_
  refine lv_if_eq (tgt := 15) hx hb dX12_by_8 (by decide) (fun q => ?_) (fun q => ?_)
  · replace hf := zif_t q hf
    refine lv_iconst (v := 0) hx hb dX12_by_15 (by decide) ?_
    exact bX12_by_16 hC  hI hl hf
  replace hf := zif_f q hf
  refine lv_iconst (v := 1) hx hb dX12_by_11 (by decide) ?_
  refine lv_goto (tgt := 16) hx hb dX12_by_12 (by decide) ?_
  exact bX12_by_16 hC  hI hl hf
set_option maxRecDepth 20000 in
theorem cX12_by_met (st : Nat → Nat) (l : Launch) (D : va_G) (ad : Nat → Nat) (cy : Nat → ClassId) (σ : zSt) (x1 : Int32) (res : zSt) (hf : fX12_by σ x1 = some res) (sz : Nat) : zMu st l yX12_by wzX12_by rmX12_by [.ref (ad 0), .int x1] D (tM cy) (wM ad cy) sz σ res :=
  zMu.of (cc := cX12_by) (maxL := 2) (ret := none) (by decide) rfl (Nat.le_of_ble_eq_true rfl) (fun p e s m args below meth c hC A hI ls hl => bX12_by hC hI hl hf)
theorem hdX12_by : yX12_by.cls = RX12 ∧ yX12_by.cls ≠ "java/lang/invoke/MethodHandle" ∧ yX12_by.cls ≠ "java/lang/invoke/VarHandle" ∧ (parseMethodDescriptor yX12_by.desc).map (fun d => d.parameters.length) = some 1 := by decide +kernel
noncomputable def rmX12_isEven : Room := { frames := 0, cells := 0, slots := 0, locals := 0 }
noncomputable def wzX12_isEven : List Cond := .code yX12_isEven cX12_isEven 3 (some .boolean) :: wsL_law
noncomputable def fX12_isEven_35  (σ : zSt) (s0 : Int32) : Option (zSt × Int32) :=
  zck (zbo s0) (some (σ, s0))
noncomputable def fX12_isEven_4_body (k4 : zSt → Int32 → Int32 → Int32 → Option (zSt × Int32)) (σ : zSt) (x0 : Int32) (x1 : Int32) (x2 : Int32) : Option (zSt × Int32) :=
  if 8 ≤ x2 then zck (decide (¬ 2 = 0)) (
  if (zrem x1 2) = 0 then fX12_isEven_35 σ 1 else
  fX12_isEven_35 σ 0) else
  zbv (x1 + ((x0 >>> (x2 &&& 31)) &&& 1)) (fun v1 =>
  zbv (x2 + 1) (fun v2 =>
  k4 σ x0 v1 v2))
noncomputable def fX12_isEven_4  : Nat → zSt → Int32 → Int32 → Int32 → Option (zSt × Int32)
  | 0, _, _, _, _ => none
  | n + 1, σ, x0, x1, x2 => fX12_isEven_4_body (fX12_isEven_4  n) σ x0 x1 x2
noncomputable def fX12_isEven  (σ : zSt) (x0 : Int32) : Option (zSt × Int32) :=
  fX12_isEven_4 zfuel σ x0 0 0
set_option maxRecDepth 20000 in
set_option maxHeartbeats 4000000 in
theorem bX12_isEven_35 {st : Nat → Nat} {p : Program} {l : Launch} {e : Env} {s : State} {m : MethodId} {args : Array Value} {below : List Frame} {meth : Method} {c : Code} {D : va_G} {A : Nat → Prop} {ad : Nat → Nat} {cy : Nat → ClassId} (hC : zC p m c cX12_isEven 3 s args wzX12_isEven RX12 meth (some .boolean))  {res : zSt × Int32} {H : Heap} {locs : List Loc} {σ : zSt} {ls : Array Slot} {s0 : Int32} (hI : zI st D (tM cy) (wM ad cy σ) A s H locs) (hl : lv_has ls 3 []) (hf : fX12_isEven_35  σ s0 = some res) : W p l e rmX12_isEven s m args below meth c H locs 0 0 (zQi below args s D (tM cy) (wM ad cy) A res) (F0 m 35 ls [.int s0]) := by
  have hx := hC.1
  have hb := hC.2.1
  unfold fX12_isEven_35 at hf
  obtain ⟨q, hf⟩ := zck_use hf
  exact z_zreturn hC hI (zbo_n q) hf dX12_isEven_35
set_option maxRecDepth 20000 in
set_option maxHeartbeats 4000000 in
theorem bX12_isEven_4_body {st : Nat → Nat} {p : Program} {l : Launch} {e : Env} {s : State} {m : MethodId} {args : Array Value} {below : List Frame} {meth : Method} {c : Code} {D : va_G} {A : Nat → Prop} {ad : Nat → Nat} {cy : Nat → ClassId} (hC : zC p m c cX12_isEven 3 s args wzX12_isEven RX12 meth (some .boolean)) {k4 : zSt → Int32 → Int32 → Int32 → Option (zSt × Int32)} {res : zSt × Int32} (hk4 : ∀ (H : Heap) (locs : List Loc) (σ : zSt) (ls : Array Slot) (x0 : Int32) (x1 : Int32) (x2 : Int32), zI st D (tM cy) (wM ad cy σ) A s H locs → lv_has ls 3 [(0, .int x0), (1, .int x1), (2, .int x2)] → k4 σ x0 x1 x2 = some res → W p l e rmX12_isEven s m args below meth c H locs 0 0 (zQi below args s D (tM cy) (wM ad cy) A res) (F0 m 4 ls [])) {H : Heap} {locs : List Loc} {σ : zSt} {ls : Array Slot} {x0 : Int32} {x1 : Int32} {x2 : Int32} (hI : zI st D (tM cy) (wM ad cy σ) A s H locs) (hl : lv_has ls 3 [(0, .int x0), (1, .int x1), (2, .int x2)]) (hf : fX12_isEven_4_body k4 σ x0 x1 x2 = some res) : W p l e rmX12_isEven s m args below meth c H locs 0 0 (zQi below args s D (tM cy) (wM ad cy) A res) (F0 m 4 ls []) := by
  have hx := hC.1
  have hb := hC.2.1
  unfold fX12_isEven_4_body at hf
  refine lv_iload_n hx hb dX12_isEven_4 rfl (lv_at hl 2 rfl) ?_
  refine lv_bipush (v := 8) hx hb dX12_isEven_5 (by decide) ?_
  refine lv_icmp_ge (tgt := 24) hx hb dX12_isEven_7 (by decide) (fun q => ?_) (fun q => ?_)
  · replace hf := zif_t q hf
    refine lv_iload_n hx hb dX12_isEven_24 rfl (lv_at hl 1 rfl) ?_
    refine lv_iconst (v := 2) hx hb dX12_isEven_25 (by decide) ?_
    obtain ⟨q, hf⟩ := zck_use hf
    refine z_irem hx hb dX12_isEven_26 (of_decide_eq_true q) ?_
    refine lv_if_ne (tgt := 34) hx hb dX12_isEven_27 (by decide) (fun q => ?_) (fun q => ?_)
    · replace hf := zif_f q hf
      refine lv_iconst (v := 0) hx hb dX12_isEven_34 (by decide) ?_
      exact bX12_isEven_35 hC  hI (lv_sub hl [] rfl) hf
    replace hf := zif_t q hf
    refine lv_iconst (v := 1) hx hb dX12_isEven_30 (by decide) ?_
    refine lv_goto (tgt := 35) hx hb dX12_isEven_31 (by decide) ?_
    exact bX12_isEven_35 hC  hI (lv_sub hl [] rfl) hf
  replace hf := zif_f q hf
  refine lv_iload_n hx hb dX12_isEven_10 rfl (lv_at hl 1 rfl) ?_
  refine lv_iload_n hx hb dX12_isEven_11 rfl (lv_at hl 0 rfl) ?_
  refine lv_iload_n hx hb dX12_isEven_12 rfl (lv_at hl 2 rfl) ?_
  refine lv_ishr hx hb dX12_isEven_13 ?_
  refine lv_iconst (v := 1) hx hb dX12_isEven_14 (by decide) ?_
  refine lv_iand hx hb dX12_isEven_15 ?_
  refine lv_iadd hx hb dX12_isEven_16 ?_
  refine lv_topi (fun v1 ev1 => ?_)
  replace hf := zbv_use ev1 hf
  refine lv_istore_n (lv' := [(1, .int v1), (0, .int x0), (2, .int x2)]) hx hb dX12_isEven_17 rfl hl (by decide) rfl (fun ls hl => ?_)
  obtain ⟨v2, ev2⟩ : ∃ z : Int32, z = x2 + 1 := ⟨_, rfl⟩
  replace hf := zbv_use ev2 hf
  refine lv_iinc (v := v2) (lv' := [(2, .int v2), (1, .int v1), (0, .int x0)]) hx hb dX12_isEven_18 hl (k := 2) rfl (by rw [ev2]; rfl) (by decide) rfl (fun ls hl => ?_)
  refine lv_goto (tgt := 4) hx hb dX12_isEven_21 (by decide) ?_
  exact hk4 _ _ _ _ _ _ _ hI (lv_sub hl [2, 1, 0] rfl) hf
theorem blX12_isEven_4 {st : Nat → Nat} {p : Program} {l : Launch} {e : Env} {s : State} {m : MethodId} {args : Array Value} {below : List Frame} {meth : Method} {c : Code} {D : va_G} {A : Nat → Prop} {ad : Nat → Nat} {cy : Nat → ClassId} (hC : zC p m c cX12_isEven 3 s args wzX12_isEven RX12 meth (some .boolean))  {res : zSt × Int32} : ∀ (n : Nat) (H : Heap) (locs : List Loc) (σ : zSt) (ls : Array Slot) (x0 : Int32) (x1 : Int32) (x2 : Int32), zI st D (tM cy) (wM ad cy σ) A s H locs → lv_has ls 3 [(0, .int x0), (1, .int x1), (2, .int x2)] → fX12_isEven_4  n σ x0 x1 x2 = some res → W p l e rmX12_isEven s m args below meth c H locs 0 0 (zQi below args s D (tM cy) (wM ad cy) A res) (F0 m 4 ls []) := by
  intro n
  induction n with
  | zero => intro H locs σ ls x0 x1 x2 hI hl hf; cases hf
  | succ n ih => intro H locs σ ls x0 x1 x2 hI hl hf; exact bX12_isEven_4_body hC ih hI hl hf
set_option maxRecDepth 20000 in
set_option maxHeartbeats 4000000 in
theorem bX12_isEven {st : Nat → Nat} {p : Program} {l : Launch} {e : Env} {s : State} {m : MethodId} {args : Array Value} {below : List Frame} {meth : Method} {c : Code} {D : va_G} {A : Nat → Prop} {ad : Nat → Nat} {cy : Nat → ClassId} (hC : zC p m c cX12_isEven 3 s args wzX12_isEven RX12 meth (some .boolean))  {res : zSt × Int32} {H : Heap} {locs : List Loc} {σ : zSt} {ls : Array Slot} {x0 : Int32} (hI : zI st D (tM cy) (wM ad cy σ) A s H locs) (hl : lv_has ls 3 [(0, .int x0)]) (hf : fX12_isEven  σ x0 = some res) : W p l e rmX12_isEven s m args below meth c H locs 0 0 (zQi below args s D (tM cy) (wM ad cy) A res) (F0 m 0 ls []) := by
  have hx := hC.1
  have hb := hC.2.1
  unfold fX12_isEven at hf
  refine lv_iconst (v := 0) hx hb dX12_isEven_0 (by decide) ?_
  refine lv_istore_n (lv' := [(1, .int 0), (0, .int x0)]) hx hb dX12_isEven_1 rfl hl (by decide) rfl (fun ls hl => ?_)
  refine lv_iconst (v := 0) hx hb dX12_isEven_2 (by decide) ?_
  refine lv_istore_n (lv' := [(2, .int 0), (1, .int 0), (0, .int x0)]) hx hb dX12_isEven_3 rfl hl (by decide) rfl (fun ls hl => ?_)
  exact blX12_isEven_4 hC  zfuel _ _ _ _ _ _ _ hI (lv_sub hl [2, 1, 0] rfl) hf
set_option maxRecDepth 20000 in
theorem cX12_isEven_met (st : Nat → Nat) (l : Launch) (D : va_G) (ad : Nat → Nat) (cy : Nat → ClassId) (σ : zSt) (x0 : Int32) (res : zSt × Int32) (hf : fX12_isEven σ x0 = some res) (sz : Nat) : zMi st l yX12_isEven wzX12_isEven rmX12_isEven [.int x0] D (tM cy) (wM ad cy) sz σ res :=
  zMi.of (cc := cX12_isEven) (maxL := 3) (ret := (some .boolean)) (by decide) rfl (Nat.le_of_ble_eq_true rfl) (fun p e s m args below meth c hC A hI ls hl => bX12_isEven hC hI hl hf)
theorem hdX12_isEven : yX12_isEven.cls ≠ "java/lang/invoke/MethodHandle" ∧ yX12_isEven.cls ≠ "java/lang/invoke/VarHandle" ∧ (parseMethodDescriptor yX12_isEven.desc).map (fun d => d.parameters.length) = some 1 := by decide +kernel
noncomputable def rmX12_cc : Room := { frames := 1, cells := 0, slots := 0, locals := 21 }
noncomputable def wzX12_cc : List Cond := .code yX12_cc cX12_cc 2 (some .boolean) :: wsL_law
noncomputable def fX12_cc_64  (σ : zSt) (s0 : Int32) : Option (zSt × Int32) :=
  zck (zbo s0) (some (σ, s0))
noncomputable def fX12_cc_56  (σ : zSt) (s0 : Int32) (s1 : Int32) : Option (zSt × Int32) :=
  if s1 = s0 then fX12_cc_64 σ 1 else
  fX12_cc_64 σ 0
noncomputable def fX12_cc_44  (σ : zSt) (x1 : Int32) (s0 : Int32) : Option (zSt × Int32) :=
  zck (decide (¬ 2 = 0)) (
  if (zrem x1 2) = 1 then fX12_cc_56 σ 1 s0 else
  fX12_cc_56 σ 0 s0)
noncomputable def fX12_cc_32  (σ : zSt) (x1 : Int32) (s0 : Int32) : Option (zSt × Int32) :=
  zbi (fX12_flag σ s0) (fun σ1 v2 =>
  if v2 = 1 then fX12_cc_44 σ1 x1 1 else
  fX12_cc_44 σ1 x1 0)
noncomputable def fX12_cc  (σ : zSt) (x1 : Int32) : Option (zSt × Int32) :=
  if 2 ≤ x1 then if 4 ≤ x1 then if 6 ≤ x1 then fX12_cc_32 σ x1 7 else
  fX12_cc_32 σ x1 2 else
  fX12_cc_32 σ x1 0 else
  fX12_cc_32 σ x1 6
set_option maxRecDepth 20000 in
set_option maxHeartbeats 4000000 in
theorem bX12_cc_64 {st : Nat → Nat} {p : Program} {l : Launch} {e : Env} {s : State} {m : MethodId} {args : Array Value} {below : List Frame} {meth : Method} {c : Code} {D : va_G} {A : Nat → Prop} {ad : Nat → Nat} {cy : Nat → ClassId} (hC : zC p m c cX12_cc 2 s args wzX12_cc RX12 meth (some .boolean))  {res : zSt × Int32} {H : Heap} {locs : List Loc} {σ : zSt} {ls : Array Slot} {s0 : Int32} (hI : zI st D (tM cy) (wM ad cy σ) A s H locs) (hl : lv_has ls 2 []) (hf : fX12_cc_64  σ s0 = some res) : W p l e rmX12_cc s m args below meth c H locs 0 0 (zQi below args s D (tM cy) (wM ad cy) A res) (F0 m 64 ls [.int s0]) := by
  have hx := hC.1
  have hb := hC.2.1
  unfold fX12_cc_64 at hf
  obtain ⟨q, hf⟩ := zck_use hf
  exact z_zreturn hC hI (zbo_n q) hf dX12_cc_64
set_option maxRecDepth 20000 in
set_option maxHeartbeats 4000000 in
theorem bX12_cc_56 {st : Nat → Nat} {p : Program} {l : Launch} {e : Env} {s : State} {m : MethodId} {args : Array Value} {below : List Frame} {meth : Method} {c : Code} {D : va_G} {A : Nat → Prop} {ad : Nat → Nat} {cy : Nat → ClassId} (hC : zC p m c cX12_cc 2 s args wzX12_cc RX12 meth (some .boolean))  {res : zSt × Int32} {H : Heap} {locs : List Loc} {σ : zSt} {ls : Array Slot} {s0 : Int32} {s1 : Int32} (hI : zI st D (tM cy) (wM ad cy σ) A s H locs) (hl : lv_has ls 2 []) (hf : fX12_cc_56  σ s0 s1 = some res) : W p l e rmX12_cc s m args below meth c H locs 0 0 (zQi below args s D (tM cy) (wM ad cy) A res) (F0 m 56 ls [.int s0, .int s1]) := by
  have hx := hC.1
  have hb := hC.2.1
  unfold fX12_cc_56 at hf
  refine lv_icmp_ne (tgt := 63) hx hb dX12_cc_56 (by decide) (fun q => ?_) (fun q => ?_)
  · replace hf := zif_f q hf
    refine lv_iconst (v := 0) hx hb dX12_cc_63 (by decide) ?_
    exact bX12_cc_64 hC  hI hl hf
  replace hf := zif_t q hf
  refine lv_iconst (v := 1) hx hb dX12_cc_59 (by decide) ?_
  refine lv_goto (tgt := 64) hx hb dX12_cc_60 (by decide) ?_
  exact bX12_cc_64 hC  hI hl hf
set_option maxRecDepth 20000 in
set_option maxHeartbeats 4000000 in
theorem bX12_cc_44 {st : Nat → Nat} {p : Program} {l : Launch} {e : Env} {s : State} {m : MethodId} {args : Array Value} {below : List Frame} {meth : Method} {c : Code} {D : va_G} {A : Nat → Prop} {ad : Nat → Nat} {cy : Nat → ClassId} (hC : zC p m c cX12_cc 2 s args wzX12_cc RX12 meth (some .boolean))  {res : zSt × Int32} {H : Heap} {locs : List Loc} {σ : zSt} {ls : Array Slot} {x1 : Int32} {s0 : Int32} (hI : zI st D (tM cy) (wM ad cy σ) A s H locs) (hl : lv_has ls 2 [(1, .int x1)]) (hf : fX12_cc_44  σ x1 s0 = some res) : W p l e rmX12_cc s m args below meth c H locs 0 0 (zQi below args s D (tM cy) (wM ad cy) A res) (F0 m 44 ls [.int s0]) := by
  have hx := hC.1
  have hb := hC.2.1
  unfold fX12_cc_44 at hf
  refine lv_iload_n hx hb dX12_cc_44 rfl (lv_at hl 0 rfl) ?_
  refine lv_iconst (v := 2) hx hb dX12_cc_45 (by decide) ?_
  obtain ⟨q, hf⟩ := zck_use hf
  refine z_irem hx hb dX12_cc_46 (of_decide_eq_true q) ?_
  refine lv_iconst (v := 1) hx hb dX12_cc_47 (by decide) ?_
  refine lv_icmp_ne (tgt := 55) hx hb dX12_cc_48 (by decide) (fun q => ?_) (fun q => ?_)
  · replace hf := zif_f q hf
    refine lv_iconst (v := 0) hx hb dX12_cc_55 (by decide) ?_
    exact bX12_cc_56 hC  hI (lv_sub hl [] rfl) hf
  replace hf := zif_t q hf
  refine lv_iconst (v := 1) hx hb dX12_cc_51 (by decide) ?_
  refine lv_goto (tgt := 56) hx hb dX12_cc_52 (by decide) ?_
  exact bX12_cc_56 hC  hI (lv_sub hl [] rfl) hf
set_option maxRecDepth 20000 in
set_option maxHeartbeats 4000000 in
theorem bX12_cc_32 {st : Nat → Nat} {p : Program} {l : Launch} {e : Env} {s : State} {m : MethodId} {args : Array Value} {below : List Frame} {meth : Method} {c : Code} {D : va_G} {A : Nat → Prop} {ad : Nat → Nat} {cy : Nat → ClassId} (hC : zC p m c cX12_cc 2 s args wzX12_cc RX12 meth (some .boolean))  {res : zSt × Int32} {H : Heap} {locs : List Loc} {σ : zSt} {ls : Array Slot} {x1 : Int32} {s0 : Int32} (hI : zI st D (tM cy) (wM ad cy σ) A s H locs) (hl : lv_has ls 2 [(1, .int x1)]) (hf : fX12_cc_32  σ x1 s0 = some res) : W p l e rmX12_cc s m args below meth c H locs 0 0 (zQi below args s D (tM cy) (wM ad cy) A res) (F0 m 32 ls [.int s0, .ref (ad 0)]) := by
  have hx := hC.1
  have hb := hC.2.1
  unfold fX12_cc_32 at hf
  obtain ⟨σ1, v2, g1, hf⟩ := zbi_use hf
  refine z_callVi (As := [.int s0]) (rest := []) hC hI (cX12_flag_met st l D ad cy σ s0 _ g1) (zgV zw51_1 zw51_2 zw51_3 zw1_5 zw51_4) rfl ⟨rfl, rfl⟩ 1 hdX12_flag ⟨Nat.le_of_ble_eq_true rfl, Nat.le_of_ble_eq_true rfl⟩ rfl rfl (wM_e0 ad cy σ) rfl hl rfl (Nat.le_of_ble_eq_true rfl) dX12_cc_32 ⟨Nat.zero_le _, Nat.zero_le _⟩ (fun H locs hI => ?_)
  refine lv_iconst (v := 1) hx hb dX12_cc_35 (by decide) ?_
  refine lv_icmp_ne (tgt := 43) hx hb dX12_cc_36 (by decide) (fun q => ?_) (fun q => ?_)
  · replace hf := zif_f q hf
    refine lv_iconst (v := 0) hx hb dX12_cc_43 (by decide) ?_
    exact bX12_cc_44 hC  hI hl hf
  replace hf := zif_t q hf
  refine lv_iconst (v := 1) hx hb dX12_cc_39 (by decide) ?_
  refine lv_goto (tgt := 44) hx hb dX12_cc_40 (by decide) ?_
  exact bX12_cc_44 hC  hI hl hf
set_option maxRecDepth 20000 in
set_option maxHeartbeats 4000000 in
theorem bX12_cc {st : Nat → Nat} {p : Program} {l : Launch} {e : Env} {s : State} {m : MethodId} {args : Array Value} {below : List Frame} {meth : Method} {c : Code} {D : va_G} {A : Nat → Prop} {ad : Nat → Nat} {cy : Nat → ClassId} (hC : zC p m c cX12_cc 2 s args wzX12_cc RX12 meth (some .boolean))  {res : zSt × Int32} {H : Heap} {locs : List Loc} {σ : zSt} {ls : Array Slot} {x1 : Int32} (hI : zI st D (tM cy) (wM ad cy σ) A s H locs) (hl : lv_has ls 2 [(0, .ref (ad 0)), (1, .int x1)]) (hf : fX12_cc  σ x1 = some res) : W p l e rmX12_cc s m args below meth c H locs 0 0 (zQi below args s D (tM cy) (wM ad cy) A res) (F0 m 0 ls []) := by
  have hx := hC.1
  have hb := hC.2.1
  unfold fX12_cc at hf
  refine lv_aload_n hx hb dX12_cc_0 rfl (lv_at hl 0 rfl) ?_
  refine lv_iload_n hx hb dX12_cc_1 rfl (lv_at hl 1 rfl) ?_
  refine lv_iconst (v := 2) hx hb dX12_cc_2 (by decide) ?_
  refine lv_icmp_ge (tgt := 11) hx hb dX12_cc_3 (by decide) (fun q => ?_) (fun q => ?_)
  · replace hf := zif_t q hf
    refine lv_iload_n hx hb dX12_cc_11 rfl (lv_at hl 1 rfl) ?_
    refine lv_iconst (v := 4) hx hb dX12_cc_12 (by decide) ?_
    refine lv_icmp_ge (tgt := 20) hx hb dX12_cc_13 (by decide) (fun q => ?_) (fun q => ?_)
    · replace hf := zif_t q hf
      refine lv_iload_n hx hb dX12_cc_20 rfl (lv_at hl 1 rfl) ?_
      refine lv_bipush (v := 6) hx hb dX12_cc_21 (by decide) ?_
      refine lv_icmp_ge (tgt := 30) hx hb dX12_cc_23 (by decide) (fun q => ?_) (fun q => ?_)
      · replace hf := zif_t q hf
        refine lv_bipush (v := 7) hx hb dX12_cc_30 (by decide) ?_
        exact bX12_cc_32 hC  hI (lv_sub hl [1] rfl) hf
      replace hf := zif_f q hf
      refine lv_iconst (v := 2) hx hb dX12_cc_26 (by decide) ?_
      refine lv_goto (tgt := 32) hx hb dX12_cc_27 (by decide) ?_
      exact bX12_cc_32 hC  hI (lv_sub hl [1] rfl) hf
    replace hf := zif_f q hf
    refine lv_iconst (v := 0) hx hb dX12_cc_16 (by decide) ?_
    refine lv_goto (tgt := 32) hx hb dX12_cc_17 (by decide) ?_
    exact bX12_cc_32 hC  hI (lv_sub hl [1] rfl) hf
  replace hf := zif_f q hf
  refine lv_bipush (v := 6) hx hb dX12_cc_6 (by decide) ?_
  refine lv_goto (tgt := 32) hx hb dX12_cc_8 (by decide) ?_
  exact bX12_cc_32 hC  hI (lv_sub hl [1] rfl) hf
set_option maxRecDepth 20000 in
theorem cX12_cc_met (st : Nat → Nat) (l : Launch) (D : va_G) (ad : Nat → Nat) (cy : Nat → ClassId) (σ : zSt) (x1 : Int32) (res : zSt × Int32) (hf : fX12_cc σ x1 = some res) (sz : Nat) : zMi st l yX12_cc wzX12_cc rmX12_cc [.ref (ad 0), .int x1] D (tM cy) (wM ad cy) sz σ res :=
  zMi.of (cc := cX12_cc) (maxL := 2) (ret := (some .boolean)) (by decide) rfl (Nat.le_of_ble_eq_true rfl) (fun p e s m args below meth c hC A hI ls hl => bX12_cc hC hI hl hf)
theorem hdX12_cc : yX12_cc.cls = RX12 ∧ yX12_cc.cls ≠ "java/lang/invoke/MethodHandle" ∧ yX12_cc.cls ≠ "java/lang/invoke/VarHandle" ∧ (parseMethodDescriptor yX12_cc.desc).map (fun d => d.parameters.length) = some 1 := by decide +kernel
noncomputable def rmX12_push : Room := { frames := 2, cells := 0, slots := 0, locals := 45 }
noncomputable def wzX12_push : List Cond := .code yX12_push cX12_push 2 none :: wsL_law
theorem hinX12_push_X120 : ∀ w ∈ wsX120, w ∈ wzX12_push := fun w h => List.mem_cons_of_mem _ (inlX12 w h)
noncomputable def fX12_push  (σ : zSt) (x1 : Int32) : Option (zSt) :=
  zck (zin 18 1048) (
  zck (zin 18 1048) (zbv (zsi σ 3 ((18 : Int32).toNatClampNeg) (((zgi σ 3 (18 : Int32).toNatClampNeg) - 1) &&& 65535)) (fun σ1 =>
  zck (zin 18 1048) (
  zbu (fX12_write σ1 (zgi σ1 3 (18 : Int32).toNatClampNeg) (x1 >>> ((8 : Int32) &&& 31))) (fun σ2 =>
  zck (zin 18 1048) (
  zck (zin 18 1048) (zbv (zsi σ2 3 ((18 : Int32).toNatClampNeg) (((zgi σ2 3 (18 : Int32).toNatClampNeg) - 1) &&& 65535)) (fun σ3 =>
  zck (zin 18 1048) (
  zbu (fX12_write σ3 (zgi σ3 3 (18 : Int32).toNatClampNeg) x1) (fun σ4 =>
  some σ4))))))))))
set_option maxRecDepth 20000 in
set_option maxHeartbeats 4000000 in
theorem bX12_push {st : Nat → Nat} {p : Program} {l : Launch} {e : Env} {s : State} {m : MethodId} {args : Array Value} {below : List Frame} {meth : Method} {c : Code} {D : va_G} {A : Nat → Prop} {ad : Nat → Nat} {cy : Nat → ClassId} (hC : zC p m c cX12_push 2 s args wzX12_push RX12 meth none)  {res : zSt} {H : Heap} {locs : List Loc} {σ : zSt} {ls : Array Slot} {x1 : Int32} (hI : zI st D (tM cy) (wM ad cy σ) A s H locs) (hl : lv_has ls 2 [(0, .ref (ad 0)), (1, .int x1)]) (hf : fX12_push  σ x1 = some res) : W p l e rmX12_push s m args below meth c H locs 0 0 (zQu below args s D (tM cy) (wM ad cy) A res) (F0 m 0 ls []) := by
  have hx := hC.1
  have hb := hC.2.1
  unfold fX12_push at hf
  refine lv_aload_n hx hb dX12_push_0 rfl (lv_at hl 0 rfl) ?_
  refine z_get hC hI hinX12_push_X120 0 (wM_e0 ad cy σ) rfl 10 (by decide) (List.mem_cons_of_mem _ zw9_7) rfl dX12_push_1 ?_
  refine lv_bipush (v := 18) hx hb dX12_push_4 (by decide) ?_
  refine lv_aload_n hx hb dX12_push_6 rfl (lv_at hl 0 rfl) ?_
  refine z_get hC hI hinX12_push_X120 0 (wM_e0 ad cy σ) rfl 10 (by decide) (List.mem_cons_of_mem _ zw9_7) rfl dX12_push_7 ?_
  refine lv_bipush (v := 18) hx hb dX12_push_10 (by decide) ?_
  obtain ⟨q, hf⟩ := zck_use hf
  refine z_iald hC hI 3 2 (wM_e3 ad cy σ) (tM_t3 cy) q dX12_push_12 ?_
  refine lv_iconst (v := 1) hx hb dX12_push_13 (by decide) ?_
  refine lv_isub hx hb dX12_push_14 ?_
  refine lv_ldc (v := 65535) hx hb hC.2.2.2.1 (hC.2.2.2.2.1 _ (List.mem_cons_of_mem _ zw16_11)) dX12_push_15 ?_
  refine lv_iand hx hb dX12_push_17 ?_
  obtain ⟨q, hf⟩ := zck_use hf
  obtain ⟨σ1, eσ1⟩ : ∃ z, z = zsi σ 3 ((18 : Int32).toNatClampNeg) (((zgi σ 3 (18 : Int32).toNatClampNeg) - 1) &&& 65535) := ⟨_, rfl⟩
  replace hf := zbv_use eσ1 hf
  refine z_iast hC hI 3 2 (wM_e3 ad cy σ) (tM_t3 cy) q ((wM_s3 ad cy σ _ _).trans (congrArg (wM ad cy) eσ1.symm)) dX12_push_18 (fun H locs hI => ?_)
  refine lv_aload_n hx hb dX12_push_19 rfl (lv_at hl 0 rfl) ?_
  refine lv_aload_n hx hb dX12_push_20 rfl (lv_at hl 0 rfl) ?_
  refine z_get hC hI hinX12_push_X120 0 (wM_e0 ad cy σ1) rfl 10 (by decide) (List.mem_cons_of_mem _ zw9_7) rfl dX12_push_21 ?_
  refine lv_bipush (v := 18) hx hb dX12_push_24 (by decide) ?_
  obtain ⟨q, hf⟩ := zck_use hf
  refine z_iald hC hI 3 2 (wM_e3 ad cy σ1) (tM_t3 cy) q dX12_push_26 ?_
  refine lv_iload_n hx hb dX12_push_27 rfl (lv_at hl 1 rfl) ?_
  refine lv_bipush (v := 8) hx hb dX12_push_28 (by decide) ?_
  refine lv_ishr hx hb dX12_push_30 ?_
  obtain ⟨σ2, g2, hf⟩ := zbu_use hf
  refine z_callVu (As := [.int (zgi σ1 3 (18 : Int32).toNatClampNeg), .int (x1 >>> ((8 : Int32) &&& 31))]) (rest := []) hC hI (cX12_write_met st l D ad cy σ1 (zgi σ1 3 (18 : Int32).toNatClampNeg) (x1 >>> ((8 : Int32) &&& 31)) _ g2) (zgV zw48_5 zw48_6 zw48_7 zw1_5 zw48_8) rfl ⟨rfl, rfl⟩ 2 hdX12_write ⟨Nat.le_of_ble_eq_true rfl, Nat.le_of_ble_eq_true rfl⟩ rfl rfl (wM_e0 ad cy σ1) rfl hl rfl (Nat.le_of_ble_eq_true rfl) dX12_push_31 ⟨Nat.zero_le _, Nat.zero_le _⟩ (fun H locs hI => ?_)
  refine lv_aload_n hx hb dX12_push_34 rfl (lv_at hl 0 rfl) ?_
  refine z_get hC hI hinX12_push_X120 0 (wM_e0 ad cy σ2) rfl 10 (by decide) (List.mem_cons_of_mem _ zw9_7) rfl dX12_push_35 ?_
  refine lv_bipush (v := 18) hx hb dX12_push_38 (by decide) ?_
  refine lv_aload_n hx hb dX12_push_40 rfl (lv_at hl 0 rfl) ?_
  refine z_get hC hI hinX12_push_X120 0 (wM_e0 ad cy σ2) rfl 10 (by decide) (List.mem_cons_of_mem _ zw9_7) rfl dX12_push_41 ?_
  refine lv_bipush (v := 18) hx hb dX12_push_44 (by decide) ?_
  obtain ⟨q, hf⟩ := zck_use hf
  refine z_iald hC hI 3 2 (wM_e3 ad cy σ2) (tM_t3 cy) q dX12_push_46 ?_
  refine lv_iconst (v := 1) hx hb dX12_push_47 (by decide) ?_
  refine lv_isub hx hb dX12_push_48 ?_
  refine lv_ldc (v := 65535) hx hb hC.2.2.2.1 (hC.2.2.2.2.1 _ (List.mem_cons_of_mem _ zw16_11)) dX12_push_49 ?_
  refine lv_iand hx hb dX12_push_51 ?_
  obtain ⟨q, hf⟩ := zck_use hf
  obtain ⟨σ3, eσ3⟩ : ∃ z, z = zsi σ2 3 ((18 : Int32).toNatClampNeg) (((zgi σ2 3 (18 : Int32).toNatClampNeg) - 1) &&& 65535) := ⟨_, rfl⟩
  replace hf := zbv_use eσ3 hf
  refine z_iast hC hI 3 2 (wM_e3 ad cy σ2) (tM_t3 cy) q ((wM_s3 ad cy σ2 _ _).trans (congrArg (wM ad cy) eσ3.symm)) dX12_push_52 (fun H locs hI => ?_)
  refine lv_aload_n hx hb dX12_push_53 rfl (lv_at hl 0 rfl) ?_
  refine lv_aload_n hx hb dX12_push_54 rfl (lv_at hl 0 rfl) ?_
  refine z_get hC hI hinX12_push_X120 0 (wM_e0 ad cy σ3) rfl 10 (by decide) (List.mem_cons_of_mem _ zw9_7) rfl dX12_push_55 ?_
  refine lv_bipush (v := 18) hx hb dX12_push_58 (by decide) ?_
  obtain ⟨q, hf⟩ := zck_use hf
  refine z_iald hC hI 3 2 (wM_e3 ad cy σ3) (tM_t3 cy) q dX12_push_60 ?_
  refine lv_iload_n hx hb dX12_push_61 rfl (lv_at hl 1 rfl) ?_
  obtain ⟨σ4, g4, hf⟩ := zbu_use hf
  refine z_callVu (As := [.int (zgi σ3 3 (18 : Int32).toNatClampNeg), .int x1]) (rest := []) hC hI (cX12_write_met st l D ad cy σ3 (zgi σ3 3 (18 : Int32).toNatClampNeg) x1 _ g4) (zgV zw48_5 zw48_6 zw48_7 zw1_5 zw48_8) rfl ⟨rfl, rfl⟩ 2 hdX12_write ⟨Nat.le_of_ble_eq_true rfl, Nat.le_of_ble_eq_true rfl⟩ rfl rfl (wM_e0 ad cy σ3) rfl hl rfl (Nat.le_of_ble_eq_true rfl) dX12_push_62 ⟨Nat.zero_le _, Nat.zero_le _⟩ (fun H locs hI => ?_)
  exact z_return hC hI hf dX12_push_65
set_option maxRecDepth 20000 in
theorem cX12_push_met (st : Nat → Nat) (l : Launch) (D : va_G) (ad : Nat → Nat) (cy : Nat → ClassId) (σ : zSt) (x1 : Int32) (res : zSt) (hf : fX12_push σ x1 = some res) (sz : Nat) : zMu st l yX12_push wzX12_push rmX12_push [.ref (ad 0), .int x1] D (tM cy) (wM ad cy) sz σ res :=
  zMu.of (cc := cX12_push) (maxL := 2) (ret := none) (by decide) rfl (Nat.le_of_ble_eq_true rfl) (fun p e s m args below meth c hC A hI ls hl => bX12_push hC hI hl hf)
theorem hdX12_push : yX12_push.cls = RX12 ∧ yX12_push.cls ≠ "java/lang/invoke/MethodHandle" ∧ yX12_push.cls ≠ "java/lang/invoke/VarHandle" ∧ (parseMethodDescriptor yX12_push.desc).map (fun d => d.parameters.length) = some 1 := by decide +kernel
noncomputable def rmX12_pop : Room := { frames := 2, cells := 0, slots := 0, locals := 44 }
noncomputable def wzX12_pop : List Cond := .code yX12_pop cX12_pop 2 (some .int) :: wsL_law
theorem hinX12_pop_X120 : ∀ w ∈ wsX120, w ∈ wzX12_pop := fun w h => List.mem_cons_of_mem _ (inlX12 w h)
noncomputable def fX12_pop  (σ : zSt)  : Option (zSt × Int32) :=
  zck (zin 18 1048) (
  zbi (fX12_read σ (zgi σ 3 (18 : Int32).toNatClampNeg)) (fun σ1 v2 =>
  zck (zin 18 1048) (
  zck (zin 18 1048) (zbv (zsi σ1 3 ((18 : Int32).toNatClampNeg) (((zgi σ1 3 (18 : Int32).toNatClampNeg) + 1) &&& 65535)) (fun σ3 =>
  zck (zin 18 1048) (
  zbi (fX12_read σ3 (zgi σ3 3 (18 : Int32).toNatClampNeg)) (fun σ4 v5 =>
  zbv (v2 ||| (v5 <<< ((8 : Int32) &&& 31))) (fun v6 =>
  zck (zin 18 1048) (
  zck (zin 18 1048) (zbv (zsi σ4 3 ((18 : Int32).toNatClampNeg) (((zgi σ4 3 (18 : Int32).toNatClampNeg) + 1) &&& 65535)) (fun σ7 =>
  some (σ7, v6))))))))))))
set_option maxRecDepth 20000 in
set_option maxHeartbeats 4000000 in
theorem bX12_pop {st : Nat → Nat} {p : Program} {l : Launch} {e : Env} {s : State} {m : MethodId} {args : Array Value} {below : List Frame} {meth : Method} {c : Code} {D : va_G} {A : Nat → Prop} {ad : Nat → Nat} {cy : Nat → ClassId} (hC : zC p m c cX12_pop 2 s args wzX12_pop RX12 meth (some .int))  {res : zSt × Int32} {H : Heap} {locs : List Loc} {σ : zSt} {ls : Array Slot}  (hI : zI st D (tM cy) (wM ad cy σ) A s H locs) (hl : lv_has ls 2 [(0, .ref (ad 0))]) (hf : fX12_pop  σ  = some res) : W p l e rmX12_pop s m args below meth c H locs 0 0 (zQi below args s D (tM cy) (wM ad cy) A res) (F0 m 0 ls []) := by
  have hx := hC.1
  have hb := hC.2.1
  unfold fX12_pop at hf
  refine lv_aload_n hx hb dX12_pop_0 rfl (lv_at hl 0 rfl) ?_
  refine lv_aload_n hx hb dX12_pop_1 rfl (lv_at hl 0 rfl) ?_
  refine z_get hC hI hinX12_pop_X120 0 (wM_e0 ad cy σ) rfl 10 (by decide) (List.mem_cons_of_mem _ zw9_7) rfl dX12_pop_2 ?_
  refine lv_bipush (v := 18) hx hb dX12_pop_5 (by decide) ?_
  obtain ⟨q, hf⟩ := zck_use hf
  refine z_iald hC hI 3 2 (wM_e3 ad cy σ) (tM_t3 cy) q dX12_pop_7 ?_
  obtain ⟨σ1, v2, g1, hf⟩ := zbi_use hf
  refine z_callVi (As := [.int (zgi σ 3 (18 : Int32).toNatClampNeg)]) (rest := []) hC hI (cX12_read_met st l D ad cy σ (zgi σ 3 (18 : Int32).toNatClampNeg) _ g1) (zgV zw49_8 zw49_9 zw49_10 zw1_5 zw49_11) rfl ⟨rfl, rfl⟩ 1 hdX12_read ⟨Nat.le_of_ble_eq_true rfl, Nat.le_of_ble_eq_true rfl⟩ rfl rfl (wM_e0 ad cy σ) rfl hl rfl (Nat.le_of_ble_eq_true rfl) dX12_pop_8 ⟨Nat.zero_le _, Nat.zero_le _⟩ (fun H locs hI => ?_)
  refine lv_istore_n (lv' := [(1, .int v2), (0, .ref (ad 0))]) hx hb dX12_pop_11 rfl hl (by decide) rfl (fun ls hl => ?_)
  refine lv_aload_n hx hb dX12_pop_12 rfl (lv_at hl 1 rfl) ?_
  refine z_get hC hI hinX12_pop_X120 0 (wM_e0 ad cy σ1) rfl 10 (by decide) (List.mem_cons_of_mem _ zw9_7) rfl dX12_pop_13 ?_
  refine lv_bipush (v := 18) hx hb dX12_pop_16 (by decide) ?_
  refine lv_aload_n hx hb dX12_pop_18 rfl (lv_at hl 1 rfl) ?_
  refine z_get hC hI hinX12_pop_X120 0 (wM_e0 ad cy σ1) rfl 10 (by decide) (List.mem_cons_of_mem _ zw9_7) rfl dX12_pop_19 ?_
  refine lv_bipush (v := 18) hx hb dX12_pop_22 (by decide) ?_
  obtain ⟨q, hf⟩ := zck_use hf
  refine z_iald hC hI 3 2 (wM_e3 ad cy σ1) (tM_t3 cy) q dX12_pop_24 ?_
  refine lv_iconst (v := 1) hx hb dX12_pop_25 (by decide) ?_
  refine lv_iadd hx hb dX12_pop_26 ?_
  refine lv_ldc (v := 65535) hx hb hC.2.2.2.1 (hC.2.2.2.2.1 _ (List.mem_cons_of_mem _ zw16_11)) dX12_pop_27 ?_
  refine lv_iand hx hb dX12_pop_29 ?_
  obtain ⟨q, hf⟩ := zck_use hf
  obtain ⟨σ3, eσ3⟩ : ∃ z, z = zsi σ1 3 ((18 : Int32).toNatClampNeg) (((zgi σ1 3 (18 : Int32).toNatClampNeg) + 1) &&& 65535) := ⟨_, rfl⟩
  replace hf := zbv_use eσ3 hf
  refine z_iast hC hI 3 2 (wM_e3 ad cy σ1) (tM_t3 cy) q ((wM_s3 ad cy σ1 _ _).trans (congrArg (wM ad cy) eσ3.symm)) dX12_pop_30 (fun H locs hI => ?_)
  refine lv_iload_n hx hb dX12_pop_31 rfl (lv_at hl 0 rfl) ?_
  refine lv_aload_n hx hb dX12_pop_32 rfl (lv_at hl 1 rfl) ?_
  refine lv_aload_n hx hb dX12_pop_33 rfl (lv_at hl 1 rfl) ?_
  refine z_get hC hI hinX12_pop_X120 0 (wM_e0 ad cy σ3) rfl 10 (by decide) (List.mem_cons_of_mem _ zw9_7) rfl dX12_pop_34 ?_
  refine lv_bipush (v := 18) hx hb dX12_pop_37 (by decide) ?_
  obtain ⟨q, hf⟩ := zck_use hf
  refine z_iald hC hI 3 2 (wM_e3 ad cy σ3) (tM_t3 cy) q dX12_pop_39 ?_
  obtain ⟨σ4, v5, g4, hf⟩ := zbi_use hf
  refine z_callVi (As := [.int (zgi σ3 3 (18 : Int32).toNatClampNeg)]) (rest := [.int v2]) hC hI (cX12_read_met st l D ad cy σ3 (zgi σ3 3 (18 : Int32).toNatClampNeg) _ g4) (zgV zw49_8 zw49_9 zw49_10 zw1_5 zw49_11) rfl ⟨rfl, rfl⟩ 1 hdX12_read ⟨Nat.le_of_ble_eq_true rfl, Nat.le_of_ble_eq_true rfl⟩ rfl rfl (wM_e0 ad cy σ3) rfl hl rfl (Nat.le_of_ble_eq_true rfl) dX12_pop_40 ⟨Nat.zero_le _, Nat.zero_le _⟩ (fun H locs hI => ?_)
  refine lv_bipush (v := 8) hx hb dX12_pop_43 (by decide) ?_
  refine lv_ishl hx hb dX12_pop_45 ?_
  refine lv_ior hx hb dX12_pop_46 ?_
  refine lv_topi (fun v6 ev6 => ?_)
  replace hf := zbv_use ev6 hf
  refine lv_istore_n (lv' := [(1, .int v6), (0, .ref (ad 0))]) hx hb dX12_pop_47 rfl hl (by decide) rfl (fun ls hl => ?_)
  refine lv_aload_n hx hb dX12_pop_48 rfl (lv_at hl 1 rfl) ?_
  refine z_get hC hI hinX12_pop_X120 0 (wM_e0 ad cy σ4) rfl 10 (by decide) (List.mem_cons_of_mem _ zw9_7) rfl dX12_pop_49 ?_
  refine lv_bipush (v := 18) hx hb dX12_pop_52 (by decide) ?_
  refine lv_aload_n hx hb dX12_pop_54 rfl (lv_at hl 1 rfl) ?_
  refine z_get hC hI hinX12_pop_X120 0 (wM_e0 ad cy σ4) rfl 10 (by decide) (List.mem_cons_of_mem _ zw9_7) rfl dX12_pop_55 ?_
  refine lv_bipush (v := 18) hx hb dX12_pop_58 (by decide) ?_
  obtain ⟨q, hf⟩ := zck_use hf
  refine z_iald hC hI 3 2 (wM_e3 ad cy σ4) (tM_t3 cy) q dX12_pop_60 ?_
  refine lv_iconst (v := 1) hx hb dX12_pop_61 (by decide) ?_
  refine lv_iadd hx hb dX12_pop_62 ?_
  refine lv_ldc (v := 65535) hx hb hC.2.2.2.1 (hC.2.2.2.2.1 _ (List.mem_cons_of_mem _ zw16_11)) dX12_pop_63 ?_
  refine lv_iand hx hb dX12_pop_65 ?_
  obtain ⟨q, hf⟩ := zck_use hf
  obtain ⟨σ7, eσ7⟩ : ∃ z, z = zsi σ4 3 ((18 : Int32).toNatClampNeg) (((zgi σ4 3 (18 : Int32).toNatClampNeg) + 1) &&& 65535) := ⟨_, rfl⟩
  replace hf := zbv_use eσ7 hf
  refine z_iast hC hI 3 2 (wM_e3 ad cy σ4) (tM_t3 cy) q ((wM_s3 ad cy σ4 _ _).trans (congrArg (wM ad cy) eσ7.symm)) dX12_pop_66 (fun H locs hI => ?_)
  refine lv_iload_n hx hb dX12_pop_67 rfl (lv_at hl 0 rfl) ?_
  exact z_ireturn hC hI hf dX12_pop_68
set_option maxRecDepth 20000 in
theorem cX12_pop_met (st : Nat → Nat) (l : Launch) (D : va_G) (ad : Nat → Nat) (cy : Nat → ClassId) (σ : zSt)  (res : zSt × Int32) (hf : fX12_pop σ  = some res) (sz : Nat) : zMi st l yX12_pop wzX12_pop rmX12_pop [.ref (ad 0)] D (tM cy) (wM ad cy) sz σ res :=
  zMi.of (cc := cX12_pop) (maxL := 2) (ret := (some .int)) (by decide) rfl (Nat.le_of_ble_eq_true rfl) (fun p e s m args below meth c hC A hI ls hl => bX12_pop hC hI hl hf)
theorem hdX12_pop : yX12_pop.cls = RX12 ∧ yX12_pop.cls ≠ "java/lang/invoke/MethodHandle" ∧ yX12_pop.cls ≠ "java/lang/invoke/VarHandle" ∧ (parseMethodDescriptor yX12_pop.desc).map (fun d => d.parameters.length) = some 0 := by decide +kernel
noncomputable def rmX12_grows : Room := { frames := 0, cells := 0, slots := 0, locals := 0 }
noncomputable def wzX12_grows : List Cond := .code yX12_grows cX12_grows 1 none :: wsL_law
theorem hinX12_grows_X120 : ∀ w ∈ wsX120, w ∈ wzX12_grows := fun w h => List.mem_cons_of_mem _ (inlX12 w h)
noncomputable def fX12_grows  (σ : zSt)  : Option (zSt) :=
  zck (zin 22 1048) (
  zck (zin 22 1048) (
  zck (zin 22 1048) (zbv (zsi σ 3 ((22 : Int32).toNatClampNeg) (((zgi σ 3 (22 : Int32).toNatClampNeg) &&& 128) ||| (((zgi σ 3 (22 : Int32).toNatClampNeg) + 1) &&& 127))) (fun σ1 =>
  some σ1))))
set_option maxRecDepth 20000 in
set_option maxHeartbeats 4000000 in
theorem bX12_grows {st : Nat → Nat} {p : Program} {l : Launch} {e : Env} {s : State} {m : MethodId} {args : Array Value} {below : List Frame} {meth : Method} {c : Code} {D : va_G} {A : Nat → Prop} {ad : Nat → Nat} {cy : Nat → ClassId} (hC : zC p m c cX12_grows 1 s args wzX12_grows RX12 meth none)  {res : zSt} {H : Heap} {locs : List Loc} {σ : zSt} {ls : Array Slot}  (hI : zI st D (tM cy) (wM ad cy σ) A s H locs) (hl : lv_has ls 1 [(0, .ref (ad 0))]) (hf : fX12_grows  σ  = some res) : W p l e rmX12_grows s m args below meth c H locs 0 0 (zQu below args s D (tM cy) (wM ad cy) A res) (F0 m 0 ls []) := by
  have hx := hC.1
  have hb := hC.2.1
  unfold fX12_grows at hf
  refine lv_aload_n hx hb dX12_grows_0 rfl (lv_at hl 0 rfl) ?_
  refine z_get hC hI hinX12_grows_X120 0 (wM_e0 ad cy σ) rfl 10 (by decide) (List.mem_cons_of_mem _ zw9_7) rfl dX12_grows_1 ?_
  refine lv_bipush (v := 22) hx hb dX12_grows_4 (by decide) ?_
  refine lv_aload_n hx hb dX12_grows_6 rfl (lv_at hl 0 rfl) ?_
  refine z_get hC hI hinX12_grows_X120 0 (wM_e0 ad cy σ) rfl 10 (by decide) (List.mem_cons_of_mem _ zw9_7) rfl dX12_grows_7 ?_
  refine lv_bipush (v := 22) hx hb dX12_grows_10 (by decide) ?_
  obtain ⟨q, hf⟩ := zck_use hf
  refine z_iald hC hI 3 2 (wM_e3 ad cy σ) (tM_t3 cy) q dX12_grows_12 ?_
  refine lv_sipush (v := 128) hx hb dX12_grows_13 (by decide) ?_
  refine lv_iand hx hb dX12_grows_16 ?_
  refine lv_aload_n hx hb dX12_grows_17 rfl (lv_at hl 0 rfl) ?_
  refine z_get hC hI hinX12_grows_X120 0 (wM_e0 ad cy σ) rfl 10 (by decide) (List.mem_cons_of_mem _ zw9_7) rfl dX12_grows_18 ?_
  refine lv_bipush (v := 22) hx hb dX12_grows_21 (by decide) ?_
  obtain ⟨q, hf⟩ := zck_use hf
  refine z_iald hC hI 3 2 (wM_e3 ad cy σ) (tM_t3 cy) q dX12_grows_23 ?_
  refine lv_iconst (v := 1) hx hb dX12_grows_24 (by decide) ?_
  refine lv_iadd hx hb dX12_grows_25 ?_
  refine lv_bipush (v := 127) hx hb dX12_grows_26 (by decide) ?_
  refine lv_iand hx hb dX12_grows_28 ?_
  refine lv_ior hx hb dX12_grows_29 ?_
  obtain ⟨q, hf⟩ := zck_use hf
  obtain ⟨σ1, eσ1⟩ : ∃ z, z = zsi σ 3 ((22 : Int32).toNatClampNeg) (((zgi σ 3 (22 : Int32).toNatClampNeg) &&& 128) ||| (((zgi σ 3 (22 : Int32).toNatClampNeg) + 1) &&& 127)) := ⟨_, rfl⟩
  replace hf := zbv_use eσ1 hf
  refine z_iast hC hI 3 2 (wM_e3 ad cy σ) (tM_t3 cy) q ((wM_s3 ad cy σ _ _).trans (congrArg (wM ad cy) eσ1.symm)) dX12_grows_30 (fun H locs hI => ?_)
  exact z_return hC hI hf dX12_grows_31
set_option maxRecDepth 20000 in
theorem cX12_grows_met (st : Nat → Nat) (l : Launch) (D : va_G) (ad : Nat → Nat) (cy : Nat → ClassId) (σ : zSt)  (res : zSt) (hf : fX12_grows σ  = some res) (sz : Nat) : zMu st l yX12_grows wzX12_grows rmX12_grows [.ref (ad 0)] D (tM cy) (wM ad cy) sz σ res :=
  zMu.of (cc := cX12_grows) (maxL := 1) (ret := none) (by decide) rfl (Nat.le_of_ble_eq_true rfl) (fun p e s m args below meth c hC A hI ls hl => bX12_grows hC hI hl hf)
theorem hdX12_grows : yX12_grows.cls = RX12 ∧ yX12_grows.cls ≠ "java/lang/invoke/MethodHandle" ∧ yX12_grows.cls ≠ "java/lang/invoke/VarHandle" ∧ (parseMethodDescriptor yX12_grows.desc).map (fun d => d.parameters.length) = some 0 := by decide +kernel
noncomputable def rmX12_next : Room := { frames := 2, cells := 0, slots := 0, locals := 44 }
noncomputable def wzX12_next : List Cond := .code yX12_next cX12_next 2 (some .int) :: wsL_law
theorem hinX12_next_X120 : ∀ w ∈ wsX120, w ∈ wzX12_next := fun w h => List.mem_cons_of_mem _ (inlX12 w h)
noncomputable def fX12_next  (σ : zSt)  : Option (zSt × Int32) :=
  zck (zin 19 1048) (
  zbi (fX12_read σ (zgi σ 3 (19 : Int32).toNatClampNeg)) (fun σ1 v2 =>
  zck (zin 19 1048) (
  zck (zin 19 1048) (zbv (zsi σ1 3 ((19 : Int32).toNatClampNeg) (((zgi σ1 3 (19 : Int32).toNatClampNeg) + 1) &&& 65535)) (fun σ3 =>
  some (σ3, v2))))))
set_option maxRecDepth 20000 in
set_option maxHeartbeats 4000000 in
theorem bX12_next {st : Nat → Nat} {p : Program} {l : Launch} {e : Env} {s : State} {m : MethodId} {args : Array Value} {below : List Frame} {meth : Method} {c : Code} {D : va_G} {A : Nat → Prop} {ad : Nat → Nat} {cy : Nat → ClassId} (hC : zC p m c cX12_next 2 s args wzX12_next RX12 meth (some .int))  {res : zSt × Int32} {H : Heap} {locs : List Loc} {σ : zSt} {ls : Array Slot}  (hI : zI st D (tM cy) (wM ad cy σ) A s H locs) (hl : lv_has ls 2 [(0, .ref (ad 0))]) (hf : fX12_next  σ  = some res) : W p l e rmX12_next s m args below meth c H locs 0 0 (zQi below args s D (tM cy) (wM ad cy) A res) (F0 m 0 ls []) := by
  have hx := hC.1
  have hb := hC.2.1
  unfold fX12_next at hf
  refine lv_aload_n hx hb dX12_next_0 rfl (lv_at hl 0 rfl) ?_
  refine lv_aload_n hx hb dX12_next_1 rfl (lv_at hl 0 rfl) ?_
  refine z_get hC hI hinX12_next_X120 0 (wM_e0 ad cy σ) rfl 10 (by decide) (List.mem_cons_of_mem _ zw9_7) rfl dX12_next_2 ?_
  refine lv_bipush (v := 19) hx hb dX12_next_5 (by decide) ?_
  obtain ⟨q, hf⟩ := zck_use hf
  refine z_iald hC hI 3 2 (wM_e3 ad cy σ) (tM_t3 cy) q dX12_next_7 ?_
  obtain ⟨σ1, v2, g1, hf⟩ := zbi_use hf
  refine z_callVi (As := [.int (zgi σ 3 (19 : Int32).toNatClampNeg)]) (rest := []) hC hI (cX12_read_met st l D ad cy σ (zgi σ 3 (19 : Int32).toNatClampNeg) _ g1) (zgV zw49_8 zw49_9 zw49_10 zw1_5 zw49_11) rfl ⟨rfl, rfl⟩ 1 hdX12_read ⟨Nat.le_of_ble_eq_true rfl, Nat.le_of_ble_eq_true rfl⟩ rfl rfl (wM_e0 ad cy σ) rfl hl rfl (Nat.le_of_ble_eq_true rfl) dX12_next_8 ⟨Nat.zero_le _, Nat.zero_le _⟩ (fun H locs hI => ?_)
  refine lv_istore_n (lv' := [(1, .int v2), (0, .ref (ad 0))]) hx hb dX12_next_11 rfl hl (by decide) rfl (fun ls hl => ?_)
  refine lv_aload_n hx hb dX12_next_12 rfl (lv_at hl 1 rfl) ?_
  refine z_get hC hI hinX12_next_X120 0 (wM_e0 ad cy σ1) rfl 10 (by decide) (List.mem_cons_of_mem _ zw9_7) rfl dX12_next_13 ?_
  refine lv_bipush (v := 19) hx hb dX12_next_16 (by decide) ?_
  refine lv_aload_n hx hb dX12_next_18 rfl (lv_at hl 1 rfl) ?_
  refine z_get hC hI hinX12_next_X120 0 (wM_e0 ad cy σ1) rfl 10 (by decide) (List.mem_cons_of_mem _ zw9_7) rfl dX12_next_19 ?_
  refine lv_bipush (v := 19) hx hb dX12_next_22 (by decide) ?_
  obtain ⟨q, hf⟩ := zck_use hf
  refine z_iald hC hI 3 2 (wM_e3 ad cy σ1) (tM_t3 cy) q dX12_next_24 ?_
  refine lv_iconst (v := 1) hx hb dX12_next_25 (by decide) ?_
  refine lv_iadd hx hb dX12_next_26 ?_
  refine lv_ldc (v := 65535) hx hb hC.2.2.2.1 (hC.2.2.2.2.1 _ (List.mem_cons_of_mem _ zw16_11)) dX12_next_27 ?_
  refine lv_iand hx hb dX12_next_29 ?_
  obtain ⟨q, hf⟩ := zck_use hf
  obtain ⟨σ3, eσ3⟩ : ∃ z, z = zsi σ1 3 ((19 : Int32).toNatClampNeg) (((zgi σ1 3 (19 : Int32).toNatClampNeg) + 1) &&& 65535) := ⟨_, rfl⟩
  replace hf := zbv_use eσ3 hf
  refine z_iast hC hI 3 2 (wM_e3 ad cy σ1) (tM_t3 cy) q ((wM_s3 ad cy σ1 _ _).trans (congrArg (wM ad cy) eσ3.symm)) dX12_next_30 (fun H locs hI => ?_)
  refine lv_iload_n hx hb dX12_next_31 rfl (lv_at hl 0 rfl) ?_
  exact z_ireturn hC hI hf dX12_next_32
set_option maxRecDepth 20000 in
theorem cX12_next_met (st : Nat → Nat) (l : Launch) (D : va_G) (ad : Nat → Nat) (cy : Nat → ClassId) (σ : zSt)  (res : zSt × Int32) (hf : fX12_next σ  = some res) (sz : Nat) : zMi st l yX12_next wzX12_next rmX12_next [.ref (ad 0)] D (tM cy) (wM ad cy) sz σ res :=
  zMi.of (cc := cX12_next) (maxL := 2) (ret := (some .int)) (by decide) rfl (Nat.le_of_ble_eq_true rfl) (fun p e s m args below meth c hC A hI ls hl => bX12_next hC hI hl hf)
theorem hdX12_next : yX12_next.cls = RX12 ∧ yX12_next.cls ≠ "java/lang/invoke/MethodHandle" ∧ yX12_next.cls ≠ "java/lang/invoke/VarHandle" ∧ (parseMethodDescriptor yX12_next.desc).map (fun d => d.parameters.length) = some 0 := by decide +kernel
noncomputable def rmX12_fetch : Room := { frames := 3, cells := 0, slots := 0, locals := 65 }
noncomputable def wzX12_fetch : List Cond := .code yX12_fetch cX12_fetch 2 (some .int) :: wsL_law
noncomputable def fX12_fetch  (σ : zSt)  : Option (zSt × Int32) :=
  zbi (fX12_next σ ) (fun σ1 v2 =>
  zbu (fX12_grows σ1 ) (fun σ3 =>
  some (σ3, v2)))
set_option maxRecDepth 20000 in
set_option maxHeartbeats 4000000 in
theorem bX12_fetch {st : Nat → Nat} {p : Program} {l : Launch} {e : Env} {s : State} {m : MethodId} {args : Array Value} {below : List Frame} {meth : Method} {c : Code} {D : va_G} {A : Nat → Prop} {ad : Nat → Nat} {cy : Nat → ClassId} (hC : zC p m c cX12_fetch 2 s args wzX12_fetch RX12 meth (some .int))  {res : zSt × Int32} {H : Heap} {locs : List Loc} {σ : zSt} {ls : Array Slot}  (hI : zI st D (tM cy) (wM ad cy σ) A s H locs) (hl : lv_has ls 2 [(0, .ref (ad 0))]) (hf : fX12_fetch  σ  = some res) : W p l e rmX12_fetch s m args below meth c H locs 0 0 (zQi below args s D (tM cy) (wM ad cy) A res) (F0 m 0 ls []) := by
  have hx := hC.1
  have hb := hC.2.1
  unfold fX12_fetch at hf
  refine lv_aload_n hx hb dX12_fetch_0 rfl (lv_at hl 0 rfl) ?_
  obtain ⟨σ1, v2, g1, hf⟩ := zbi_use hf
  refine z_callVi (As := []) (rest := []) hC hI (cX12_next_met st l D ad cy σ  _ g1) (zgV zw50_2 zw50_3 zw50_4 zw1_5 zw50_5) rfl ⟨rfl, rfl⟩ 0 hdX12_next ⟨Nat.le_of_ble_eq_true rfl, Nat.le_of_ble_eq_true rfl⟩ rfl rfl (wM_e0 ad cy σ) rfl hl rfl (Nat.le_of_ble_eq_true rfl) dX12_fetch_1 ⟨Nat.zero_le _, Nat.zero_le _⟩ (fun H locs hI => ?_)
  refine lv_istore_n (lv' := [(1, .int v2), (0, .ref (ad 0))]) hx hb dX12_fetch_4 rfl hl (by decide) rfl (fun ls hl => ?_)
  refine lv_aload_n hx hb dX12_fetch_5 rfl (lv_at hl 1 rfl) ?_
  obtain ⟨σ3, g3, hf⟩ := zbu_use hf
  refine z_callVu (As := []) (rest := []) hC hI (cX12_grows_met st l D ad cy σ1  _ g3) (zgV zw47_17 zw47_18 zw47_19 zw1_5 zw47_20) rfl ⟨rfl, rfl⟩ 0 hdX12_grows ⟨Nat.le_of_ble_eq_true rfl, Nat.le_of_ble_eq_true rfl⟩ rfl rfl (wM_e0 ad cy σ1) rfl hl rfl (Nat.le_of_ble_eq_true rfl) dX12_fetch_6 ⟨Nat.zero_le _, Nat.zero_le _⟩ (fun H locs hI => ?_)
  refine lv_iload_n hx hb dX12_fetch_9 rfl (lv_at hl 0 rfl) ?_
  exact z_ireturn hC hI hf dX12_fetch_10
set_option maxRecDepth 20000 in
theorem cX12_fetch_met (st : Nat → Nat) (l : Launch) (D : va_G) (ad : Nat → Nat) (cy : Nat → ClassId) (σ : zSt)  (res : zSt × Int32) (hf : fX12_fetch σ  = some res) (sz : Nat) : zMi st l yX12_fetch wzX12_fetch rmX12_fetch [.ref (ad 0)] D (tM cy) (wM ad cy) sz σ res :=
  zMi.of (cc := cX12_fetch) (maxL := 2) (ret := (some .int)) (by decide) rfl (Nat.le_of_ble_eq_true rfl) (fun p e s m args below meth c hC A hI ls hl => bX12_fetch hC hI hl hf)
theorem hdX12_fetch : yX12_fetch.cls = RX12 ∧ yX12_fetch.cls ≠ "java/lang/invoke/MethodHandle" ∧ yX12_fetch.cls ≠ "java/lang/invoke/VarHandle" ∧ (parseMethodDescriptor yX12_fetch.desc).map (fun d => d.parameters.length) = some 0 := by decide +kernel
noncomputable def rmX12_nextWord : Room := { frames := 3, cells := 0, slots := 0, locals := 65 }
noncomputable def wzX12_nextWord : List Cond := .code yX12_nextWord cX12_nextWord 2 (some .int) :: wsL_law
noncomputable def fX12_nextWord  (σ : zSt)  : Option (zSt × Int32) :=
  zbi (fX12_next σ ) (fun σ1 v2 =>
  zbi (fX12_next σ1 ) (fun σ3 v4 =>
  some (σ3, v2 ||| (v4 <<< ((8 : Int32) &&& 31)))))
set_option maxRecDepth 20000 in
set_option maxHeartbeats 4000000 in
theorem bX12_nextWord {st : Nat → Nat} {p : Program} {l : Launch} {e : Env} {s : State} {m : MethodId} {args : Array Value} {below : List Frame} {meth : Method} {c : Code} {D : va_G} {A : Nat → Prop} {ad : Nat → Nat} {cy : Nat → ClassId} (hC : zC p m c cX12_nextWord 2 s args wzX12_nextWord RX12 meth (some .int))  {res : zSt × Int32} {H : Heap} {locs : List Loc} {σ : zSt} {ls : Array Slot}  (hI : zI st D (tM cy) (wM ad cy σ) A s H locs) (hl : lv_has ls 2 [(0, .ref (ad 0))]) (hf : fX12_nextWord  σ  = some res) : W p l e rmX12_nextWord s m args below meth c H locs 0 0 (zQi below args s D (tM cy) (wM ad cy) A res) (F0 m 0 ls []) := by
  have hx := hC.1
  have hb := hC.2.1
  unfold fX12_nextWord at hf
  refine lv_aload_n hx hb dX12_nextWord_0 rfl (lv_at hl 0 rfl) ?_
  obtain ⟨σ1, v2, g1, hf⟩ := zbi_use hf
  refine z_callVi (As := []) (rest := []) hC hI (cX12_next_met st l D ad cy σ  _ g1) (zgV zw50_2 zw50_3 zw50_4 zw1_5 zw50_5) rfl ⟨rfl, rfl⟩ 0 hdX12_next ⟨Nat.le_of_ble_eq_true rfl, Nat.le_of_ble_eq_true rfl⟩ rfl rfl (wM_e0 ad cy σ) rfl hl rfl (Nat.le_of_ble_eq_true rfl) dX12_nextWord_1 ⟨Nat.zero_le _, Nat.zero_le _⟩ (fun H locs hI => ?_)
  refine lv_istore_n (lv' := [(1, .int v2), (0, .ref (ad 0))]) hx hb dX12_nextWord_4 rfl hl (by decide) rfl (fun ls hl => ?_)
  refine lv_iload_n hx hb dX12_nextWord_5 rfl (lv_at hl 0 rfl) ?_
  refine lv_aload_n hx hb dX12_nextWord_6 rfl (lv_at hl 1 rfl) ?_
  obtain ⟨σ3, v4, g3, hf⟩ := zbi_use hf
  refine z_callVi (As := []) (rest := [.int v2]) hC hI (cX12_next_met st l D ad cy σ1  _ g3) (zgV zw50_2 zw50_3 zw50_4 zw1_5 zw50_5) rfl ⟨rfl, rfl⟩ 0 hdX12_next ⟨Nat.le_of_ble_eq_true rfl, Nat.le_of_ble_eq_true rfl⟩ rfl rfl (wM_e0 ad cy σ1) rfl hl rfl (Nat.le_of_ble_eq_true rfl) dX12_nextWord_7 ⟨Nat.zero_le _, Nat.zero_le _⟩ (fun H locs hI => ?_)
  refine lv_bipush (v := 8) hx hb dX12_nextWord_10 (by decide) ?_
  refine lv_ishl hx hb dX12_nextWord_12 ?_
  refine lv_ior hx hb dX12_nextWord_13 ?_
  exact z_ireturn hC hI hf dX12_nextWord_14
set_option maxRecDepth 20000 in
theorem cX12_nextWord_met (st : Nat → Nat) (l : Launch) (D : va_G) (ad : Nat → Nat) (cy : Nat → ClassId) (σ : zSt)  (res : zSt × Int32) (hf : fX12_nextWord σ  = some res) (sz : Nat) : zMi st l yX12_nextWord wzX12_nextWord rmX12_nextWord [.ref (ad 0)] D (tM cy) (wM ad cy) sz σ res :=
  zMi.of (cc := cX12_nextWord) (maxL := 2) (ret := (some .int)) (by decide) rfl (Nat.le_of_ble_eq_true rfl) (fun p e s m args below meth c hC A hI ls hl => bX12_nextWord hC hI hl hf)
theorem hdX12_nextWord : yX12_nextWord.cls = RX12 ∧ yX12_nextWord.cls ≠ "java/lang/invoke/MethodHandle" ∧ yX12_nextWord.cls ≠ "java/lang/invoke/VarHandle" ∧ (parseMethodDescriptor yX12_nextWord.desc).map (fun d => d.parameters.length) = some 0 := by decide +kernel
noncomputable def rmX12_signed : Room := { frames := 0, cells := 0, slots := 0, locals := 0 }
noncomputable def wzX12_signed : List Cond := .code yX12_signed cX12_signed 1 (some .int) :: wsL_law
noncomputable def fX12_signed_16  (σ : zSt) (s0 : Int32) : Option (zSt × Int32) :=
  some (σ, s0)
noncomputable def fX12_signed  (σ : zSt) (x0 : Int32) : Option (zSt × Int32) :=
  if 128 ≤ x0 then fX12_signed_16 σ (x0 - 256) else
  fX12_signed_16 σ x0
set_option maxRecDepth 20000 in
set_option maxHeartbeats 4000000 in
theorem bX12_signed_16 {st : Nat → Nat} {p : Program} {l : Launch} {e : Env} {s : State} {m : MethodId} {args : Array Value} {below : List Frame} {meth : Method} {c : Code} {D : va_G} {A : Nat → Prop} {ad : Nat → Nat} {cy : Nat → ClassId} (hC : zC p m c cX12_signed 1 s args wzX12_signed RX12 meth (some .int))  {res : zSt × Int32} {H : Heap} {locs : List Loc} {σ : zSt} {ls : Array Slot} {s0 : Int32} (hI : zI st D (tM cy) (wM ad cy σ) A s H locs) (hl : lv_has ls 1 []) (hf : fX12_signed_16  σ s0 = some res) : W p l e rmX12_signed s m args below meth c H locs 0 0 (zQi below args s D (tM cy) (wM ad cy) A res) (F0 m 16 ls [.int s0]) := by
  have hx := hC.1
  have hb := hC.2.1
  unfold fX12_signed_16 at hf
  exact z_ireturn hC hI hf dX12_signed_16
set_option maxRecDepth 20000 in
set_option maxHeartbeats 4000000 in
theorem bX12_signed {st : Nat → Nat} {p : Program} {l : Launch} {e : Env} {s : State} {m : MethodId} {args : Array Value} {below : List Frame} {meth : Method} {c : Code} {D : va_G} {A : Nat → Prop} {ad : Nat → Nat} {cy : Nat → ClassId} (hC : zC p m c cX12_signed 1 s args wzX12_signed RX12 meth (some .int))  {res : zSt × Int32} {H : Heap} {locs : List Loc} {σ : zSt} {ls : Array Slot} {x0 : Int32} (hI : zI st D (tM cy) (wM ad cy σ) A s H locs) (hl : lv_has ls 1 [(0, .int x0)]) (hf : fX12_signed  σ x0 = some res) : W p l e rmX12_signed s m args below meth c H locs 0 0 (zQi below args s D (tM cy) (wM ad cy) A res) (F0 m 0 ls []) := by
  have hx := hC.1
  have hb := hC.2.1
  unfold fX12_signed at hf
  refine lv_iload_n hx hb dX12_signed_0 rfl (lv_at hl 0 rfl) ?_
  refine lv_sipush (v := 128) hx hb dX12_signed_1 (by decide) ?_
  refine lv_icmp_ge (tgt := 11) hx hb dX12_signed_4 (by decide) (fun q => ?_) (fun q => ?_)
  · replace hf := zif_t q hf
    refine lv_iload_n hx hb dX12_signed_11 rfl (lv_at hl 0 rfl) ?_
    refine lv_sipush (v := 256) hx hb dX12_signed_12 (by decide) ?_
    refine lv_isub hx hb dX12_signed_15 ?_
    exact bX12_signed_16 hC  hI (lv_sub hl [] rfl) hf
  replace hf := zif_f q hf
  refine lv_iload_n hx hb dX12_signed_7 rfl (lv_at hl 0 rfl) ?_
  refine lv_goto (tgt := 16) hx hb dX12_signed_8 (by decide) ?_
  exact bX12_signed_16 hC  hI (lv_sub hl [] rfl) hf
set_option maxRecDepth 20000 in
theorem cX12_signed_met (st : Nat → Nat) (l : Launch) (D : va_G) (ad : Nat → Nat) (cy : Nat → ClassId) (σ : zSt) (x0 : Int32) (res : zSt × Int32) (hf : fX12_signed σ x0 = some res) (sz : Nat) : zMi st l yX12_signed wzX12_signed rmX12_signed [.int x0] D (tM cy) (wM ad cy) sz σ res :=
  zMi.of (cc := cX12_signed) (maxL := 1) (ret := (some .int)) (by decide) rfl (Nat.le_of_ble_eq_true rfl) (fun p e s m args below meth c hC A hI ls hl => bX12_signed hC hI hl hf)
theorem hdX12_signed : yX12_signed.cls ≠ "java/lang/invoke/MethodHandle" ∧ yX12_signed.cls ≠ "java/lang/invoke/VarHandle" ∧ (parseMethodDescriptor yX12_signed.desc).map (fun d => d.parameters.length) = some 1 := by decide +kernel
noncomputable def rmX12_call : Room := { frames := 3, cells := 0, slots := 0, locals := 66 }
noncomputable def wzX12_call : List Cond := .code yX12_call cX12_call 2 none :: wsL_law
theorem hinX12_call_X120 : ∀ w ∈ wsX120, w ∈ wzX12_call := fun w h => List.mem_cons_of_mem _ (inlX12 w h)
noncomputable def fX12_call  (σ : zSt) (x1 : Int32) : Option (zSt) :=
  zck (zin 19 1048) (
  zbu (fX12_push σ (zgi σ 3 (19 : Int32).toNatClampNeg)) (fun σ1 =>
  zck (zin 19 1048) (zbv (zsi σ1 3 ((19 : Int32).toNatClampNeg) x1) (fun σ2 =>
  zck (zin 20 1048) (zbv (zsi σ2 3 ((20 : Int32).toNatClampNeg) x1) (fun σ3 =>
  some σ3))))))
set_option maxRecDepth 20000 in
set_option maxHeartbeats 4000000 in
theorem bX12_call {st : Nat → Nat} {p : Program} {l : Launch} {e : Env} {s : State} {m : MethodId} {args : Array Value} {below : List Frame} {meth : Method} {c : Code} {D : va_G} {A : Nat → Prop} {ad : Nat → Nat} {cy : Nat → ClassId} (hC : zC p m c cX12_call 2 s args wzX12_call RX12 meth none)  {res : zSt} {H : Heap} {locs : List Loc} {σ : zSt} {ls : Array Slot} {x1 : Int32} (hI : zI st D (tM cy) (wM ad cy σ) A s H locs) (hl : lv_has ls 2 [(0, .ref (ad 0)), (1, .int x1)]) (hf : fX12_call  σ x1 = some res) : W p l e rmX12_call s m args below meth c H locs 0 0 (zQu below args s D (tM cy) (wM ad cy) A res) (F0 m 0 ls []) := by
  have hx := hC.1
  have hb := hC.2.1
  unfold fX12_call at hf
  refine lv_aload_n hx hb dX12_call_0 rfl (lv_at hl 0 rfl) ?_
  refine lv_aload_n hx hb dX12_call_1 rfl (lv_at hl 0 rfl) ?_
  refine z_get hC hI hinX12_call_X120 0 (wM_e0 ad cy σ) rfl 10 (by decide) (List.mem_cons_of_mem _ zw9_7) rfl dX12_call_2 ?_
  refine lv_bipush (v := 19) hx hb dX12_call_5 (by decide) ?_
  obtain ⟨q, hf⟩ := zck_use hf
  refine z_iald hC hI 3 2 (wM_e3 ad cy σ) (tM_t3 cy) q dX12_call_7 ?_
  obtain ⟨σ1, g1, hf⟩ := zbu_use hf
  refine z_callVu (As := [.int (zgi σ 3 (19 : Int32).toNatClampNeg)]) (rest := []) hC hI (cX12_push_met st l D ad cy σ (zgi σ 3 (19 : Int32).toNatClampNeg) _ g1) (zgV zw48_1 zw48_2 zw48_3 zw1_5 zw48_4) rfl ⟨rfl, rfl⟩ 1 hdX12_push ⟨Nat.le_of_ble_eq_true rfl, Nat.le_of_ble_eq_true rfl⟩ rfl rfl (wM_e0 ad cy σ) rfl hl rfl (Nat.le_of_ble_eq_true rfl) dX12_call_8 ⟨Nat.zero_le _, Nat.zero_le _⟩ (fun H locs hI => ?_)
  refine lv_aload_n hx hb dX12_call_11 rfl (lv_at hl 0 rfl) ?_
  refine z_get hC hI hinX12_call_X120 0 (wM_e0 ad cy σ1) rfl 10 (by decide) (List.mem_cons_of_mem _ zw9_7) rfl dX12_call_12 ?_
  refine lv_bipush (v := 19) hx hb dX12_call_15 (by decide) ?_
  refine lv_iload_n hx hb dX12_call_17 rfl (lv_at hl 1 rfl) ?_
  obtain ⟨q, hf⟩ := zck_use hf
  obtain ⟨σ2, eσ2⟩ : ∃ z, z = zsi σ1 3 ((19 : Int32).toNatClampNeg) x1 := ⟨_, rfl⟩
  replace hf := zbv_use eσ2 hf
  refine z_iast hC hI 3 2 (wM_e3 ad cy σ1) (tM_t3 cy) q ((wM_s3 ad cy σ1 _ _).trans (congrArg (wM ad cy) eσ2.symm)) dX12_call_18 (fun H locs hI => ?_)
  refine lv_aload_n hx hb dX12_call_19 rfl (lv_at hl 0 rfl) ?_
  refine z_get hC hI hinX12_call_X120 0 (wM_e0 ad cy σ2) rfl 10 (by decide) (List.mem_cons_of_mem _ zw9_7) rfl dX12_call_20 ?_
  refine lv_bipush (v := 20) hx hb dX12_call_23 (by decide) ?_
  refine lv_iload_n hx hb dX12_call_25 rfl (lv_at hl 1 rfl) ?_
  obtain ⟨q, hf⟩ := zck_use hf
  obtain ⟨σ3, eσ3⟩ : ∃ z, z = zsi σ2 3 ((20 : Int32).toNatClampNeg) x1 := ⟨_, rfl⟩
  replace hf := zbv_use eσ3 hf
  refine z_iast hC hI 3 2 (wM_e3 ad cy σ2) (tM_t3 cy) q ((wM_s3 ad cy σ2 _ _).trans (congrArg (wM ad cy) eσ3.symm)) dX12_call_26 (fun H locs hI => ?_)
  exact z_return hC hI hf dX12_call_27
set_option maxRecDepth 20000 in
theorem cX12_call_met (st : Nat → Nat) (l : Launch) (D : va_G) (ad : Nat → Nat) (cy : Nat → ClassId) (σ : zSt) (x1 : Int32) (res : zSt) (hf : fX12_call σ x1 = some res) (sz : Nat) : zMu st l yX12_call wzX12_call rmX12_call [.ref (ad 0), .int x1] D (tM cy) (wM ad cy) sz σ res :=
  zMu.of (cc := cX12_call) (maxL := 2) (ret := none) (by decide) rfl (Nat.le_of_ble_eq_true rfl) (fun p e s m args below meth c hC A hI ls hl => bX12_call hC hI hl hf)
theorem hdX12_call : yX12_call.cls = RX12 ∧ yX12_call.cls ≠ "java/lang/invoke/MethodHandle" ∧ yX12_call.cls ≠ "java/lang/invoke/VarHandle" ∧ (parseMethodDescriptor yX12_call.desc).map (fun d => d.parameters.length) = some 1 := by decide +kernel
noncomputable def rmX12_change : Room := { frames := 0, cells := 0, slots := 0, locals := 0 }
noncomputable def wzX12_change : List Cond := .code yX12_change cX12_change 4 none :: wsL_law
theorem hinX12_change_X120 : ∀ w ∈ wsX120, w ∈ wzX12_change := fun w h => List.mem_cons_of_mem _ (inlX12 w h)
noncomputable def fX12_change  (σ : zSt) (x1 : Int32) (x2 : Int32) : Option (zSt) :=
  zck (zin x1 1048) (
  zbv (zgi σ 3 x1.toNatClampNeg) (fun v1 =>
  zck (zin x2 1048) (
  zck (zin x1 1048) (zbv (zsi σ 3 (x1.toNatClampNeg) (zgi σ 3 x2.toNatClampNeg)) (fun σ2 =>
  zck (zin x2 1048) (zbv (zsi σ2 3 (x2.toNatClampNeg) v1) (fun σ3 =>
  some σ3)))))))
set_option maxRecDepth 20000 in
set_option maxHeartbeats 4000000 in
theorem bX12_change {st : Nat → Nat} {p : Program} {l : Launch} {e : Env} {s : State} {m : MethodId} {args : Array Value} {below : List Frame} {meth : Method} {c : Code} {D : va_G} {A : Nat → Prop} {ad : Nat → Nat} {cy : Nat → ClassId} (hC : zC p m c cX12_change 4 s args wzX12_change RX12 meth none)  {res : zSt} {H : Heap} {locs : List Loc} {σ : zSt} {ls : Array Slot} {x1 : Int32} {x2 : Int32} (hI : zI st D (tM cy) (wM ad cy σ) A s H locs) (hl : lv_has ls 4 [(0, .ref (ad 0)), (1, .int x1), (2, .int x2)]) (hf : fX12_change  σ x1 x2 = some res) : W p l e rmX12_change s m args below meth c H locs 0 0 (zQu below args s D (tM cy) (wM ad cy) A res) (F0 m 0 ls []) := by
  have hx := hC.1
  have hb := hC.2.1
  unfold fX12_change at hf
  refine lv_aload_n hx hb dX12_change_0 rfl (lv_at hl 0 rfl) ?_
  refine z_get hC hI hinX12_change_X120 0 (wM_e0 ad cy σ) rfl 10 (by decide) (List.mem_cons_of_mem _ zw9_7) rfl dX12_change_1 ?_
  refine lv_iload_n hx hb dX12_change_4 rfl (lv_at hl 1 rfl) ?_
  obtain ⟨q, hf⟩ := zck_use hf
  refine z_iald hC hI 3 2 (wM_e3 ad cy σ) (tM_t3 cy) q dX12_change_5 ?_
  refine lv_topi (fun v1 ev1 => ?_)
  replace hf := zbv_use ev1 hf
  refine lv_istore_n (lv' := [(3, .int v1), (0, .ref (ad 0)), (1, .int x1), (2, .int x2)]) hx hb dX12_change_6 rfl hl (by decide) rfl (fun ls hl => ?_)
  refine lv_aload_n hx hb dX12_change_7 rfl (lv_at hl 1 rfl) ?_
  refine z_get hC hI hinX12_change_X120 0 (wM_e0 ad cy σ) rfl 10 (by decide) (List.mem_cons_of_mem _ zw9_7) rfl dX12_change_8 ?_
  refine lv_iload_n hx hb dX12_change_11 rfl (lv_at hl 2 rfl) ?_
  refine lv_aload_n hx hb dX12_change_12 rfl (lv_at hl 1 rfl) ?_
  refine z_get hC hI hinX12_change_X120 0 (wM_e0 ad cy σ) rfl 10 (by decide) (List.mem_cons_of_mem _ zw9_7) rfl dX12_change_13 ?_
  refine lv_iload_n hx hb dX12_change_16 rfl (lv_at hl 3 rfl) ?_
  obtain ⟨q, hf⟩ := zck_use hf
  refine z_iald hC hI 3 2 (wM_e3 ad cy σ) (tM_t3 cy) q dX12_change_17 ?_
  obtain ⟨q, hf⟩ := zck_use hf
  obtain ⟨σ2, eσ2⟩ : ∃ z, z = zsi σ 3 (x1.toNatClampNeg) (zgi σ 3 x2.toNatClampNeg) := ⟨_, rfl⟩
  replace hf := zbv_use eσ2 hf
  refine z_iast hC hI 3 2 (wM_e3 ad cy σ) (tM_t3 cy) q ((wM_s3 ad cy σ _ _).trans (congrArg (wM ad cy) eσ2.symm)) dX12_change_18 (fun H locs hI => ?_)
  refine lv_aload_n hx hb dX12_change_19 rfl (lv_at hl 1 rfl) ?_
  refine z_get hC hI hinX12_change_X120 0 (wM_e0 ad cy σ2) rfl 10 (by decide) (List.mem_cons_of_mem _ zw9_7) rfl dX12_change_20 ?_
  refine lv_iload_n hx hb dX12_change_23 rfl (lv_at hl 3 rfl) ?_
  refine lv_iload_n hx hb dX12_change_24 rfl (lv_at hl 0 rfl) ?_
  obtain ⟨q, hf⟩ := zck_use hf
  obtain ⟨σ3, eσ3⟩ : ∃ z, z = zsi σ2 3 (x2.toNatClampNeg) v1 := ⟨_, rfl⟩
  replace hf := zbv_use eσ3 hf
  refine z_iast hC hI 3 2 (wM_e3 ad cy σ2) (tM_t3 cy) q ((wM_s3 ad cy σ2 _ _).trans (congrArg (wM ad cy) eσ3.symm)) dX12_change_25 (fun H locs hI => ?_)
  exact z_return hC hI hf dX12_change_26
set_option maxRecDepth 20000 in
theorem cX12_change_met (st : Nat → Nat) (l : Launch) (D : va_G) (ad : Nat → Nat) (cy : Nat → ClassId) (σ : zSt) (x1 : Int32) (x2 : Int32) (res : zSt) (hf : fX12_change σ x1 x2 = some res) (sz : Nat) : zMu st l yX12_change wzX12_change rmX12_change [.ref (ad 0), .int x1, .int x2] D (tM cy) (wM ad cy) sz σ res :=
  zMu.of (cc := cX12_change) (maxL := 4) (ret := none) (by decide) rfl (Nat.le_of_ble_eq_true rfl) (fun p e s m args below meth c hC A hI ls hl => bX12_change hC hI hl hf)
theorem hdX12_change : yX12_change.cls = RX12 ∧ yX12_change.cls ≠ "java/lang/invoke/MethodHandle" ∧ yX12_change.cls ≠ "java/lang/invoke/VarHandle" ∧ (parseMethodDescriptor yX12_change.desc).map (fun d => d.parameters.length) = some 2 := by decide +kernel
noncomputable def rmX12_bit : Room := { frames := 0, cells := 0, slots := 0, locals := 0 }
noncomputable def wzX12_bit : List Cond := .code yX12_bit cX12_bit 3 (some .int) :: wsL_law
theorem hinX12_bit_X120 : ∀ w ∈ wsX120, w ∈ wzX12_bit := fun w h => List.mem_cons_of_mem _ (inlX12 w h)
noncomputable def fX12_bit  (σ : zSt) (x1 : Int32) (x2 : Int32) : Option (zSt × Int32) :=
  zck (zin (47 + x1) 1048) (
  some (σ, ((zgi σ 3 (47 + x1).toNatClampNeg) >>> (x2 &&& 31)) &&& 1))
set_option maxRecDepth 20000 in
set_option maxHeartbeats 4000000 in
theorem bX12_bit {st : Nat → Nat} {p : Program} {l : Launch} {e : Env} {s : State} {m : MethodId} {args : Array Value} {below : List Frame} {meth : Method} {c : Code} {D : va_G} {A : Nat → Prop} {ad : Nat → Nat} {cy : Nat → ClassId} (hC : zC p m c cX12_bit 3 s args wzX12_bit RX12 meth (some .int))  {res : zSt × Int32} {H : Heap} {locs : List Loc} {σ : zSt} {ls : Array Slot} {x1 : Int32} {x2 : Int32} (hI : zI st D (tM cy) (wM ad cy σ) A s H locs) (hl : lv_has ls 3 [(0, .ref (ad 0)), (1, .int x1), (2, .int x2)]) (hf : fX12_bit  σ x1 x2 = some res) : W p l e rmX12_bit s m args below meth c H locs 0 0 (zQi below args s D (tM cy) (wM ad cy) A res) (F0 m 0 ls []) := by
  have hx := hC.1
  have hb := hC.2.1
  unfold fX12_bit at hf
  refine lv_aload_n hx hb dX12_bit_0 rfl (lv_at hl 0 rfl) ?_
  refine z_get hC hI hinX12_bit_X120 0 (wM_e0 ad cy σ) rfl 10 (by decide) (List.mem_cons_of_mem _ zw9_7) rfl dX12_bit_1 ?_
  refine lv_bipush (v := 47) hx hb dX12_bit_4 (by decide) ?_
  refine lv_iload_n hx hb dX12_bit_6 rfl (lv_at hl 1 rfl) ?_
  refine lv_iadd hx hb dX12_bit_7 ?_
  obtain ⟨q, hf⟩ := zck_use hf
  refine z_iald hC hI 3 2 (wM_e3 ad cy σ) (tM_t3 cy) q dX12_bit_8 ?_
  refine lv_iload_n hx hb dX12_bit_9 rfl (lv_at hl 2 rfl) ?_
  refine lv_ishr hx hb dX12_bit_10 ?_
  refine lv_iconst (v := 1) hx hb dX12_bit_11 (by decide) ?_
  refine lv_iand hx hb dX12_bit_12 ?_
  exact z_ireturn hC hI hf dX12_bit_13
set_option maxRecDepth 20000 in
theorem cX12_bit_met (st : Nat → Nat) (l : Launch) (D : va_G) (ad : Nat → Nat) (cy : Nat → ClassId) (σ : zSt) (x1 : Int32) (x2 : Int32) (res : zSt × Int32) (hf : fX12_bit σ x1 x2 = some res) (sz : Nat) : zMi st l yX12_bit wzX12_bit rmX12_bit [.ref (ad 0), .int x1, .int x2] D (tM cy) (wM ad cy) sz σ res :=
  zMi.of (cc := cX12_bit) (maxL := 3) (ret := (some .int)) (by decide) rfl (Nat.le_of_ble_eq_true rfl) (fun p e s m args below meth c hC A hI ls hl => bX12_bit hC hI hl hf)
theorem hdX12_bit : yX12_bit.cls = RX12 ∧ yX12_bit.cls ≠ "java/lang/invoke/MethodHandle" ∧ yX12_bit.cls ≠ "java/lang/invoke/VarHandle" ∧ (parseMethodDescriptor yX12_bit.desc).map (fun d => d.parameters.length) = some 2 := by decide +kernel
noncomputable def rmX12_mode : Room := { frames := 1, cells := 0, slots := 0, locals := 22 }
noncomputable def wzX12_mode : List Cond := .code yX12_mode cX12_mode 1 (some .int) :: wsL_law
noncomputable def fX12_mode_57  (σ : zSt) (s0 : Int32) : Option (zSt × Int32) :=
  some (σ, s0)
noncomputable def fX12_mode  (σ : zSt)  : Option (zSt × Int32) :=
  zbi (fX12_bit σ 0 2) (fun σ1 v2 =>
  if v2 = 1 then fX12_mode_57 σ1 4 else
  zbi (fX12_bit σ1 1 4) (fun σ3 v4 =>
  if v4 = 1 then fX12_mode_57 σ3 1 else
  zbi (fX12_bit σ3 1 3) (fun σ5 v6 =>
  if v6 = 1 then fX12_mode_57 σ5 3 else
  zbi (fX12_bit σ5 0 1) (fun σ7 v8 =>
  if v8 = 1 then fX12_mode_57 σ7 2 else
  fX12_mode_57 σ7 0))))
set_option maxRecDepth 20000 in
set_option maxHeartbeats 4000000 in
theorem bX12_mode_57 {st : Nat → Nat} {p : Program} {l : Launch} {e : Env} {s : State} {m : MethodId} {args : Array Value} {below : List Frame} {meth : Method} {c : Code} {D : va_G} {A : Nat → Prop} {ad : Nat → Nat} {cy : Nat → ClassId} (hC : zC p m c cX12_mode 1 s args wzX12_mode RX12 meth (some .int))  {res : zSt × Int32} {H : Heap} {locs : List Loc} {σ : zSt} {ls : Array Slot} {s0 : Int32} (hI : zI st D (tM cy) (wM ad cy σ) A s H locs) (hl : lv_has ls 1 []) (hf : fX12_mode_57  σ s0 = some res) : W p l e rmX12_mode s m args below meth c H locs 0 0 (zQi below args s D (tM cy) (wM ad cy) A res) (F0 m 57 ls [.int s0]) := by
  have hx := hC.1
  have hb := hC.2.1
  unfold fX12_mode_57 at hf
  exact z_ireturn hC hI hf dX12_mode_57
set_option maxRecDepth 20000 in
set_option maxHeartbeats 4000000 in
theorem bX12_mode {st : Nat → Nat} {p : Program} {l : Launch} {e : Env} {s : State} {m : MethodId} {args : Array Value} {below : List Frame} {meth : Method} {c : Code} {D : va_G} {A : Nat → Prop} {ad : Nat → Nat} {cy : Nat → ClassId} (hC : zC p m c cX12_mode 1 s args wzX12_mode RX12 meth (some .int))  {res : zSt × Int32} {H : Heap} {locs : List Loc} {σ : zSt} {ls : Array Slot}  (hI : zI st D (tM cy) (wM ad cy σ) A s H locs) (hl : lv_has ls 1 [(0, .ref (ad 0))]) (hf : fX12_mode  σ  = some res) : W p l e rmX12_mode s m args below meth c H locs 0 0 (zQi below args s D (tM cy) (wM ad cy) A res) (F0 m 0 ls []) := by
  have hx := hC.1
  have hb := hC.2.1
  unfold fX12_mode at hf
  refine lv_aload_n hx hb dX12_mode_0 rfl (lv_at hl 0 rfl) ?_
  refine lv_iconst (v := 0) hx hb dX12_mode_1 (by decide) ?_
  refine lv_iconst (v := 2) hx hb dX12_mode_2 (by decide) ?_
  obtain ⟨σ1, v2, g1, hf⟩ := zbi_use hf
  refine z_callVi (As := [.int 0, .int 2]) (rest := []) hC hI (cX12_bit_met st l D ad cy σ 0 2 _ g1) (zgV zw49_0 zw49_1 zw49_2 zw1_5 zw49_3) rfl ⟨rfl, rfl⟩ 2 hdX12_bit ⟨Nat.le_of_ble_eq_true rfl, Nat.le_of_ble_eq_true rfl⟩ rfl rfl (wM_e0 ad cy σ) rfl hl rfl (Nat.le_of_ble_eq_true rfl) dX12_mode_3 ⟨Nat.zero_le _, Nat.zero_le _⟩ (fun H locs hI => ?_)
  refine lv_iconst (v := 1) hx hb dX12_mode_6 (by decide) ?_
  refine lv_icmp_ne (tgt := 14) hx hb dX12_mode_7 (by decide) (fun q => ?_) (fun q => ?_)
  · replace hf := zif_f q hf
    refine lv_aload_n hx hb dX12_mode_14 rfl (lv_at hl 0 rfl) ?_
    refine lv_iconst (v := 1) hx hb dX12_mode_15 (by decide) ?_
    refine lv_iconst (v := 4) hx hb dX12_mode_16 (by decide) ?_
    obtain ⟨σ3, v4, g3, hf⟩ := zbi_use hf
    refine z_callVi (As := [.int 1, .int 4]) (rest := []) hC hI (cX12_bit_met st l D ad cy σ1 1 4 _ g3) (zgV zw49_0 zw49_1 zw49_2 zw1_5 zw49_3) rfl ⟨rfl, rfl⟩ 2 hdX12_bit ⟨Nat.le_of_ble_eq_true rfl, Nat.le_of_ble_eq_true rfl⟩ rfl rfl (wM_e0 ad cy σ1) rfl hl rfl (Nat.le_of_ble_eq_true rfl) dX12_mode_17 ⟨Nat.zero_le _, Nat.zero_le _⟩ (fun H locs hI => ?_)
    refine lv_iconst (v := 1) hx hb dX12_mode_20 (by decide) ?_
    refine lv_icmp_ne (tgt := 28) hx hb dX12_mode_21 (by decide) (fun q => ?_) (fun q => ?_)
    · replace hf := zif_f q hf
      refine lv_aload_n hx hb dX12_mode_28 rfl (lv_at hl 0 rfl) ?_
      refine lv_iconst (v := 1) hx hb dX12_mode_29 (by decide) ?_
      refine lv_iconst (v := 3) hx hb dX12_mode_30 (by decide) ?_
      obtain ⟨σ5, v6, g5, hf⟩ := zbi_use hf
      refine z_callVi (As := [.int 1, .int 3]) (rest := []) hC hI (cX12_bit_met st l D ad cy σ3 1 3 _ g5) (zgV zw49_0 zw49_1 zw49_2 zw1_5 zw49_3) rfl ⟨rfl, rfl⟩ 2 hdX12_bit ⟨Nat.le_of_ble_eq_true rfl, Nat.le_of_ble_eq_true rfl⟩ rfl rfl (wM_e0 ad cy σ3) rfl hl rfl (Nat.le_of_ble_eq_true rfl) dX12_mode_31 ⟨Nat.zero_le _, Nat.zero_le _⟩ (fun H locs hI => ?_)
      refine lv_iconst (v := 1) hx hb dX12_mode_34 (by decide) ?_
      refine lv_icmp_ne (tgt := 42) hx hb dX12_mode_35 (by decide) (fun q => ?_) (fun q => ?_)
      · replace hf := zif_f q hf
        refine lv_aload_n hx hb dX12_mode_42 rfl (lv_at hl 0 rfl) ?_
        refine lv_iconst (v := 0) hx hb dX12_mode_43 (by decide) ?_
        refine lv_iconst (v := 1) hx hb dX12_mode_44 (by decide) ?_
        obtain ⟨σ7, v8, g7, hf⟩ := zbi_use hf
        refine z_callVi (As := [.int 0, .int 1]) (rest := []) hC hI (cX12_bit_met st l D ad cy σ5 0 1 _ g7) (zgV zw49_0 zw49_1 zw49_2 zw1_5 zw49_3) rfl ⟨rfl, rfl⟩ 2 hdX12_bit ⟨Nat.le_of_ble_eq_true rfl, Nat.le_of_ble_eq_true rfl⟩ rfl rfl (wM_e0 ad cy σ5) rfl hl rfl (Nat.le_of_ble_eq_true rfl) dX12_mode_45 ⟨Nat.zero_le _, Nat.zero_le _⟩ (fun H locs hI => ?_)
        refine lv_iconst (v := 1) hx hb dX12_mode_48 (by decide) ?_
        refine lv_icmp_ne (tgt := 56) hx hb dX12_mode_49 (by decide) (fun q => ?_) (fun q => ?_)
        · replace hf := zif_f q hf
          refine lv_iconst (v := 0) hx hb dX12_mode_56 (by decide) ?_
          exact bX12_mode_57 hC  hI (lv_sub hl [] rfl) hf
        replace hf := zif_t q hf
        refine lv_iconst (v := 2) hx hb dX12_mode_52 (by decide) ?_
        refine lv_goto (tgt := 57) hx hb dX12_mode_53 (by decide) ?_
        exact bX12_mode_57 hC  hI (lv_sub hl [] rfl) hf
      replace hf := zif_t q hf
      refine lv_iconst (v := 3) hx hb dX12_mode_38 (by decide) ?_
      refine lv_goto (tgt := 57) hx hb dX12_mode_39 (by decide) ?_
      exact bX12_mode_57 hC  hI (lv_sub hl [] rfl) hf
    replace hf := zif_t q hf
    refine lv_iconst (v := 1) hx hb dX12_mode_24 (by decide) ?_
    refine lv_goto (tgt := 57) hx hb dX12_mode_25 (by decide) ?_
    exact bX12_mode_57 hC  hI (lv_sub hl [] rfl) hf
  replace hf := zif_t q hf
  refine lv_iconst (v := 4) hx hb dX12_mode_10 (by decide) ?_
  refine lv_goto (tgt := 57) hx hb dX12_mode_11 (by decide) ?_
  exact bX12_mode_57 hC  hI (lv_sub hl [] rfl) hf
set_option maxRecDepth 20000 in
theorem cX12_mode_met (st : Nat → Nat) (l : Launch) (D : va_G) (ad : Nat → Nat) (cy : Nat → ClassId) (σ : zSt)  (res : zSt × Int32) (hf : fX12_mode σ  = some res) (sz : Nat) : zMi st l yX12_mode wzX12_mode rmX12_mode [.ref (ad 0)] D (tM cy) (wM ad cy) sz σ res :=
  zMi.of (cc := cX12_mode) (maxL := 1) (ret := (some .int)) (by decide) rfl (Nat.le_of_ble_eq_true rfl) (fun p e s m args below meth c hC A hI ls hl => bX12_mode hC hI hl hf)
theorem hdX12_mode : yX12_mode.cls = RX12 ∧ yX12_mode.cls ≠ "java/lang/invoke/MethodHandle" ∧ yX12_mode.cls ≠ "java/lang/invoke/VarHandle" ∧ (parseMethodDescriptor yX12_mode.desc).map (fun d => d.parameters.length) = some 0 := by decide +kernel
noncomputable def rmX12_height : Room := { frames := 2, cells := 0, slots := 0, locals := 42 }
noncomputable def wzX12_height : List Cond := .code yX12_height cX12_height 1 (some .int) :: wsL_law
noncomputable def fX12_height_32  (σ : zSt)  : Option (zSt × Int32) :=
  some (σ, 192)
noncomputable def fX12_height_55  (σ : zSt) (s0 : Int32) : Option (zSt × Int32) :=
  some (σ, s0)
noncomputable def fX12_height  (σ : zSt)  : Option (zSt × Int32) :=
  zbi (fX12_mode σ ) (fun σ1 v2 =>
  if v2 = 4 then zbi (fX12_bit σ1 0 1) (fun σ3 v4 =>
  if v4 = 0 then fX12_height_32 σ3 else
  zbi (fX12_bit σ3 1 4) (fun σ5 v6 =>
  zbi (fX12_bit σ5 1 3) (fun σ7 v8 =>
  if v6 = v8 then fX12_height_32 σ7 else
  zbi (fX12_bit σ7 1 4) (fun σ9 v10 =>
  if v10 = 1 then fX12_height_55 σ9 224 else
  fX12_height_55 σ9 240)))) else
  fX12_height_32 σ1)
set_option maxRecDepth 20000 in
set_option maxHeartbeats 4000000 in
theorem bX12_height_32 {st : Nat → Nat} {p : Program} {l : Launch} {e : Env} {s : State} {m : MethodId} {args : Array Value} {below : List Frame} {meth : Method} {c : Code} {D : va_G} {A : Nat → Prop} {ad : Nat → Nat} {cy : Nat → ClassId} (hC : zC p m c cX12_height 1 s args wzX12_height RX12 meth (some .int))  {res : zSt × Int32} {H : Heap} {locs : List Loc} {σ : zSt} {ls : Array Slot}  (hI : zI st D (tM cy) (wM ad cy σ) A s H locs) (hl : lv_has ls 1 []) (hf : fX12_height_32  σ  = some res) : W p l e rmX12_height s m args below meth c H locs 0 0 (zQi below args s D (tM cy) (wM ad cy) A res) (F0 m 32 ls []) := by
  have hx := hC.1
  have hb := hC.2.1
  unfold fX12_height_32 at hf
  refine lv_sipush (v := 192) hx hb dX12_height_32 (by decide) ?_
  exact z_ireturn hC hI hf dX12_height_35
set_option maxRecDepth 20000 in
set_option maxHeartbeats 4000000 in
theorem bX12_height_55 {st : Nat → Nat} {p : Program} {l : Launch} {e : Env} {s : State} {m : MethodId} {args : Array Value} {below : List Frame} {meth : Method} {c : Code} {D : va_G} {A : Nat → Prop} {ad : Nat → Nat} {cy : Nat → ClassId} (hC : zC p m c cX12_height 1 s args wzX12_height RX12 meth (some .int))  {res : zSt × Int32} {H : Heap} {locs : List Loc} {σ : zSt} {ls : Array Slot} {s0 : Int32} (hI : zI st D (tM cy) (wM ad cy σ) A s H locs) (hl : lv_has ls 1 []) (hf : fX12_height_55  σ s0 = some res) : W p l e rmX12_height s m args below meth c H locs 0 0 (zQi below args s D (tM cy) (wM ad cy) A res) (F0 m 55 ls [.int s0]) := by
  have hx := hC.1
  have hb := hC.2.1
  unfold fX12_height_55 at hf
  exact z_ireturn hC hI hf dX12_height_55
set_option maxRecDepth 20000 in
set_option maxHeartbeats 4000000 in
theorem bX12_height {st : Nat → Nat} {p : Program} {l : Launch} {e : Env} {s : State} {m : MethodId} {args : Array Value} {below : List Frame} {meth : Method} {c : Code} {D : va_G} {A : Nat → Prop} {ad : Nat → Nat} {cy : Nat → ClassId} (hC : zC p m c cX12_height 1 s args wzX12_height RX12 meth (some .int))  {res : zSt × Int32} {H : Heap} {locs : List Loc} {σ : zSt} {ls : Array Slot}  (hI : zI st D (tM cy) (wM ad cy σ) A s H locs) (hl : lv_has ls 1 [(0, .ref (ad 0))]) (hf : fX12_height  σ  = some res) : W p l e rmX12_height s m args below meth c H locs 0 0 (zQi below args s D (tM cy) (wM ad cy) A res) (F0 m 0 ls []) := by
  have hx := hC.1
  have hb := hC.2.1
  unfold fX12_height at hf
  refine lv_aload_n hx hb dX12_height_0 rfl (lv_at hl 0 rfl) ?_
  obtain ⟨σ1, v2, g1, hf⟩ := zbi_use hf
  refine z_callVi (As := []) (rest := []) hC hI (cX12_mode_met st l D ad cy σ  _ g1) (zgV zw57_6 zw57_7 zw57_8 zw1_5 zw57_9) rfl ⟨rfl, rfl⟩ 0 hdX12_mode ⟨Nat.le_of_ble_eq_true rfl, Nat.le_of_ble_eq_true rfl⟩ rfl rfl (wM_e0 ad cy σ) rfl hl rfl (Nat.le_of_ble_eq_true rfl) dX12_height_1 ⟨Nat.zero_le _, Nat.zero_le _⟩ (fun H locs hI => ?_)
  refine lv_iconst (v := 4) hx hb dX12_height_4 (by decide) ?_
  refine lv_icmp_ne (tgt := 32) hx hb dX12_height_5 (by decide) (fun q => ?_) (fun q => ?_)
  · replace hf := zif_f q hf
    exact bX12_height_32 hC  hI (lv_sub hl [] rfl) hf
  replace hf := zif_t q hf
  refine lv_aload_n hx hb dX12_height_8 rfl (lv_at hl 0 rfl) ?_
  refine lv_iconst (v := 0) hx hb dX12_height_9 (by decide) ?_
  refine lv_iconst (v := 1) hx hb dX12_height_10 (by decide) ?_
  obtain ⟨σ3, v4, g3, hf⟩ := zbi_use hf
  refine z_callVi (As := [.int 0, .int 1]) (rest := []) hC hI (cX12_bit_met st l D ad cy σ1 0 1 _ g3) (zgV zw49_0 zw49_1 zw49_2 zw1_5 zw49_3) rfl ⟨rfl, rfl⟩ 2 hdX12_bit ⟨Nat.le_of_ble_eq_true rfl, Nat.le_of_ble_eq_true rfl⟩ rfl rfl (wM_e0 ad cy σ1) rfl hl rfl (Nat.le_of_ble_eq_true rfl) dX12_height_11 ⟨Nat.zero_le _, Nat.zero_le _⟩ (fun H locs hI => ?_)
  refine lv_if_eq (tgt := 32) hx hb dX12_height_14 (by decide) (fun q => ?_) (fun q => ?_)
  · replace hf := zif_t q hf
    exact bX12_height_32 hC  hI (lv_sub hl [] rfl) hf
  replace hf := zif_f q hf
  refine lv_aload_n hx hb dX12_height_17 rfl (lv_at hl 0 rfl) ?_
  refine lv_iconst (v := 1) hx hb dX12_height_18 (by decide) ?_
  refine lv_iconst (v := 4) hx hb dX12_height_19 (by decide) ?_
  obtain ⟨σ5, v6, g5, hf⟩ := zbi_use hf
  refine z_callVi (As := [.int 1, .int 4]) (rest := []) hC hI (cX12_bit_met st l D ad cy σ3 1 4 _ g5) (zgV zw49_0 zw49_1 zw49_2 zw1_5 zw49_3) rfl ⟨rfl, rfl⟩ 2 hdX12_bit ⟨Nat.le_of_ble_eq_true rfl, Nat.le_of_ble_eq_true rfl⟩ rfl rfl (wM_e0 ad cy σ3) rfl hl rfl (Nat.le_of_ble_eq_true rfl) dX12_height_20 ⟨Nat.zero_le _, Nat.zero_le _⟩ (fun H locs hI => ?_)
  refine lv_aload_n hx hb dX12_height_23 rfl (lv_at hl 0 rfl) ?_
  refine lv_iconst (v := 1) hx hb dX12_height_24 (by decide) ?_
  refine lv_iconst (v := 3) hx hb dX12_height_25 (by decide) ?_
  obtain ⟨σ7, v8, g7, hf⟩ := zbi_use hf
  refine z_callVi (As := [.int 1, .int 3]) (rest := [.int v6]) hC hI (cX12_bit_met st l D ad cy σ5 1 3 _ g7) (zgV zw49_0 zw49_1 zw49_2 zw1_5 zw49_3) rfl ⟨rfl, rfl⟩ 2 hdX12_bit ⟨Nat.le_of_ble_eq_true rfl, Nat.le_of_ble_eq_true rfl⟩ rfl rfl (wM_e0 ad cy σ5) rfl hl rfl (Nat.le_of_ble_eq_true rfl) dX12_height_26 ⟨Nat.zero_le _, Nat.zero_le _⟩ (fun H locs hI => ?_)
  refine lv_icmp_ne (tgt := 36) hx hb dX12_height_29 (by decide) (fun q => ?_) (fun q => ?_)
  · replace hf := zif_f q hf
    refine lv_aload_n hx hb dX12_height_36 rfl (lv_at hl 0 rfl) ?_
    refine lv_iconst (v := 1) hx hb dX12_height_37 (by decide) ?_
    refine lv_iconst (v := 4) hx hb dX12_height_38 (by decide) ?_
    obtain ⟨σ9, v10, g9, hf⟩ := zbi_use hf
    refine z_callVi (As := [.int 1, .int 4]) (rest := []) hC hI (cX12_bit_met st l D ad cy σ7 1 4 _ g9) (zgV zw49_0 zw49_1 zw49_2 zw1_5 zw49_3) rfl ⟨rfl, rfl⟩ 2 hdX12_bit ⟨Nat.le_of_ble_eq_true rfl, Nat.le_of_ble_eq_true rfl⟩ rfl rfl (wM_e0 ad cy σ7) rfl hl rfl (Nat.le_of_ble_eq_true rfl) dX12_height_39 ⟨Nat.zero_le _, Nat.zero_le _⟩ (fun H locs hI => ?_)
    refine lv_iconst (v := 1) hx hb dX12_height_42 (by decide) ?_
    refine lv_icmp_ne (tgt := 52) hx hb dX12_height_43 (by decide) (fun q => ?_) (fun q => ?_)
    · replace hf := zif_f q hf
      refine lv_sipush (v := 240) hx hb dX12_height_52 (by decide) ?_
      exact bX12_height_55 hC  hI (lv_sub hl [] rfl) hf
    replace hf := zif_t q hf
    refine lv_sipush (v := 224) hx hb dX12_height_46 (by decide) ?_
    refine lv_goto (tgt := 55) hx hb dX12_height_49 (by decide) ?_
    exact bX12_height_55 hC  hI (lv_sub hl [] rfl) hf
  replace hf := zif_t q hf
  exact bX12_height_32 hC  hI (lv_sub hl [] rfl) hf
set_option maxRecDepth 20000 in
theorem cX12_height_met (st : Nat → Nat) (l : Launch) (D : va_G) (ad : Nat → Nat) (cy : Nat → ClassId) (σ : zSt)  (res : zSt × Int32) (hf : fX12_height σ  = some res) (sz : Nat) : zMi st l yX12_height wzX12_height rmX12_height [.ref (ad 0)] D (tM cy) (wM ad cy) sz σ res :=
  zMi.of (cc := cX12_height) (maxL := 1) (ret := (some .int)) (by decide) rfl (Nat.le_of_ble_eq_true rfl) (fun p e s m args below meth c hC A hI ls hl => bX12_height hC hI hl hf)
theorem hdX12_height : yX12_height.cls = RX12 ∧ yX12_height.cls ≠ "java/lang/invoke/MethodHandle" ∧ yX12_height.cls ≠ "java/lang/invoke/VarHandle" ∧ (parseMethodDescriptor yX12_height.desc).map (fun d => d.parameters.length) = some 0 := by decide +kernel
noncomputable def rmX12_vCount : Room := { frames := 3, cells := 0, slots := 0, locals := 62 }
noncomputable def wzX12_vCount : List Cond := .code yX12_vCount cX12_vCount 4 (some .int) :: wsL_law
theorem hinX12_vCount_X120 : ∀ w ∈ wsX120, w ∈ wzX12_vCount := fun w h => List.mem_cons_of_mem _ (inlX12 w h)
noncomputable def fX12_vCount_109  (σ : zSt) (s0 : Int32) : Option (zSt × Int32) :=
  some (σ, s0 &&& 255)
noncomputable def fX12_vCount_108  (σ : zSt) (s0 : Int32) (s1 : Int32) : Option (zSt × Int32) :=
  fX12_vCount_109 σ (s1 - s0)
noncomputable def fX12_vCount_82  (σ : zSt) (x1 : Int32) (s0 : Int32) : Option (zSt × Int32) :=
  if s0 ≤ x1 then if (zgi σ 0 3) = 1 then fX12_vCount_108 σ 57 x1 else
  fX12_vCount_108 σ 6 x1 else
  fX12_vCount_109 σ x1
noncomputable def fX12_vCount  (σ : zSt)  : Option (zSt × Int32) :=
  zck (zin 66 1048) (
  zbv (zgi σ 3 (66 : Int32).toNatClampNeg) (fun v1 =>
  zbi (fX12_height σ ) (fun σ2 v3 =>
  if (zgi σ2 0 3) = 1 then if v3 = 192 then fX12_vCount_82 σ2 v1 243 else
  if v3 = 224 then fX12_vCount_82 σ2 v1 259 else
  fX12_vCount_82 σ2 v1 267 else
  if v3 = 192 then fX12_vCount_82 σ2 v1 219 else
  if v3 = 224 then fX12_vCount_82 σ2 v1 235 else
  fX12_vCount_82 σ2 v1 1000)))
set_option maxRecDepth 20000 in
set_option maxHeartbeats 4000000 in
theorem bX12_vCount_109 {st : Nat → Nat} {p : Program} {l : Launch} {e : Env} {s : State} {m : MethodId} {args : Array Value} {below : List Frame} {meth : Method} {c : Code} {D : va_G} {A : Nat → Prop} {ad : Nat → Nat} {cy : Nat → ClassId} (hC : zC p m c cX12_vCount 4 s args wzX12_vCount RX12 meth (some .int))  {res : zSt × Int32} {H : Heap} {locs : List Loc} {σ : zSt} {ls : Array Slot} {s0 : Int32} (hI : zI st D (tM cy) (wM ad cy σ) A s H locs) (hl : lv_has ls 4 []) (hf : fX12_vCount_109  σ s0 = some res) : W p l e rmX12_vCount s m args below meth c H locs 0 0 (zQi below args s D (tM cy) (wM ad cy) A res) (F0 m 109 ls [.int s0]) := by
  have hx := hC.1
  have hb := hC.2.1
  unfold fX12_vCount_109 at hf
  refine lv_sipush (v := 255) hx hb dX12_vCount_109 (by decide) ?_
  refine lv_iand hx hb dX12_vCount_112 ?_
  exact z_ireturn hC hI hf dX12_vCount_113
set_option maxRecDepth 20000 in
set_option maxHeartbeats 4000000 in
theorem bX12_vCount_108 {st : Nat → Nat} {p : Program} {l : Launch} {e : Env} {s : State} {m : MethodId} {args : Array Value} {below : List Frame} {meth : Method} {c : Code} {D : va_G} {A : Nat → Prop} {ad : Nat → Nat} {cy : Nat → ClassId} (hC : zC p m c cX12_vCount 4 s args wzX12_vCount RX12 meth (some .int))  {res : zSt × Int32} {H : Heap} {locs : List Loc} {σ : zSt} {ls : Array Slot} {s0 : Int32} {s1 : Int32} (hI : zI st D (tM cy) (wM ad cy σ) A s H locs) (hl : lv_has ls 4 []) (hf : fX12_vCount_108  σ s0 s1 = some res) : W p l e rmX12_vCount s m args below meth c H locs 0 0 (zQi below args s D (tM cy) (wM ad cy) A res) (F0 m 108 ls [.int s0, .int s1]) := by
  have hx := hC.1
  have hb := hC.2.1
  unfold fX12_vCount_108 at hf
  refine lv_isub hx hb dX12_vCount_108 ?_
  exact bX12_vCount_109 hC  hI hl hf
set_option maxRecDepth 20000 in
set_option maxHeartbeats 4000000 in
theorem bX12_vCount_82 {st : Nat → Nat} {p : Program} {l : Launch} {e : Env} {s : State} {m : MethodId} {args : Array Value} {below : List Frame} {meth : Method} {c : Code} {D : va_G} {A : Nat → Prop} {ad : Nat → Nat} {cy : Nat → ClassId} (hC : zC p m c cX12_vCount 4 s args wzX12_vCount RX12 meth (some .int))  {res : zSt × Int32} {H : Heap} {locs : List Loc} {σ : zSt} {ls : Array Slot} {x1 : Int32} {s0 : Int32} (hI : zI st D (tM cy) (wM ad cy σ) A s H locs) (hl : lv_has ls 4 [(0, .ref (ad 0)), (1, .int x1)]) (hf : fX12_vCount_82  σ x1 s0 = some res) : W p l e rmX12_vCount s m args below meth c H locs 0 0 (zQi below args s D (tM cy) (wM ad cy) A res) (F0 m 82 ls [.int s0]) := by
  have hx := hC.1
  have hb := hC.2.1
  unfold fX12_vCount_82 at hf
  refine lv_istore_n (lv' := [(3, .int s0), (0, .ref (ad 0)), (1, .int x1)]) hx hb dX12_vCount_82 rfl hl (by decide) rfl (fun ls hl => ?_)
  refine lv_iload_n hx hb dX12_vCount_83 rfl (lv_at hl 2 rfl) ?_
  refine lv_iload_n hx hb dX12_vCount_84 rfl (lv_at hl 0 rfl) ?_
  refine lv_icmp_ge (tgt := 92) hx hb dX12_vCount_85 (by decide) (fun q => ?_) (fun q => ?_)
  · replace hf := zif_t q hf
    refine lv_iload_n hx hb dX12_vCount_92 rfl (lv_at hl 2 rfl) ?_
    refine lv_aload_n hx hb dX12_vCount_93 rfl (lv_at hl 1 rfl) ?_
    refine z_get hC hI hinX12_vCount_X120 0 (wM_e0 ad cy σ) rfl 3 (by decide) (List.mem_cons_of_mem _ zw10_10) rfl dX12_vCount_94 ?_
    refine lv_iconst (v := 1) hx hb dX12_vCount_97 (by decide) ?_
    refine lv_icmp_ne (tgt := 106) hx hb dX12_vCount_98 (by decide) (fun q => ?_) (fun q => ?_)
    · replace hf := zif_f q hf
      refine lv_bipush (v := 6) hx hb dX12_vCount_106 (by decide) ?_
      exact bX12_vCount_108 hC  hI (lv_sub hl [] rfl) hf
    replace hf := zif_t q hf
    refine lv_bipush (v := 57) hx hb dX12_vCount_101 (by decide) ?_
    refine lv_goto (tgt := 108) hx hb dX12_vCount_103 (by decide) ?_
    exact bX12_vCount_108 hC  hI (lv_sub hl [] rfl) hf
  replace hf := zif_f q hf
  refine lv_iload_n hx hb dX12_vCount_88 rfl (lv_at hl 2 rfl) ?_
  refine lv_goto (tgt := 109) hx hb dX12_vCount_89 (by decide) ?_
  exact bX12_vCount_109 hC  hI (lv_sub hl [] rfl) hf
set_option maxRecDepth 20000 in
set_option maxHeartbeats 4000000 in
theorem bX12_vCount {st : Nat → Nat} {p : Program} {l : Launch} {e : Env} {s : State} {m : MethodId} {args : Array Value} {below : List Frame} {meth : Method} {c : Code} {D : va_G} {A : Nat → Prop} {ad : Nat → Nat} {cy : Nat → ClassId} (hC : zC p m c cX12_vCount 4 s args wzX12_vCount RX12 meth (some .int))  {res : zSt × Int32} {H : Heap} {locs : List Loc} {σ : zSt} {ls : Array Slot}  (hI : zI st D (tM cy) (wM ad cy σ) A s H locs) (hl : lv_has ls 4 [(0, .ref (ad 0))]) (hf : fX12_vCount  σ  = some res) : W p l e rmX12_vCount s m args below meth c H locs 0 0 (zQi below args s D (tM cy) (wM ad cy) A res) (F0 m 0 ls []) := by
  have hx := hC.1
  have hb := hC.2.1
  unfold fX12_vCount at hf
  refine lv_aload_n hx hb dX12_vCount_0 rfl (lv_at hl 0 rfl) ?_
  refine z_get hC hI hinX12_vCount_X120 0 (wM_e0 ad cy σ) rfl 10 (by decide) (List.mem_cons_of_mem _ zw9_7) rfl dX12_vCount_1 ?_
  refine lv_bipush (v := 66) hx hb dX12_vCount_4 (by decide) ?_
  obtain ⟨q, hf⟩ := zck_use hf
  refine z_iald hC hI 3 2 (wM_e3 ad cy σ) (tM_t3 cy) q dX12_vCount_6 ?_
  refine lv_topi (fun v1 ev1 => ?_)
  replace hf := zbv_use ev1 hf
  refine lv_istore_n (lv' := [(1, .int v1), (0, .ref (ad 0))]) hx hb dX12_vCount_7 rfl hl (by decide) rfl (fun ls hl => ?_)
  refine lv_aload_n hx hb dX12_vCount_8 rfl (lv_at hl 1 rfl) ?_
  obtain ⟨σ2, v3, g2, hf⟩ := zbi_use hf
  refine z_callVi (As := []) (rest := []) hC hI (cX12_height_met st l D ad cy σ  _ g2) (zgV zw57_2 zw57_3 zw57_4 zw1_5 zw57_5) rfl ⟨rfl, rfl⟩ 0 hdX12_height ⟨Nat.le_of_ble_eq_true rfl, Nat.le_of_ble_eq_true rfl⟩ rfl rfl (wM_e0 ad cy σ) rfl hl rfl (Nat.le_of_ble_eq_true rfl) dX12_vCount_9 ⟨Nat.zero_le _, Nat.zero_le _⟩ (fun H locs hI => ?_)
  refine lv_istore_n (lv' := [(2, .int v3), (1, .int v1), (0, .ref (ad 0))]) hx hb dX12_vCount_12 rfl hl (by decide) rfl (fun ls hl => ?_)
  refine lv_aload_n hx hb dX12_vCount_13 rfl (lv_at hl 2 rfl) ?_
  refine z_get hC hI hinX12_vCount_X120 0 (wM_e0 ad cy σ2) rfl 3 (by decide) (List.mem_cons_of_mem _ zw10_10) rfl dX12_vCount_14 ?_
  refine lv_iconst (v := 1) hx hb dX12_vCount_17 (by decide) ?_
  refine lv_icmp_ne (tgt := 53) hx hb dX12_vCount_18 (by decide) (fun q => ?_) (fun q => ?_)
  · replace hf := zif_f q hf
    refine lv_iload_n hx hb dX12_vCount_53 rfl (lv_at hl 0 rfl) ?_
    refine lv_sipush (v := 192) hx hb dX12_vCount_54 (by decide) ?_
    refine lv_icmp_ne (tgt := 66) hx hb dX12_vCount_57 (by decide) (fun q => ?_) (fun q => ?_)
    · replace hf := zif_f q hf
      refine lv_iload_n hx hb dX12_vCount_66 rfl (lv_at hl 0 rfl) ?_
      refine lv_sipush (v := 224) hx hb dX12_vCount_67 (by decide) ?_
      refine lv_icmp_ne (tgt := 79) hx hb dX12_vCount_70 (by decide) (fun q => ?_) (fun q => ?_)
      · replace hf := zif_f q hf
        refine lv_sipush (v := 1000) hx hb dX12_vCount_79 (by decide) ?_
        exact bX12_vCount_82 hC  hI (lv_sub hl [2, 1] rfl) hf
      replace hf := zif_t q hf
      refine lv_sipush (v := 235) hx hb dX12_vCount_73 (by decide) ?_
      refine lv_goto (tgt := 82) hx hb dX12_vCount_76 (by decide) ?_
      exact bX12_vCount_82 hC  hI (lv_sub hl [2, 1] rfl) hf
    replace hf := zif_t q hf
    refine lv_sipush (v := 219) hx hb dX12_vCount_60 (by decide) ?_
    refine lv_goto (tgt := 82) hx hb dX12_vCount_63 (by decide) ?_
    exact bX12_vCount_82 hC  hI (lv_sub hl [2, 1] rfl) hf
  replace hf := zif_t q hf
  refine lv_iload_n hx hb dX12_vCount_21 rfl (lv_at hl 0 rfl) ?_
  refine lv_sipush (v := 192) hx hb dX12_vCount_22 (by decide) ?_
  refine lv_icmp_ne (tgt := 34) hx hb dX12_vCount_25 (by decide) (fun q => ?_) (fun q => ?_)
  · replace hf := zif_f q hf
    refine lv_iload_n hx hb dX12_vCount_34 rfl (lv_at hl 0 rfl) ?_
    refine lv_sipush (v := 224) hx hb dX12_vCount_35 (by decide) ?_
    refine lv_icmp_ne (tgt := 47) hx hb dX12_vCount_38 (by decide) (fun q => ?_) (fun q => ?_)
    · replace hf := zif_f q hf
      refine lv_sipush (v := 267) hx hb dX12_vCount_47 (by decide) ?_
      refine lv_goto (tgt := 82) hx hb dX12_vCount_50 (by decide) ?_
      exact bX12_vCount_82 hC  hI (lv_sub hl [2, 1] rfl) hf
    replace hf := zif_t q hf
    refine lv_sipush (v := 259) hx hb dX12_vCount_41 (by decide) ?_
    refine lv_goto (tgt := 82) hx hb dX12_vCount_44 (by decide) ?_
    exact bX12_vCount_82 hC  hI (lv_sub hl [2, 1] rfl) hf
  replace hf := zif_t q hf
  refine lv_sipush (v := 243) hx hb dX12_vCount_28 (by decide) ?_
  refine lv_goto (tgt := 82) hx hb dX12_vCount_31 (by decide) ?_
  exact bX12_vCount_82 hC  hI (lv_sub hl [2, 1] rfl) hf
set_option maxRecDepth 20000 in
theorem cX12_vCount_met (st : Nat → Nat) (l : Launch) (D : va_G) (ad : Nat → Nat) (cy : Nat → ClassId) (σ : zSt)  (res : zSt × Int32) (hf : fX12_vCount σ  = some res) (sz : Nat) : zMi st l yX12_vCount wzX12_vCount rmX12_vCount [.ref (ad 0)] D (tM cy) (wM ad cy) sz σ res :=
  zMi.of (cc := cX12_vCount) (maxL := 4) (ret := (some .int)) (by decide) rfl (Nat.le_of_ble_eq_true rfl) (fun p e s m args below meth c hC A hI ls hl => bX12_vCount hC hI hl hf)
theorem hdX12_vCount : yX12_vCount.cls = RX12 ∧ yX12_vCount.cls ≠ "java/lang/invoke/MethodHandle" ∧ yX12_vCount.cls ≠ "java/lang/invoke/VarHandle" ∧ (parseMethodDescriptor yX12_vCount.desc).map (fun d => d.parameters.length) = some 0 := by decide +kernel
noncomputable def rmX12_status : Room := { frames := 0, cells := 0, slots := 0, locals := 0 }
noncomputable def wzX12_status : List Cond := .code yX12_status cX12_status 2 (some .int) :: wsL_law
theorem hinX12_status_X120 : ∀ w ∈ wsX120, w ∈ wzX12_status := fun w h => List.mem_cons_of_mem _ (inlX12 w h)
noncomputable def fX12_status  (σ : zSt)  : Option (zSt × Int32) :=
  zck (zin 62 1048) (
  zbv (zgi σ 3 (62 : Int32).toNatClampNeg) (fun v1 =>
  zck (zin 61 1048) (zbv (zsi σ 3 ((61 : Int32).toNatClampNeg) 0) (fun σ2 =>
  zck (zin 62 1048) (zbv (zsi σ2 3 ((62 : Int32).toNatClampNeg) 0) (fun σ3 =>
  zck (zin 63 1048) (zbv (zsi σ3 3 ((63 : Int32).toNatClampNeg) 0) (fun σ4 =>
  some (σ4, v1)))))))))
set_option maxRecDepth 20000 in
set_option maxHeartbeats 4000000 in
theorem bX12_status {st : Nat → Nat} {p : Program} {l : Launch} {e : Env} {s : State} {m : MethodId} {args : Array Value} {below : List Frame} {meth : Method} {c : Code} {D : va_G} {A : Nat → Prop} {ad : Nat → Nat} {cy : Nat → ClassId} (hC : zC p m c cX12_status 2 s args wzX12_status RX12 meth (some .int))  {res : zSt × Int32} {H : Heap} {locs : List Loc} {σ : zSt} {ls : Array Slot}  (hI : zI st D (tM cy) (wM ad cy σ) A s H locs) (hl : lv_has ls 2 [(0, .ref (ad 0))]) (hf : fX12_status  σ  = some res) : W p l e rmX12_status s m args below meth c H locs 0 0 (zQi below args s D (tM cy) (wM ad cy) A res) (F0 m 0 ls []) := by
  have hx := hC.1
  have hb := hC.2.1
  unfold fX12_status at hf
  refine lv_aload_n hx hb dX12_status_0 rfl (lv_at hl 0 rfl) ?_
  refine z_get hC hI hinX12_status_X120 0 (wM_e0 ad cy σ) rfl 10 (by decide) (List.mem_cons_of_mem _ zw9_7) rfl dX12_status_1 ?_
  refine lv_bipush (v := 62) hx hb dX12_status_4 (by decide) ?_
  obtain ⟨q, hf⟩ := zck_use hf
  refine z_iald hC hI 3 2 (wM_e3 ad cy σ) (tM_t3 cy) q dX12_status_6 ?_
  refine lv_topi (fun v1 ev1 => ?_)
  replace hf := zbv_use ev1 hf
  refine lv_istore_n (lv' := [(1, .int v1), (0, .ref (ad 0))]) hx hb dX12_status_7 rfl hl (by decide) rfl (fun ls hl => ?_)
  refine lv_aload_n hx hb dX12_status_8 rfl (lv_at hl 1 rfl) ?_
  refine z_get hC hI hinX12_status_X120 0 (wM_e0 ad cy σ) rfl 10 (by decide) (List.mem_cons_of_mem _ zw9_7) rfl dX12_status_9 ?_
  refine lv_bipush (v := 61) hx hb dX12_status_12 (by decide) ?_
  refine lv_iconst (v := 0) hx hb dX12_status_14 (by decide) ?_
  obtain ⟨q, hf⟩ := zck_use hf
  obtain ⟨σ2, eσ2⟩ : ∃ z, z = zsi σ 3 ((61 : Int32).toNatClampNeg) 0 := ⟨_, rfl⟩
  replace hf := zbv_use eσ2 hf
  refine z_iast hC hI 3 2 (wM_e3 ad cy σ) (tM_t3 cy) q ((wM_s3 ad cy σ _ _).trans (congrArg (wM ad cy) eσ2.symm)) dX12_status_15 (fun H locs hI => ?_)
  refine lv_aload_n hx hb dX12_status_16 rfl (lv_at hl 1 rfl) ?_
  refine z_get hC hI hinX12_status_X120 0 (wM_e0 ad cy σ2) rfl 10 (by decide) (List.mem_cons_of_mem _ zw9_7) rfl dX12_status_17 ?_
  refine lv_bipush (v := 62) hx hb dX12_status_20 (by decide) ?_
  refine lv_iconst (v := 0) hx hb dX12_status_22 (by decide) ?_
  obtain ⟨q, hf⟩ := zck_use hf
  obtain ⟨σ3, eσ3⟩ : ∃ z, z = zsi σ2 3 ((62 : Int32).toNatClampNeg) 0 := ⟨_, rfl⟩
  replace hf := zbv_use eσ3 hf
  refine z_iast hC hI 3 2 (wM_e3 ad cy σ2) (tM_t3 cy) q ((wM_s3 ad cy σ2 _ _).trans (congrArg (wM ad cy) eσ3.symm)) dX12_status_23 (fun H locs hI => ?_)
  refine lv_aload_n hx hb dX12_status_24 rfl (lv_at hl 1 rfl) ?_
  refine z_get hC hI hinX12_status_X120 0 (wM_e0 ad cy σ3) rfl 10 (by decide) (List.mem_cons_of_mem _ zw9_7) rfl dX12_status_25 ?_
  refine lv_bipush (v := 63) hx hb dX12_status_28 (by decide) ?_
  refine lv_iconst (v := 0) hx hb dX12_status_30 (by decide) ?_
  obtain ⟨q, hf⟩ := zck_use hf
  obtain ⟨σ4, eσ4⟩ : ∃ z, z = zsi σ3 3 ((63 : Int32).toNatClampNeg) 0 := ⟨_, rfl⟩
  replace hf := zbv_use eσ4 hf
  refine z_iast hC hI 3 2 (wM_e3 ad cy σ3) (tM_t3 cy) q ((wM_s3 ad cy σ3 _ _).trans (congrArg (wM ad cy) eσ4.symm)) dX12_status_31 (fun H locs hI => ?_)
  refine lv_iload_n hx hb dX12_status_32 rfl (lv_at hl 0 rfl) ?_
  exact z_ireturn hC hI hf dX12_status_33
set_option maxRecDepth 20000 in
theorem cX12_status_met (st : Nat → Nat) (l : Launch) (D : va_G) (ad : Nat → Nat) (cy : Nat → ClassId) (σ : zSt)  (res : zSt × Int32) (hf : fX12_status σ  = some res) (sz : Nat) : zMi st l yX12_status wzX12_status rmX12_status [.ref (ad 0)] D (tM cy) (wM ad cy) sz σ res :=
  zMi.of (cc := cX12_status) (maxL := 2) (ret := (some .int)) (by decide) rfl (Nat.le_of_ble_eq_true rfl) (fun p e s m args below meth c hC A hI ls hl => bX12_status hC hI hl hf)
theorem hdX12_status : yX12_status.cls = RX12 ∧ yX12_status.cls ≠ "java/lang/invoke/MethodHandle" ∧ yX12_status.cls ≠ "java/lang/invoke/VarHandle" ∧ (parseMethodDescriptor yX12_status.desc).map (fun d => d.parameters.length) = some 0 := by decide +kernel
noncomputable def rmX12_video8 : Room := { frames := 0, cells := 0, slots := 0, locals := 0 }
noncomputable def wzX12_video8 : List Cond := .code yX12_video8 cX12_video8 2 (some .int) :: wsL_law
theorem hinX12_video8_X120 : ∀ w ∈ wsX120, w ∈ wzX12_video8 := fun w h => List.mem_cons_of_mem _ (inlX12 w h)
noncomputable def fX12_video8  (σ : zSt) (x1 : Int32) : Option (zSt × Int32) :=
  zck (zin (x1 &&& 16383) 16384) (
  some (σ, (zgi σ 7 (x1 &&& 16383).toNatClampNeg) &&& 255))
set_option maxRecDepth 20000 in
set_option maxHeartbeats 4000000 in
theorem bX12_video8 {st : Nat → Nat} {p : Program} {l : Launch} {e : Env} {s : State} {m : MethodId} {args : Array Value} {below : List Frame} {meth : Method} {c : Code} {D : va_G} {A : Nat → Prop} {ad : Nat → Nat} {cy : Nat → ClassId} (hC : zC p m c cX12_video8 2 s args wzX12_video8 RX12 meth (some .int))  {res : zSt × Int32} {H : Heap} {locs : List Loc} {σ : zSt} {ls : Array Slot} {x1 : Int32} (hI : zI st D (tM cy) (wM ad cy σ) A s H locs) (hl : lv_has ls 2 [(0, .ref (ad 0)), (1, .int x1)]) (hf : fX12_video8  σ x1 = some res) : W p l e rmX12_video8 s m args below meth c H locs 0 0 (zQi below args s D (tM cy) (wM ad cy) A res) (F0 m 0 ls []) := by
  have hx := hC.1
  have hb := hC.2.1
  unfold fX12_video8 at hf
  refine lv_aload_n hx hb dX12_video8_0 rfl (lv_at hl 0 rfl) ?_
  refine z_get hC hI hinX12_video8_X120 0 (wM_e0 ad cy σ) rfl 14 (by decide) (List.mem_cons_of_mem _ zw9_12) rfl dX12_video8_1 ?_
  refine lv_iload_n hx hb dX12_video8_4 rfl (lv_at hl 1 rfl) ?_
  refine lv_sipush (v := 16383) hx hb dX12_video8_5 (by decide) ?_
  refine lv_iand hx hb dX12_video8_8 ?_
  obtain ⟨q, hf⟩ := zck_use hf
  refine z_bald hC hI 7 6 (wM_e7 ad cy σ) (tM_t7 cy) q dX12_video8_9 ?_
  refine lv_sipush (v := 255) hx hb dX12_video8_10 (by decide) ?_
  refine lv_iand hx hb dX12_video8_13 ?_
  exact z_ireturn hC hI hf dX12_video8_14
set_option maxRecDepth 20000 in
theorem cX12_video8_met (st : Nat → Nat) (l : Launch) (D : va_G) (ad : Nat → Nat) (cy : Nat → ClassId) (σ : zSt) (x1 : Int32) (res : zSt × Int32) (hf : fX12_video8 σ x1 = some res) (sz : Nat) : zMi st l yX12_video8 wzX12_video8 rmX12_video8 [.ref (ad 0), .int x1] D (tM cy) (wM ad cy) sz σ res :=
  zMi.of (cc := cX12_video8) (maxL := 2) (ret := (some .int)) (by decide) rfl (Nat.le_of_ble_eq_true rfl) (fun p e s m args below meth c hC A hI ls hl => bX12_video8 hC hI hl hf)
theorem hdX12_video8 : yX12_video8.cls = RX12 ∧ yX12_video8.cls ≠ "java/lang/invoke/MethodHandle" ∧ yX12_video8.cls ≠ "java/lang/invoke/VarHandle" ∧ (parseMethodDescriptor yX12_video8.desc).map (fun d => d.parameters.length) = some 1 := by decide +kernel
noncomputable def rmX12_further : Room := { frames := 0, cells := 0, slots := 0, locals := 0 }
noncomputable def wzX12_further : List Cond := .code yX12_further cX12_further 1 none :: wsL_law
theorem hinX12_further_X120 : ∀ w ∈ wsX120, w ∈ wzX12_further := fun w h => List.mem_cons_of_mem _ (inlX12 w h)
noncomputable def fX12_further  (σ : zSt)  : Option (zSt) :=
  zck (zin 58 1048) (
  zck (zin 58 1048) (zbv (zsi σ 3 ((58 : Int32).toNatClampNeg) (((zgi σ 3 (58 : Int32).toNatClampNeg) + 1) &&& 16383)) (fun σ1 =>
  some σ1)))
set_option maxRecDepth 20000 in
set_option maxHeartbeats 4000000 in
theorem bX12_further {st : Nat → Nat} {p : Program} {l : Launch} {e : Env} {s : State} {m : MethodId} {args : Array Value} {below : List Frame} {meth : Method} {c : Code} {D : va_G} {A : Nat → Prop} {ad : Nat → Nat} {cy : Nat → ClassId} (hC : zC p m c cX12_further 1 s args wzX12_further RX12 meth none)  {res : zSt} {H : Heap} {locs : List Loc} {σ : zSt} {ls : Array Slot}  (hI : zI st D (tM cy) (wM ad cy σ) A s H locs) (hl : lv_has ls 1 [(0, .ref (ad 0))]) (hf : fX12_further  σ  = some res) : W p l e rmX12_further s m args below meth c H locs 0 0 (zQu below args s D (tM cy) (wM ad cy) A res) (F0 m 0 ls []) := by
  have hx := hC.1
  have hb := hC.2.1
  unfold fX12_further at hf
  refine lv_aload_n hx hb dX12_further_0 rfl (lv_at hl 0 rfl) ?_
  refine z_get hC hI hinX12_further_X120 0 (wM_e0 ad cy σ) rfl 10 (by decide) (List.mem_cons_of_mem _ zw9_7) rfl dX12_further_1 ?_
  refine lv_bipush (v := 58) hx hb dX12_further_4 (by decide) ?_
  refine lv_aload_n hx hb dX12_further_6 rfl (lv_at hl 0 rfl) ?_
  refine z_get hC hI hinX12_further_X120 0 (wM_e0 ad cy σ) rfl 10 (by decide) (List.mem_cons_of_mem _ zw9_7) rfl dX12_further_7 ?_
  refine lv_bipush (v := 58) hx hb dX12_further_10 (by decide) ?_
  obtain ⟨q, hf⟩ := zck_use hf
  refine z_iald hC hI 3 2 (wM_e3 ad cy σ) (tM_t3 cy) q dX12_further_12 ?_
  refine lv_iconst (v := 1) hx hb dX12_further_13 (by decide) ?_
  refine lv_iadd hx hb dX12_further_14 ?_
  refine lv_sipush (v := 16383) hx hb dX12_further_15 (by decide) ?_
  refine lv_iand hx hb dX12_further_18 ?_
  obtain ⟨q, hf⟩ := zck_use hf
  obtain ⟨σ1, eσ1⟩ : ∃ z, z = zsi σ 3 ((58 : Int32).toNatClampNeg) (((zgi σ 3 (58 : Int32).toNatClampNeg) + 1) &&& 16383) := ⟨_, rfl⟩
  replace hf := zbv_use eσ1 hf
  refine z_iast hC hI 3 2 (wM_e3 ad cy σ) (tM_t3 cy) q ((wM_s3 ad cy σ _ _).trans (congrArg (wM ad cy) eσ1.symm)) dX12_further_19 (fun H locs hI => ?_)
  exact z_return hC hI hf dX12_further_20
set_option maxRecDepth 20000 in
theorem cX12_further_met (st : Nat → Nat) (l : Launch) (D : va_G) (ad : Nat → Nat) (cy : Nat → ClassId) (σ : zSt)  (res : zSt) (hf : fX12_further σ  = some res) (sz : Nat) : zMu st l yX12_further wzX12_further rmX12_further [.ref (ad 0)] D (tM cy) (wM ad cy) sz σ res :=
  zMu.of (cc := cX12_further) (maxL := 1) (ret := none) (by decide) rfl (Nat.le_of_ble_eq_true rfl) (fun p e s m args below meth c hC A hI ls hl => bX12_further hC hI hl hf)
theorem hdX12_further : yX12_further.cls = RX12 ∧ yX12_further.cls ≠ "java/lang/invoke/MethodHandle" ∧ yX12_further.cls ≠ "java/lang/invoke/VarHandle" ∧ (parseMethodDescriptor yX12_further.desc).map (fun d => d.parameters.length) = some 0 := by decide +kernel
noncomputable def rmX12_data : Room := { frames := 1, cells := 0, slots := 0, locals := 21 }
noncomputable def wzX12_data : List Cond := .code yX12_data cX12_data 2 (some .int) :: wsL_law
theorem hinX12_data_X120 : ∀ w ∈ wsX120, w ∈ wzX12_data := fun w h => List.mem_cons_of_mem _ (inlX12 w h)
noncomputable def fX12_data  (σ : zSt)  : Option (zSt × Int32) :=
  zck (zin 60 1048) (
  zbv (zgi σ 3 (60 : Int32).toNatClampNeg) (fun v1 =>
  zck (zin 61 1048) (zbv (zsi σ 3 ((61 : Int32).toNatClampNeg) 0) (fun σ2 =>
  zck (zin 58 1048) (
  zbi (fX12_video8 σ2 (zgi σ2 3 (58 : Int32).toNatClampNeg)) (fun σ3 v4 =>
  zck (zin 60 1048) (zbv (zsi σ3 3 ((60 : Int32).toNatClampNeg) v4) (fun σ5 =>
  zbu (fX12_further σ5 ) (fun σ6 =>
  some (σ6, v1))))))))))
set_option maxRecDepth 20000 in
set_option maxHeartbeats 4000000 in
theorem bX12_data {st : Nat → Nat} {p : Program} {l : Launch} {e : Env} {s : State} {m : MethodId} {args : Array Value} {below : List Frame} {meth : Method} {c : Code} {D : va_G} {A : Nat → Prop} {ad : Nat → Nat} {cy : Nat → ClassId} (hC : zC p m c cX12_data 2 s args wzX12_data RX12 meth (some .int))  {res : zSt × Int32} {H : Heap} {locs : List Loc} {σ : zSt} {ls : Array Slot}  (hI : zI st D (tM cy) (wM ad cy σ) A s H locs) (hl : lv_has ls 2 [(0, .ref (ad 0))]) (hf : fX12_data  σ  = some res) : W p l e rmX12_data s m args below meth c H locs 0 0 (zQi below args s D (tM cy) (wM ad cy) A res) (F0 m 0 ls []) := by
  have hx := hC.1
  have hb := hC.2.1
  unfold fX12_data at hf
  refine lv_aload_n hx hb dX12_data_0 rfl (lv_at hl 0 rfl) ?_
  refine z_get hC hI hinX12_data_X120 0 (wM_e0 ad cy σ) rfl 10 (by decide) (List.mem_cons_of_mem _ zw9_7) rfl dX12_data_1 ?_
  refine lv_bipush (v := 60) hx hb dX12_data_4 (by decide) ?_
  obtain ⟨q, hf⟩ := zck_use hf
  refine z_iald hC hI 3 2 (wM_e3 ad cy σ) (tM_t3 cy) q dX12_data_6 ?_
  refine lv_topi (fun v1 ev1 => ?_)
  replace hf := zbv_use ev1 hf
  refine lv_istore_n (lv' := [(1, .int v1), (0, .ref (ad 0))]) hx hb dX12_data_7 rfl hl (by decide) rfl (fun ls hl => ?_)
  refine lv_aload_n hx hb dX12_data_8 rfl (lv_at hl 1 rfl) ?_
  refine z_get hC hI hinX12_data_X120 0 (wM_e0 ad cy σ) rfl 10 (by decide) (List.mem_cons_of_mem _ zw9_7) rfl dX12_data_9 ?_
  refine lv_bipush (v := 61) hx hb dX12_data_12 (by decide) ?_
  refine lv_iconst (v := 0) hx hb dX12_data_14 (by decide) ?_
  obtain ⟨q, hf⟩ := zck_use hf
  obtain ⟨σ2, eσ2⟩ : ∃ z, z = zsi σ 3 ((61 : Int32).toNatClampNeg) 0 := ⟨_, rfl⟩
  replace hf := zbv_use eσ2 hf
  refine z_iast hC hI 3 2 (wM_e3 ad cy σ) (tM_t3 cy) q ((wM_s3 ad cy σ _ _).trans (congrArg (wM ad cy) eσ2.symm)) dX12_data_15 (fun H locs hI => ?_)
  refine lv_aload_n hx hb dX12_data_16 rfl (lv_at hl 1 rfl) ?_
  refine z_get hC hI hinX12_data_X120 0 (wM_e0 ad cy σ2) rfl 10 (by decide) (List.mem_cons_of_mem _ zw9_7) rfl dX12_data_17 ?_
  refine lv_bipush (v := 60) hx hb dX12_data_20 (by decide) ?_
  refine lv_aload_n hx hb dX12_data_22 rfl (lv_at hl 1 rfl) ?_
  refine lv_aload_n hx hb dX12_data_23 rfl (lv_at hl 1 rfl) ?_
  refine z_get hC hI hinX12_data_X120 0 (wM_e0 ad cy σ2) rfl 10 (by decide) (List.mem_cons_of_mem _ zw9_7) rfl dX12_data_24 ?_
  refine lv_bipush (v := 58) hx hb dX12_data_27 (by decide) ?_
  obtain ⟨q, hf⟩ := zck_use hf
  refine z_iald hC hI 3 2 (wM_e3 ad cy σ2) (tM_t3 cy) q dX12_data_29 ?_
  obtain ⟨σ3, v4, g3, hf⟩ := zbi_use hf
  refine z_callVi (As := [.int (zgi σ2 3 (58 : Int32).toNatClampNeg)]) (rest := [.int 60, .ref (ad 3)]) hC hI (cX12_video8_met st l D ad cy σ2 (zgi σ2 3 (58 : Int32).toNatClampNeg) _ g3) (zgV zw56_6 zw56_7 zw56_8 zw1_5 zw56_9) rfl ⟨rfl, rfl⟩ 1 hdX12_video8 ⟨Nat.le_of_ble_eq_true rfl, Nat.le_of_ble_eq_true rfl⟩ rfl rfl (wM_e0 ad cy σ2) rfl hl rfl (Nat.le_of_ble_eq_true rfl) dX12_data_30 ⟨Nat.zero_le _, Nat.zero_le _⟩ (fun H locs hI => ?_)
  obtain ⟨q, hf⟩ := zck_use hf
  obtain ⟨σ5, eσ5⟩ : ∃ z, z = zsi σ3 3 ((60 : Int32).toNatClampNeg) v4 := ⟨_, rfl⟩
  replace hf := zbv_use eσ5 hf
  refine z_iast hC hI 3 2 (wM_e3 ad cy σ3) (tM_t3 cy) q ((wM_s3 ad cy σ3 _ _).trans (congrArg (wM ad cy) eσ5.symm)) dX12_data_33 (fun H locs hI => ?_)
  refine lv_aload_n hx hb dX12_data_34 rfl (lv_at hl 1 rfl) ?_
  obtain ⟨σ6, g6, hf⟩ := zbu_use hf
  refine z_callVu (As := []) (rest := []) hC hI (cX12_further_met st l D ad cy σ5  _ g6) (zgV zw56_10 zw56_11 zw56_12 zw1_5 zw56_13) rfl ⟨rfl, rfl⟩ 0 hdX12_further ⟨Nat.le_of_ble_eq_true rfl, Nat.le_of_ble_eq_true rfl⟩ rfl rfl (wM_e0 ad cy σ5) rfl hl rfl (Nat.le_of_ble_eq_true rfl) dX12_data_35 ⟨Nat.zero_le _, Nat.zero_le _⟩ (fun H locs hI => ?_)
  refine lv_iload_n hx hb dX12_data_38 rfl (lv_at hl 0 rfl) ?_
  exact z_ireturn hC hI hf dX12_data_39
set_option maxRecDepth 20000 in
theorem cX12_data_met (st : Nat → Nat) (l : Launch) (D : va_G) (ad : Nat → Nat) (cy : Nat → ClassId) (σ : zSt)  (res : zSt × Int32) (hf : fX12_data σ  = some res) (sz : Nat) : zMi st l yX12_data wzX12_data rmX12_data [.ref (ad 0)] D (tM cy) (wM ad cy) sz σ res :=
  zMi.of (cc := cX12_data) (maxL := 2) (ret := (some .int)) (by decide) rfl (Nat.le_of_ble_eq_true rfl) (fun p e s m args below meth c hC A hI ls hl => bX12_data hC hI hl hf)
theorem hdX12_data : yX12_data.cls = RX12 ∧ yX12_data.cls ≠ "java/lang/invoke/MethodHandle" ∧ yX12_data.cls ≠ "java/lang/invoke/VarHandle" ∧ (parseMethodDescriptor yX12_data.desc).map (fun d => d.parameters.length) = some 0 := by decide +kernel
noncomputable def rmX12_lineAt : Room := { frames := 0, cells := 0, slots := 0, locals := 0 }
noncomputable def wzX12_lineAt : List Cond := .code yX12_lineAt cX12_lineAt 2 (some .int) :: wsL_law
theorem hinX12_lineAt_X120 : ∀ w ∈ wsX120, w ∈ wzX12_lineAt := fun w h => List.mem_cons_of_mem _ (inlX12 w h)
noncomputable def fX12_lineAt_45  (σ : zSt) (s0 : Int32) : Option (zSt × Int32) :=
  some (σ, s0)
noncomputable def fX12_lineAt  (σ : zSt) (x1 : Int32) : Option (zSt × Int32) :=
  zck (zin 33 1048) (
  if (((zgi σ 3 (33 : Int32).toNatClampNeg) >>> ((1 + (2 * x1)) &&& 31)) &&& 1) = 0 then zck (zin 33 1048) (
  fX12_lineAt_45 σ (((zgi σ 3 (33 : Int32).toNatClampNeg) >>> ((5 + (2 * x1)) &&& 31)) &&& 1)) else
  zck (zin (45 + x1) 1048) (
  fX12_lineAt_45 σ (zgi σ 3 (45 + x1).toNatClampNeg)))
set_option maxRecDepth 20000 in
set_option maxHeartbeats 4000000 in
theorem bX12_lineAt_45 {st : Nat → Nat} {p : Program} {l : Launch} {e : Env} {s : State} {m : MethodId} {args : Array Value} {below : List Frame} {meth : Method} {c : Code} {D : va_G} {A : Nat → Prop} {ad : Nat → Nat} {cy : Nat → ClassId} (hC : zC p m c cX12_lineAt 2 s args wzX12_lineAt RX12 meth (some .int))  {res : zSt × Int32} {H : Heap} {locs : List Loc} {σ : zSt} {ls : Array Slot} {s0 : Int32} (hI : zI st D (tM cy) (wM ad cy σ) A s H locs) (hl : lv_has ls 2 []) (hf : fX12_lineAt_45  σ s0 = some res) : W p l e rmX12_lineAt s m args below meth c H locs 0 0 (zQi below args s D (tM cy) (wM ad cy) A res) (F0 m 45 ls [.int s0]) := by
  have hx := hC.1
  have hb := hC.2.1
  unfold fX12_lineAt_45 at hf
  exact z_ireturn hC hI hf dX12_lineAt_45
set_option maxRecDepth 20000 in
set_option maxHeartbeats 4000000 in
theorem bX12_lineAt {st : Nat → Nat} {p : Program} {l : Launch} {e : Env} {s : State} {m : MethodId} {args : Array Value} {below : List Frame} {meth : Method} {c : Code} {D : va_G} {A : Nat → Prop} {ad : Nat → Nat} {cy : Nat → ClassId} (hC : zC p m c cX12_lineAt 2 s args wzX12_lineAt RX12 meth (some .int))  {res : zSt × Int32} {H : Heap} {locs : List Loc} {σ : zSt} {ls : Array Slot} {x1 : Int32} (hI : zI st D (tM cy) (wM ad cy σ) A s H locs) (hl : lv_has ls 2 [(0, .ref (ad 0)), (1, .int x1)]) (hf : fX12_lineAt  σ x1 = some res) : W p l e rmX12_lineAt s m args below meth c H locs 0 0 (zQi below args s D (tM cy) (wM ad cy) A res) (F0 m 0 ls []) := by
  have hx := hC.1
  have hb := hC.2.1
  unfold fX12_lineAt at hf
  refine lv_aload_n hx hb dX12_lineAt_0 rfl (lv_at hl 0 rfl) ?_
  refine z_get hC hI hinX12_lineAt_X120 0 (wM_e0 ad cy σ) rfl 10 (by decide) (List.mem_cons_of_mem _ zw9_7) rfl dX12_lineAt_1 ?_
  refine lv_bipush (v := 33) hx hb dX12_lineAt_4 (by decide) ?_
  obtain ⟨q, hf⟩ := zck_use hf
  refine z_iald hC hI 3 2 (wM_e3 ad cy σ) (tM_t3 cy) q dX12_lineAt_6 ?_
  refine lv_iconst (v := 1) hx hb dX12_lineAt_7 (by decide) ?_
  refine lv_iconst (v := 2) hx hb dX12_lineAt_8 (by decide) ?_
  refine lv_iload_n hx hb dX12_lineAt_9 rfl (lv_at hl 1 rfl) ?_
  refine lv_imul hx hb dX12_lineAt_10 ?_
  refine lv_iadd hx hb dX12_lineAt_11 ?_
  refine lv_ishr hx hb dX12_lineAt_12 ?_
  refine lv_iconst (v := 1) hx hb dX12_lineAt_13 (by decide) ?_
  refine lv_iand hx hb dX12_lineAt_14 ?_
  refine lv_if_ne (tgt := 36) hx hb dX12_lineAt_15 (by decide) (fun q => ?_) (fun q => ?_)
  · replace hf := zif_f q hf
    refine lv_aload_n hx hb dX12_lineAt_36 rfl (lv_at hl 0 rfl) ?_
    refine z_get hC hI hinX12_lineAt_X120 0 (wM_e0 ad cy σ) rfl 10 (by decide) (List.mem_cons_of_mem _ zw9_7) rfl dX12_lineAt_37 ?_
    refine lv_bipush (v := 45) hx hb dX12_lineAt_40 (by decide) ?_
    refine lv_iload_n hx hb dX12_lineAt_42 rfl (lv_at hl 1 rfl) ?_
    refine lv_iadd hx hb dX12_lineAt_43 ?_
    obtain ⟨q, hf⟩ := zck_use hf
    refine z_iald hC hI 3 2 (wM_e3 ad cy σ) (tM_t3 cy) q dX12_lineAt_44 ?_
    exact bX12_lineAt_45 hC  hI (lv_sub hl [] rfl) hf
  replace hf := zif_t q hf
  refine lv_aload_n hx hb dX12_lineAt_18 rfl (lv_at hl 0 rfl) ?_
  refine z_get hC hI hinX12_lineAt_X120 0 (wM_e0 ad cy σ) rfl 10 (by decide) (List.mem_cons_of_mem _ zw9_7) rfl dX12_lineAt_19 ?_
  refine lv_bipush (v := 33) hx hb dX12_lineAt_22 (by decide) ?_
  obtain ⟨q, hf⟩ := zck_use hf
  refine z_iald hC hI 3 2 (wM_e3 ad cy σ) (tM_t3 cy) q dX12_lineAt_24 ?_
  refine lv_iconst (v := 5) hx hb dX12_lineAt_25 (by decide) ?_
  refine lv_iconst (v := 2) hx hb dX12_lineAt_26 (by decide) ?_
  refine lv_iload_n hx hb dX12_lineAt_27 rfl (lv_at hl 1 rfl) ?_
  refine lv_imul hx hb dX12_lineAt_28 ?_
  refine lv_iadd hx hb dX12_lineAt_29 ?_
  refine lv_ishr hx hb dX12_lineAt_30 ?_
  refine lv_iconst (v := 1) hx hb dX12_lineAt_31 (by decide) ?_
  refine lv_iand hx hb dX12_lineAt_32 ?_
  refine lv_goto (tgt := 45) hx hb dX12_lineAt_33 (by decide) ?_
  exact bX12_lineAt_45 hC  hI (lv_sub hl [] rfl) hf
set_option maxRecDepth 20000 in
theorem cX12_lineAt_met (st : Nat → Nat) (l : Launch) (D : va_G) (ad : Nat → Nat) (cy : Nat → ClassId) (σ : zSt) (x1 : Int32) (res : zSt × Int32) (hf : fX12_lineAt σ x1 = some res) (sz : Nat) : zMi st l yX12_lineAt wzX12_lineAt rmX12_lineAt [.ref (ad 0), .int x1] D (tM cy) (wM ad cy) sz σ res :=
  zMi.of (cc := cX12_lineAt) (maxL := 2) (ret := (some .int)) (by decide) rfl (Nat.le_of_ble_eq_true rfl) (fun p e s m args below meth c hC A hI ls hl => bX12_lineAt hC hI hl hf)
theorem hdX12_lineAt : yX12_lineAt.cls = RX12 ∧ yX12_lineAt.cls ≠ "java/lang/invoke/MethodHandle" ∧ yX12_lineAt.cls ≠ "java/lang/invoke/VarHandle" ∧ (parseMethodDescriptor yX12_lineAt.desc).map (fun d => d.parameters.length) = some 1 := by decide +kernel
noncomputable def rmX12_without : Room := { frames := 0, cells := 0, slots := 0, locals := 0 }
noncomputable def wzX12_without : List Cond := .code yX12_without cX12_without 4 (some .int) :: wsL_law
noncomputable def fX12_without_20  (σ : zSt) (s0 : Int32) : Option (zSt × Int32) :=
  some (σ, s0)
noncomputable def fX12_without  (σ : zSt) (x1 : Int32) (x2 : Int32) (x3 : Int32) : Option (zSt × Int32) :=
  if x3 = 1 then fX12_without_20 σ (x1 ||| (1 <<< (x2 &&& 31))) else
  fX12_without_20 σ (x1 &&& ((1 <<< (x2 &&& 31)) ^^^ (-1)))
set_option maxRecDepth 20000 in
set_option maxHeartbeats 4000000 in
theorem bX12_without_20 {st : Nat → Nat} {p : Program} {l : Launch} {e : Env} {s : State} {m : MethodId} {args : Array Value} {below : List Frame} {meth : Method} {c : Code} {D : va_G} {A : Nat → Prop} {ad : Nat → Nat} {cy : Nat → ClassId} (hC : zC p m c cX12_without 4 s args wzX12_without RX12 meth (some .int))  {res : zSt × Int32} {H : Heap} {locs : List Loc} {σ : zSt} {ls : Array Slot} {s0 : Int32} (hI : zI st D (tM cy) (wM ad cy σ) A s H locs) (hl : lv_has ls 4 []) (hf : fX12_without_20  σ s0 = some res) : W p l e rmX12_without s m args below meth c H locs 0 0 (zQi below args s D (tM cy) (wM ad cy) A res) (F0 m 20 ls [.int s0]) := by
  have hx := hC.1
  have hb := hC.2.1
  unfold fX12_without_20 at hf
  exact z_ireturn hC hI hf dX12_without_20
set_option maxRecDepth 20000 in
set_option maxHeartbeats 4000000 in
theorem bX12_without {st : Nat → Nat} {p : Program} {l : Launch} {e : Env} {s : State} {m : MethodId} {args : Array Value} {below : List Frame} {meth : Method} {c : Code} {D : va_G} {A : Nat → Prop} {ad : Nat → Nat} {cy : Nat → ClassId} (hC : zC p m c cX12_without 4 s args wzX12_without RX12 meth (some .int))  {res : zSt × Int32} {H : Heap} {locs : List Loc} {σ : zSt} {ls : Array Slot} {x1 : Int32} {x2 : Int32} {x3 : Int32} (hI : zI st D (tM cy) (wM ad cy σ) A s H locs) (hl : lv_has ls 4 [(0, .ref (ad 0)), (1, .int x1), (2, .int x2), (3, .int x3)]) (hf : fX12_without  σ x1 x2 x3 = some res) : W p l e rmX12_without s m args below meth c H locs 0 0 (zQi below args s D (tM cy) (wM ad cy) A res) (F0 m 0 ls []) := by
  have hx := hC.1
  have hb := hC.2.1
  unfold fX12_without at hf
  refine lv_iload_n hx hb dX12_without_0 rfl (lv_at hl 3 rfl) ?_
  refine lv_iconst (v := 1) hx hb dX12_without_1 (by decide) ?_
  refine lv_icmp_ne (tgt := 13) hx hb dX12_without_2 (by decide) (fun q => ?_) (fun q => ?_)
  · replace hf := zif_f q hf
    refine lv_iload_n hx hb dX12_without_13 rfl (lv_at hl 1 rfl) ?_
    refine lv_iconst (v := 1) hx hb dX12_without_14 (by decide) ?_
    refine lv_iload_n hx hb dX12_without_15 rfl (lv_at hl 2 rfl) ?_
    refine lv_ishl hx hb dX12_without_16 ?_
    refine lv_iconst (v := (-1)) hx hb dX12_without_17 (by decide) ?_
    refine lv_ixor hx hb dX12_without_18 ?_
    refine lv_iand hx hb dX12_without_19 ?_
    exact bX12_without_20 hC  hI (lv_sub hl [] rfl) hf
  replace hf := zif_t q hf
  refine lv_iload_n hx hb dX12_without_5 rfl (lv_at hl 1 rfl) ?_
  refine lv_iconst (v := 1) hx hb dX12_without_6 (by decide) ?_
  refine lv_iload_n hx hb dX12_without_7 rfl (lv_at hl 2 rfl) ?_
  refine lv_ishl hx hb dX12_without_8 ?_
  refine lv_ior hx hb dX12_without_9 ?_
  refine lv_goto (tgt := 20) hx hb dX12_without_10 (by decide) ?_
  exact bX12_without_20 hC  hI (lv_sub hl [] rfl) hf
set_option maxRecDepth 20000 in
theorem cX12_without_met (st : Nat → Nat) (l : Launch) (D : va_G) (ad : Nat → Nat) (cy : Nat → ClassId) (σ : zSt) (x1 : Int32) (x2 : Int32) (x3 : Int32) (res : zSt × Int32) (hf : fX12_without σ x1 x2 x3 = some res) (sz : Nat) : zMi st l yX12_without wzX12_without rmX12_without [.ref (ad 0), .int x1, .int x2, .int x3] D (tM cy) (wM ad cy) sz σ res :=
  zMi.of (cc := cX12_without) (maxL := 4) (ret := (some .int)) (by decide) rfl (Nat.le_of_ble_eq_true rfl) (fun p e s m args below meth c hC A hI ls hl => bX12_without hC hI hl hf)
theorem hdX12_without : yX12_without.cls = RX12 ∧ yX12_without.cls ≠ "java/lang/invoke/MethodHandle" ∧ yX12_without.cls ≠ "java/lang/invoke/VarHandle" ∧ (parseMethodDescriptor yX12_without.desc).map (fun d => d.parameters.length) = some 3 := by decide +kernel
noncomputable def rmX12_port : Room := { frames := 4, cells := 0, slots := 0, locals := 85 }
noncomputable def wzX12_port : List Cond := .code yX12_port cX12_port 4 (some .int) :: wsL_law
theorem hinX12_port_X120 : ∀ w ∈ wsX120, w ∈ wzX12_port := fun w h => List.mem_cons_of_mem _ (inlX12 w h)
noncomputable def fX12_port_32  (σ : zSt)  : Option (zSt × Int32) :=
  some (σ, 255)
noncomputable def fX12_port_73  (σ : zSt) (s0 : Int32) : Option (zSt × Int32) :=
  some (σ, s0)
noncomputable def fX12_port_60  (σ : zSt) (s0 : Int32) (s1 : Int32) : Option (zSt × Int32) :=
  fX12_port_73 σ (s1 ||| s0)
noncomputable def fX12_port_99  (σ : zSt) (s0 : Int32) : Option (zSt × Int32) :=
  some (σ, s0)
noncomputable def fX12_port_122  (σ : zSt) (s0 : Int32) : Option (zSt × Int32) :=
  some (σ, s0)
noncomputable def fX12_port_230  (σ : zSt) (s0 : Int32) : Option (zSt × Int32) :=
  some (σ, s0)
noncomputable def fX12_port_289  (σ : zSt) (s0 : Int32) : Option (zSt × Int32) :=
  some (σ, s0)
noncomputable def fX12_port_147  (σ : zSt) (x2 : Int32) : Option (zSt × Int32) :=
  if x2 = 0 then zck (zin 42 1048) (
  zck (zin 43 1048) (
  zbv (255 &&& (((zgi σ 3 (42 : Int32).toNatClampNeg) ||| ((zgi σ 3 (43 : Int32).toNatClampNeg) <<< ((6 : Int32) &&& 31))) ^^^ (-1))) (fun v1 =>
  zck (zin 33 1048) (
  if ((zgi σ 3 (33 : Int32).toNatClampNeg) &&& 1) = 0 then zck (zin 33 1048) (
  zbi (fX12_without σ v1 5 (((zgi σ 3 (33 : Int32).toNatClampNeg) >>> ((4 : Int32) &&& 31)) &&& 1)) (fun σ2 v3 =>
  fX12_port_289 σ2 v3)) else
  fX12_port_289 σ v1)))) else
  zck (zin 43 1048) (
  zbv ((255 &&& (((zgi σ 3 (43 : Int32).toNatClampNeg) >>> ((2 : Int32) &&& 31)) ^^^ (-1))) ||| 48) (fun v4 =>
  zbi (fX12_lineAt σ 0) (fun σ5 v6 =>
  zbi (fX12_without σ5 v4 6 v6) (fun σ7 v8 =>
  zbi (fX12_lineAt σ7 1) (fun σ9 v10 =>
  zbi (fX12_without σ9 v8 7 v10) (fun σ11 v12 =>
  zck (zin 33 1048) (
  if ((zgi σ11 3 (33 : Int32).toNatClampNeg) &&& 4) = 0 then zck (zin 33 1048) (
  zbi (fX12_without σ11 v12 3 (((zgi σ11 3 (33 : Int32).toNatClampNeg) >>> ((6 : Int32) &&& 31)) &&& 1)) (fun σ13 v14 =>
  fX12_port_230 σ13 v14)) else
  fX12_port_230 σ11 v12)))))))
noncomputable def fX12_port_12  (σ : zSt) (x1 : Int32) (s0 : Int32) : Option (zSt × Int32) :=
  if 64 ≤ x1 then if 128 ≤ x1 then if 192 ≤ x1 then if x1 = 242 then if (zgi σ 0 3) = 2 then fX12_port_147 σ s0 else
  zck (zin 163 1048) (
  some (σ, zgi σ 3 (163 : Int32).toNatClampNeg)) else
  fX12_port_147 σ s0 else
  if s0 = 0 then zbi (fX12_data σ ) (fun σ15 v16 =>
  fX12_port_122 σ15 v16) else
  zbi (fX12_status σ ) (fun σ17 v18 =>
  fX12_port_122 σ17 v18) else
  if s0 = 0 then zbi (fX12_vCount σ ) (fun σ19 v20 =>
  fX12_port_99 σ19 v20) else
  zck (zin 35 1048) (
  fX12_port_99 σ (zgi σ 3 (35 : Int32).toNatClampNeg)) else
  if (zgi σ 0 3) = 2 then if x1 ≤ 5 then if x1 = 0 then zck (zin 44 1048) (
  if (zgi σ 3 (44 : Int32).toNatClampNeg) = 1 then fX12_port_60 σ 0 64 else
  fX12_port_60 σ 128 64) else
  zck (zin (36 + x1) 1048) (
  fX12_port_73 σ (zgi σ 3 (36 + x1).toNatClampNeg)) else
  fX12_port_32 σ else
  fX12_port_32 σ
noncomputable def fX12_port  (σ : zSt) (x1 : Int32) : Option (zSt × Int32) :=
  zck (decide (¬ 2 = 0)) (
  if (zrem x1 2) = 1 then fX12_port_12 σ x1 1 else
  fX12_port_12 σ x1 0)
set_option maxRecDepth 20000 in
set_option maxHeartbeats 4000000 in
theorem bX12_port_32 {st : Nat → Nat} {p : Program} {l : Launch} {e : Env} {s : State} {m : MethodId} {args : Array Value} {below : List Frame} {meth : Method} {c : Code} {D : va_G} {A : Nat → Prop} {ad : Nat → Nat} {cy : Nat → ClassId} (hC : zC p m c cX12_port 4 s args wzX12_port RX12 meth (some .int))  {res : zSt × Int32} {H : Heap} {locs : List Loc} {σ : zSt} {ls : Array Slot}  (hI : zI st D (tM cy) (wM ad cy σ) A s H locs) (hl : lv_has ls 4 []) (hf : fX12_port_32  σ  = some res) : W p l e rmX12_port s m args below meth c H locs 0 0 (zQi below args s D (tM cy) (wM ad cy) A res) (F0 m 32 ls []) := by
  have hx := hC.1
  have hb := hC.2.1
  unfold fX12_port_32 at hf
  refine lv_sipush (v := 255) hx hb dX12_port_32 (by decide) ?_
  exact z_ireturn hC hI hf dX12_port_35
set_option maxRecDepth 20000 in
set_option maxHeartbeats 4000000 in
theorem bX12_port_73 {st : Nat → Nat} {p : Program} {l : Launch} {e : Env} {s : State} {m : MethodId} {args : Array Value} {below : List Frame} {meth : Method} {c : Code} {D : va_G} {A : Nat → Prop} {ad : Nat → Nat} {cy : Nat → ClassId} (hC : zC p m c cX12_port 4 s args wzX12_port RX12 meth (some .int))  {res : zSt × Int32} {H : Heap} {locs : List Loc} {σ : zSt} {ls : Array Slot} {s0 : Int32} (hI : zI st D (tM cy) (wM ad cy σ) A s H locs) (hl : lv_has ls 4 []) (hf : fX12_port_73  σ s0 = some res) : W p l e rmX12_port s m args below meth c H locs 0 0 (zQi below args s D (tM cy) (wM ad cy) A res) (F0 m 73 ls [.int s0]) := by
  have hx := hC.1
  have hb := hC.2.1
  unfold fX12_port_73 at hf
  exact z_ireturn hC hI hf dX12_port_73
set_option maxRecDepth 20000 in
set_option maxHeartbeats 4000000 in
theorem bX12_port_60 {st : Nat → Nat} {p : Program} {l : Launch} {e : Env} {s : State} {m : MethodId} {args : Array Value} {below : List Frame} {meth : Method} {c : Code} {D : va_G} {A : Nat → Prop} {ad : Nat → Nat} {cy : Nat → ClassId} (hC : zC p m c cX12_port 4 s args wzX12_port RX12 meth (some .int))  {res : zSt × Int32} {H : Heap} {locs : List Loc} {σ : zSt} {ls : Array Slot} {s0 : Int32} {s1 : Int32} (hI : zI st D (tM cy) (wM ad cy σ) A s H locs) (hl : lv_has ls 4 []) (hf : fX12_port_60  σ s0 s1 = some res) : W p l e rmX12_port s m args below meth c H locs 0 0 (zQi below args s D (tM cy) (wM ad cy) A res) (F0 m 60 ls [.int s0, .int s1]) := by
  have hx := hC.1
  have hb := hC.2.1
  unfold fX12_port_60 at hf
  refine lv_ior hx hb dX12_port_60 ?_
  refine lv_goto (tgt := 73) hx hb dX12_port_61 (by decide) ?_
  exact bX12_port_73 hC  hI hl hf
set_option maxRecDepth 20000 in
set_option maxHeartbeats 4000000 in
theorem bX12_port_99 {st : Nat → Nat} {p : Program} {l : Launch} {e : Env} {s : State} {m : MethodId} {args : Array Value} {below : List Frame} {meth : Method} {c : Code} {D : va_G} {A : Nat → Prop} {ad : Nat → Nat} {cy : Nat → ClassId} (hC : zC p m c cX12_port 4 s args wzX12_port RX12 meth (some .int))  {res : zSt × Int32} {H : Heap} {locs : List Loc} {σ : zSt} {ls : Array Slot} {s0 : Int32} (hI : zI st D (tM cy) (wM ad cy σ) A s H locs) (hl : lv_has ls 4 []) (hf : fX12_port_99  σ s0 = some res) : W p l e rmX12_port s m args below meth c H locs 0 0 (zQi below args s D (tM cy) (wM ad cy) A res) (F0 m 99 ls [.int s0]) := by
  have hx := hC.1
  have hb := hC.2.1
  unfold fX12_port_99 at hf
  exact z_ireturn hC hI hf dX12_port_99
set_option maxRecDepth 20000 in
set_option maxHeartbeats 4000000 in
theorem bX12_port_122 {st : Nat → Nat} {p : Program} {l : Launch} {e : Env} {s : State} {m : MethodId} {args : Array Value} {below : List Frame} {meth : Method} {c : Code} {D : va_G} {A : Nat → Prop} {ad : Nat → Nat} {cy : Nat → ClassId} (hC : zC p m c cX12_port 4 s args wzX12_port RX12 meth (some .int))  {res : zSt × Int32} {H : Heap} {locs : List Loc} {σ : zSt} {ls : Array Slot} {s0 : Int32} (hI : zI st D (tM cy) (wM ad cy σ) A s H locs) (hl : lv_has ls 4 []) (hf : fX12_port_122  σ s0 = some res) : W p l e rmX12_port s m args below meth c H locs 0 0 (zQi below args s D (tM cy) (wM ad cy) A res) (F0 m 122 ls [.int s0]) := by
  have hx := hC.1
  have hb := hC.2.1
  unfold fX12_port_122 at hf
  exact z_ireturn hC hI hf dX12_port_122
set_option maxRecDepth 20000 in
set_option maxHeartbeats 4000000 in
theorem bX12_port_230 {st : Nat → Nat} {p : Program} {l : Launch} {e : Env} {s : State} {m : MethodId} {args : Array Value} {below : List Frame} {meth : Method} {c : Code} {D : va_G} {A : Nat → Prop} {ad : Nat → Nat} {cy : Nat → ClassId} (hC : zC p m c cX12_port 4 s args wzX12_port RX12 meth (some .int))  {res : zSt × Int32} {H : Heap} {locs : List Loc} {σ : zSt} {ls : Array Slot} {s0 : Int32} (hI : zI st D (tM cy) (wM ad cy σ) A s H locs) (hl : lv_has ls 4 []) (hf : fX12_port_230  σ s0 = some res) : W p l e rmX12_port s m args below meth c H locs 0 0 (zQi below args s D (tM cy) (wM ad cy) A res) (F0 m 230 ls [.int s0]) := by
  have hx := hC.1
  have hb := hC.2.1
  unfold fX12_port_230 at hf
  exact z_ireturn hC hI hf dX12_port_230
set_option maxRecDepth 20000 in
set_option maxHeartbeats 4000000 in
theorem bX12_port_289 {st : Nat → Nat} {p : Program} {l : Launch} {e : Env} {s : State} {m : MethodId} {args : Array Value} {below : List Frame} {meth : Method} {c : Code} {D : va_G} {A : Nat → Prop} {ad : Nat → Nat} {cy : Nat → ClassId} (hC : zC p m c cX12_port 4 s args wzX12_port RX12 meth (some .int))  {res : zSt × Int32} {H : Heap} {locs : List Loc} {σ : zSt} {ls : Array Slot} {s0 : Int32} (hI : zI st D (tM cy) (wM ad cy σ) A s H locs) (hl : lv_has ls 4 []) (hf : fX12_port_289  σ s0 = some res) : W p l e rmX12_port s m args below meth c H locs 0 0 (zQi below args s D (tM cy) (wM ad cy) A res) (F0 m 289 ls [.int s0]) := by
  have hx := hC.1
  have hb := hC.2.1
  unfold fX12_port_289 at hf
  exact z_ireturn hC hI hf dX12_port_289
set_option maxRecDepth 20000 in
set_option maxHeartbeats 4000000 in
theorem bX12_port_147 {st : Nat → Nat} {p : Program} {l : Launch} {e : Env} {s : State} {m : MethodId} {args : Array Value} {below : List Frame} {meth : Method} {c : Code} {D : va_G} {A : Nat → Prop} {ad : Nat → Nat} {cy : Nat → ClassId} (hC : zC p m c cX12_port 4 s args wzX12_port RX12 meth (some .int))  {res : zSt × Int32} {H : Heap} {locs : List Loc} {σ : zSt} {ls : Array Slot} {x2 : Int32} (hI : zI st D (tM cy) (wM ad cy σ) A s H locs) (hl : lv_has ls 4 [(0, .ref (ad 0)), (2, .int x2)]) (hf : fX12_port_147  σ x2 = some res) : W p l e rmX12_port s m args below meth c H locs 0 0 (zQi below args s D (tM cy) (wM ad cy) A res) (F0 m 147 ls []) := by
  have hx := hC.1
  have hb := hC.2.1
  unfold fX12_port_147 at hf
  refine lv_iload_n hx hb dX12_port_147 rfl (lv_at hl 1 rfl) ?_
  refine lv_if_eq (tgt := 231) hx hb dX12_port_148 (by decide) (fun q => ?_) (fun q => ?_)
  · replace hf := zif_t q hf
    refine lv_sipush (v := 255) hx hb dX12_port_231 (by decide) ?_
    refine lv_aload_n hx hb dX12_port_234 rfl (lv_at hl 0 rfl) ?_
    refine z_get hC hI hinX12_port_X120 0 (wM_e0 ad cy σ) rfl 10 (by decide) (List.mem_cons_of_mem _ zw9_7) rfl dX12_port_235 ?_
    refine lv_bipush (v := 42) hx hb dX12_port_238 (by decide) ?_
    obtain ⟨q, hf⟩ := zck_use hf
    refine z_iald hC hI 3 2 (wM_e3 ad cy σ) (tM_t3 cy) q dX12_port_240 ?_
    refine lv_aload_n hx hb dX12_port_241 rfl (lv_at hl 0 rfl) ?_
    refine z_get hC hI hinX12_port_X120 0 (wM_e0 ad cy σ) rfl 10 (by decide) (List.mem_cons_of_mem _ zw9_7) rfl dX12_port_242 ?_
    refine lv_bipush (v := 43) hx hb dX12_port_245 (by decide) ?_
    obtain ⟨q, hf⟩ := zck_use hf
    refine z_iald hC hI 3 2 (wM_e3 ad cy σ) (tM_t3 cy) q dX12_port_247 ?_
    refine lv_bipush (v := 6) hx hb dX12_port_248 (by decide) ?_
    refine lv_ishl hx hb dX12_port_250 ?_
    refine lv_ior hx hb dX12_port_251 ?_
    refine lv_iconst (v := (-1)) hx hb dX12_port_252 (by decide) ?_
    refine lv_ixor hx hb dX12_port_253 ?_
    refine lv_iand hx hb dX12_port_254 ?_
    refine lv_topi (fun v1 ev1 => ?_)
    replace hf := zbv_use ev1 hf
    refine lv_istore_n (lv' := [(3, .int v1), (0, .ref (ad 0)), (2, .int x2)]) hx hb dX12_port_255 rfl hl (by decide) rfl (fun ls hl => ?_)
    refine lv_aload_n hx hb dX12_port_256 rfl (lv_at hl 1 rfl) ?_
    refine z_get hC hI hinX12_port_X120 0 (wM_e0 ad cy σ) rfl 10 (by decide) (List.mem_cons_of_mem _ zw9_7) rfl dX12_port_257 ?_
    refine lv_bipush (v := 33) hx hb dX12_port_260 (by decide) ?_
    obtain ⟨q, hf⟩ := zck_use hf
    refine z_iald hC hI 3 2 (wM_e3 ad cy σ) (tM_t3 cy) q dX12_port_262 ?_
    refine lv_iconst (v := 1) hx hb dX12_port_263 (by decide) ?_
    refine lv_iand hx hb dX12_port_264 ?_
    refine lv_if_ne (tgt := 288) hx hb dX12_port_265 (by decide) (fun q => ?_) (fun q => ?_)
    · replace hf := zif_f q hf
      refine lv_iload_n hx hb dX12_port_288 rfl (lv_at hl 0 rfl) ?_
      exact bX12_port_289 hC  hI (lv_sub hl [] rfl) hf
    replace hf := zif_t q hf
    refine lv_aload_n hx hb dX12_port_268 rfl (lv_at hl 1 rfl) ?_
    refine lv_iload_n hx hb dX12_port_269 rfl (lv_at hl 0 rfl) ?_
    refine lv_iconst (v := 5) hx hb dX12_port_270 (by decide) ?_
    refine lv_aload_n hx hb dX12_port_271 rfl (lv_at hl 1 rfl) ?_
    refine z_get hC hI hinX12_port_X120 0 (wM_e0 ad cy σ) rfl 10 (by decide) (List.mem_cons_of_mem _ zw9_7) rfl dX12_port_272 ?_
    refine lv_bipush (v := 33) hx hb dX12_port_275 (by decide) ?_
    obtain ⟨q, hf⟩ := zck_use hf
    refine z_iald hC hI 3 2 (wM_e3 ad cy σ) (tM_t3 cy) q dX12_port_277 ?_
    refine lv_iconst (v := 4) hx hb dX12_port_278 (by decide) ?_
    refine lv_ishr hx hb dX12_port_279 ?_
    refine lv_iconst (v := 1) hx hb dX12_port_280 (by decide) ?_
    refine lv_iand hx hb dX12_port_281 ?_
    obtain ⟨σ2, v3, g2, hf⟩ := zbi_use hf
    refine z_callVi (As := [.int v1, .int 5, .int (((zgi σ 3 (33 : Int32).toNatClampNeg) >>> ((4 : Int32) &&& 31)) &&& 1)]) (rest := []) hC hI (cX12_without_met st l D ad cy σ v1 5 (((zgi σ 3 (33 : Int32).toNatClampNeg) >>> ((4 : Int32) &&& 31)) &&& 1) _ g2) (zgV zw57_18 zw57_19 zw57_20 zw1_5 zw57_21) rfl ⟨rfl, rfl⟩ 3 hdX12_without ⟨Nat.le_of_ble_eq_true rfl, Nat.le_of_ble_eq_true rfl⟩ rfl rfl (wM_e0 ad cy σ) rfl hl rfl (Nat.le_of_ble_eq_true rfl) dX12_port_282 ⟨Nat.zero_le _, Nat.zero_le _⟩ (fun H locs hI => ?_)
    refine lv_goto (tgt := 289) hx hb dX12_port_285 (by decide) ?_
    exact bX12_port_289 hC  hI (lv_sub hl [] rfl) hf
  replace hf := zif_f q hf
  refine lv_sipush (v := 255) hx hb dX12_port_151 (by decide) ?_
  refine lv_aload_n hx hb dX12_port_154 rfl (lv_at hl 0 rfl) ?_
  refine z_get hC hI hinX12_port_X120 0 (wM_e0 ad cy σ) rfl 10 (by decide) (List.mem_cons_of_mem _ zw9_7) rfl dX12_port_155 ?_
  refine lv_bipush (v := 43) hx hb dX12_port_158 (by decide) ?_
  obtain ⟨q, hf⟩ := zck_use hf
  refine z_iald hC hI 3 2 (wM_e3 ad cy σ) (tM_t3 cy) q dX12_port_160 ?_
  refine lv_iconst (v := 2) hx hb dX12_port_161 (by decide) ?_
  refine lv_ishr hx hb dX12_port_162 ?_
  refine lv_iconst (v := (-1)) hx hb dX12_port_163 (by decide) ?_
  refine lv_ixor hx hb dX12_port_164 ?_
  refine lv_iand hx hb dX12_port_165 ?_
  refine lv_bipush (v := 48) hx hb dX12_port_166 (by decide) ?_
  refine lv_ior hx hb dX12_port_168 ?_
  refine lv_topi (fun v4 ev4 => ?_)
  replace hf := zbv_use ev4 hf
  refine lv_istore_n (lv' := [(3, .int v4), (0, .ref (ad 0)), (2, .int x2)]) hx hb dX12_port_169 rfl hl (by decide) rfl (fun ls hl => ?_)
  refine lv_aload_n hx hb dX12_port_170 rfl (lv_at hl 1 rfl) ?_
  refine lv_iload_n hx hb dX12_port_171 rfl (lv_at hl 0 rfl) ?_
  refine lv_bipush (v := 6) hx hb dX12_port_172 (by decide) ?_
  refine lv_aload_n hx hb dX12_port_174 rfl (lv_at hl 1 rfl) ?_
  refine lv_iconst (v := 0) hx hb dX12_port_175 (by decide) ?_
  obtain ⟨σ5, v6, g5, hf⟩ := zbi_use hf
  refine z_callVi (As := [.int 0]) (rest := [.int 6, .int v4, .ref (ad 0)]) hC hI (cX12_lineAt_met st l D ad cy σ 0 _ g5) (zgV zw55_14 zw55_15 zw55_16 zw1_5 zw55_17) rfl ⟨rfl, rfl⟩ 1 hdX12_lineAt ⟨Nat.le_of_ble_eq_true rfl, Nat.le_of_ble_eq_true rfl⟩ rfl rfl (wM_e0 ad cy σ) rfl hl rfl (Nat.le_of_ble_eq_true rfl) dX12_port_176 ⟨Nat.zero_le _, Nat.zero_le _⟩ (fun H locs hI => ?_)
  obtain ⟨σ7, v8, g7, hf⟩ := zbi_use hf
  refine z_callVi (As := [.int v4, .int 6, .int v6]) (rest := []) hC hI (cX12_without_met st l D ad cy σ5 v4 6 v6 _ g7) (zgV zw57_18 zw57_19 zw57_20 zw1_5 zw57_21) rfl ⟨rfl, rfl⟩ 3 hdX12_without ⟨Nat.le_of_ble_eq_true rfl, Nat.le_of_ble_eq_true rfl⟩ rfl rfl (wM_e0 ad cy σ5) rfl hl rfl (Nat.le_of_ble_eq_true rfl) dX12_port_179 ⟨Nat.zero_le _, Nat.zero_le _⟩ (fun H locs hI => ?_)
  refine lv_istore_n (lv' := [(3, .int v8), (0, .ref (ad 0)), (2, .int x2)]) hx hb dX12_port_182 rfl hl (by decide) rfl (fun ls hl => ?_)
  refine lv_aload_n hx hb dX12_port_183 rfl (lv_at hl 1 rfl) ?_
  refine lv_iload_n hx hb dX12_port_184 rfl (lv_at hl 0 rfl) ?_
  refine lv_bipush (v := 7) hx hb dX12_port_185 (by decide) ?_
  refine lv_aload_n hx hb dX12_port_187 rfl (lv_at hl 1 rfl) ?_
  refine lv_iconst (v := 1) hx hb dX12_port_188 (by decide) ?_
  obtain ⟨σ9, v10, g9, hf⟩ := zbi_use hf
  refine z_callVi (As := [.int 1]) (rest := [.int 7, .int v8, .ref (ad 0)]) hC hI (cX12_lineAt_met st l D ad cy σ7 1 _ g9) (zgV zw55_14 zw55_15 zw55_16 zw1_5 zw55_17) rfl ⟨rfl, rfl⟩ 1 hdX12_lineAt ⟨Nat.le_of_ble_eq_true rfl, Nat.le_of_ble_eq_true rfl⟩ rfl rfl (wM_e0 ad cy σ7) rfl hl rfl (Nat.le_of_ble_eq_true rfl) dX12_port_189 ⟨Nat.zero_le _, Nat.zero_le _⟩ (fun H locs hI => ?_)
  obtain ⟨σ11, v12, g11, hf⟩ := zbi_use hf
  refine z_callVi (As := [.int v8, .int 7, .int v10]) (rest := []) hC hI (cX12_without_met st l D ad cy σ9 v8 7 v10 _ g11) (zgV zw57_18 zw57_19 zw57_20 zw1_5 zw57_21) rfl ⟨rfl, rfl⟩ 3 hdX12_without ⟨Nat.le_of_ble_eq_true rfl, Nat.le_of_ble_eq_true rfl⟩ rfl rfl (wM_e0 ad cy σ9) rfl hl rfl (Nat.le_of_ble_eq_true rfl) dX12_port_192 ⟨Nat.zero_le _, Nat.zero_le _⟩ (fun H locs hI => ?_)
  refine lv_istore_n (lv' := [(3, .int v12), (0, .ref (ad 0)), (2, .int x2)]) hx hb dX12_port_195 rfl hl (by decide) rfl (fun ls hl => ?_)
  refine lv_aload_n hx hb dX12_port_196 rfl (lv_at hl 1 rfl) ?_
  refine z_get hC hI hinX12_port_X120 0 (wM_e0 ad cy σ11) rfl 10 (by decide) (List.mem_cons_of_mem _ zw9_7) rfl dX12_port_197 ?_
  refine lv_bipush (v := 33) hx hb dX12_port_200 (by decide) ?_
  obtain ⟨q, hf⟩ := zck_use hf
  refine z_iald hC hI 3 2 (wM_e3 ad cy σ11) (tM_t3 cy) q dX12_port_202 ?_
  refine lv_iconst (v := 4) hx hb dX12_port_203 (by decide) ?_
  refine lv_iand hx hb dX12_port_204 ?_
  refine lv_if_ne (tgt := 229) hx hb dX12_port_205 (by decide) (fun q => ?_) (fun q => ?_)
  · replace hf := zif_f q hf
    refine lv_iload_n hx hb dX12_port_229 rfl (lv_at hl 0 rfl) ?_
    exact bX12_port_230 hC  hI (lv_sub hl [] rfl) hf
  replace hf := zif_t q hf
  refine lv_aload_n hx hb dX12_port_208 rfl (lv_at hl 1 rfl) ?_
  refine lv_iload_n hx hb dX12_port_209 rfl (lv_at hl 0 rfl) ?_
  refine lv_iconst (v := 3) hx hb dX12_port_210 (by decide) ?_
  refine lv_aload_n hx hb dX12_port_211 rfl (lv_at hl 1 rfl) ?_
  refine z_get hC hI hinX12_port_X120 0 (wM_e0 ad cy σ11) rfl 10 (by decide) (List.mem_cons_of_mem _ zw9_7) rfl dX12_port_212 ?_
  refine lv_bipush (v := 33) hx hb dX12_port_215 (by decide) ?_
  obtain ⟨q, hf⟩ := zck_use hf
  refine z_iald hC hI 3 2 (wM_e3 ad cy σ11) (tM_t3 cy) q dX12_port_217 ?_
  refine lv_bipush (v := 6) hx hb dX12_port_218 (by decide) ?_
  refine lv_ishr hx hb dX12_port_220 ?_
  refine lv_iconst (v := 1) hx hb dX12_port_221 (by decide) ?_
  refine lv_iand hx hb dX12_port_222 ?_
  obtain ⟨σ13, v14, g13, hf⟩ := zbi_use hf
  refine z_callVi (As := [.int v12, .int 3, .int (((zgi σ11 3 (33 : Int32).toNatClampNeg) >>> ((6 : Int32) &&& 31)) &&& 1)]) (rest := []) hC hI (cX12_without_met st l D ad cy σ11 v12 3 (((zgi σ11 3 (33 : Int32).toNatClampNeg) >>> ((6 : Int32) &&& 31)) &&& 1) _ g13) (zgV zw57_18 zw57_19 zw57_20 zw1_5 zw57_21) rfl ⟨rfl, rfl⟩ 3 hdX12_without ⟨Nat.le_of_ble_eq_true rfl, Nat.le_of_ble_eq_true rfl⟩ rfl rfl (wM_e0 ad cy σ11) rfl hl rfl (Nat.le_of_ble_eq_true rfl) dX12_port_223 ⟨Nat.zero_le _, Nat.zero_le _⟩ (fun H locs hI => ?_)
  refine lv_goto (tgt := 230) hx hb dX12_port_226 (by decide) ?_
  exact bX12_port_230 hC  hI (lv_sub hl [] rfl) hf
set_option maxRecDepth 20000 in
set_option maxHeartbeats 4000000 in
theorem bX12_port_12 {st : Nat → Nat} {p : Program} {l : Launch} {e : Env} {s : State} {m : MethodId} {args : Array Value} {below : List Frame} {meth : Method} {c : Code} {D : va_G} {A : Nat → Prop} {ad : Nat → Nat} {cy : Nat → ClassId} (hC : zC p m c cX12_port 4 s args wzX12_port RX12 meth (some .int))  {res : zSt × Int32} {H : Heap} {locs : List Loc} {σ : zSt} {ls : Array Slot} {x1 : Int32} {s0 : Int32} (hI : zI st D (tM cy) (wM ad cy σ) A s H locs) (hl : lv_has ls 4 [(0, .ref (ad 0)), (1, .int x1)]) (hf : fX12_port_12  σ x1 s0 = some res) : W p l e rmX12_port s m args below meth c H locs 0 0 (zQi below args s D (tM cy) (wM ad cy) A res) (F0 m 12 ls [.int s0]) := by
  have hx := hC.1
  have hb := hC.2.1
  unfold fX12_port_12 at hf
  refine lv_istore_n (lv' := [(2, .int s0), (0, .ref (ad 0)), (1, .int x1)]) hx hb dX12_port_12 rfl hl (by decide) rfl (fun ls hl => ?_)
  refine lv_iload_n hx hb dX12_port_13 rfl (lv_at hl 2 rfl) ?_
  refine lv_bipush (v := 64) hx hb dX12_port_14 (by decide) ?_
  refine lv_icmp_ge (tgt := 74) hx hb dX12_port_16 (by decide) (fun q => ?_) (fun q => ?_)
  · replace hf := zif_t q hf
    refine lv_iload_n hx hb dX12_port_74 rfl (lv_at hl 2 rfl) ?_
    refine lv_sipush (v := 128) hx hb dX12_port_75 (by decide) ?_
    refine lv_icmp_ge (tgt := 100) hx hb dX12_port_78 (by decide) (fun q => ?_) (fun q => ?_)
    · replace hf := zif_t q hf
      refine lv_iload_n hx hb dX12_port_100 rfl (lv_at hl 2 rfl) ?_
      refine lv_sipush (v := 192) hx hb dX12_port_101 (by decide) ?_
      refine lv_icmp_ge (tgt := 123) hx hb dX12_port_104 (by decide) (fun q => ?_) (fun q => ?_)
      · replace hf := zif_t q hf
        refine lv_iload_n hx hb dX12_port_123 rfl (lv_at hl 2 rfl) ?_
        refine lv_sipush (v := 242) hx hb dX12_port_124 (by decide) ?_
        refine lv_icmp_ne (tgt := 147) hx hb dX12_port_127 (by decide) (fun q => ?_) (fun q => ?_)
        · replace hf := zif_f q hf
          exact bX12_port_147 hC  hI (lv_sub hl [1, 0] rfl) hf
        replace hf := zif_t q hf
        refine lv_aload_n hx hb dX12_port_130 rfl (lv_at hl 1 rfl) ?_
        refine z_get hC hI hinX12_port_X120 0 (wM_e0 ad cy σ) rfl 3 (by decide) (List.mem_cons_of_mem _ zw10_10) rfl dX12_port_131 ?_
        refine lv_iconst (v := 2) hx hb dX12_port_134 (by decide) ?_
        refine lv_icmp_eq (tgt := 147) hx hb dX12_port_135 (by decide) (fun q => ?_) (fun q => ?_)
        · replace hf := zif_t q hf
          exact bX12_port_147 hC  hI (lv_sub hl [1, 0] rfl) hf
        replace hf := zif_f q hf
        refine lv_aload_n hx hb dX12_port_138 rfl (lv_at hl 1 rfl) ?_
        refine z_get hC hI hinX12_port_X120 0 (wM_e0 ad cy σ) rfl 10 (by decide) (List.mem_cons_of_mem _ zw9_7) rfl dX12_port_139 ?_
        refine lv_sipush (v := 163) hx hb dX12_port_142 (by decide) ?_
        obtain ⟨q, hf⟩ := zck_use hf
        refine z_iald hC hI 3 2 (wM_e3 ad cy σ) (tM_t3 cy) q dX12_port_145 ?_
        exact z_ireturn hC hI hf dX12_port_146
      replace hf := zif_f q hf
      refine lv_iload_n hx hb dX12_port_107 rfl (lv_at hl 0 rfl) ?_
      refine lv_if_eq (tgt := 118) hx hb dX12_port_108 (by decide) (fun q => ?_) (fun q => ?_)
      · replace hf := zif_t q hf
        refine lv_aload_n hx hb dX12_port_118 rfl (lv_at hl 1 rfl) ?_
        obtain ⟨σ15, v16, g15, hf⟩ := zbi_use hf
        refine z_callVi (As := []) (rest := []) hC hI (cX12_data_met st l D ad cy σ  _ g15) (zgV zw57_14 zw57_15 zw57_16 zw1_5 zw57_17) rfl ⟨rfl, rfl⟩ 0 hdX12_data ⟨Nat.le_of_ble_eq_true rfl, Nat.le_of_ble_eq_true rfl⟩ rfl rfl (wM_e0 ad cy σ) rfl hl rfl (Nat.le_of_ble_eq_true rfl) dX12_port_119 ⟨Nat.zero_le _, Nat.zero_le _⟩ (fun H locs hI => ?_)
        exact bX12_port_122 hC  hI (lv_sub hl [] rfl) hf
      replace hf := zif_f q hf
      refine lv_aload_n hx hb dX12_port_111 rfl (lv_at hl 1 rfl) ?_
      obtain ⟨σ17, v18, g17, hf⟩ := zbi_use hf
      refine z_callVi (As := []) (rest := []) hC hI (cX12_status_met st l D ad cy σ  _ g17) (zgV zw57_10 zw57_11 zw57_12 zw1_5 zw57_13) rfl ⟨rfl, rfl⟩ 0 hdX12_status ⟨Nat.le_of_ble_eq_true rfl, Nat.le_of_ble_eq_true rfl⟩ rfl rfl (wM_e0 ad cy σ) rfl hl rfl (Nat.le_of_ble_eq_true rfl) dX12_port_112 ⟨Nat.zero_le _, Nat.zero_le _⟩ (fun H locs hI => ?_)
      refine lv_goto (tgt := 122) hx hb dX12_port_115 (by decide) ?_
      exact bX12_port_122 hC  hI (lv_sub hl [] rfl) hf
    replace hf := zif_f q hf
    refine lv_iload_n hx hb dX12_port_81 rfl (lv_at hl 0 rfl) ?_
    refine lv_if_eq (tgt := 95) hx hb dX12_port_82 (by decide) (fun q => ?_) (fun q => ?_)
    · replace hf := zif_t q hf
      refine lv_aload_n hx hb dX12_port_95 rfl (lv_at hl 1 rfl) ?_
      obtain ⟨σ19, v20, g19, hf⟩ := zbi_use hf
      refine z_callVi (As := []) (rest := []) hC hI (cX12_vCount_met st l D ad cy σ  _ g19) (zgV zw56_22 zw56_23 zw57_0 zw1_5 zw57_1) rfl ⟨rfl, rfl⟩ 0 hdX12_vCount ⟨Nat.le_of_ble_eq_true rfl, Nat.le_of_ble_eq_true rfl⟩ rfl rfl (wM_e0 ad cy σ) rfl hl rfl (Nat.le_of_ble_eq_true rfl) dX12_port_96 ⟨Nat.zero_le _, Nat.zero_le _⟩ (fun H locs hI => ?_)
      exact bX12_port_99 hC  hI (lv_sub hl [] rfl) hf
    replace hf := zif_f q hf
    refine lv_aload_n hx hb dX12_port_85 rfl (lv_at hl 1 rfl) ?_
    refine z_get hC hI hinX12_port_X120 0 (wM_e0 ad cy σ) rfl 10 (by decide) (List.mem_cons_of_mem _ zw9_7) rfl dX12_port_86 ?_
    refine lv_bipush (v := 35) hx hb dX12_port_89 (by decide) ?_
    obtain ⟨q, hf⟩ := zck_use hf
    refine z_iald hC hI 3 2 (wM_e3 ad cy σ) (tM_t3 cy) q dX12_port_91 ?_
    refine lv_goto (tgt := 99) hx hb dX12_port_92 (by decide) ?_
    exact bX12_port_99 hC  hI (lv_sub hl [] rfl) hf
  replace hf := zif_f q hf
  refine lv_aload_n hx hb dX12_port_19 rfl (lv_at hl 1 rfl) ?_
  refine z_get hC hI hinX12_port_X120 0 (wM_e0 ad cy σ) rfl 3 (by decide) (List.mem_cons_of_mem _ zw10_10) rfl dX12_port_20 ?_
  refine lv_iconst (v := 2) hx hb dX12_port_23 (by decide) ?_
  refine lv_icmp_ne (tgt := 32) hx hb dX12_port_24 (by decide) (fun q => ?_) (fun q => ?_)
  · replace hf := zif_f q hf
    exact bX12_port_32 hC  hI (lv_sub hl [] rfl) hf
  replace hf := zif_t q hf
  refine lv_iload_n hx hb dX12_port_27 rfl (lv_at hl 2 rfl) ?_
  refine lv_iconst (v := 5) hx hb dX12_port_28 (by decide) ?_
  refine lv_icmp_le (tgt := 36) hx hb dX12_port_29 (by decide) (fun q => ?_) (fun q => ?_)
  · replace hf := zif_t q hf
    refine lv_iload_n hx hb dX12_port_36 rfl (lv_at hl 2 rfl) ?_
    refine lv_if_ne (tgt := 64) hx hb dX12_port_37 (by decide) (fun q => ?_) (fun q => ?_)
    · replace hf := zif_f q hf
      refine lv_aload_n hx hb dX12_port_64 rfl (lv_at hl 1 rfl) ?_
      refine z_get hC hI hinX12_port_X120 0 (wM_e0 ad cy σ) rfl 10 (by decide) (List.mem_cons_of_mem _ zw9_7) rfl dX12_port_65 ?_
      refine lv_bipush (v := 36) hx hb dX12_port_68 (by decide) ?_
      refine lv_iload_n hx hb dX12_port_70 rfl (lv_at hl 2 rfl) ?_
      refine lv_iadd hx hb dX12_port_71 ?_
      obtain ⟨q, hf⟩ := zck_use hf
      refine z_iald hC hI 3 2 (wM_e3 ad cy σ) (tM_t3 cy) q dX12_port_72 ?_
      exact bX12_port_73 hC  hI (lv_sub hl [] rfl) hf
    replace hf := zif_t q hf
    refine lv_bipush (v := 64) hx hb dX12_port_40 (by decide) ?_
    refine lv_aload_n hx hb dX12_port_42 rfl (lv_at hl 1 rfl) ?_
    refine z_get hC hI hinX12_port_X120 0 (wM_e0 ad cy σ) rfl 10 (by decide) (List.mem_cons_of_mem _ zw9_7) rfl dX12_port_43 ?_
    refine lv_bipush (v := 44) hx hb dX12_port_46 (by decide) ?_
    obtain ⟨q, hf⟩ := zck_use hf
    refine z_iald hC hI 3 2 (wM_e3 ad cy σ) (tM_t3 cy) q dX12_port_48 ?_
    refine lv_iconst (v := 1) hx hb dX12_port_49 (by decide) ?_
    refine lv_icmp_ne (tgt := 57) hx hb dX12_port_50 (by decide) (fun q => ?_) (fun q => ?_)
    · replace hf := zif_f q hf
      refine lv_sipush (v := 128) hx hb dX12_port_57 (by decide) ?_
      exact bX12_port_60 hC  hI (lv_sub hl [] rfl) hf
    replace hf := zif_t q hf
    refine lv_iconst (v := 0) hx hb dX12_port_53 (by decide) ?_
    refine lv_goto (tgt := 60) hx hb dX12_port_54 (by decide) ?_
    exact bX12_port_60 hC  hI (lv_sub hl [] rfl) hf
  replace hf := zif_f q hf
  exact bX12_port_32 hC  hI (lv_sub hl [] rfl) hf
set_option maxRecDepth 20000 in
set_option maxHeartbeats 4000000 in
theorem bX12_port {st : Nat → Nat} {p : Program} {l : Launch} {e : Env} {s : State} {m : MethodId} {args : Array Value} {below : List Frame} {meth : Method} {c : Code} {D : va_G} {A : Nat → Prop} {ad : Nat → Nat} {cy : Nat → ClassId} (hC : zC p m c cX12_port 4 s args wzX12_port RX12 meth (some .int))  {res : zSt × Int32} {H : Heap} {locs : List Loc} {σ : zSt} {ls : Array Slot} {x1 : Int32} (hI : zI st D (tM cy) (wM ad cy σ) A s H locs) (hl : lv_has ls 4 [(0, .ref (ad 0)), (1, .int x1)]) (hf : fX12_port  σ x1 = some res) : W p l e rmX12_port s m args below meth c H locs 0 0 (zQi below args s D (tM cy) (wM ad cy) A res) (F0 m 0 ls []) := by
  have hx := hC.1
  have hb := hC.2.1
  unfold fX12_port at hf
  refine lv_iload_n hx hb dX12_port_0 rfl (lv_at hl 1 rfl) ?_
  refine lv_iconst (v := 2) hx hb dX12_port_1 (by decide) ?_
  obtain ⟨q, hf⟩ := zck_use hf
  refine z_irem hx hb dX12_port_2 (of_decide_eq_true q) ?_
  refine lv_iconst (v := 1) hx hb dX12_port_3 (by decide) ?_
  refine lv_icmp_ne (tgt := 11) hx hb dX12_port_4 (by decide) (fun q => ?_) (fun q => ?_)
  · replace hf := zif_f q hf
    refine lv_iconst (v := 0) hx hb dX12_port_11 (by decide) ?_
    exact bX12_port_12 hC  hI hl hf
  replace hf := zif_t q hf
  refine lv_iconst (v := 1) hx hb dX12_port_7 (by decide) ?_
  refine lv_goto (tgt := 12) hx hb dX12_port_8 (by decide) ?_
  exact bX12_port_12 hC  hI hl hf
set_option maxRecDepth 20000 in
theorem cX12_port_met (st : Nat → Nat) (l : Launch) (D : va_G) (ad : Nat → Nat) (cy : Nat → ClassId) (σ : zSt) (x1 : Int32) (res : zSt × Int32) (hf : fX12_port σ x1 = some res) (sz : Nat) : zMi st l yX12_port wzX12_port rmX12_port [.ref (ad 0), .int x1] D (tM cy) (wM ad cy) sz σ res :=
  zMi.of (cc := cX12_port) (maxL := 4) (ret := (some .int)) (by decide) rfl (Nat.le_of_ble_eq_true rfl) (fun p e s m args below meth c hC A hI ls hl => bX12_port hC hI hl hf)
theorem hdX12_port : yX12_port.cls = RX12 ∧ yX12_port.cls ≠ "java/lang/invoke/MethodHandle" ∧ yX12_port.cls ≠ "java/lang/invoke/VarHandle" ∧ (parseMethodDescriptor yX12_port.desc).map (fun d => d.parameters.length) = some 1 := by decide +kernel
noncomputable def rmX12_hCount : Room := { frames := 0, cells := 0, slots := 0, locals := 0 }
noncomputable def wzX12_hCount : List Cond := .code yX12_hCount cX12_hCount 2 (some .int) :: wsL_law
theorem hinX12_hCount_X120 : ∀ w ∈ wsX120, w ∈ wzX12_hCount := fun w h => List.mem_cons_of_mem _ (inlX12 w h)
noncomputable def fX12_hCount_27  (σ : zSt) (s0 : Int32) : Option (zSt × Int32) :=
  some (σ, s0)
noncomputable def fX12_hCount  (σ : zSt)  : Option (zSt × Int32) :=
  zck (zin 67 1048) (
  zck (decide (¬ 4 = 0)) (
  zbv (((zgi σ 3 (67 : Int32).toNatClampNeg) * 3) / 4) (fun v1 =>
  if 148 ≤ v1 then fX12_hCount_27 σ (v1 + 85) else
  fX12_hCount_27 σ v1)))
set_option maxRecDepth 20000 in
set_option maxHeartbeats 4000000 in
theorem bX12_hCount_27 {st : Nat → Nat} {p : Program} {l : Launch} {e : Env} {s : State} {m : MethodId} {args : Array Value} {below : List Frame} {meth : Method} {c : Code} {D : va_G} {A : Nat → Prop} {ad : Nat → Nat} {cy : Nat → ClassId} (hC : zC p m c cX12_hCount 2 s args wzX12_hCount RX12 meth (some .int))  {res : zSt × Int32} {H : Heap} {locs : List Loc} {σ : zSt} {ls : Array Slot} {s0 : Int32} (hI : zI st D (tM cy) (wM ad cy σ) A s H locs) (hl : lv_has ls 2 []) (hf : fX12_hCount_27  σ s0 = some res) : W p l e rmX12_hCount s m args below meth c H locs 0 0 (zQi below args s D (tM cy) (wM ad cy) A res) (F0 m 27 ls [.int s0]) := by
  have hx := hC.1
  have hb := hC.2.1
  unfold fX12_hCount_27 at hf
  exact z_ireturn hC hI hf dX12_hCount_27
set_option maxRecDepth 20000 in
set_option maxHeartbeats 4000000 in
theorem bX12_hCount {st : Nat → Nat} {p : Program} {l : Launch} {e : Env} {s : State} {m : MethodId} {args : Array Value} {below : List Frame} {meth : Method} {c : Code} {D : va_G} {A : Nat → Prop} {ad : Nat → Nat} {cy : Nat → ClassId} (hC : zC p m c cX12_hCount 2 s args wzX12_hCount RX12 meth (some .int))  {res : zSt × Int32} {H : Heap} {locs : List Loc} {σ : zSt} {ls : Array Slot}  (hI : zI st D (tM cy) (wM ad cy σ) A s H locs) (hl : lv_has ls 2 [(0, .ref (ad 0))]) (hf : fX12_hCount  σ  = some res) : W p l e rmX12_hCount s m args below meth c H locs 0 0 (zQi below args s D (tM cy) (wM ad cy) A res) (F0 m 0 ls []) := by
  have hx := hC.1
  have hb := hC.2.1
  unfold fX12_hCount at hf
  refine lv_aload_n hx hb dX12_hCount_0 rfl (lv_at hl 0 rfl) ?_
  refine z_get hC hI hinX12_hCount_X120 0 (wM_e0 ad cy σ) rfl 10 (by decide) (List.mem_cons_of_mem _ zw9_7) rfl dX12_hCount_1 ?_
  refine lv_bipush (v := 67) hx hb dX12_hCount_4 (by decide) ?_
  obtain ⟨q, hf⟩ := zck_use hf
  refine z_iald hC hI 3 2 (wM_e3 ad cy σ) (tM_t3 cy) q dX12_hCount_6 ?_
  refine lv_iconst (v := 3) hx hb dX12_hCount_7 (by decide) ?_
  refine lv_imul hx hb dX12_hCount_8 ?_
  refine lv_iconst (v := 4) hx hb dX12_hCount_9 (by decide) ?_
  obtain ⟨q, hf⟩ := zck_use hf
  refine lv_idiv hx hb dX12_hCount_10 (of_decide_eq_true q) ?_
  refine lv_topi (fun v1 ev1 => ?_)
  replace hf := zbv_use ev1 hf
  refine lv_istore_n (lv' := [(1, .int v1), (0, .ref (ad 0))]) hx hb dX12_hCount_11 rfl hl (by decide) rfl (fun ls hl => ?_)
  refine lv_iload_n hx hb dX12_hCount_12 rfl (lv_at hl 0 rfl) ?_
  refine lv_sipush (v := 148) hx hb dX12_hCount_13 (by decide) ?_
  refine lv_icmp_ge (tgt := 23) hx hb dX12_hCount_16 (by decide) (fun q => ?_) (fun q => ?_)
  · replace hf := zif_t q hf
    refine lv_iload_n hx hb dX12_hCount_23 rfl (lv_at hl 0 rfl) ?_
    refine lv_bipush (v := 85) hx hb dX12_hCount_24 (by decide) ?_
    refine lv_iadd hx hb dX12_hCount_26 ?_
    exact bX12_hCount_27 hC  hI (lv_sub hl [] rfl) hf
  replace hf := zif_f q hf
  refine lv_iload_n hx hb dX12_hCount_19 rfl (lv_at hl 0 rfl) ?_
  refine lv_goto (tgt := 27) hx hb dX12_hCount_20 (by decide) ?_
  exact bX12_hCount_27 hC  hI (lv_sub hl [] rfl) hf
set_option maxRecDepth 20000 in
theorem cX12_hCount_met (st : Nat → Nat) (l : Launch) (D : va_G) (ad : Nat → Nat) (cy : Nat → ClassId) (σ : zSt)  (res : zSt × Int32) (hf : fX12_hCount σ  = some res) (sz : Nat) : zMi st l yX12_hCount wzX12_hCount rmX12_hCount [.ref (ad 0)] D (tM cy) (wM ad cy) sz σ res :=
  zMi.of (cc := cX12_hCount) (maxL := 2) (ret := (some .int)) (by decide) rfl (Nat.le_of_ble_eq_true rfl) (fun p e s m args below meth c hC A hI ls hl => bX12_hCount hC hI hl hf)
theorem hdX12_hCount : yX12_hCount.cls = RX12 ∧ yX12_hCount.cls ≠ "java/lang/invoke/MethodHandle" ∧ yX12_hCount.cls ≠ "java/lang/invoke/VarHandle" ∧ (parseMethodDescriptor yX12_hCount.desc).map (fun d => d.parameters.length) = some 0 := by decide +kernel
noncomputable def rmX12_noise : Room := { frames := 0, cells := 0, slots := 0, locals := 0 }
noncomputable def wzX12_noise : List Cond := .code yX12_noise cX12_noise 3 none :: wsL_law
theorem hinX12_noise_X120 : ∀ w ∈ wsX120, w ∈ wzX12_noise := fun w h => List.mem_cons_of_mem _ (inlX12 w h)
noncomputable def fX12_noise_141  (σ : zSt)  : Option (zSt) :=
  some σ
noncomputable def fX12_noise_140  (σ : zSt) (s0 : Int32) (s1 : Int32) : Option (zSt) :=
  zck (zin s1 1048) (zbv (zsi σ 3 (s1.toNatClampNeg) s0) (fun σ1 =>
  fX12_noise_141 σ1))
noncomputable def fX12_noise_19  (σ : zSt) (x1 : Int32) : Option (zSt) :=
  zck (zin 86 1048) (
  zck (decide (¬ 2 = 0)) (
  zbv ((zgi σ 3 (86 : Int32).toNatClampNeg) / 2) (fun v2 =>
  zck (zin 86 1048) (
  zck (decide (¬ 2 = 0)) (
  if (zrem (zgi σ 3 (86 : Int32).toNatClampNeg) 2) = 1 then zck (zin (78 + v2) 1048) (zbv (zsi σ 3 ((78 + v2).toNatClampNeg) (x1 &&& 15)) (fun σ5 =>
  fX12_noise_141 σ5)) else
  if v2 = 3 then zck (zin 82 1048) (zbv (zsi σ 3 ((82 : Int32).toNatClampNeg) (x1 &&& 7)) (fun σ3 =>
  zck (zin 85 1048) (zbv (zsi σ3 3 ((85 : Int32).toNatClampNeg) 32768) (fun σ4 =>
  fX12_noise_141 σ4)))) else
  if x1 ≤ 127 then zck (zin (69 + v2) 1048) (
  fX12_noise_140 σ (((zgi σ 3 (69 + v2).toNatClampNeg) &&& 15) ||| ((x1 &&& 63) <<< ((4 : Int32) &&& 31))) (69 + v2)) else
  zck (zin (69 + v2) 1048) (
  fX12_noise_140 σ (((zgi σ 3 (69 + v2).toNatClampNeg) &&& 1008) ||| (x1 &&& 15)) (69 + v2)))))))
noncomputable def fX12_noise  (σ : zSt) (x1 : Int32) : Option (zSt) :=
  if x1 ≤ 127 then fX12_noise_19 σ x1 else
  zck (zin 86 1048) (zbv (zsi σ 3 ((86 : Int32).toNatClampNeg) ((x1 >>> ((4 : Int32) &&& 31)) &&& 7)) (fun σ6 =>
  fX12_noise_19 σ6 x1))
set_option maxRecDepth 20000 in
set_option maxHeartbeats 4000000 in
theorem bX12_noise_141 {st : Nat → Nat} {p : Program} {l : Launch} {e : Env} {s : State} {m : MethodId} {args : Array Value} {below : List Frame} {meth : Method} {c : Code} {D : va_G} {A : Nat → Prop} {ad : Nat → Nat} {cy : Nat → ClassId} (hC : zC p m c cX12_noise 3 s args wzX12_noise RX12 meth none)  {res : zSt} {H : Heap} {locs : List Loc} {σ : zSt} {ls : Array Slot}  (hI : zI st D (tM cy) (wM ad cy σ) A s H locs) (hl : lv_has ls 3 []) (hf : fX12_noise_141  σ  = some res) : W p l e rmX12_noise s m args below meth c H locs 0 0 (zQu below args s D (tM cy) (wM ad cy) A res) (F0 m 141 ls []) := by
  have hx := hC.1
  have hb := hC.2.1
  unfold fX12_noise_141 at hf
  exact z_return hC hI hf dX12_noise_141
set_option maxRecDepth 20000 in
set_option maxHeartbeats 4000000 in
theorem bX12_noise_140 {st : Nat → Nat} {p : Program} {l : Launch} {e : Env} {s : State} {m : MethodId} {args : Array Value} {below : List Frame} {meth : Method} {c : Code} {D : va_G} {A : Nat → Prop} {ad : Nat → Nat} {cy : Nat → ClassId} (hC : zC p m c cX12_noise 3 s args wzX12_noise RX12 meth none)  {res : zSt} {H : Heap} {locs : List Loc} {σ : zSt} {ls : Array Slot} {s0 : Int32} {s1 : Int32} (hI : zI st D (tM cy) (wM ad cy σ) A s H locs) (hl : lv_has ls 3 []) (hf : fX12_noise_140  σ s0 s1 = some res) : W p l e rmX12_noise s m args below meth c H locs 0 0 (zQu below args s D (tM cy) (wM ad cy) A res) (F0 m 140 ls [.int s0, .int s1, .ref (ad 3)]) := by
  have hx := hC.1
  have hb := hC.2.1
  unfold fX12_noise_140 at hf
  obtain ⟨q, hf⟩ := zck_use hf
  obtain ⟨σ1, eσ1⟩ : ∃ z, z = zsi σ 3 (s1.toNatClampNeg) s0 := ⟨_, rfl⟩
  replace hf := zbv_use eσ1 hf
  refine z_iast hC hI 3 2 (wM_e3 ad cy σ) (tM_t3 cy) q ((wM_s3 ad cy σ _ _).trans (congrArg (wM ad cy) eσ1.symm)) dX12_noise_140 (fun H locs hI => ?_)
  exact bX12_noise_141 hC  hI hl hf
set_option maxRecDepth 20000 in
set_option maxHeartbeats 4000000 in
theorem bX12_noise_19 {st : Nat → Nat} {p : Program} {l : Launch} {e : Env} {s : State} {m : MethodId} {args : Array Value} {below : List Frame} {meth : Method} {c : Code} {D : va_G} {A : Nat → Prop} {ad : Nat → Nat} {cy : Nat → ClassId} (hC : zC p m c cX12_noise 3 s args wzX12_noise RX12 meth none)  {res : zSt} {H : Heap} {locs : List Loc} {σ : zSt} {ls : Array Slot} {x1 : Int32} (hI : zI st D (tM cy) (wM ad cy σ) A s H locs) (hl : lv_has ls 3 [(0, .ref (ad 0)), (1, .int x1)]) (hf : fX12_noise_19  σ x1 = some res) : W p l e rmX12_noise s m args below meth c H locs 0 0 (zQu below args s D (tM cy) (wM ad cy) A res) (F0 m 19 ls []) := by
  have hx := hC.1
  have hb := hC.2.1
  unfold fX12_noise_19 at hf
  refine lv_aload_n hx hb dX12_noise_19 rfl (lv_at hl 0 rfl) ?_
  refine z_get hC hI hinX12_noise_X120 0 (wM_e0 ad cy σ) rfl 10 (by decide) (List.mem_cons_of_mem _ zw9_7) rfl dX12_noise_20 ?_
  refine lv_bipush (v := 86) hx hb dX12_noise_23 (by decide) ?_
  obtain ⟨q, hf⟩ := zck_use hf
  refine z_iald hC hI 3 2 (wM_e3 ad cy σ) (tM_t3 cy) q dX12_noise_25 ?_
  refine lv_iconst (v := 2) hx hb dX12_noise_26 (by decide) ?_
  obtain ⟨q, hf⟩ := zck_use hf
  refine lv_idiv hx hb dX12_noise_27 (of_decide_eq_true q) ?_
  refine lv_topi (fun v2 ev2 => ?_)
  replace hf := zbv_use ev2 hf
  refine lv_istore_n (lv' := [(2, .int v2), (0, .ref (ad 0)), (1, .int x1)]) hx hb dX12_noise_28 rfl hl (by decide) rfl (fun ls hl => ?_)
  refine lv_aload_n hx hb dX12_noise_29 rfl (lv_at hl 1 rfl) ?_
  refine z_get hC hI hinX12_noise_X120 0 (wM_e0 ad cy σ) rfl 10 (by decide) (List.mem_cons_of_mem _ zw9_7) rfl dX12_noise_30 ?_
  refine lv_bipush (v := 86) hx hb dX12_noise_33 (by decide) ?_
  obtain ⟨q, hf⟩ := zck_use hf
  refine z_iald hC hI 3 2 (wM_e3 ad cy σ) (tM_t3 cy) q dX12_noise_35 ?_
  refine lv_iconst (v := 2) hx hb dX12_noise_36 (by decide) ?_
  obtain ⟨q, hf⟩ := zck_use hf
  refine z_irem hx hb dX12_noise_37 (of_decide_eq_true q) ?_
  refine lv_iconst (v := 1) hx hb dX12_noise_38 (by decide) ?_
  refine lv_icmp_ne (tgt := 58) hx hb dX12_noise_39 (by decide) (fun q => ?_) (fun q => ?_)
  · replace hf := zif_f q hf
    refine lv_iload_n hx hb dX12_noise_58 rfl (lv_at hl 0 rfl) ?_
    refine lv_iconst (v := 3) hx hb dX12_noise_59 (by decide) ?_
    refine lv_icmp_ne (tgt := 86) hx hb dX12_noise_60 (by decide) (fun q => ?_) (fun q => ?_)
    · replace hf := zif_f q hf
      refine lv_aload_n hx hb dX12_noise_86 rfl (lv_at hl 1 rfl) ?_
      refine z_get hC hI hinX12_noise_X120 0 (wM_e0 ad cy σ) rfl 10 (by decide) (List.mem_cons_of_mem _ zw9_7) rfl dX12_noise_87 ?_
      refine lv_bipush (v := 69) hx hb dX12_noise_90 (by decide) ?_
      refine lv_iload_n hx hb dX12_noise_92 rfl (lv_at hl 0 rfl) ?_
      refine lv_iadd hx hb dX12_noise_93 ?_
      refine lv_iload_n hx hb dX12_noise_94 rfl (lv_at hl 2 rfl) ?_
      refine lv_bipush (v := 127) hx hb dX12_noise_95 (by decide) ?_
      refine lv_icmp_le (tgt := 121) hx hb dX12_noise_97 (by decide) (fun q => ?_) (fun q => ?_)
      · replace hf := zif_t q hf
        refine lv_aload_n hx hb dX12_noise_121 rfl (lv_at hl 1 rfl) ?_
        refine z_get hC hI hinX12_noise_X120 0 (wM_e0 ad cy σ) rfl 10 (by decide) (List.mem_cons_of_mem _ zw9_7) rfl dX12_noise_122 ?_
        refine lv_bipush (v := 69) hx hb dX12_noise_125 (by decide) ?_
        refine lv_iload_n hx hb dX12_noise_127 rfl (lv_at hl 0 rfl) ?_
        refine lv_iadd hx hb dX12_noise_128 ?_
        obtain ⟨q, hf⟩ := zck_use hf
        refine z_iald hC hI 3 2 (wM_e3 ad cy σ) (tM_t3 cy) q dX12_noise_129 ?_
        refine lv_bipush (v := 15) hx hb dX12_noise_130 (by decide) ?_
        refine lv_iand hx hb dX12_noise_132 ?_
        refine lv_iload_n hx hb dX12_noise_133 rfl (lv_at hl 2 rfl) ?_
        refine lv_bipush (v := 63) hx hb dX12_noise_134 (by decide) ?_
        refine lv_iand hx hb dX12_noise_136 ?_
        refine lv_iconst (v := 4) hx hb dX12_noise_137 (by decide) ?_
        refine lv_ishl hx hb dX12_noise_138 ?_
        refine lv_ior hx hb dX12_noise_139 ?_
        exact bX12_noise_140 hC  hI (lv_sub hl [] rfl) hf
      replace hf := zif_f q hf
      refine lv_aload_n hx hb dX12_noise_100 rfl (lv_at hl 1 rfl) ?_
      refine z_get hC hI hinX12_noise_X120 0 (wM_e0 ad cy σ) rfl 10 (by decide) (List.mem_cons_of_mem _ zw9_7) rfl dX12_noise_101 ?_
      refine lv_bipush (v := 69) hx hb dX12_noise_104 (by decide) ?_
      refine lv_iload_n hx hb dX12_noise_106 rfl (lv_at hl 0 rfl) ?_
      refine lv_iadd hx hb dX12_noise_107 ?_
      obtain ⟨q, hf⟩ := zck_use hf
      refine z_iald hC hI 3 2 (wM_e3 ad cy σ) (tM_t3 cy) q dX12_noise_108 ?_
      refine lv_sipush (v := 1008) hx hb dX12_noise_109 (by decide) ?_
      refine lv_iand hx hb dX12_noise_112 ?_
      refine lv_iload_n hx hb dX12_noise_113 rfl (lv_at hl 2 rfl) ?_
      refine lv_bipush (v := 15) hx hb dX12_noise_114 (by decide) ?_
      refine lv_iand hx hb dX12_noise_116 ?_
      refine lv_ior hx hb dX12_noise_117 ?_
      refine lv_goto (tgt := 140) hx hb dX12_noise_118 (by decide) ?_
      exact bX12_noise_140 hC  hI (lv_sub hl [] rfl) hf
    replace hf := zif_t q hf
    refine lv_aload_n hx hb dX12_noise_63 rfl (lv_at hl 1 rfl) ?_
    refine z_get hC hI hinX12_noise_X120 0 (wM_e0 ad cy σ) rfl 10 (by decide) (List.mem_cons_of_mem _ zw9_7) rfl dX12_noise_64 ?_
    refine lv_bipush (v := 82) hx hb dX12_noise_67 (by decide) ?_
    refine lv_iload_n hx hb dX12_noise_69 rfl (lv_at hl 2 rfl) ?_
    refine lv_bipush (v := 7) hx hb dX12_noise_70 (by decide) ?_
    refine lv_iand hx hb dX12_noise_72 ?_
    obtain ⟨q, hf⟩ := zck_use hf
    obtain ⟨σ3, eσ3⟩ : ∃ z, z = zsi σ 3 ((82 : Int32).toNatClampNeg) (x1 &&& 7) := ⟨_, rfl⟩
    replace hf := zbv_use eσ3 hf
    refine z_iast hC hI 3 2 (wM_e3 ad cy σ) (tM_t3 cy) q ((wM_s3 ad cy σ _ _).trans (congrArg (wM ad cy) eσ3.symm)) dX12_noise_73 (fun H locs hI => ?_)
    refine lv_aload_n hx hb dX12_noise_74 rfl (lv_at hl 1 rfl) ?_
    refine z_get hC hI hinX12_noise_X120 0 (wM_e0 ad cy σ3) rfl 10 (by decide) (List.mem_cons_of_mem _ zw9_7) rfl dX12_noise_75 ?_
    refine lv_bipush (v := 85) hx hb dX12_noise_78 (by decide) ?_
    refine lv_ldc (v := 32768) hx hb hC.2.2.2.1 (hC.2.2.2.2.1 _ (List.mem_cons_of_mem _ zw9_10)) dX12_noise_80 ?_
    obtain ⟨q, hf⟩ := zck_use hf
    obtain ⟨σ4, eσ4⟩ : ∃ z, z = zsi σ3 3 ((85 : Int32).toNatClampNeg) 32768 := ⟨_, rfl⟩
    replace hf := zbv_use eσ4 hf
    refine z_iast hC hI 3 2 (wM_e3 ad cy σ3) (tM_t3 cy) q ((wM_s3 ad cy σ3 _ _).trans (congrArg (wM ad cy) eσ4.symm)) dX12_noise_82 (fun H locs hI => ?_)
    refine lv_goto (tgt := 141) hx hb dX12_noise_83 (by decide) ?_
    exact bX12_noise_141 hC  hI (lv_sub hl [] rfl) hf
  replace hf := zif_t q hf
  refine lv_aload_n hx hb dX12_noise_42 rfl (lv_at hl 1 rfl) ?_
  refine z_get hC hI hinX12_noise_X120 0 (wM_e0 ad cy σ) rfl 10 (by decide) (List.mem_cons_of_mem _ zw9_7) rfl dX12_noise_43 ?_
  refine lv_bipush (v := 78) hx hb dX12_noise_46 (by decide) ?_
  refine lv_iload_n hx hb dX12_noise_48 rfl (lv_at hl 0 rfl) ?_
  refine lv_iadd hx hb dX12_noise_49 ?_
  refine lv_iload_n hx hb dX12_noise_50 rfl (lv_at hl 2 rfl) ?_
  refine lv_bipush (v := 15) hx hb dX12_noise_51 (by decide) ?_
  refine lv_iand hx hb dX12_noise_53 ?_
  obtain ⟨q, hf⟩ := zck_use hf
  obtain ⟨σ5, eσ5⟩ : ∃ z, z = zsi σ 3 ((78 + v2).toNatClampNeg) (x1 &&& 15) := ⟨_, rfl⟩
  replace hf := zbv_use eσ5 hf
  refine z_iast hC hI 3 2 (wM_e3 ad cy σ) (tM_t3 cy) q ((wM_s3 ad cy σ _ _).trans (congrArg (wM ad cy) eσ5.symm)) dX12_noise_54 (fun H locs hI => ?_)
  refine lv_goto (tgt := 141) hx hb dX12_noise_55 (by decide) ?_
  exact bX12_noise_141 hC  hI (lv_sub hl [] rfl) hf
set_option maxRecDepth 20000 in
set_option maxHeartbeats 4000000 in
theorem bX12_noise {st : Nat → Nat} {p : Program} {l : Launch} {e : Env} {s : State} {m : MethodId} {args : Array Value} {below : List Frame} {meth : Method} {c : Code} {D : va_G} {A : Nat → Prop} {ad : Nat → Nat} {cy : Nat → ClassId} (hC : zC p m c cX12_noise 3 s args wzX12_noise RX12 meth none)  {res : zSt} {H : Heap} {locs : List Loc} {σ : zSt} {ls : Array Slot} {x1 : Int32} (hI : zI st D (tM cy) (wM ad cy σ) A s H locs) (hl : lv_has ls 3 [(0, .ref (ad 0)), (1, .int x1)]) (hf : fX12_noise  σ x1 = some res) : W p l e rmX12_noise s m args below meth c H locs 0 0 (zQu below args s D (tM cy) (wM ad cy) A res) (F0 m 0 ls []) := by
  have hx := hC.1
  have hb := hC.2.1
  unfold fX12_noise at hf
  refine lv_iload_n hx hb dX12_noise_0 rfl (lv_at hl 1 rfl) ?_
  refine lv_bipush (v := 127) hx hb dX12_noise_1 (by decide) ?_
  refine lv_icmp_le (tgt := 19) hx hb dX12_noise_3 (by decide) (fun q => ?_) (fun q => ?_)
  · replace hf := zif_t q hf
    exact bX12_noise_19 hC  hI hl hf
  replace hf := zif_f q hf
  refine lv_aload_n hx hb dX12_noise_6 rfl (lv_at hl 0 rfl) ?_
  refine z_get hC hI hinX12_noise_X120 0 (wM_e0 ad cy σ) rfl 10 (by decide) (List.mem_cons_of_mem _ zw9_7) rfl dX12_noise_7 ?_
  refine lv_bipush (v := 86) hx hb dX12_noise_10 (by decide) ?_
  refine lv_iload_n hx hb dX12_noise_12 rfl (lv_at hl 1 rfl) ?_
  refine lv_iconst (v := 4) hx hb dX12_noise_13 (by decide) ?_
  refine lv_ishr hx hb dX12_noise_14 ?_
  refine lv_bipush (v := 7) hx hb dX12_noise_15 (by decide) ?_
  refine lv_iand hx hb dX12_noise_17 ?_
  obtain ⟨q, hf⟩ := zck_use hf
  obtain ⟨σ6, eσ6⟩ : ∃ z, z = zsi σ 3 ((86 : Int32).toNatClampNeg) ((x1 >>> ((4 : Int32) &&& 31)) &&& 7) := ⟨_, rfl⟩
  replace hf := zbv_use eσ6 hf
  refine z_iast hC hI 3 2 (wM_e3 ad cy σ) (tM_t3 cy) q ((wM_s3 ad cy σ _ _).trans (congrArg (wM ad cy) eσ6.symm)) dX12_noise_18 (fun H locs hI => ?_)
  exact bX12_noise_19 hC  hI hl hf
set_option maxRecDepth 20000 in
theorem cX12_noise_met (st : Nat → Nat) (l : Launch) (D : va_G) (ad : Nat → Nat) (cy : Nat → ClassId) (σ : zSt) (x1 : Int32) (res : zSt) (hf : fX12_noise σ x1 = some res) (sz : Nat) : zMu st l yX12_noise wzX12_noise rmX12_noise [.ref (ad 0), .int x1] D (tM cy) (wM ad cy) sz σ res :=
  zMu.of (cc := cX12_noise) (maxL := 3) (ret := none) (by decide) rfl (Nat.le_of_ble_eq_true rfl) (fun p e s m args below meth c hC A hI ls hl => bX12_noise hC hI hl hf)
theorem hdX12_noise : yX12_noise.cls = RX12 ∧ yX12_noise.cls ≠ "java/lang/invoke/MethodHandle" ∧ yX12_noise.cls ≠ "java/lang/invoke/VarHandle" ∧ (parseMethodDescriptor yX12_noise.desc).map (fun d => d.parameters.length) = some 1 := by decide +kernel
noncomputable def rmX12_control : Room := { frames := 1, cells := 0, slots := 0, locals := 21 }
noncomputable def wzX12_control : List Cond := .code yX12_control cX12_control 2 none :: wsL_law
theorem hinX12_control_X120 : ∀ w ∈ wsX120, w ∈ wzX12_control := fun w h => List.mem_cons_of_mem _ (inlX12 w h)
noncomputable def fX12_control_162  (σ : zSt)  : Option (zSt) :=
  some σ
noncomputable def fX12_control  (σ : zSt) (x1 : Int32) : Option (zSt) :=
  zck (zin 61 1048) (
  if (zgi σ 3 (61 : Int32).toNatClampNeg) = 0 then zck (zin 58 1048) (
  zck (zin 58 1048) (zbv (zsi σ 3 ((58 : Int32).toNatClampNeg) (((zgi σ 3 (58 : Int32).toNatClampNeg) &&& 16128) ||| x1)) (fun σ9 =>
  zck (zin 61 1048) (zbv (zsi σ9 3 ((61 : Int32).toNatClampNeg) 1) (fun σ10 =>
  some σ10))))) else
  zck (zin 61 1048) (zbv (zsi σ 3 ((61 : Int32).toNatClampNeg) 0) (fun σ1 =>
  zck (zin 58 1048) (
  zck (zin 58 1048) (zbv (zsi σ1 3 ((58 : Int32).toNatClampNeg) (((x1 &&& 63) <<< ((8 : Int32) &&& 31)) ||| ((zgi σ1 3 (58 : Int32).toNatClampNeg) &&& 255))) (fun σ2 =>
  zck (zin 59 1048) (zbv (zsi σ2 3 ((59 : Int32).toNatClampNeg) (x1 >>> ((6 : Int32) &&& 31))) (fun σ3 =>
  zck (zin 59 1048) (
  if (zgi σ3 3 (59 : Int32).toNatClampNeg) = 0 then zck (zin 58 1048) (
  zbi (fX12_video8 σ3 (zgi σ3 3 (58 : Int32).toNatClampNeg)) (fun σ5 v6 =>
  zck (zin 60 1048) (zbv (zsi σ5 3 ((60 : Int32).toNatClampNeg) v6) (fun σ7 =>
  zbu (fX12_further σ7 ) (fun σ8 =>
  fX12_control_162 σ8))))) else
  zck (zin 59 1048) (
  if (zgi σ3 3 (59 : Int32).toNatClampNeg) = 2 then zck (decide (¬ 16 = 0)) (
  if 11 ≤ (zrem x1 16) then fX12_control_162 σ3 else
  zck (decide (¬ 16 = 0)) (
  zck (zin 58 1048) (
  zck (zin (47 + (zrem x1 16)) 1048) (zbv (zsi σ3 3 ((47 + (zrem x1 16)).toNatClampNeg) ((zgi σ3 3 (58 : Int32).toNatClampNeg) &&& 255)) (fun σ4 =>
  fX12_control_162 σ4))))) else
  fX12_control_162 σ3))))))))))
set_option maxRecDepth 20000 in
set_option maxHeartbeats 4000000 in
theorem bX12_control_162 {st : Nat → Nat} {p : Program} {l : Launch} {e : Env} {s : State} {m : MethodId} {args : Array Value} {below : List Frame} {meth : Method} {c : Code} {D : va_G} {A : Nat → Prop} {ad : Nat → Nat} {cy : Nat → ClassId} (hC : zC p m c cX12_control 2 s args wzX12_control RX12 meth none)  {res : zSt} {H : Heap} {locs : List Loc} {σ : zSt} {ls : Array Slot}  (hI : zI st D (tM cy) (wM ad cy σ) A s H locs) (hl : lv_has ls 2 []) (hf : fX12_control_162  σ  = some res) : W p l e rmX12_control s m args below meth c H locs 0 0 (zQu below args s D (tM cy) (wM ad cy) A res) (F0 m 162 ls []) := by
  have hx := hC.1
  have hb := hC.2.1
  unfold fX12_control_162 at hf
  exact z_return hC hI hf dX12_control_162
set_option maxRecDepth 20000 in
set_option maxHeartbeats 4000000 in
theorem bX12_control {st : Nat → Nat} {p : Program} {l : Launch} {e : Env} {s : State} {m : MethodId} {args : Array Value} {below : List Frame} {meth : Method} {c : Code} {D : va_G} {A : Nat → Prop} {ad : Nat → Nat} {cy : Nat → ClassId} (hC : zC p m c cX12_control 2 s args wzX12_control RX12 meth none)  {res : zSt} {H : Heap} {locs : List Loc} {σ : zSt} {ls : Array Slot} {x1 : Int32} (hI : zI st D (tM cy) (wM ad cy σ) A s H locs) (hl : lv_has ls 2 [(0, .ref (ad 0)), (1, .int x1)]) (hf : fX12_control  σ x1 = some res) : W p l e rmX12_control s m args below meth c H locs 0 0 (zQu below args s D (tM cy) (wM ad cy) A res) (F0 m 0 ls []) := by
  have hx := hC.1
  have hb := hC.2.1
  unfold fX12_control at hf
  refine lv_aload_n hx hb dX12_control_0 rfl (lv_at hl 0 rfl) ?_
  refine z_get hC hI hinX12_control_X120 0 (wM_e0 ad cy σ) rfl 10 (by decide) (List.mem_cons_of_mem _ zw9_7) rfl dX12_control_1 ?_
  refine lv_bipush (v := 61) hx hb dX12_control_4 (by decide) ?_
  obtain ⟨q, hf⟩ := zck_use hf
  refine z_iald hC hI 3 2 (wM_e3 ad cy σ) (tM_t3 cy) q dX12_control_6 ?_
  refine lv_if_ne (tgt := 39) hx hb dX12_control_7 (by decide) (fun q => ?_) (fun q => ?_)
  · replace hf := zif_f q hf
    refine lv_aload_n hx hb dX12_control_39 rfl (lv_at hl 0 rfl) ?_
    refine z_get hC hI hinX12_control_X120 0 (wM_e0 ad cy σ) rfl 10 (by decide) (List.mem_cons_of_mem _ zw9_7) rfl dX12_control_40 ?_
    refine lv_bipush (v := 61) hx hb dX12_control_43 (by decide) ?_
    refine lv_iconst (v := 0) hx hb dX12_control_45 (by decide) ?_
    obtain ⟨q, hf⟩ := zck_use hf
    obtain ⟨σ1, eσ1⟩ : ∃ z, z = zsi σ 3 ((61 : Int32).toNatClampNeg) 0 := ⟨_, rfl⟩
    replace hf := zbv_use eσ1 hf
    refine z_iast hC hI 3 2 (wM_e3 ad cy σ) (tM_t3 cy) q ((wM_s3 ad cy σ _ _).trans (congrArg (wM ad cy) eσ1.symm)) dX12_control_46 (fun H locs hI => ?_)
    refine lv_aload_n hx hb dX12_control_47 rfl (lv_at hl 0 rfl) ?_
    refine z_get hC hI hinX12_control_X120 0 (wM_e0 ad cy σ1) rfl 10 (by decide) (List.mem_cons_of_mem _ zw9_7) rfl dX12_control_48 ?_
    refine lv_bipush (v := 58) hx hb dX12_control_51 (by decide) ?_
    refine lv_iload_n hx hb dX12_control_53 rfl (lv_at hl 1 rfl) ?_
    refine lv_bipush (v := 63) hx hb dX12_control_54 (by decide) ?_
    refine lv_iand hx hb dX12_control_56 ?_
    refine lv_bipush (v := 8) hx hb dX12_control_57 (by decide) ?_
    refine lv_ishl hx hb dX12_control_59 ?_
    refine lv_aload_n hx hb dX12_control_60 rfl (lv_at hl 0 rfl) ?_
    refine z_get hC hI hinX12_control_X120 0 (wM_e0 ad cy σ1) rfl 10 (by decide) (List.mem_cons_of_mem _ zw9_7) rfl dX12_control_61 ?_
    refine lv_bipush (v := 58) hx hb dX12_control_64 (by decide) ?_
    obtain ⟨q, hf⟩ := zck_use hf
    refine z_iald hC hI 3 2 (wM_e3 ad cy σ1) (tM_t3 cy) q dX12_control_66 ?_
    refine lv_sipush (v := 255) hx hb dX12_control_67 (by decide) ?_
    refine lv_iand hx hb dX12_control_70 ?_
    refine lv_ior hx hb dX12_control_71 ?_
    obtain ⟨q, hf⟩ := zck_use hf
    obtain ⟨σ2, eσ2⟩ : ∃ z, z = zsi σ1 3 ((58 : Int32).toNatClampNeg) (((x1 &&& 63) <<< ((8 : Int32) &&& 31)) ||| ((zgi σ1 3 (58 : Int32).toNatClampNeg) &&& 255)) := ⟨_, rfl⟩
    replace hf := zbv_use eσ2 hf
    refine z_iast hC hI 3 2 (wM_e3 ad cy σ1) (tM_t3 cy) q ((wM_s3 ad cy σ1 _ _).trans (congrArg (wM ad cy) eσ2.symm)) dX12_control_72 (fun H locs hI => ?_)
    refine lv_aload_n hx hb dX12_control_73 rfl (lv_at hl 0 rfl) ?_
    refine z_get hC hI hinX12_control_X120 0 (wM_e0 ad cy σ2) rfl 10 (by decide) (List.mem_cons_of_mem _ zw9_7) rfl dX12_control_74 ?_
    refine lv_bipush (v := 59) hx hb dX12_control_77 (by decide) ?_
    refine lv_iload_n hx hb dX12_control_79 rfl (lv_at hl 1 rfl) ?_
    refine lv_bipush (v := 6) hx hb dX12_control_80 (by decide) ?_
    refine lv_ishr hx hb dX12_control_82 ?_
    obtain ⟨q, hf⟩ := zck_use hf
    obtain ⟨σ3, eσ3⟩ : ∃ z, z = zsi σ2 3 ((59 : Int32).toNatClampNeg) (x1 >>> ((6 : Int32) &&& 31)) := ⟨_, rfl⟩
    replace hf := zbv_use eσ3 hf
    refine z_iast hC hI 3 2 (wM_e3 ad cy σ2) (tM_t3 cy) q ((wM_s3 ad cy σ2 _ _).trans (congrArg (wM ad cy) eσ3.symm)) dX12_control_83 (fun H locs hI => ?_)
    refine lv_aload_n hx hb dX12_control_84 rfl (lv_at hl 0 rfl) ?_
    refine z_get hC hI hinX12_control_X120 0 (wM_e0 ad cy σ3) rfl 10 (by decide) (List.mem_cons_of_mem _ zw9_7) rfl dX12_control_85 ?_
    refine lv_bipush (v := 59) hx hb dX12_control_88 (by decide) ?_
    obtain ⟨q, hf⟩ := zck_use hf
    refine z_iald hC hI 3 2 (wM_e3 ad cy σ3) (tM_t3 cy) q dX12_control_90 ?_
    refine lv_if_ne (tgt := 119) hx hb dX12_control_91 (by decide) (fun q => ?_) (fun q => ?_)
    · replace hf := zif_f q hf
      refine lv_aload_n hx hb dX12_control_119 rfl (lv_at hl 0 rfl) ?_
      refine z_get hC hI hinX12_control_X120 0 (wM_e0 ad cy σ3) rfl 10 (by decide) (List.mem_cons_of_mem _ zw9_7) rfl dX12_control_120 ?_
      refine lv_bipush (v := 59) hx hb dX12_control_123 (by decide) ?_
      obtain ⟨q, hf⟩ := zck_use hf
      refine z_iald hC hI 3 2 (wM_e3 ad cy σ3) (tM_t3 cy) q dX12_control_125 ?_
      refine lv_iconst (v := 2) hx hb dX12_control_126 (by decide) ?_
      refine lv_icmp_ne (tgt := 162) hx hb dX12_control_127 (by decide) (fun q => ?_) (fun q => ?_)
      · replace hf := zif_f q hf
        exact bX12_control_162 hC  hI (lv_sub hl [] rfl) hf
      replace hf := zif_t q hf
      refine lv_iload_n hx hb dX12_control_130 rfl (lv_at hl 1 rfl) ?_
      refine lv_bipush (v := 16) hx hb dX12_control_131 (by decide) ?_
      obtain ⟨q, hf⟩ := zck_use hf
      refine z_irem hx hb dX12_control_133 (of_decide_eq_true q) ?_
      refine lv_bipush (v := 11) hx hb dX12_control_134 (by decide) ?_
      refine lv_icmp_ge (tgt := 162) hx hb dX12_control_136 (by decide) (fun q => ?_) (fun q => ?_)
      · replace hf := zif_t q hf
        exact bX12_control_162 hC  hI (lv_sub hl [] rfl) hf
      replace hf := zif_f q hf
      refine lv_aload_n hx hb dX12_control_139 rfl (lv_at hl 0 rfl) ?_
      refine z_get hC hI hinX12_control_X120 0 (wM_e0 ad cy σ3) rfl 10 (by decide) (List.mem_cons_of_mem _ zw9_7) rfl dX12_control_140 ?_
      refine lv_bipush (v := 47) hx hb dX12_control_143 (by decide) ?_
      refine lv_iload_n hx hb dX12_control_145 rfl (lv_at hl 1 rfl) ?_
      refine lv_bipush (v := 16) hx hb dX12_control_146 (by decide) ?_
      obtain ⟨q, hf⟩ := zck_use hf
      refine z_irem hx hb dX12_control_148 (of_decide_eq_true q) ?_
      refine lv_iadd hx hb dX12_control_149 ?_
      refine lv_aload_n hx hb dX12_control_150 rfl (lv_at hl 0 rfl) ?_
      refine z_get hC hI hinX12_control_X120 0 (wM_e0 ad cy σ3) rfl 10 (by decide) (List.mem_cons_of_mem _ zw9_7) rfl dX12_control_151 ?_
      refine lv_bipush (v := 58) hx hb dX12_control_154 (by decide) ?_
      obtain ⟨q, hf⟩ := zck_use hf
      refine z_iald hC hI 3 2 (wM_e3 ad cy σ3) (tM_t3 cy) q dX12_control_156 ?_
      refine lv_sipush (v := 255) hx hb dX12_control_157 (by decide) ?_
      refine lv_iand hx hb dX12_control_160 ?_
      obtain ⟨q, hf⟩ := zck_use hf
      obtain ⟨σ4, eσ4⟩ : ∃ z, z = zsi σ3 3 ((47 + (zrem x1 16)).toNatClampNeg) ((zgi σ3 3 (58 : Int32).toNatClampNeg) &&& 255) := ⟨_, rfl⟩
      replace hf := zbv_use eσ4 hf
      refine z_iast hC hI 3 2 (wM_e3 ad cy σ3) (tM_t3 cy) q ((wM_s3 ad cy σ3 _ _).trans (congrArg (wM ad cy) eσ4.symm)) dX12_control_161 (fun H locs hI => ?_)
      exact bX12_control_162 hC  hI (lv_sub hl [] rfl) hf
    replace hf := zif_t q hf
    refine lv_aload_n hx hb dX12_control_94 rfl (lv_at hl 0 rfl) ?_
    refine z_get hC hI hinX12_control_X120 0 (wM_e0 ad cy σ3) rfl 10 (by decide) (List.mem_cons_of_mem _ zw9_7) rfl dX12_control_95 ?_
    refine lv_bipush (v := 60) hx hb dX12_control_98 (by decide) ?_
    refine lv_aload_n hx hb dX12_control_100 rfl (lv_at hl 0 rfl) ?_
    refine lv_aload_n hx hb dX12_control_101 rfl (lv_at hl 0 rfl) ?_
    refine z_get hC hI hinX12_control_X120 0 (wM_e0 ad cy σ3) rfl 10 (by decide) (List.mem_cons_of_mem _ zw9_7) rfl dX12_control_102 ?_
    refine lv_bipush (v := 58) hx hb dX12_control_105 (by decide) ?_
    obtain ⟨q, hf⟩ := zck_use hf
    refine z_iald hC hI 3 2 (wM_e3 ad cy σ3) (tM_t3 cy) q dX12_control_107 ?_
    obtain ⟨σ5, v6, g5, hf⟩ := zbi_use hf
    refine z_callVi (As := [.int (zgi σ3 3 (58 : Int32).toNatClampNeg)]) (rest := [.int 60, .ref (ad 3)]) hC hI (cX12_video8_met st l D ad cy σ3 (zgi σ3 3 (58 : Int32).toNatClampNeg) _ g5) (zgV zw56_6 zw56_7 zw56_8 zw1_5 zw56_9) rfl ⟨rfl, rfl⟩ 1 hdX12_video8 ⟨Nat.le_of_ble_eq_true rfl, Nat.le_of_ble_eq_true rfl⟩ rfl rfl (wM_e0 ad cy σ3) rfl hl rfl (Nat.le_of_ble_eq_true rfl) dX12_control_108 ⟨Nat.zero_le _, Nat.zero_le _⟩ (fun H locs hI => ?_)
    obtain ⟨q, hf⟩ := zck_use hf
    obtain ⟨σ7, eσ7⟩ : ∃ z, z = zsi σ5 3 ((60 : Int32).toNatClampNeg) v6 := ⟨_, rfl⟩
    replace hf := zbv_use eσ7 hf
    refine z_iast hC hI 3 2 (wM_e3 ad cy σ5) (tM_t3 cy) q ((wM_s3 ad cy σ5 _ _).trans (congrArg (wM ad cy) eσ7.symm)) dX12_control_111 (fun H locs hI => ?_)
    refine lv_aload_n hx hb dX12_control_112 rfl (lv_at hl 0 rfl) ?_
    obtain ⟨σ8, g8, hf⟩ := zbu_use hf
    refine z_callVu (As := []) (rest := []) hC hI (cX12_further_met st l D ad cy σ7  _ g8) (zgV zw56_10 zw56_11 zw56_12 zw1_5 zw56_13) rfl ⟨rfl, rfl⟩ 0 hdX12_further ⟨Nat.le_of_ble_eq_true rfl, Nat.le_of_ble_eq_true rfl⟩ rfl rfl (wM_e0 ad cy σ7) rfl hl rfl (Nat.le_of_ble_eq_true rfl) dX12_control_113 ⟨Nat.zero_le _, Nat.zero_le _⟩ (fun H locs hI => ?_)
    refine lv_goto (tgt := 162) hx hb dX12_control_116 (by decide) ?_
    exact bX12_control_162 hC  hI (lv_sub hl [] rfl) hf
  replace hf := zif_t q hf
  refine lv_aload_n hx hb dX12_control_10 rfl (lv_at hl 0 rfl) ?_
  refine z_get hC hI hinX12_control_X120 0 (wM_e0 ad cy σ) rfl 10 (by decide) (List.mem_cons_of_mem _ zw9_7) rfl dX12_control_11 ?_
  refine lv_bipush (v := 58) hx hb dX12_control_14 (by decide) ?_
  refine lv_aload_n hx hb dX12_control_16 rfl (lv_at hl 0 rfl) ?_
  refine z_get hC hI hinX12_control_X120 0 (wM_e0 ad cy σ) rfl 10 (by decide) (List.mem_cons_of_mem _ zw9_7) rfl dX12_control_17 ?_
  refine lv_bipush (v := 58) hx hb dX12_control_20 (by decide) ?_
  obtain ⟨q, hf⟩ := zck_use hf
  refine z_iald hC hI 3 2 (wM_e3 ad cy σ) (tM_t3 cy) q dX12_control_22 ?_
  refine lv_sipush (v := 16128) hx hb dX12_control_23 (by decide) ?_
  refine lv_iand hx hb dX12_control_26 ?_
  refine lv_iload_n hx hb dX12_control_27 rfl (lv_at hl 1 rfl) ?_
  refine lv_ior hx hb dX12_control_28 ?_
  obtain ⟨q, hf⟩ := zck_use hf
  obtain ⟨σ9, eσ9⟩ : ∃ z, z = zsi σ 3 ((58 : Int32).toNatClampNeg) (((zgi σ 3 (58 : Int32).toNatClampNeg) &&& 16128) ||| x1) := ⟨_, rfl⟩
  replace hf := zbv_use eσ9 hf
  refine z_iast hC hI 3 2 (wM_e3 ad cy σ) (tM_t3 cy) q ((wM_s3 ad cy σ _ _).trans (congrArg (wM ad cy) eσ9.symm)) dX12_control_29 (fun H locs hI => ?_)
  refine lv_aload_n hx hb dX12_control_30 rfl (lv_at hl 0 rfl) ?_
  refine z_get hC hI hinX12_control_X120 0 (wM_e0 ad cy σ9) rfl 10 (by decide) (List.mem_cons_of_mem _ zw9_7) rfl dX12_control_31 ?_
  refine lv_bipush (v := 61) hx hb dX12_control_34 (by decide) ?_
  refine lv_iconst (v := 1) hx hb dX12_control_36 (by decide) ?_
  obtain ⟨q, hf⟩ := zck_use hf
  obtain ⟨σ10, eσ10⟩ : ∃ z, z = zsi σ9 3 ((61 : Int32).toNatClampNeg) 1 := ⟨_, rfl⟩
  replace hf := zbv_use eσ10 hf
  refine z_iast hC hI 3 2 (wM_e3 ad cy σ9) (tM_t3 cy) q ((wM_s3 ad cy σ9 _ _).trans (congrArg (wM ad cy) eσ10.symm)) dX12_control_37 (fun H locs hI => ?_)
  exact z_return hC hI hf dX12_control_38
set_option maxRecDepth 20000 in
theorem cX12_control_met (st : Nat → Nat) (l : Launch) (D : va_G) (ad : Nat → Nat) (cy : Nat → ClassId) (σ : zSt) (x1 : Int32) (res : zSt) (hf : fX12_control σ x1 = some res) (sz : Nat) : zMu st l yX12_control wzX12_control rmX12_control [.ref (ad 0), .int x1] D (tM cy) (wM ad cy) sz σ res :=
  zMu.of (cc := cX12_control) (maxL := 2) (ret := none) (by decide) rfl (Nat.le_of_ble_eq_true rfl) (fun p e s m args below meth c hC A hI ls hl => bX12_control hC hI hl hf)
theorem hdX12_control : yX12_control.cls = RX12 ∧ yX12_control.cls ≠ "java/lang/invoke/MethodHandle" ∧ yX12_control.cls ≠ "java/lang/invoke/VarHandle" ∧ (parseMethodDescriptor yX12_control.desc).map (fun d => d.parameters.length) = some 1 := by decide +kernel
noncomputable def rmX12_dataTo : Room := { frames := 1, cells := 0, slots := 0, locals := 20 }
noncomputable def wzX12_dataTo : List Cond := .code yX12_dataTo cX12_dataTo 3 none :: wsL_law
theorem hinX12_dataTo_X120 : ∀ w ∈ wsX120, w ∈ wzX12_dataTo := fun w h => List.mem_cons_of_mem _ (inlX12 w h)
noncomputable def fX12_dataTo_115  (σ : zSt)  : Option (zSt) :=
  zbu (fX12_further σ ) (fun σ1 =>
  some σ1)
noncomputable def fX12_dataTo  (σ : zSt) (x1 : Int32) : Option (zSt) :=
  zck (zin 61 1048) (zbv (zsi σ 3 ((61 : Int32).toNatClampNeg) 0) (fun σ2 =>
  zck (zin 60 1048) (zbv (zsi σ2 3 ((60 : Int32).toNatClampNeg) x1) (fun σ3 =>
  zck (zin 58 1048) (
  zbv (zgi σ3 3 (58 : Int32).toNatClampNeg) (fun v4 =>
  zck (zin 59 1048) (
  if (zgi σ3 3 (59 : Int32).toNatClampNeg) = 3 then if (zgi σ3 0 3) = 2 then zck (decide (¬ 2 = 0)) (
  if (zrem v4 2) = 0 then zck (zin 68 1048) (zbv (zsi σ3 3 ((68 : Int32).toNatClampNeg) x1) (fun σ7 =>
  fX12_dataTo_115 σ7)) else
  zck (decide (¬ 64 = 0)) (
  zck (zin 68 1048) (
  zck (zin ((zrem v4 64) - 1) 64) (zbv (zsi σ3 8 (((zrem v4 64) - 1).toNatClampNeg) (vp_nar .byte ((zgi σ3 3 (68 : Int32).toNatClampNeg).toInt8.toInt32))) (fun σ5 =>
  zck (decide (¬ 64 = 0)) (
  zck (zin (zrem v4 64) 64) (zbv (zsi σ5 8 ((zrem v4 64).toNatClampNeg) (vp_nar .byte (x1.toInt8.toInt32))) (fun σ6 =>
  fX12_dataTo_115 σ6)))))))) else
  zck (decide (¬ 32 = 0)) (
  zck (zin (zrem v4 32) 64) (zbv (zsi σ3 8 ((zrem v4 32).toNatClampNeg) (vp_nar .byte (x1.toInt8.toInt32))) (fun σ8 =>
  fX12_dataTo_115 σ8))) else
  zck (zin v4 16384) (zbv (zsi σ3 7 (v4.toNatClampNeg) (vp_nar .byte (x1.toInt8.toInt32))) (fun σ9 =>
  fX12_dataTo_115 σ9)))))))))
set_option maxRecDepth 20000 in
set_option maxHeartbeats 4000000 in
theorem bX12_dataTo_115 {st : Nat → Nat} {p : Program} {l : Launch} {e : Env} {s : State} {m : MethodId} {args : Array Value} {below : List Frame} {meth : Method} {c : Code} {D : va_G} {A : Nat → Prop} {ad : Nat → Nat} {cy : Nat → ClassId} (hC : zC p m c cX12_dataTo 3 s args wzX12_dataTo RX12 meth none)  {res : zSt} {H : Heap} {locs : List Loc} {σ : zSt} {ls : Array Slot}  (hI : zI st D (tM cy) (wM ad cy σ) A s H locs) (hl : lv_has ls 3 [(0, .ref (ad 0))]) (hf : fX12_dataTo_115  σ  = some res) : W p l e rmX12_dataTo s m args below meth c H locs 0 0 (zQu below args s D (tM cy) (wM ad cy) A res) (F0 m 115 ls []) := by
  have hx := hC.1
  have hb := hC.2.1
  unfold fX12_dataTo_115 at hf
  refine lv_aload_n hx hb dX12_dataTo_115 rfl (lv_at hl 0 rfl) ?_
  obtain ⟨σ1, g1, hf⟩ := zbu_use hf
  refine z_callVu (As := []) (rest := []) hC hI (cX12_further_met st l D ad cy σ  _ g1) (zgV zw56_10 zw56_11 zw56_12 zw1_5 zw56_13) rfl ⟨rfl, rfl⟩ 0 hdX12_further ⟨Nat.le_of_ble_eq_true rfl, Nat.le_of_ble_eq_true rfl⟩ rfl rfl (wM_e0 ad cy σ) rfl hl rfl (Nat.le_of_ble_eq_true rfl) dX12_dataTo_116 ⟨Nat.zero_le _, Nat.zero_le _⟩ (fun H locs hI => ?_)
  exact z_return hC hI hf dX12_dataTo_119
set_option maxRecDepth 20000 in
set_option maxHeartbeats 4000000 in
theorem bX12_dataTo {st : Nat → Nat} {p : Program} {l : Launch} {e : Env} {s : State} {m : MethodId} {args : Array Value} {below : List Frame} {meth : Method} {c : Code} {D : va_G} {A : Nat → Prop} {ad : Nat → Nat} {cy : Nat → ClassId} (hC : zC p m c cX12_dataTo 3 s args wzX12_dataTo RX12 meth none)  {res : zSt} {H : Heap} {locs : List Loc} {σ : zSt} {ls : Array Slot} {x1 : Int32} (hI : zI st D (tM cy) (wM ad cy σ) A s H locs) (hl : lv_has ls 3 [(0, .ref (ad 0)), (1, .int x1)]) (hf : fX12_dataTo  σ x1 = some res) : W p l e rmX12_dataTo s m args below meth c H locs 0 0 (zQu below args s D (tM cy) (wM ad cy) A res) (F0 m 0 ls []) := by
  have hx := hC.1
  have hb := hC.2.1
  unfold fX12_dataTo at hf
  refine lv_aload_n hx hb dX12_dataTo_0 rfl (lv_at hl 0 rfl) ?_
  refine z_get hC hI hinX12_dataTo_X120 0 (wM_e0 ad cy σ) rfl 10 (by decide) (List.mem_cons_of_mem _ zw9_7) rfl dX12_dataTo_1 ?_
  refine lv_bipush (v := 61) hx hb dX12_dataTo_4 (by decide) ?_
  refine lv_iconst (v := 0) hx hb dX12_dataTo_6 (by decide) ?_
  obtain ⟨q, hf⟩ := zck_use hf
  obtain ⟨σ2, eσ2⟩ : ∃ z, z = zsi σ 3 ((61 : Int32).toNatClampNeg) 0 := ⟨_, rfl⟩
  replace hf := zbv_use eσ2 hf
  refine z_iast hC hI 3 2 (wM_e3 ad cy σ) (tM_t3 cy) q ((wM_s3 ad cy σ _ _).trans (congrArg (wM ad cy) eσ2.symm)) dX12_dataTo_7 (fun H locs hI => ?_)
  refine lv_aload_n hx hb dX12_dataTo_8 rfl (lv_at hl 0 rfl) ?_
  refine z_get hC hI hinX12_dataTo_X120 0 (wM_e0 ad cy σ2) rfl 10 (by decide) (List.mem_cons_of_mem _ zw9_7) rfl dX12_dataTo_9 ?_
  refine lv_bipush (v := 60) hx hb dX12_dataTo_12 (by decide) ?_
  refine lv_iload_n hx hb dX12_dataTo_14 rfl (lv_at hl 1 rfl) ?_
  obtain ⟨q, hf⟩ := zck_use hf
  obtain ⟨σ3, eσ3⟩ : ∃ z, z = zsi σ2 3 ((60 : Int32).toNatClampNeg) x1 := ⟨_, rfl⟩
  replace hf := zbv_use eσ3 hf
  refine z_iast hC hI 3 2 (wM_e3 ad cy σ2) (tM_t3 cy) q ((wM_s3 ad cy σ2 _ _).trans (congrArg (wM ad cy) eσ3.symm)) dX12_dataTo_15 (fun H locs hI => ?_)
  refine lv_aload_n hx hb dX12_dataTo_16 rfl (lv_at hl 0 rfl) ?_
  refine z_get hC hI hinX12_dataTo_X120 0 (wM_e0 ad cy σ3) rfl 10 (by decide) (List.mem_cons_of_mem _ zw9_7) rfl dX12_dataTo_17 ?_
  refine lv_bipush (v := 58) hx hb dX12_dataTo_20 (by decide) ?_
  obtain ⟨q, hf⟩ := zck_use hf
  refine z_iald hC hI 3 2 (wM_e3 ad cy σ3) (tM_t3 cy) q dX12_dataTo_22 ?_
  refine lv_topi (fun v4 ev4 => ?_)
  replace hf := zbv_use ev4 hf
  refine lv_istore_n (lv' := [(2, .int v4), (0, .ref (ad 0)), (1, .int x1)]) hx hb dX12_dataTo_23 rfl hl (by decide) rfl (fun ls hl => ?_)
  refine lv_aload_n hx hb dX12_dataTo_24 rfl (lv_at hl 1 rfl) ?_
  refine z_get hC hI hinX12_dataTo_X120 0 (wM_e0 ad cy σ3) rfl 10 (by decide) (List.mem_cons_of_mem _ zw9_7) rfl dX12_dataTo_25 ?_
  refine lv_bipush (v := 59) hx hb dX12_dataTo_28 (by decide) ?_
  obtain ⟨q, hf⟩ := zck_use hf
  refine z_iald hC hI 3 2 (wM_e3 ad cy σ3) (tM_t3 cy) q dX12_dataTo_30 ?_
  refine lv_iconst (v := 3) hx hb dX12_dataTo_31 (by decide) ?_
  refine lv_icmp_eq (tgt := 46) hx hb dX12_dataTo_32 (by decide) (fun q => ?_) (fun q => ?_)
  · replace hf := zif_t q hf
    refine lv_aload_n hx hb dX12_dataTo_46 rfl (lv_at hl 1 rfl) ?_
    refine z_get hC hI hinX12_dataTo_X120 0 (wM_e0 ad cy σ3) rfl 3 (by decide) (List.mem_cons_of_mem _ zw10_10) rfl dX12_dataTo_47 ?_
    refine lv_iconst (v := 2) hx hb dX12_dataTo_50 (by decide) ?_
    refine lv_icmp_eq (tgt := 68) hx hb dX12_dataTo_51 (by decide) (fun q => ?_) (fun q => ?_)
    · replace hf := zif_t q hf
      refine lv_iload_n hx hb dX12_dataTo_68 rfl (lv_at hl 0 rfl) ?_
      refine lv_iconst (v := 2) hx hb dX12_dataTo_69 (by decide) ?_
      obtain ⟨q, hf⟩ := zck_use hf
      refine z_irem hx hb dX12_dataTo_70 (of_decide_eq_true q) ?_
      refine lv_if_ne (tgt := 85) hx hb dX12_dataTo_71 (by decide) (fun q => ?_) (fun q => ?_)
      · replace hf := zif_f q hf
        refine lv_aload_n hx hb dX12_dataTo_85 rfl (lv_at hl 1 rfl) ?_
        refine z_get hC hI hinX12_dataTo_X120 0 (wM_e0 ad cy σ3) rfl 15 (by decide) (List.mem_cons_of_mem _ zw9_13) rfl dX12_dataTo_86 ?_
        refine lv_iload_n hx hb dX12_dataTo_89 rfl (lv_at hl 0 rfl) ?_
        refine lv_bipush (v := 64) hx hb dX12_dataTo_90 (by decide) ?_
        obtain ⟨q, hf⟩ := zck_use hf
        refine z_irem hx hb dX12_dataTo_92 (of_decide_eq_true q) ?_
        refine lv_iconst (v := 1) hx hb dX12_dataTo_93 (by decide) ?_
        refine lv_isub hx hb dX12_dataTo_94 ?_
        refine lv_aload_n hx hb dX12_dataTo_95 rfl (lv_at hl 1 rfl) ?_
        refine z_get hC hI hinX12_dataTo_X120 0 (wM_e0 ad cy σ3) rfl 10 (by decide) (List.mem_cons_of_mem _ zw9_7) rfl dX12_dataTo_96 ?_
        refine lv_bipush (v := 68) hx hb dX12_dataTo_99 (by decide) ?_
        obtain ⟨q, hf⟩ := zck_use hf
        refine z_iald hC hI 3 2 (wM_e3 ad cy σ3) (tM_t3 cy) q dX12_dataTo_101 ?_
        refine lv_i2b (v := (zgi σ3 3 (68 : Int32).toNatClampNeg).toInt8.toInt32) hx hb dX12_dataTo_102 rfl ?_
        obtain ⟨q, hf⟩ := zck_use hf
        obtain ⟨σ5, eσ5⟩ : ∃ z, z = zsi σ3 8 (((zrem v4 64) - 1).toNatClampNeg) (vp_nar .byte ((zgi σ3 3 (68 : Int32).toNatClampNeg).toInt8.toInt32)) := ⟨_, rfl⟩
        replace hf := zbv_use eσ5 hf
        refine z_bast hC hI 8 7 (wM_e8 ad cy σ3) (tM_t8 cy) q ((wM_s8 ad cy σ3 _ _).trans (congrArg (wM ad cy) eσ5.symm)) dX12_dataTo_103 (fun H locs hI => ?_)
        refine lv_aload_n hx hb dX12_dataTo_104 rfl (lv_at hl 1 rfl) ?_
        refine z_get hC hI hinX12_dataTo_X120 0 (wM_e0 ad cy σ5) rfl 15 (by decide) (List.mem_cons_of_mem _ zw9_13) rfl dX12_dataTo_105 ?_
        refine lv_iload_n hx hb dX12_dataTo_108 rfl (lv_at hl 0 rfl) ?_
        refine lv_bipush (v := 64) hx hb dX12_dataTo_109 (by decide) ?_
        obtain ⟨q, hf⟩ := zck_use hf
        refine z_irem hx hb dX12_dataTo_111 (of_decide_eq_true q) ?_
        refine lv_iload_n hx hb dX12_dataTo_112 rfl (lv_at hl 2 rfl) ?_
        refine lv_i2b (v := x1.toInt8.toInt32) hx hb dX12_dataTo_113 rfl ?_
        obtain ⟨q, hf⟩ := zck_use hf
        obtain ⟨σ6, eσ6⟩ : ∃ z, z = zsi σ5 8 ((zrem v4 64).toNatClampNeg) (vp_nar .byte (x1.toInt8.toInt32)) := ⟨_, rfl⟩
        replace hf := zbv_use eσ6 hf
        refine z_bast hC hI 8 7 (wM_e8 ad cy σ5) (tM_t8 cy) q ((wM_s8 ad cy σ5 _ _).trans (congrArg (wM ad cy) eσ6.symm)) dX12_dataTo_114 (fun H locs hI => ?_)
        exact bX12_dataTo_115 hC  hI (lv_sub hl [1] rfl) hf
      replace hf := zif_t q hf
      refine lv_aload_n hx hb dX12_dataTo_74 rfl (lv_at hl 1 rfl) ?_
      refine z_get hC hI hinX12_dataTo_X120 0 (wM_e0 ad cy σ3) rfl 10 (by decide) (List.mem_cons_of_mem _ zw9_7) rfl dX12_dataTo_75 ?_
      refine lv_bipush (v := 68) hx hb dX12_dataTo_78 (by decide) ?_
      refine lv_iload_n hx hb dX12_dataTo_80 rfl (lv_at hl 2 rfl) ?_
      obtain ⟨q, hf⟩ := zck_use hf
      obtain ⟨σ7, eσ7⟩ : ∃ z, z = zsi σ3 3 ((68 : Int32).toNatClampNeg) x1 := ⟨_, rfl⟩
      replace hf := zbv_use eσ7 hf
      refine z_iast hC hI 3 2 (wM_e3 ad cy σ3) (tM_t3 cy) q ((wM_s3 ad cy σ3 _ _).trans (congrArg (wM ad cy) eσ7.symm)) dX12_dataTo_81 (fun H locs hI => ?_)
      refine lv_goto (tgt := 115) hx hb dX12_dataTo_82 (by decide) ?_
      exact bX12_dataTo_115 hC  hI (lv_sub hl [1] rfl) hf
    replace hf := zif_f q hf
    refine lv_aload_n hx hb dX12_dataTo_54 rfl (lv_at hl 1 rfl) ?_
    refine z_get hC hI hinX12_dataTo_X120 0 (wM_e0 ad cy σ3) rfl 15 (by decide) (List.mem_cons_of_mem _ zw9_13) rfl dX12_dataTo_55 ?_
    refine lv_iload_n hx hb dX12_dataTo_58 rfl (lv_at hl 0 rfl) ?_
    refine lv_bipush (v := 32) hx hb dX12_dataTo_59 (by decide) ?_
    obtain ⟨q, hf⟩ := zck_use hf
    refine z_irem hx hb dX12_dataTo_61 (of_decide_eq_true q) ?_
    refine lv_iload_n hx hb dX12_dataTo_62 rfl (lv_at hl 2 rfl) ?_
    refine lv_i2b (v := x1.toInt8.toInt32) hx hb dX12_dataTo_63 rfl ?_
    obtain ⟨q, hf⟩ := zck_use hf
    obtain ⟨σ8, eσ8⟩ : ∃ z, z = zsi σ3 8 ((zrem v4 32).toNatClampNeg) (vp_nar .byte (x1.toInt8.toInt32)) := ⟨_, rfl⟩
    replace hf := zbv_use eσ8 hf
    refine z_bast hC hI 8 7 (wM_e8 ad cy σ3) (tM_t8 cy) q ((wM_s8 ad cy σ3 _ _).trans (congrArg (wM ad cy) eσ8.symm)) dX12_dataTo_64 (fun H locs hI => ?_)
    refine lv_goto (tgt := 115) hx hb dX12_dataTo_65 (by decide) ?_
    exact bX12_dataTo_115 hC  hI (lv_sub hl [1] rfl) hf
  replace hf := zif_f q hf
  refine lv_aload_n hx hb dX12_dataTo_35 rfl (lv_at hl 1 rfl) ?_
  refine z_get hC hI hinX12_dataTo_X120 0 (wM_e0 ad cy σ3) rfl 14 (by decide) (List.mem_cons_of_mem _ zw9_12) rfl dX12_dataTo_36 ?_
  refine lv_iload_n hx hb dX12_dataTo_39 rfl (lv_at hl 0 rfl) ?_
  refine lv_iload_n hx hb dX12_dataTo_40 rfl (lv_at hl 2 rfl) ?_
  refine lv_i2b (v := x1.toInt8.toInt32) hx hb dX12_dataTo_41 rfl ?_
  obtain ⟨q, hf⟩ := zck_use hf
  obtain ⟨σ9, eσ9⟩ : ∃ z, z = zsi σ3 7 (v4.toNatClampNeg) (vp_nar .byte (x1.toInt8.toInt32)) := ⟨_, rfl⟩
  replace hf := zbv_use eσ9 hf
  refine z_bast hC hI 7 6 (wM_e7 ad cy σ3) (tM_t7 cy) q ((wM_s7 ad cy σ3 _ _).trans (congrArg (wM ad cy) eσ9.symm)) dX12_dataTo_42 (fun H locs hI => ?_)
  refine lv_goto (tgt := 115) hx hb dX12_dataTo_43 (by decide) ?_
  exact bX12_dataTo_115 hC  hI (lv_sub hl [1] rfl) hf
set_option maxRecDepth 20000 in
theorem cX12_dataTo_met (st : Nat → Nat) (l : Launch) (D : va_G) (ad : Nat → Nat) (cy : Nat → ClassId) (σ : zSt) (x1 : Int32) (res : zSt) (hf : fX12_dataTo σ x1 = some res) (sz : Nat) : zMu st l yX12_dataTo wzX12_dataTo rmX12_dataTo [.ref (ad 0), .int x1] D (tM cy) (wM ad cy) sz σ res :=
  zMu.of (cc := cX12_dataTo) (maxL := 3) (ret := none) (by decide) rfl (Nat.le_of_ble_eq_true rfl) (fun p e s m args below meth c hC A hI ls hl => bX12_dataTo hC hI hl hf)
theorem hdX12_dataTo : yX12_dataTo.cls = RX12 ∧ yX12_dataTo.cls ≠ "java/lang/invoke/MethodHandle" ∧ yX12_dataTo.cls ≠ "java/lang/invoke/VarHandle" ∧ (parseMethodDescriptor yX12_dataTo.desc).map (fun d => d.parameters.length) = some 1 := by decide +kernel
end ZJN1
