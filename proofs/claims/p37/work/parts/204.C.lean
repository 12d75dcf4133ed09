section ZJN0
noncomputable def kn_cX4_read : Nat := 0xac4b00b62a0700a74800b62a0a00991cac4500b640101c00b42a0d009a1000b42a1400a0f200111bac4000b61400b42a0a00a73d00b61400b42a0d00991cac2e06100900b42a0a00a73a00b61400b42a0d00991cacff00110600a73600b61b2a0b00991000b42a450000002f0000001c00000002000000000000005b000000000000aa7a06101b3d030400a70407009a7e041b
theorem zk_cX4_read : zkd cX4_read.data.toList kn_cX4_read = true := by decide +kernel
theorem zn_cX4_read : cX4_read.data.toList.length = 147 := by decide +kernel
theorem dX4_read_0 : decode cX4_read 0 = .ok (.iload_n 1, 1) := zo_27 (zkb zk_cX4_read zn_cX4_read rfl)
theorem dX4_read_1 : decode cX4_read 1 = .ok (.iconst 1, 1) := zo_4 (zkb zk_cX4_read zn_cX4_read rfl)
theorem dX4_read_2 : decode cX4_read 2 = .ok (.iand, 1) := zo_126 (zkb zk_cX4_read zn_cX4_read rfl)
theorem dX4_read_3 : decode cX4_read 3 = .ok (.ifCond .ne 7, 3) := zo_154 (b1 := 0) (b2 := 7) (zkb3 zk_cX4_read zn_cX4_read rfl) rfl
theorem dX4_read_6 : decode cX4_read 6 = .ok (.iconst 1, 1) := zo_4 (zkb zk_cX4_read zn_cX4_read rfl)
theorem dX4_read_7 : decode cX4_read 7 = .ok (.goto 4, 3) := zo_167 (b1 := 0) (b2 := 4) (zkb3 zk_cX4_read zn_cX4_read rfl) rfl
theorem dX4_read_10 : decode cX4_read 10 = .ok (.iconst 0, 1) := zo_3 (zkb zk_cX4_read zn_cX4_read rfl)
theorem dX4_read_11 : decode cX4_read 11 = .ok (.istore_n 2, 1) := zo_61 (zkb zk_cX4_read zn_cX4_read rfl)
theorem dX4_read_12 : decode cX4_read 12 = .ok (.iload_n 1, 1) := zo_27 (zkb zk_cX4_read zn_cX4_read rfl)
theorem dX4_read_13 : decode cX4_read 13 = .ok (.bipush 6, 2) := zo_16 (b1 := 6) (zkb2 zk_cX4_read zn_cX4_read rfl) rfl
theorem dX4_read_15 : decode cX4_read 15 = .ok (.ishr, 1) := zo_122 (zkb zk_cX4_read zn_cX4_read rfl)
theorem dX4_read_16 : decode cX4_read 16 = .ok (.tableswitch 91 0 2 #[28, 47, 69], 28) := by decide +kernel
theorem dX4_read_44 : decode cX4_read 44 = .ok (.aload_n 0, 1) := zo_42 (zkb zk_cX4_read zn_cX4_read rfl)
theorem dX4_read_45 : decode cX4_read 45 = .ok (.getfield 16, 3) := zo_180 (b1 := 0) (b2 := 16) (zkb3 zk_cX4_read zn_cX4_read rfl) rfl
theorem dX4_read_48 : decode cX4_read 48 = .ok (.ifCond .eq 11, 3) := zo_153 (b1 := 0) (b2 := 11) (zkb3 zk_cX4_read zn_cX4_read rfl) rfl
theorem dX4_read_51 : decode cX4_read 51 = .ok (.aload_n 0, 1) := zo_42 (zkb zk_cX4_read zn_cX4_read rfl)
theorem dX4_read_52 : decode cX4_read 52 = .ok (.iload_n 1, 1) := zo_27 (zkb zk_cX4_read zn_cX4_read rfl)
theorem dX4_read_53 : decode cX4_read 53 = .ok (.invokevirtual 54, 3) := zo_182 (b1 := 0) (b2 := 54) (zkb3 zk_cX4_read zn_cX4_read rfl) rfl
theorem dX4_read_56 : decode cX4_read 56 = .ok (.goto 6, 3) := zo_167 (b1 := 0) (b2 := 6) (zkb3 zk_cX4_read zn_cX4_read rfl) rfl
theorem dX4_read_59 : decode cX4_read 59 = .ok (.sipush 255, 3) := zo_17 (b1 := 0) (b2 := 255) (zkb3 zk_cX4_read zn_cX4_read rfl) rfl
theorem dX4_read_62 : decode cX4_read 62 = .ok (.ireturn, 1) := zo_172 (zkb zk_cX4_read zn_cX4_read rfl)
theorem dX4_read_63 : decode cX4_read 63 = .ok (.iload_n 2, 1) := zo_28 (zkb zk_cX4_read zn_cX4_read rfl)
theorem dX4_read_64 : decode cX4_read 64 = .ok (.ifCond .eq 13, 3) := zo_153 (b1 := 0) (b2 := 13) (zkb3 zk_cX4_read zn_cX4_read rfl) rfl
theorem dX4_read_67 : decode cX4_read 67 = .ok (.aload_n 0, 1) := zo_42 (zkb zk_cX4_read zn_cX4_read rfl)
theorem dX4_read_68 : decode cX4_read 68 = .ok (.getfield 20, 3) := zo_180 (b1 := 0) (b2 := 20) (zkb3 zk_cX4_read zn_cX4_read rfl) rfl
theorem dX4_read_71 : decode cX4_read 71 = .ok (.invokevirtual 58, 3) := zo_182 (b1 := 0) (b2 := 58) (zkb3 zk_cX4_read zn_cX4_read rfl) rfl
theorem dX4_read_74 : decode cX4_read 74 = .ok (.goto 10, 3) := zo_167 (b1 := 0) (b2 := 10) (zkb3 zk_cX4_read zn_cX4_read rfl) rfl
theorem dX4_read_77 : decode cX4_read 77 = .ok (.aload_n 0, 1) := zo_42 (zkb zk_cX4_read zn_cX4_read rfl)
theorem dX4_read_78 : decode cX4_read 78 = .ok (.getfield 9, 3) := zo_180 (b1 := 0) (b2 := 9) (zkb3 zk_cX4_read zn_cX4_read rfl) rfl
theorem dX4_read_81 : decode cX4_read 81 = .ok (.bipush 6, 2) := zo_16 (b1 := 6) (zkb2 zk_cX4_read zn_cX4_read rfl) rfl
theorem dX4_read_83 : decode cX4_read 83 = .ok (.iaload, 1) := zo_46 (zkb zk_cX4_read zn_cX4_read rfl)
theorem dX4_read_84 : decode cX4_read 84 = .ok (.ireturn, 1) := zo_172 (zkb zk_cX4_read zn_cX4_read rfl)
theorem dX4_read_85 : decode cX4_read 85 = .ok (.iload_n 2, 1) := zo_28 (zkb zk_cX4_read zn_cX4_read rfl)
theorem dX4_read_86 : decode cX4_read 86 = .ok (.ifCond .eq 13, 3) := zo_153 (b1 := 0) (b2 := 13) (zkb3 zk_cX4_read zn_cX4_read rfl) rfl
theorem dX4_read_89 : decode cX4_read 89 = .ok (.aload_n 0, 1) := zo_42 (zkb zk_cX4_read zn_cX4_read rfl)
theorem dX4_read_90 : decode cX4_read 90 = .ok (.getfield 20, 3) := zo_180 (b1 := 0) (b2 := 20) (zkb3 zk_cX4_read zn_cX4_read rfl) rfl
theorem dX4_read_93 : decode cX4_read 93 = .ok (.invokevirtual 61, 3) := zo_182 (b1 := 0) (b2 := 61) (zkb3 zk_cX4_read zn_cX4_read rfl) rfl
theorem dX4_read_96 : decode cX4_read 96 = .ok (.goto 10, 3) := zo_167 (b1 := 0) (b2 := 10) (zkb3 zk_cX4_read zn_cX4_read rfl) rfl
theorem dX4_read_99 : decode cX4_read 99 = .ok (.aload_n 0, 1) := zo_42 (zkb zk_cX4_read zn_cX4_read rfl)
theorem dX4_read_100 : decode cX4_read 100 = .ok (.getfield 20, 3) := zo_180 (b1 := 0) (b2 := 20) (zkb3 zk_cX4_read zn_cX4_read rfl) rfl
theorem dX4_read_103 : decode cX4_read 103 = .ok (.invokevirtual 64, 3) := zo_182 (b1 := 0) (b2 := 64) (zkb3 zk_cX4_read zn_cX4_read rfl) rfl
theorem dX4_read_106 : decode cX4_read 106 = .ok (.ireturn, 1) := zo_172 (zkb zk_cX4_read zn_cX4_read rfl)
theorem dX4_read_107 : decode cX4_read 107 = .ok (.iload_n 1, 1) := zo_27 (zkb zk_cX4_read zn_cX4_read rfl)
theorem dX4_read_108 : decode cX4_read 108 = .ok (.sipush 242, 3) := zo_17 (b1 := 0) (b2 := 242) (zkb3 zk_cX4_read zn_cX4_read rfl) rfl
theorem dX4_read_111 : decode cX4_read 111 = .ok (.if_icmp .ne 20, 3) := zo_160 (b1 := 0) (b2 := 20) (zkb3 zk_cX4_read zn_cX4_read rfl) rfl
theorem dX4_read_114 : decode cX4_read 114 = .ok (.aload_n 0, 1) := zo_42 (zkb zk_cX4_read zn_cX4_read rfl)
theorem dX4_read_115 : decode cX4_read 115 = .ok (.getfield 16, 3) := zo_180 (b1 := 0) (b2 := 16) (zkb3 zk_cX4_read zn_cX4_read rfl) rfl
theorem dX4_read_118 : decode cX4_read 118 = .ok (.ifCond .ne 13, 3) := zo_154 (b1 := 0) (b2 := 13) (zkb3 zk_cX4_read zn_cX4_read rfl) rfl
theorem dX4_read_121 : decode cX4_read 121 = .ok (.aload_n 0, 1) := zo_42 (zkb zk_cX4_read zn_cX4_read rfl)
theorem dX4_read_122 : decode cX4_read 122 = .ok (.getfield 28, 3) := zo_180 (b1 := 0) (b2 := 28) (zkb3 zk_cX4_read zn_cX4_read rfl) rfl
theorem dX4_read_125 : decode cX4_read 125 = .ok (.bipush 64, 2) := zo_16 (b1 := 64) (zkb2 zk_cX4_read zn_cX4_read rfl) rfl
theorem dX4_read_127 : decode cX4_read 127 = .ok (.invokevirtual 69, 3) := zo_182 (b1 := 0) (b2 := 69) (zkb3 zk_cX4_read zn_cX4_read rfl) rfl
theorem dX4_read_130 : decode cX4_read 130 = .ok (.ireturn, 1) := zo_172 (zkb zk_cX4_read zn_cX4_read rfl)
theorem dX4_read_131 : decode cX4_read 131 = .ok (.iload_n 2, 1) := zo_28 (zkb zk_cX4_read zn_cX4_read rfl)
theorem dX4_read_132 : decode cX4_read 132 = .ok (.ifCond .eq 10, 3) := zo_153 (b1 := 0) (b2 := 10) (zkb3 zk_cX4_read zn_cX4_read rfl) rfl
theorem dX4_read_135 : decode cX4_read 135 = .ok (.aload_n 0, 1) := zo_42 (zkb zk_cX4_read zn_cX4_read rfl)
theorem dX4_read_136 : decode cX4_read 136 = .ok (.invokevirtual 72, 3) := zo_182 (b1 := 0) (b2 := 72) (zkb3 zk_cX4_read zn_cX4_read rfl) rfl
theorem dX4_read_139 : decode cX4_read 139 = .ok (.goto 7, 3) := zo_167 (b1 := 0) (b2 := 7) (zkb3 zk_cX4_read zn_cX4_read rfl) rfl
theorem dX4_read_142 : decode cX4_read 142 = .ok (.aload_n 0, 1) := zo_42 (zkb zk_cX4_read zn_cX4_read rfl)
theorem dX4_read_143 : decode cX4_read 143 = .ok (.invokevirtual 75, 3) := zo_182 (b1 := 0) (b2 := 75) (zkb3 zk_cX4_read zn_cX4_read rfl) rfl
theorem dX4_read_146 : decode cX4_read 146 = .ok (.ireturn, 1) := zo_172 (zkb zk_cX4_read zn_cX4_read rfl)
noncomputable def kn_cX4_readHandy : Nat := 0xacff00110600a72e1b0900b42a0c00a3081b1100a1041bacc000110600a740100800a0042e09100900b42a17009a1b
theorem zk_cX4_readHandy : zkd cX4_readHandy.data.toList kn_cX4_readHandy = true := by decide +kernel
theorem zn_cX4_readHandy : cX4_readHandy.data.toList.length = 47 := by decide +kernel
theorem dX4_readHandy_0 : decode cX4_readHandy 0 = .ok (.iload_n 1, 1) := zo_27 (zkb zk_cX4_readHandy zn_cX4_readHandy rfl)
theorem dX4_readHandy_1 : decode cX4_readHandy 1 = .ok (.ifCond .ne 23, 3) := zo_154 (b1 := 0) (b2 := 23) (zkb3 zk_cX4_readHandy zn_cX4_readHandy rfl) rfl
theorem dX4_readHandy_4 : decode cX4_readHandy 4 = .ok (.aload_n 0, 1) := zo_42 (zkb zk_cX4_readHandy zn_cX4_readHandy rfl)
theorem dX4_readHandy_5 : decode cX4_readHandy 5 = .ok (.getfield 9, 3) := zo_180 (b1 := 0) (b2 := 9) (zkb3 zk_cX4_readHandy zn_cX4_readHandy rfl) rfl
theorem dX4_readHandy_8 : decode cX4_readHandy 8 = .ok (.bipush 9, 2) := zo_16 (b1 := 9) (zkb2 zk_cX4_readHandy zn_cX4_readHandy rfl) rfl
theorem dX4_readHandy_10 : decode cX4_readHandy 10 = .ok (.iaload, 1) := zo_46 (zkb zk_cX4_readHandy zn_cX4_readHandy rfl)
theorem dX4_readHandy_11 : decode cX4_readHandy 11 = .ok (.iconst 1, 1) := zo_4 (zkb zk_cX4_readHandy zn_cX4_readHandy rfl)
theorem dX4_readHandy_12 : decode cX4_readHandy 12 = .ok (.if_icmp .ne 8, 3) := zo_160 (b1 := 0) (b2 := 8) (zkb3 zk_cX4_readHandy zn_cX4_readHandy rfl) rfl
theorem dX4_readHandy_15 : decode cX4_readHandy 15 = .ok (.bipush 64, 2) := zo_16 (b1 := 64) (zkb2 zk_cX4_readHandy zn_cX4_readHandy rfl) rfl
theorem dX4_readHandy_17 : decode cX4_readHandy 17 = .ok (.goto 6, 3) := zo_167 (b1 := 0) (b2 := 6) (zkb3 zk_cX4_readHandy zn_cX4_readHandy rfl) rfl
theorem dX4_readHandy_20 : decode cX4_readHandy 20 = .ok (.sipush 192, 3) := zo_17 (b1 := 0) (b2 := 192) (zkb3 zk_cX4_readHandy zn_cX4_readHandy rfl) rfl
theorem dX4_readHandy_23 : decode cX4_readHandy 23 = .ok (.ireturn, 1) := zo_172 (zkb zk_cX4_readHandy zn_cX4_readHandy rfl)
theorem dX4_readHandy_24 : decode cX4_readHandy 24 = .ok (.iload_n 1, 1) := zo_27 (zkb zk_cX4_readHandy zn_cX4_readHandy rfl)
theorem dX4_readHandy_25 : decode cX4_readHandy 25 = .ok (.iconst 1, 1) := zo_4 (zkb zk_cX4_readHandy zn_cX4_readHandy rfl)
theorem dX4_readHandy_26 : decode cX4_readHandy 26 = .ok (.if_icmp .lt 17, 3) := zo_161 (b1 := 0) (b2 := 17) (zkb3 zk_cX4_readHandy zn_cX4_readHandy rfl) rfl
theorem dX4_readHandy_29 : decode cX4_readHandy 29 = .ok (.iload_n 1, 1) := zo_27 (zkb zk_cX4_readHandy zn_cX4_readHandy rfl)
theorem dX4_readHandy_30 : decode cX4_readHandy 30 = .ok (.iconst 5, 1) := zo_8 (zkb zk_cX4_readHandy zn_cX4_readHandy rfl)
theorem dX4_readHandy_31 : decode cX4_readHandy 31 = .ok (.if_icmp .gt 12, 3) := zo_163 (b1 := 0) (b2 := 12) (zkb3 zk_cX4_readHandy zn_cX4_readHandy rfl) rfl
theorem dX4_readHandy_34 : decode cX4_readHandy 34 = .ok (.aload_n 0, 1) := zo_42 (zkb zk_cX4_readHandy zn_cX4_readHandy rfl)
theorem dX4_readHandy_35 : decode cX4_readHandy 35 = .ok (.getfield 9, 3) := zo_180 (b1 := 0) (b2 := 9) (zkb3 zk_cX4_readHandy zn_cX4_readHandy rfl) rfl
theorem dX4_readHandy_38 : decode cX4_readHandy 38 = .ok (.iload_n 1, 1) := zo_27 (zkb zk_cX4_readHandy zn_cX4_readHandy rfl)
theorem dX4_readHandy_39 : decode cX4_readHandy 39 = .ok (.iaload, 1) := zo_46 (zkb zk_cX4_readHandy zn_cX4_readHandy rfl)
theorem dX4_readHandy_40 : decode cX4_readHandy 40 = .ok (.goto 6, 3) := zo_167 (b1 := 0) (b2 := 6) (zkb3 zk_cX4_readHandy zn_cX4_readHandy rfl) rfl
theorem dX4_readHandy_43 : decode cX4_readHandy 43 = .ok (.sipush 255, 3) := zo_17 (b1 := 0) (b2 := 255) (zkb3 zk_cX4_readHandy zn_cX4_readHandy rfl) rfl
theorem dX4_readHandy_46 : decode cX4_readHandy 46 = .ok (.ireturn, 1) := zo_172 (zkb zk_cX4_readHandy zn_cX4_readHandy rfl)
noncomputable def kn_cX4_readOddPads : Nat := 0xac1b0400a7807a067e40102e030900b42a7ef7101b16009a7e072e030900b42a3c807806102d00b62a8030107e0f1082027a052e08100900b42a
theorem zk_cX4_readOddPads : zkd cX4_readOddPads.data.toList kn_cX4_readOddPads = true := by decide +kernel
theorem zn_cX4_readOddPads : cX4_readOddPads.data.toList.length = 58 := by decide +kernel
theorem dX4_readOddPads_0 : decode cX4_readOddPads 0 = .ok (.aload_n 0, 1) := zo_42 (zkb zk_cX4_readOddPads zn_cX4_readOddPads rfl)
theorem dX4_readOddPads_1 : decode cX4_readOddPads 1 = .ok (.getfield 9, 3) := zo_180 (b1 := 0) (b2 := 9) (zkb3 zk_cX4_readOddPads zn_cX4_readOddPads rfl) rfl
theorem dX4_readOddPads_4 : decode cX4_readOddPads 4 = .ok (.bipush 8, 2) := zo_16 (b1 := 8) (zkb2 zk_cX4_readOddPads zn_cX4_readOddPads rfl) rfl
theorem dX4_readOddPads_6 : decode cX4_readOddPads 6 = .ok (.iaload, 1) := zo_46 (zkb zk_cX4_readOddPads zn_cX4_readOddPads rfl)
theorem dX4_readOddPads_7 : decode cX4_readOddPads 7 = .ok (.iconst 2, 1) := zo_5 (zkb zk_cX4_readOddPads zn_cX4_readOddPads rfl)
theorem dX4_readOddPads_8 : decode cX4_readOddPads 8 = .ok (.ishr, 1) := zo_122 (zkb zk_cX4_readOddPads zn_cX4_readOddPads rfl)
theorem dX4_readOddPads_9 : decode cX4_readOddPads 9 = .ok (.iconst (-1), 1) := zo_2 (zkb zk_cX4_readOddPads zn_cX4_readOddPads rfl)
theorem dX4_readOddPads_10 : decode cX4_readOddPads 10 = .ok (.ixor, 1) := zo_130 (zkb zk_cX4_readOddPads zn_cX4_readOddPads rfl)
theorem dX4_readOddPads_11 : decode cX4_readOddPads 11 = .ok (.bipush 15, 2) := zo_16 (b1 := 15) (zkb2 zk_cX4_readOddPads zn_cX4_readOddPads rfl) rfl
theorem dX4_readOddPads_13 : decode cX4_readOddPads 13 = .ok (.iand, 1) := zo_126 (zkb zk_cX4_readOddPads zn_cX4_readOddPads rfl)
theorem dX4_readOddPads_14 : decode cX4_readOddPads 14 = .ok (.bipush 48, 2) := zo_16 (b1 := 48) (zkb2 zk_cX4_readOddPads zn_cX4_readOddPads rfl) rfl
theorem dX4_readOddPads_16 : decode cX4_readOddPads 16 = .ok (.ior, 1) := zo_128 (zkb zk_cX4_readOddPads zn_cX4_readOddPads rfl)
theorem dX4_readOddPads_17 : decode cX4_readOddPads 17 = .ok (.aload_n 0, 1) := zo_42 (zkb zk_cX4_readOddPads zn_cX4_readOddPads rfl)
theorem dX4_readOddPads_18 : decode cX4_readOddPads 18 = .ok (.invokevirtual 45, 3) := zo_182 (b1 := 0) (b2 := 45) (zkb3 zk_cX4_readOddPads zn_cX4_readOddPads rfl) rfl
theorem dX4_readOddPads_21 : decode cX4_readOddPads 21 = .ok (.bipush 6, 2) := zo_16 (b1 := 6) (zkb2 zk_cX4_readOddPads zn_cX4_readOddPads rfl) rfl
theorem dX4_readOddPads_23 : decode cX4_readOddPads 23 = .ok (.ishl, 1) := zo_120 (zkb zk_cX4_readOddPads zn_cX4_readOddPads rfl)
theorem dX4_readOddPads_24 : decode cX4_readOddPads 24 = .ok (.ior, 1) := zo_128 (zkb zk_cX4_readOddPads zn_cX4_readOddPads rfl)
theorem dX4_readOddPads_25 : decode cX4_readOddPads 25 = .ok (.istore_n 1, 1) := zo_60 (zkb zk_cX4_readOddPads zn_cX4_readOddPads rfl)
theorem dX4_readOddPads_26 : decode cX4_readOddPads 26 = .ok (.aload_n 0, 1) := zo_42 (zkb zk_cX4_readOddPads zn_cX4_readOddPads rfl)
theorem dX4_readOddPads_27 : decode cX4_readOddPads 27 = .ok (.getfield 9, 3) := zo_180 (b1 := 0) (b2 := 9) (zkb3 zk_cX4_readOddPads zn_cX4_readOddPads rfl) rfl
theorem dX4_readOddPads_30 : decode cX4_readOddPads 30 = .ok (.iconst 0, 1) := zo_3 (zkb zk_cX4_readOddPads zn_cX4_readOddPads rfl)
theorem dX4_readOddPads_31 : decode cX4_readOddPads 31 = .ok (.iaload, 1) := zo_46 (zkb zk_cX4_readOddPads zn_cX4_readOddPads rfl)
theorem dX4_readOddPads_32 : decode cX4_readOddPads 32 = .ok (.iconst 4, 1) := zo_7 (zkb zk_cX4_readOddPads zn_cX4_readOddPads rfl)
theorem dX4_readOddPads_33 : decode cX4_readOddPads 33 = .ok (.iand, 1) := zo_126 (zkb zk_cX4_readOddPads zn_cX4_readOddPads rfl)
theorem dX4_readOddPads_34 : decode cX4_readOddPads 34 = .ok (.ifCond .ne 22, 3) := zo_154 (b1 := 0) (b2 := 22) (zkb3 zk_cX4_readOddPads zn_cX4_readOddPads rfl) rfl
theorem dX4_readOddPads_37 : decode cX4_readOddPads 37 = .ok (.iload_n 1, 1) := zo_27 (zkb zk_cX4_readOddPads zn_cX4_readOddPads rfl)
theorem dX4_readOddPads_38 : decode cX4_readOddPads 38 = .ok (.bipush (-9), 2) := zo_16 (b1 := 247) (zkb2 zk_cX4_readOddPads zn_cX4_readOddPads rfl) rfl
theorem dX4_readOddPads_40 : decode cX4_readOddPads 40 = .ok (.iand, 1) := zo_126 (zkb zk_cX4_readOddPads zn_cX4_readOddPads rfl)
theorem dX4_readOddPads_41 : decode cX4_readOddPads 41 = .ok (.aload_n 0, 1) := zo_42 (zkb zk_cX4_readOddPads zn_cX4_readOddPads rfl)
theorem dX4_readOddPads_42 : decode cX4_readOddPads 42 = .ok (.getfield 9, 3) := zo_180 (b1 := 0) (b2 := 9) (zkb3 zk_cX4_readOddPads zn_cX4_readOddPads rfl) rfl
theorem dX4_readOddPads_45 : decode cX4_readOddPads 45 = .ok (.iconst 0, 1) := zo_3 (zkb zk_cX4_readOddPads zn_cX4_readOddPads rfl)
theorem dX4_readOddPads_46 : decode cX4_readOddPads 46 = .ok (.iaload, 1) := zo_46 (zkb zk_cX4_readOddPads zn_cX4_readOddPads rfl)
theorem dX4_readOddPads_47 : decode cX4_readOddPads 47 = .ok (.bipush 64, 2) := zo_16 (b1 := 64) (zkb2 zk_cX4_readOddPads zn_cX4_readOddPads rfl) rfl
theorem dX4_readOddPads_49 : decode cX4_readOddPads 49 = .ok (.iand, 1) := zo_126 (zkb zk_cX4_readOddPads zn_cX4_readOddPads rfl)
theorem dX4_readOddPads_50 : decode cX4_readOddPads 50 = .ok (.iconst 3, 1) := zo_6 (zkb zk_cX4_readOddPads zn_cX4_readOddPads rfl)
theorem dX4_readOddPads_51 : decode cX4_readOddPads 51 = .ok (.ishr, 1) := zo_122 (zkb zk_cX4_readOddPads zn_cX4_readOddPads rfl)
theorem dX4_readOddPads_52 : decode cX4_readOddPads 52 = .ok (.ior, 1) := zo_128 (zkb zk_cX4_readOddPads zn_cX4_readOddPads rfl)
theorem dX4_readOddPads_53 : decode cX4_readOddPads 53 = .ok (.goto 4, 3) := zo_167 (b1 := 0) (b2 := 4) (zkb3 zk_cX4_readOddPads zn_cX4_readOddPads rfl) rfl
theorem dX4_readOddPads_56 : decode cX4_readOddPads 56 = .ok (.iload_n 1, 1) := zo_27 (zkb zk_cX4_readOddPads zn_cX4_readOddPads rfl)
theorem dX4_readOddPads_57 : decode cX4_readOddPads 57 = .ok (.ireturn, 1) := zo_172 (zkb zk_cX4_readOddPads zn_cX4_readOddPads rfl)
noncomputable def kn_cX4_write : Nat := 0xb15d00b61c1b1c00b42a0c00a3f200111b1300a1f000111b1a009a1000b42a2100a75a00b61c1400b42a2c00a75700b61c1400b42a0e00991d3b00a75100b61c1800b42a4600a72900b61c032a4f009a1d5300a74e00b61c1b2a0c00a306101b1200a1041b1700991000b42a4f000000440000001c000000020000000000000069000000000000aa7a06101b3e030400a70407009a7e041b
theorem zk_cX4_write : zkd cX4_write.data.toList kn_cX4_write = true := by decide +kernel
theorem zn_cX4_write : cX4_write.data.toList.length = 152 := by decide +kernel
theorem dX4_write_0 : decode cX4_write 0 = .ok (.iload_n 1, 1) := zo_27 (zkb zk_cX4_write zn_cX4_write rfl)
theorem dX4_write_1 : decode cX4_write 1 = .ok (.iconst 1, 1) := zo_4 (zkb zk_cX4_write zn_cX4_write rfl)
theorem dX4_write_2 : decode cX4_write 2 = .ok (.iand, 1) := zo_126 (zkb zk_cX4_write zn_cX4_write rfl)
theorem dX4_write_3 : decode cX4_write 3 = .ok (.ifCond .ne 7, 3) := zo_154 (b1 := 0) (b2 := 7) (zkb3 zk_cX4_write zn_cX4_write rfl) rfl
theorem dX4_write_6 : decode cX4_write 6 = .ok (.iconst 1, 1) := zo_4 (zkb zk_cX4_write zn_cX4_write rfl)
theorem dX4_write_7 : decode cX4_write 7 = .ok (.goto 4, 3) := zo_167 (b1 := 0) (b2 := 4) (zkb3 zk_cX4_write zn_cX4_write rfl) rfl
theorem dX4_write_10 : decode cX4_write 10 = .ok (.iconst 0, 1) := zo_3 (zkb zk_cX4_write zn_cX4_write rfl)
theorem dX4_write_11 : decode cX4_write 11 = .ok (.istore_n 3, 1) := zo_62 (zkb zk_cX4_write zn_cX4_write rfl)
theorem dX4_write_12 : decode cX4_write 12 = .ok (.iload_n 1, 1) := zo_27 (zkb zk_cX4_write zn_cX4_write rfl)
theorem dX4_write_13 : decode cX4_write 13 = .ok (.bipush 6, 2) := zo_16 (b1 := 6) (zkb2 zk_cX4_write zn_cX4_write rfl) rfl
theorem dX4_write_15 : decode cX4_write 15 = .ok (.ishr, 1) := zo_122 (zkb zk_cX4_write zn_cX4_write rfl)
theorem dX4_write_16 : decode cX4_write 16 = .ok (.tableswitch 105 0 2 #[28, 68, 79], 28) := by decide +kernel
theorem dX4_write_44 : decode cX4_write 44 = .ok (.aload_n 0, 1) := zo_42 (zkb zk_cX4_write zn_cX4_write rfl)
theorem dX4_write_45 : decode cX4_write 45 = .ok (.getfield 16, 3) := zo_180 (b1 := 0) (b2 := 16) (zkb3 zk_cX4_write zn_cX4_write rfl) rfl
theorem dX4_write_48 : decode cX4_write 48 = .ok (.ifCond .eq 23, 3) := zo_153 (b1 := 0) (b2 := 23) (zkb3 zk_cX4_write zn_cX4_write rfl) rfl
theorem dX4_write_51 : decode cX4_write 51 = .ok (.iload_n 1, 1) := zo_27 (zkb zk_cX4_write zn_cX4_write rfl)
theorem dX4_write_52 : decode cX4_write 52 = .ok (.iconst 1, 1) := zo_4 (zkb zk_cX4_write zn_cX4_write rfl)
theorem dX4_write_53 : decode cX4_write 53 = .ok (.if_icmp .lt 18, 3) := zo_161 (b1 := 0) (b2 := 18) (zkb3 zk_cX4_write zn_cX4_write rfl) rfl
theorem dX4_write_56 : decode cX4_write 56 = .ok (.iload_n 1, 1) := zo_27 (zkb zk_cX4_write zn_cX4_write rfl)
theorem dX4_write_57 : decode cX4_write 57 = .ok (.bipush 6, 2) := zo_16 (b1 := 6) (zkb2 zk_cX4_write zn_cX4_write rfl) rfl
theorem dX4_write_59 : decode cX4_write 59 = .ok (.if_icmp .gt 12, 3) := zo_163 (b1 := 0) (b2 := 12) (zkb3 zk_cX4_write zn_cX4_write rfl) rfl
theorem dX4_write_62 : decode cX4_write 62 = .ok (.aload_n 0, 1) := zo_42 (zkb zk_cX4_write zn_cX4_write rfl)
theorem dX4_write_63 : decode cX4_write 63 = .ok (.iload_n 1, 1) := zo_27 (zkb zk_cX4_write zn_cX4_write rfl)
theorem dX4_write_64 : decode cX4_write 64 = .ok (.iload_n 2, 1) := zo_28 (zkb zk_cX4_write zn_cX4_write rfl)
theorem dX4_write_65 : decode cX4_write 65 = .ok (.invokevirtual 78, 3) := zo_182 (b1 := 0) (b2 := 78) (zkb3 zk_cX4_write zn_cX4_write rfl) rfl
theorem dX4_write_68 : decode cX4_write 68 = .ok (.goto 83, 3) := zo_167 (b1 := 0) (b2 := 83) (zkb3 zk_cX4_write zn_cX4_write rfl) rfl
theorem dX4_write_71 : decode cX4_write 71 = .ok (.iload_n 3, 1) := zo_29 (zkb zk_cX4_write zn_cX4_write rfl)
theorem dX4_write_72 : decode cX4_write 72 = .ok (.ifCond .ne 79, 3) := zo_154 (b1 := 0) (b2 := 79) (zkb3 zk_cX4_write zn_cX4_write rfl) rfl
theorem dX4_write_75 : decode cX4_write 75 = .ok (.aload_n 0, 1) := zo_42 (zkb zk_cX4_write zn_cX4_write rfl)
theorem dX4_write_76 : decode cX4_write 76 = .ok (.iconst 0, 1) := zo_3 (zkb zk_cX4_write zn_cX4_write rfl)
theorem dX4_write_77 : decode cX4_write 77 = .ok (.iload_n 2, 1) := zo_28 (zkb zk_cX4_write zn_cX4_write rfl)
theorem dX4_write_78 : decode cX4_write 78 = .ok (.invokevirtual 41, 3) := zo_182 (b1 := 0) (b2 := 41) (zkb3 zk_cX4_write zn_cX4_write rfl) rfl
theorem dX4_write_81 : decode cX4_write 81 = .ok (.goto 70, 3) := zo_167 (b1 := 0) (b2 := 70) (zkb3 zk_cX4_write zn_cX4_write rfl) rfl
theorem dX4_write_84 : decode cX4_write 84 = .ok (.aload_n 0, 1) := zo_42 (zkb zk_cX4_write zn_cX4_write rfl)
theorem dX4_write_85 : decode cX4_write 85 = .ok (.getfield 24, 3) := zo_180 (b1 := 0) (b2 := 24) (zkb3 zk_cX4_write zn_cX4_write rfl) rfl
theorem dX4_write_88 : decode cX4_write 88 = .ok (.iload_n 2, 1) := zo_28 (zkb zk_cX4_write zn_cX4_write rfl)
theorem dX4_write_89 : decode cX4_write 89 = .ok (.invokevirtual 81, 3) := zo_182 (b1 := 0) (b2 := 81) (zkb3 zk_cX4_write zn_cX4_write rfl) rfl
theorem dX4_write_92 : decode cX4_write 92 = .ok (.goto 59, 3) := zo_167 (b1 := 0) (b2 := 59) (zkb3 zk_cX4_write zn_cX4_write rfl) rfl
theorem dX4_write_95 : decode cX4_write 95 = .ok (.iload_n 3, 1) := zo_29 (zkb zk_cX4_write zn_cX4_write rfl)
theorem dX4_write_96 : decode cX4_write 96 = .ok (.ifCond .eq 14, 3) := zo_153 (b1 := 0) (b2 := 14) (zkb3 zk_cX4_write zn_cX4_write rfl) rfl
theorem dX4_write_99 : decode cX4_write 99 = .ok (.aload_n 0, 1) := zo_42 (zkb zk_cX4_write zn_cX4_write rfl)
theorem dX4_write_100 : decode cX4_write 100 = .ok (.getfield 20, 3) := zo_180 (b1 := 0) (b2 := 20) (zkb3 zk_cX4_write zn_cX4_write rfl) rfl
theorem dX4_write_103 : decode cX4_write 103 = .ok (.iload_n 2, 1) := zo_28 (zkb zk_cX4_write zn_cX4_write rfl)
theorem dX4_write_104 : decode cX4_write 104 = .ok (.invokevirtual 87, 3) := zo_182 (b1 := 0) (b2 := 87) (zkb3 zk_cX4_write zn_cX4_write rfl) rfl
theorem dX4_write_107 : decode cX4_write 107 = .ok (.goto 44, 3) := zo_167 (b1 := 0) (b2 := 44) (zkb3 zk_cX4_write zn_cX4_write rfl) rfl
theorem dX4_write_110 : decode cX4_write 110 = .ok (.aload_n 0, 1) := zo_42 (zkb zk_cX4_write zn_cX4_write rfl)
theorem dX4_write_111 : decode cX4_write 111 = .ok (.getfield 20, 3) := zo_180 (b1 := 0) (b2 := 20) (zkb3 zk_cX4_write zn_cX4_write rfl) rfl
theorem dX4_write_114 : decode cX4_write 114 = .ok (.iload_n 2, 1) := zo_28 (zkb zk_cX4_write zn_cX4_write rfl)
theorem dX4_write_115 : decode cX4_write 115 = .ok (.invokevirtual 90, 3) := zo_182 (b1 := 0) (b2 := 90) (zkb3 zk_cX4_write zn_cX4_write rfl) rfl
theorem dX4_write_118 : decode cX4_write 118 = .ok (.goto 33, 3) := zo_167 (b1 := 0) (b2 := 33) (zkb3 zk_cX4_write zn_cX4_write rfl) rfl
theorem dX4_write_121 : decode cX4_write 121 = .ok (.aload_n 0, 1) := zo_42 (zkb zk_cX4_write zn_cX4_write rfl)
theorem dX4_write_122 : decode cX4_write 122 = .ok (.getfield 16, 3) := zo_180 (b1 := 0) (b2 := 16) (zkb3 zk_cX4_write zn_cX4_write rfl) rfl
theorem dX4_write_125 : decode cX4_write 125 = .ok (.ifCond .ne 26, 3) := zo_154 (b1 := 0) (b2 := 26) (zkb3 zk_cX4_write zn_cX4_write rfl) rfl
theorem dX4_write_128 : decode cX4_write 128 = .ok (.iload_n 1, 1) := zo_27 (zkb zk_cX4_write zn_cX4_write rfl)
theorem dX4_write_129 : decode cX4_write 129 = .ok (.sipush 240, 3) := zo_17 (b1 := 0) (b2 := 240) (zkb3 zk_cX4_write zn_cX4_write rfl) rfl
theorem dX4_write_132 : decode cX4_write 132 = .ok (.if_icmp .lt 19, 3) := zo_161 (b1 := 0) (b2 := 19) (zkb3 zk_cX4_write zn_cX4_write rfl) rfl
theorem dX4_write_135 : decode cX4_write 135 = .ok (.iload_n 1, 1) := zo_27 (zkb zk_cX4_write zn_cX4_write rfl)
theorem dX4_write_136 : decode cX4_write 136 = .ok (.sipush 242, 3) := zo_17 (b1 := 0) (b2 := 242) (zkb3 zk_cX4_write zn_cX4_write rfl) rfl
theorem dX4_write_139 : decode cX4_write 139 = .ok (.if_icmp .gt 12, 3) := zo_163 (b1 := 0) (b2 := 12) (zkb3 zk_cX4_write zn_cX4_write rfl) rfl
theorem dX4_write_142 : decode cX4_write 142 = .ok (.aload_n 0, 1) := zo_42 (zkb zk_cX4_write zn_cX4_write rfl)
theorem dX4_write_143 : decode cX4_write 143 = .ok (.getfield 28, 3) := zo_180 (b1 := 0) (b2 := 28) (zkb3 zk_cX4_write zn_cX4_write rfl) rfl
theorem dX4_write_146 : decode cX4_write 146 = .ok (.iload_n 1, 1) := zo_27 (zkb zk_cX4_write zn_cX4_write rfl)
theorem dX4_write_147 : decode cX4_write 147 = .ok (.iload_n 2, 1) := zo_28 (zkb zk_cX4_write zn_cX4_write rfl)
theorem dX4_write_148 : decode cX4_write 148 = .ok (.invokevirtual 93, 3) := zo_182 (b1 := 0) (b2 := 93) (zkb3 zk_cX4_write zn_cX4_write rfl) rfl
theorem dX4_write_151 : decode cX4_write 151 = .ok (.return_, 1) := zo_177 (zkb zk_cX4_write zn_cX4_write rfl)
noncomputable def kn_cX4_writeHandy : Nat := 0xb14f1c1b0900b42a0a00a3081b0f00a1041b1400a75f00b61c1800b42a0e00a006101b
theorem zk_cX4_writeHandy : zkd cX4_writeHandy.data.toList kn_cX4_writeHandy = true := by decide +kernel
theorem zn_cX4_writeHandy : cX4_writeHandy.data.toList.length = 35 := by decide +kernel
theorem dX4_writeHandy_0 : decode cX4_writeHandy 0 = .ok (.iload_n 1, 1) := zo_27 (zkb zk_cX4_writeHandy zn_cX4_writeHandy rfl)
theorem dX4_writeHandy_1 : decode cX4_writeHandy 1 = .ok (.bipush 6, 2) := zo_16 (b1 := 6) (zkb2 zk_cX4_writeHandy zn_cX4_writeHandy rfl) rfl
theorem dX4_writeHandy_3 : decode cX4_writeHandy 3 = .ok (.if_icmp .ne 14, 3) := zo_160 (b1 := 0) (b2 := 14) (zkb3 zk_cX4_writeHandy zn_cX4_writeHandy rfl) rfl
theorem dX4_writeHandy_6 : decode cX4_writeHandy 6 = .ok (.aload_n 0, 1) := zo_42 (zkb zk_cX4_writeHandy zn_cX4_writeHandy rfl)
theorem dX4_writeHandy_7 : decode cX4_writeHandy 7 = .ok (.getfield 24, 3) := zo_180 (b1 := 0) (b2 := 24) (zkb3 zk_cX4_writeHandy zn_cX4_writeHandy rfl) rfl
theorem dX4_writeHandy_10 : decode cX4_writeHandy 10 = .ok (.iload_n 2, 1) := zo_28 (zkb zk_cX4_writeHandy zn_cX4_writeHandy rfl)
theorem dX4_writeHandy_11 : decode cX4_writeHandy 11 = .ok (.invokevirtual 95, 3) := zo_182 (b1 := 0) (b2 := 95) (zkb3 zk_cX4_writeHandy zn_cX4_writeHandy rfl) rfl
theorem dX4_writeHandy_14 : decode cX4_writeHandy 14 = .ok (.goto 20, 3) := zo_167 (b1 := 0) (b2 := 20) (zkb3 zk_cX4_writeHandy zn_cX4_writeHandy rfl) rfl
theorem dX4_writeHandy_17 : decode cX4_writeHandy 17 = .ok (.iload_n 1, 1) := zo_27 (zkb zk_cX4_writeHandy zn_cX4_writeHandy rfl)
theorem dX4_writeHandy_18 : decode cX4_writeHandy 18 = .ok (.iconst 1, 1) := zo_4 (zkb zk_cX4_writeHandy zn_cX4_writeHandy rfl)
theorem dX4_writeHandy_19 : decode cX4_writeHandy 19 = .ok (.if_icmp .lt 15, 3) := zo_161 (b1 := 0) (b2 := 15) (zkb3 zk_cX4_writeHandy zn_cX4_writeHandy rfl) rfl
theorem dX4_writeHandy_22 : decode cX4_writeHandy 22 = .ok (.iload_n 1, 1) := zo_27 (zkb zk_cX4_writeHandy zn_cX4_writeHandy rfl)
theorem dX4_writeHandy_23 : decode cX4_writeHandy 23 = .ok (.iconst 5, 1) := zo_8 (zkb zk_cX4_writeHandy zn_cX4_writeHandy rfl)
theorem dX4_writeHandy_24 : decode cX4_writeHandy 24 = .ok (.if_icmp .gt 10, 3) := zo_163 (b1 := 0) (b2 := 10) (zkb3 zk_cX4_writeHandy zn_cX4_writeHandy rfl) rfl
theorem dX4_writeHandy_27 : decode cX4_writeHandy 27 = .ok (.aload_n 0, 1) := zo_42 (zkb zk_cX4_writeHandy zn_cX4_writeHandy rfl)
theorem dX4_writeHandy_28 : decode cX4_writeHandy 28 = .ok (.getfield 9, 3) := zo_180 (b1 := 0) (b2 := 9) (zkb3 zk_cX4_writeHandy zn_cX4_writeHandy rfl) rfl
theorem dX4_writeHandy_31 : decode cX4_writeHandy 31 = .ok (.iload_n 1, 1) := zo_27 (zkb zk_cX4_writeHandy zn_cX4_writeHandy rfl)
theorem dX4_writeHandy_32 : decode cX4_writeHandy 32 = .ok (.iload_n 2, 1) := zo_28 (zkb zk_cX4_writeHandy zn_cX4_writeHandy rfl)
theorem dX4_writeHandy_33 : decode cX4_writeHandy 33 = .ok (.iastore, 1) := zo_79 (zkb zk_cX4_writeHandy zn_cX4_writeHandy rfl)
theorem dX4_writeHandy_34 : decode cX4_writeHandy 34 = .ok (.return_, 1) := zo_177 (zkb zk_cX4_writeHandy zn_cX4_writeHandy rfl)
noncomputable def kn_cX5_clear : Nat := 0xb14f1c1212100900b42a1d00b8030900b42a
theorem zk_cX5_clear : zkd cX5_clear.data.toList kn_cX5_clear = true := by decide +kernel
theorem zn_cX5_clear : cX5_clear.data.toList.length = 18 := by decide +kernel
theorem dX5_clear_0 : decode cX5_clear 0 = .ok (.aload_n 0, 1) := zo_42 (zkb zk_cX5_clear zn_cX5_clear rfl)
theorem dX5_clear_1 : decode cX5_clear 1 = .ok (.getfield 9, 3) := zo_180 (b1 := 0) (b2 := 9) (zkb3 zk_cX5_clear zn_cX5_clear rfl) rfl
theorem dX5_clear_4 : decode cX5_clear 4 = .ok (.iconst 0, 1) := zo_3 (zkb zk_cX5_clear zn_cX5_clear rfl)
theorem dX5_clear_5 : decode cX5_clear 5 = .ok (.invokestatic 29, 3) := zo_184 (b1 := 0) (b2 := 29) (zkb3 zk_cX5_clear zn_cX5_clear rfl) rfl
theorem dX5_clear_8 : decode cX5_clear 8 = .ok (.aload_n 0, 1) := zo_42 (zkb zk_cX5_clear zn_cX5_clear rfl)
theorem dX5_clear_9 : decode cX5_clear 9 = .ok (.getfield 9, 3) := zo_180 (b1 := 0) (b2 := 9) (zkb3 zk_cX5_clear zn_cX5_clear rfl) rfl
theorem dX5_clear_12 : decode cX5_clear 12 = .ok (.bipush 18, 2) := zo_16 (b1 := 18) (zkb2 zk_cX5_clear zn_cX5_clear rfl) rfl
theorem dX5_clear_14 : decode cX5_clear 14 = .ok (.ldc 28, 2) := zo_18 (b1 := 28) (zkb2 zk_cX5_clear zn_cX5_clear rfl)
theorem dX5_clear_16 : decode cX5_clear 16 = .ok (.iastore, 1) := zo_79 (zkb zk_cX5_clear zn_cX5_clear rfl)
theorem dX5_clear_17 : decode cX5_clear 17 = .ok (.return_, 1) := zo_177 (zkb zk_cX5_clear zn_cX5_clear rfl)
noncomputable def kn_cX5_keep : Nat := 0xb12300b81d10030d00b42a030900b42a
theorem zk_cX5_keep : zkd cX5_keep.data.toList kn_cX5_keep = true := by decide +kernel
theorem zn_cX5_keep : cX5_keep.data.toList.length = 16 := by decide +kernel
theorem dX5_keep_0 : decode cX5_keep 0 = .ok (.aload_n 0, 1) := zo_42 (zkb zk_cX5_keep zn_cX5_keep rfl)
theorem dX5_keep_1 : decode cX5_keep 1 = .ok (.getfield 9, 3) := zo_180 (b1 := 0) (b2 := 9) (zkb3 zk_cX5_keep zn_cX5_keep rfl) rfl
theorem dX5_keep_4 : decode cX5_keep 4 = .ok (.iconst 0, 1) := zo_3 (zkb zk_cX5_keep zn_cX5_keep rfl)
theorem dX5_keep_5 : decode cX5_keep 5 = .ok (.aload_n 0, 1) := zo_42 (zkb zk_cX5_keep zn_cX5_keep rfl)
theorem dX5_keep_6 : decode cX5_keep 6 = .ok (.getfield 13, 3) := zo_180 (b1 := 0) (b2 := 13) (zkb3 zk_cX5_keep zn_cX5_keep rfl) rfl
theorem dX5_keep_9 : decode cX5_keep 9 = .ok (.iconst 0, 1) := zo_3 (zkb zk_cX5_keep zn_cX5_keep rfl)
theorem dX5_keep_10 : decode cX5_keep 10 = .ok (.bipush 29, 2) := zo_16 (b1 := 29) (zkb2 zk_cX5_keep zn_cX5_keep rfl) rfl
theorem dX5_keep_12 : decode cX5_keep 12 = .ok (.invokestatic 35, 3) := zo_184 (b1 := 0) (b2 := 35) (zkb3 zk_cX5_keep zn_cX5_keep rfl) rfl
theorem dX5_keep_15 : decode cX5_keep 15 = .ok (.return_, 1) := zo_177 (zkb zk_cX5_keep zn_cX5_keep rfl)
noncomputable def kn_cX5_bringBack : Nat := 0xb12300b81d10030900b42a030d00b42a
theorem zk_cX5_bringBack : zkd cX5_bringBack.data.toList kn_cX5_bringBack = true := by decide +kernel
theorem zn_cX5_bringBack : cX5_bringBack.data.toList.length = 16 := by decide +kernel
theorem dX5_bringBack_0 : decode cX5_bringBack 0 = .ok (.aload_n 0, 1) := zo_42 (zkb zk_cX5_bringBack zn_cX5_bringBack rfl)
theorem dX5_bringBack_1 : decode cX5_bringBack 1 = .ok (.getfield 13, 3) := zo_180 (b1 := 0) (b2 := 13) (zkb3 zk_cX5_bringBack zn_cX5_bringBack rfl) rfl
theorem dX5_bringBack_4 : decode cX5_bringBack 4 = .ok (.iconst 0, 1) := zo_3 (zkb zk_cX5_bringBack zn_cX5_bringBack rfl)
theorem dX5_bringBack_5 : decode cX5_bringBack 5 = .ok (.aload_n 0, 1) := zo_42 (zkb zk_cX5_bringBack zn_cX5_bringBack rfl)
theorem dX5_bringBack_6 : decode cX5_bringBack 6 = .ok (.getfield 9, 3) := zo_180 (b1 := 0) (b2 := 9) (zkb3 zk_cX5_bringBack zn_cX5_bringBack rfl) rfl
theorem dX5_bringBack_9 : decode cX5_bringBack 9 = .ok (.iconst 0, 1) := zo_3 (zkb zk_cX5_bringBack zn_cX5_bringBack rfl)
theorem dX5_bringBack_10 : decode cX5_bringBack 10 = .ok (.bipush 29, 2) := zo_16 (b1 := 29) (zkb2 zk_cX5_bringBack zn_cX5_bringBack rfl) rfl
theorem dX5_bringBack_12 : decode cX5_bringBack 12 = .ok (.invokestatic 35, 3) := zo_184 (b1 := 0) (b2 := 35) (zkb3 zk_cX5_bringBack zn_cX5_bringBack rfl) rfl
theorem dX5_bringBack_15 : decode cX5_bringBack 15 = .ok (.return_, 1) := zo_177 (zkb zk_cX5_bringBack zn_cX5_bringBack rfl)
noncomputable def kn_cX5_value : Nat := 0xac030400a72e1b0900b42a0c00a21d101b12009b1b
theorem zk_cX5_value : zkd cX5_value.data.toList kn_cX5_value = true := by decide +kernel
theorem zn_cX5_value : cX5_value.data.toList.length = 21 := by decide +kernel
theorem dX5_value_0 : decode cX5_value 0 = .ok (.iload_n 1, 1) := zo_27 (zkb zk_cX5_value zn_cX5_value rfl)
theorem dX5_value_1 : decode cX5_value 1 = .ok (.ifCond .lt 18, 3) := zo_155 (b1 := 0) (b2 := 18) (zkb3 zk_cX5_value zn_cX5_value rfl) rfl
theorem dX5_value_4 : decode cX5_value 4 = .ok (.iload_n 1, 1) := zo_27 (zkb zk_cX5_value zn_cX5_value rfl)
theorem dX5_value_5 : decode cX5_value 5 = .ok (.bipush 29, 2) := zo_16 (b1 := 29) (zkb2 zk_cX5_value zn_cX5_value rfl) rfl
theorem dX5_value_7 : decode cX5_value 7 = .ok (.if_icmp .ge 12, 3) := zo_162 (b1 := 0) (b2 := 12) (zkb3 zk_cX5_value zn_cX5_value rfl) rfl
theorem dX5_value_10 : decode cX5_value 10 = .ok (.aload_n 0, 1) := zo_42 (zkb zk_cX5_value zn_cX5_value rfl)
theorem dX5_value_11 : decode cX5_value 11 = .ok (.getfield 9, 3) := zo_180 (b1 := 0) (b2 := 9) (zkb3 zk_cX5_value zn_cX5_value rfl) rfl
theorem dX5_value_14 : decode cX5_value 14 = .ok (.iload_n 1, 1) := zo_27 (zkb zk_cX5_value zn_cX5_value rfl)
theorem dX5_value_15 : decode cX5_value 15 = .ok (.iaload, 1) := zo_46 (zkb zk_cX5_value zn_cX5_value rfl)
theorem dX5_value_16 : decode cX5_value 16 = .ok (.goto 4, 3) := zo_167 (b1 := 0) (b2 := 4) (zkb3 zk_cX5_value zn_cX5_value rfl) rfl
theorem dX5_value_19 : decode cX5_value 19 = .ok (.iconst 0, 1) := zo_3 (zkb zk_cX5_value zn_cX5_value rfl)
theorem dX5_value_20 : decode cX5_value 20 = .ok (.ireturn, 1) := zo_172 (zkb zk_cX5_value zn_cX5_value rfl)
noncomputable def kn_cX5_change : Nat := 0xb14f7eff00111c0800a77e2f121c0a00a314101b1000a110101b1b0900b42a2100a74f7e041c1b0900b42a0f00a117101b3300a74f2900b87e061c051b0900b42a1300a019101bb10400a419101b09009b1b
theorem zk_cX5_change : zkd cX5_change.data.toList kn_cX5_change = true := by decide +kernel
theorem zn_cX5_change : cX5_change.data.toList.length = 82 := by decide +kernel
theorem dX5_change_0 : decode cX5_change 0 = .ok (.iload_n 1, 1) := zo_27 (zkb zk_cX5_change zn_cX5_change rfl)
theorem dX5_change_1 : decode cX5_change 1 = .ok (.ifCond .lt 9, 3) := zo_155 (b1 := 0) (b2 := 9) (zkb3 zk_cX5_change zn_cX5_change rfl) rfl
theorem dX5_change_4 : decode cX5_change 4 = .ok (.iload_n 1, 1) := zo_27 (zkb zk_cX5_change zn_cX5_change rfl)
theorem dX5_change_5 : decode cX5_change 5 = .ok (.bipush 25, 2) := zo_16 (b1 := 25) (zkb2 zk_cX5_change zn_cX5_change rfl) rfl
theorem dX5_change_7 : decode cX5_change 7 = .ok (.if_icmp .le 4, 3) := zo_164 (b1 := 0) (b2 := 4) (zkb3 zk_cX5_change zn_cX5_change rfl) rfl
theorem dX5_change_10 : decode cX5_change 10 = .ok (.return_, 1) := zo_177 (zkb zk_cX5_change zn_cX5_change rfl)
theorem dX5_change_11 : decode cX5_change 11 = .ok (.iload_n 1, 1) := zo_27 (zkb zk_cX5_change zn_cX5_change rfl)
theorem dX5_change_12 : decode cX5_change 12 = .ok (.bipush 25, 2) := zo_16 (b1 := 25) (zkb2 zk_cX5_change zn_cX5_change rfl) rfl
theorem dX5_change_14 : decode cX5_change 14 = .ok (.if_icmp .ne 19, 3) := zo_160 (b1 := 0) (b2 := 19) (zkb3 zk_cX5_change zn_cX5_change rfl) rfl
theorem dX5_change_17 : decode cX5_change 17 = .ok (.aload_n 0, 1) := zo_42 (zkb zk_cX5_change zn_cX5_change rfl)
theorem dX5_change_18 : decode cX5_change 18 = .ok (.getfield 9, 3) := zo_180 (b1 := 0) (b2 := 9) (zkb3 zk_cX5_change zn_cX5_change rfl) rfl
theorem dX5_change_21 : decode cX5_change 21 = .ok (.iload_n 1, 1) := zo_27 (zkb zk_cX5_change zn_cX5_change rfl)
theorem dX5_change_22 : decode cX5_change 22 = .ok (.iconst 2, 1) := zo_5 (zkb zk_cX5_change zn_cX5_change rfl)
theorem dX5_change_23 : decode cX5_change 23 = .ok (.iload_n 2, 1) := zo_28 (zkb zk_cX5_change zn_cX5_change rfl)
theorem dX5_change_24 : decode cX5_change 24 = .ok (.iconst 3, 1) := zo_6 (zkb zk_cX5_change zn_cX5_change rfl)
theorem dX5_change_25 : decode cX5_change 25 = .ok (.iand, 1) := zo_126 (zkb zk_cX5_change zn_cX5_change rfl)
theorem dX5_change_26 : decode cX5_change 26 = .ok (.invokestatic 41, 3) := zo_184 (b1 := 0) (b2 := 41) (zkb3 zk_cX5_change zn_cX5_change rfl) rfl
theorem dX5_change_29 : decode cX5_change 29 = .ok (.iastore, 1) := zo_79 (zkb zk_cX5_change zn_cX5_change rfl)
theorem dX5_change_30 : decode cX5_change 30 = .ok (.goto 51, 3) := zo_167 (b1 := 0) (b2 := 51) (zkb3 zk_cX5_change zn_cX5_change rfl) rfl
theorem dX5_change_33 : decode cX5_change 33 = .ok (.iload_n 1, 1) := zo_27 (zkb zk_cX5_change zn_cX5_change rfl)
theorem dX5_change_34 : decode cX5_change 34 = .ok (.bipush 23, 2) := zo_16 (b1 := 23) (zkb2 zk_cX5_change zn_cX5_change rfl) rfl
theorem dX5_change_36 : decode cX5_change 36 = .ok (.if_icmp .lt 15, 3) := zo_161 (b1 := 0) (b2 := 15) (zkb3 zk_cX5_change zn_cX5_change rfl) rfl
theorem dX5_change_39 : decode cX5_change 39 = .ok (.aload_n 0, 1) := zo_42 (zkb zk_cX5_change zn_cX5_change rfl)
theorem dX5_change_40 : decode cX5_change 40 = .ok (.getfield 9, 3) := zo_180 (b1 := 0) (b2 := 9) (zkb3 zk_cX5_change zn_cX5_change rfl) rfl
theorem dX5_change_43 : decode cX5_change 43 = .ok (.iload_n 1, 1) := zo_27 (zkb zk_cX5_change zn_cX5_change rfl)
theorem dX5_change_44 : decode cX5_change 44 = .ok (.iload_n 2, 1) := zo_28 (zkb zk_cX5_change zn_cX5_change rfl)
theorem dX5_change_45 : decode cX5_change 45 = .ok (.iconst 1, 1) := zo_4 (zkb zk_cX5_change zn_cX5_change rfl)
theorem dX5_change_46 : decode cX5_change 46 = .ok (.iand, 1) := zo_126 (zkb zk_cX5_change zn_cX5_change rfl)
theorem dX5_change_47 : decode cX5_change 47 = .ok (.iastore, 1) := zo_79 (zkb zk_cX5_change zn_cX5_change rfl)
theorem dX5_change_48 : decode cX5_change 48 = .ok (.goto 33, 3) := zo_167 (b1 := 0) (b2 := 33) (zkb3 zk_cX5_change zn_cX5_change rfl) rfl
theorem dX5_change_51 : decode cX5_change 51 = .ok (.aload_n 0, 1) := zo_42 (zkb zk_cX5_change zn_cX5_change rfl)
theorem dX5_change_52 : decode cX5_change 52 = .ok (.getfield 9, 3) := zo_180 (b1 := 0) (b2 := 9) (zkb3 zk_cX5_change zn_cX5_change rfl) rfl
theorem dX5_change_55 : decode cX5_change 55 = .ok (.iload_n 1, 1) := zo_27 (zkb zk_cX5_change zn_cX5_change rfl)
theorem dX5_change_56 : decode cX5_change 56 = .ok (.iload_n 1, 1) := zo_27 (zkb zk_cX5_change zn_cX5_change rfl)
theorem dX5_change_57 : decode cX5_change 57 = .ok (.bipush 16, 2) := zo_16 (b1 := 16) (zkb2 zk_cX5_change zn_cX5_change rfl) rfl
theorem dX5_change_59 : decode cX5_change 59 = .ok (.if_icmp .lt 16, 3) := zo_161 (b1 := 0) (b2 := 16) (zkb3 zk_cX5_change zn_cX5_change rfl) rfl
theorem dX5_change_62 : decode cX5_change 62 = .ok (.iload_n 1, 1) := zo_27 (zkb zk_cX5_change zn_cX5_change rfl)
theorem dX5_change_63 : decode cX5_change 63 = .ok (.bipush 20, 2) := zo_16 (b1 := 20) (zkb2 zk_cX5_change zn_cX5_change rfl) rfl
theorem dX5_change_65 : decode cX5_change 65 = .ok (.if_icmp .gt 10, 3) := zo_163 (b1 := 0) (b2 := 10) (zkb3 zk_cX5_change zn_cX5_change rfl) rfl
theorem dX5_change_68 : decode cX5_change 68 = .ok (.iload_n 2, 1) := zo_28 (zkb zk_cX5_change zn_cX5_change rfl)
theorem dX5_change_69 : decode cX5_change 69 = .ok (.ldc 47, 2) := zo_18 (b1 := 47) (zkb2 zk_cX5_change zn_cX5_change rfl)
theorem dX5_change_71 : decode cX5_change 71 = .ok (.iand, 1) := zo_126 (zkb zk_cX5_change zn_cX5_change rfl)
theorem dX5_change_72 : decode cX5_change 72 = .ok (.goto 8, 3) := zo_167 (b1 := 0) (b2 := 8) (zkb3 zk_cX5_change zn_cX5_change rfl) rfl
theorem dX5_change_75 : decode cX5_change 75 = .ok (.iload_n 2, 1) := zo_28 (zkb zk_cX5_change zn_cX5_change rfl)
theorem dX5_change_76 : decode cX5_change 76 = .ok (.sipush 255, 3) := zo_17 (b1 := 0) (b2 := 255) (zkb3 zk_cX5_change zn_cX5_change rfl) rfl
theorem dX5_change_79 : decode cX5_change 79 = .ok (.iand, 1) := zo_126 (zkb zk_cX5_change zn_cX5_change rfl)
theorem dX5_change_80 : decode cX5_change 80 = .ok (.iastore, 1) := zo_79 (zkb zk_cX5_change zn_cX5_change rfl)
theorem dX5_change_81 : decode cX5_change 81 = .ok (.return_, 1) := zo_177 (zkb zk_cX5_change zn_cX5_change rfl)
noncomputable def kn_cX5_askForPause : Nat := 0xb14f041b100900b42a
theorem zk_cX5_askForPause : zkd cX5_askForPause.data.toList kn_cX5_askForPause = true := by decide +kernel
theorem zn_cX5_askForPause : cX5_askForPause.data.toList.length = 9 := by decide +kernel
theorem dX5_askForPause_0 : decode cX5_askForPause 0 = .ok (.aload_n 0, 1) := zo_42 (zkb zk_cX5_askForPause zn_cX5_askForPause rfl)
theorem dX5_askForPause_1 : decode cX5_askForPause 1 = .ok (.getfield 9, 3) := zo_180 (b1 := 0) (b2 := 9) (zkb3 zk_cX5_askForPause zn_cX5_askForPause rfl) rfl
theorem dX5_askForPause_4 : decode cX5_askForPause 4 = .ok (.bipush 27, 2) := zo_16 (b1 := 27) (zkb2 zk_cX5_askForPause zn_cX5_askForPause rfl) rfl
theorem dX5_askForPause_6 : decode cX5_askForPause 6 = .ok (.iconst 1, 1) := zo_4 (zkb zk_cX5_askForPause zn_cX5_askForPause rfl)
theorem dX5_askForPause_7 : decode cX5_askForPause 7 = .ok (.iastore, 1) := zo_79 (zkb zk_cX5_askForPause zn_cX5_askForPause rfl)
theorem dX5_askForPause_8 : decode cX5_askForPause 8 = .ok (.return_, 1) := zo_177 (zkb zk_cX5_askForPause zn_cX5_askForPause rfl)
noncomputable def kn_cX5_answerCalls : Nat := 0xac0d103000b638102aac13103000b63400b680ff00117808102e15100900b42a2a2a1c00a0052e19100900b42a4f0318100900b42a4f0317100900b42aac0305009a2e17100900b42a0d00991b1100991cac0b103000b666102a4f0317100900b42a4f031b100900b42a1c00a0042e1b100900b42a2700991c4f031c100900b42a3d030400a70407009a2e1c100900b42a
theorem zk_cX5_answerCalls : zkd cX5_answerCalls.data.toList kn_cX5_answerCalls = true := by decide +kernel
theorem zn_cX5_answerCalls : cX5_answerCalls.data.toList.length = 145 := by decide +kernel
theorem dX5_answerCalls_0 : decode cX5_answerCalls 0 = .ok (.aload_n 0, 1) := zo_42 (zkb zk_cX5_answerCalls zn_cX5_answerCalls rfl)
theorem dX5_answerCalls_1 : decode cX5_answerCalls 1 = .ok (.getfield 9, 3) := zo_180 (b1 := 0) (b2 := 9) (zkb3 zk_cX5_answerCalls zn_cX5_answerCalls rfl) rfl
theorem dX5_answerCalls_4 : decode cX5_answerCalls 4 = .ok (.bipush 28, 2) := zo_16 (b1 := 28) (zkb2 zk_cX5_answerCalls zn_cX5_answerCalls rfl) rfl
theorem dX5_answerCalls_6 : decode cX5_answerCalls 6 = .ok (.iaload, 1) := zo_46 (zkb zk_cX5_answerCalls zn_cX5_answerCalls rfl)
theorem dX5_answerCalls_7 : decode cX5_answerCalls 7 = .ok (.ifCond .ne 7, 3) := zo_154 (b1 := 0) (b2 := 7) (zkb3 zk_cX5_answerCalls zn_cX5_answerCalls rfl) rfl
theorem dX5_answerCalls_10 : decode cX5_answerCalls 10 = .ok (.iconst 1, 1) := zo_4 (zkb zk_cX5_answerCalls zn_cX5_answerCalls rfl)
theorem dX5_answerCalls_11 : decode cX5_answerCalls 11 = .ok (.goto 4, 3) := zo_167 (b1 := 0) (b2 := 4) (zkb3 zk_cX5_answerCalls zn_cX5_answerCalls rfl) rfl
theorem dX5_answerCalls_14 : decode cX5_answerCalls 14 = .ok (.iconst 0, 1) := zo_3 (zkb zk_cX5_answerCalls zn_cX5_answerCalls rfl)
theorem dX5_answerCalls_15 : decode cX5_answerCalls 15 = .ok (.istore_n 2, 1) := zo_61 (zkb zk_cX5_answerCalls zn_cX5_answerCalls rfl)
theorem dX5_answerCalls_16 : decode cX5_answerCalls 16 = .ok (.aload_n 0, 1) := zo_42 (zkb zk_cX5_answerCalls zn_cX5_answerCalls rfl)
theorem dX5_answerCalls_17 : decode cX5_answerCalls 17 = .ok (.getfield 9, 3) := zo_180 (b1 := 0) (b2 := 9) (zkb3 zk_cX5_answerCalls zn_cX5_answerCalls rfl) rfl
theorem dX5_answerCalls_20 : decode cX5_answerCalls 20 = .ok (.bipush 28, 2) := zo_16 (b1 := 28) (zkb2 zk_cX5_answerCalls zn_cX5_answerCalls rfl) rfl
theorem dX5_answerCalls_22 : decode cX5_answerCalls 22 = .ok (.iconst 0, 1) := zo_3 (zkb zk_cX5_answerCalls zn_cX5_answerCalls rfl)
theorem dX5_answerCalls_23 : decode cX5_answerCalls 23 = .ok (.iastore, 1) := zo_79 (zkb zk_cX5_answerCalls zn_cX5_answerCalls rfl)
theorem dX5_answerCalls_24 : decode cX5_answerCalls 24 = .ok (.iload_n 2, 1) := zo_28 (zkb zk_cX5_answerCalls zn_cX5_answerCalls rfl)
theorem dX5_answerCalls_25 : decode cX5_answerCalls 25 = .ok (.ifCond .eq 39, 3) := zo_153 (b1 := 0) (b2 := 39) (zkb3 zk_cX5_answerCalls zn_cX5_answerCalls rfl) rfl
theorem dX5_answerCalls_28 : decode cX5_answerCalls 28 = .ok (.aload_n 0, 1) := zo_42 (zkb zk_cX5_answerCalls zn_cX5_answerCalls rfl)
theorem dX5_answerCalls_29 : decode cX5_answerCalls 29 = .ok (.getfield 9, 3) := zo_180 (b1 := 0) (b2 := 9) (zkb3 zk_cX5_answerCalls zn_cX5_answerCalls rfl) rfl
theorem dX5_answerCalls_32 : decode cX5_answerCalls 32 = .ok (.bipush 27, 2) := zo_16 (b1 := 27) (zkb2 zk_cX5_answerCalls zn_cX5_answerCalls rfl) rfl
theorem dX5_answerCalls_34 : decode cX5_answerCalls 34 = .ok (.iaload, 1) := zo_46 (zkb zk_cX5_answerCalls zn_cX5_answerCalls rfl)
theorem dX5_answerCalls_35 : decode cX5_answerCalls 35 = .ok (.iconst 1, 1) := zo_4 (zkb zk_cX5_answerCalls zn_cX5_answerCalls rfl)
theorem dX5_answerCalls_36 : decode cX5_answerCalls 36 = .ok (.if_icmp .ne 28, 3) := zo_160 (b1 := 0) (b2 := 28) (zkb3 zk_cX5_answerCalls zn_cX5_answerCalls rfl) rfl
theorem dX5_answerCalls_39 : decode cX5_answerCalls 39 = .ok (.aload_n 0, 1) := zo_42 (zkb zk_cX5_answerCalls zn_cX5_answerCalls rfl)
theorem dX5_answerCalls_40 : decode cX5_answerCalls 40 = .ok (.getfield 9, 3) := zo_180 (b1 := 0) (b2 := 9) (zkb3 zk_cX5_answerCalls zn_cX5_answerCalls rfl) rfl
theorem dX5_answerCalls_43 : decode cX5_answerCalls 43 = .ok (.bipush 27, 2) := zo_16 (b1 := 27) (zkb2 zk_cX5_answerCalls zn_cX5_answerCalls rfl) rfl
theorem dX5_answerCalls_45 : decode cX5_answerCalls 45 = .ok (.iconst 0, 1) := zo_3 (zkb zk_cX5_answerCalls zn_cX5_answerCalls rfl)
theorem dX5_answerCalls_46 : decode cX5_answerCalls 46 = .ok (.iastore, 1) := zo_79 (zkb zk_cX5_answerCalls zn_cX5_answerCalls rfl)
theorem dX5_answerCalls_47 : decode cX5_answerCalls 47 = .ok (.aload_n 0, 1) := zo_42 (zkb zk_cX5_answerCalls zn_cX5_answerCalls rfl)
theorem dX5_answerCalls_48 : decode cX5_answerCalls 48 = .ok (.getfield 9, 3) := zo_180 (b1 := 0) (b2 := 9) (zkb3 zk_cX5_answerCalls zn_cX5_answerCalls rfl) rfl
theorem dX5_answerCalls_51 : decode cX5_answerCalls 51 = .ok (.bipush 23, 2) := zo_16 (b1 := 23) (zkb2 zk_cX5_answerCalls zn_cX5_answerCalls rfl) rfl
theorem dX5_answerCalls_53 : decode cX5_answerCalls 53 = .ok (.iconst 0, 1) := zo_3 (zkb zk_cX5_answerCalls zn_cX5_answerCalls rfl)
theorem dX5_answerCalls_54 : decode cX5_answerCalls 54 = .ok (.iastore, 1) := zo_79 (zkb zk_cX5_answerCalls zn_cX5_answerCalls rfl)
theorem dX5_answerCalls_55 : decode cX5_answerCalls 55 = .ok (.aload_n 0, 1) := zo_42 (zkb zk_cX5_answerCalls zn_cX5_answerCalls rfl)
theorem dX5_answerCalls_56 : decode cX5_answerCalls 56 = .ok (.bipush 102, 2) := zo_16 (b1 := 102) (zkb2 zk_cX5_answerCalls zn_cX5_answerCalls rfl) rfl
theorem dX5_answerCalls_58 : decode cX5_answerCalls 58 = .ok (.invokevirtual 48, 3) := zo_182 (b1 := 0) (b2 := 48) (zkb3 zk_cX5_answerCalls zn_cX5_answerCalls rfl) rfl
theorem dX5_answerCalls_61 : decode cX5_answerCalls 61 = .ok (.bipush 11, 2) := zo_16 (b1 := 11) (zkb2 zk_cX5_answerCalls zn_cX5_answerCalls rfl) rfl
theorem dX5_answerCalls_63 : decode cX5_answerCalls 63 = .ok (.ireturn, 1) := zo_172 (zkb zk_cX5_answerCalls zn_cX5_answerCalls rfl)
theorem dX5_answerCalls_64 : decode cX5_answerCalls 64 = .ok (.iload_n 2, 1) := zo_28 (zkb zk_cX5_answerCalls zn_cX5_answerCalls rfl)
theorem dX5_answerCalls_65 : decode cX5_answerCalls 65 = .ok (.ifCond .eq 17, 3) := zo_153 (b1 := 0) (b2 := 17) (zkb3 zk_cX5_answerCalls zn_cX5_answerCalls rfl) rfl
theorem dX5_answerCalls_68 : decode cX5_answerCalls 68 = .ok (.iload_n 1, 1) := zo_27 (zkb zk_cX5_answerCalls zn_cX5_answerCalls rfl)
theorem dX5_answerCalls_69 : decode cX5_answerCalls 69 = .ok (.ifCond .eq 13, 3) := zo_153 (b1 := 0) (b2 := 13) (zkb3 zk_cX5_answerCalls zn_cX5_answerCalls rfl) rfl
theorem dX5_answerCalls_72 : decode cX5_answerCalls 72 = .ok (.aload_n 0, 1) := zo_42 (zkb zk_cX5_answerCalls zn_cX5_answerCalls rfl)
theorem dX5_answerCalls_73 : decode cX5_answerCalls 73 = .ok (.getfield 9, 3) := zo_180 (b1 := 0) (b2 := 9) (zkb3 zk_cX5_answerCalls zn_cX5_answerCalls rfl) rfl
theorem dX5_answerCalls_76 : decode cX5_answerCalls 76 = .ok (.bipush 23, 2) := zo_16 (b1 := 23) (zkb2 zk_cX5_answerCalls zn_cX5_answerCalls rfl) rfl
theorem dX5_answerCalls_78 : decode cX5_answerCalls 78 = .ok (.iaload, 1) := zo_46 (zkb zk_cX5_answerCalls zn_cX5_answerCalls rfl)
theorem dX5_answerCalls_79 : decode cX5_answerCalls 79 = .ok (.ifCond .ne 5, 3) := zo_154 (b1 := 0) (b2 := 5) (zkb3 zk_cX5_answerCalls zn_cX5_answerCalls rfl) rfl
theorem dX5_answerCalls_82 : decode cX5_answerCalls 82 = .ok (.iconst 0, 1) := zo_3 (zkb zk_cX5_answerCalls zn_cX5_answerCalls rfl)
theorem dX5_answerCalls_83 : decode cX5_answerCalls 83 = .ok (.ireturn, 1) := zo_172 (zkb zk_cX5_answerCalls zn_cX5_answerCalls rfl)
theorem dX5_answerCalls_84 : decode cX5_answerCalls 84 = .ok (.aload_n 0, 1) := zo_42 (zkb zk_cX5_answerCalls zn_cX5_answerCalls rfl)
theorem dX5_answerCalls_85 : decode cX5_answerCalls 85 = .ok (.getfield 9, 3) := zo_180 (b1 := 0) (b2 := 9) (zkb3 zk_cX5_answerCalls zn_cX5_answerCalls rfl) rfl
theorem dX5_answerCalls_88 : decode cX5_answerCalls 88 = .ok (.bipush 23, 2) := zo_16 (b1 := 23) (zkb2 zk_cX5_answerCalls zn_cX5_answerCalls rfl) rfl
theorem dX5_answerCalls_90 : decode cX5_answerCalls 90 = .ok (.iconst 0, 1) := zo_3 (zkb zk_cX5_answerCalls zn_cX5_answerCalls rfl)
theorem dX5_answerCalls_91 : decode cX5_answerCalls 91 = .ok (.iastore, 1) := zo_79 (zkb zk_cX5_answerCalls zn_cX5_answerCalls rfl)
theorem dX5_answerCalls_92 : decode cX5_answerCalls 92 = .ok (.aload_n 0, 1) := zo_42 (zkb zk_cX5_answerCalls zn_cX5_answerCalls rfl)
theorem dX5_answerCalls_93 : decode cX5_answerCalls 93 = .ok (.getfield 9, 3) := zo_180 (b1 := 0) (b2 := 9) (zkb3 zk_cX5_answerCalls zn_cX5_answerCalls rfl) rfl
theorem dX5_answerCalls_96 : decode cX5_answerCalls 96 = .ok (.bipush 24, 2) := zo_16 (b1 := 24) (zkb2 zk_cX5_answerCalls zn_cX5_answerCalls rfl) rfl
theorem dX5_answerCalls_98 : decode cX5_answerCalls 98 = .ok (.iconst 0, 1) := zo_3 (zkb zk_cX5_answerCalls zn_cX5_answerCalls rfl)
theorem dX5_answerCalls_99 : decode cX5_answerCalls 99 = .ok (.iastore, 1) := zo_79 (zkb zk_cX5_answerCalls zn_cX5_answerCalls rfl)
theorem dX5_answerCalls_100 : decode cX5_answerCalls 100 = .ok (.aload_n 0, 1) := zo_42 (zkb zk_cX5_answerCalls zn_cX5_answerCalls rfl)
theorem dX5_answerCalls_101 : decode cX5_answerCalls 101 = .ok (.getfield 9, 3) := zo_180 (b1 := 0) (b2 := 9) (zkb3 zk_cX5_answerCalls zn_cX5_answerCalls rfl) rfl
theorem dX5_answerCalls_104 : decode cX5_answerCalls 104 = .ok (.bipush 25, 2) := zo_16 (b1 := 25) (zkb2 zk_cX5_answerCalls zn_cX5_answerCalls rfl) rfl
theorem dX5_answerCalls_106 : decode cX5_answerCalls 106 = .ok (.iaload, 1) := zo_46 (zkb zk_cX5_answerCalls zn_cX5_answerCalls rfl)
theorem dX5_answerCalls_107 : decode cX5_answerCalls 107 = .ok (.iconst 2, 1) := zo_5 (zkb zk_cX5_answerCalls zn_cX5_answerCalls rfl)
theorem dX5_answerCalls_108 : decode cX5_answerCalls 108 = .ok (.if_icmp .ne 28, 3) := zo_160 (b1 := 0) (b2 := 28) (zkb3 zk_cX5_answerCalls zn_cX5_answerCalls rfl) rfl
theorem dX5_answerCalls_111 : decode cX5_answerCalls 111 = .ok (.aload_n 0, 1) := zo_42 (zkb zk_cX5_answerCalls zn_cX5_answerCalls rfl)
theorem dX5_answerCalls_112 : decode cX5_answerCalls 112 = .ok (.aload_n 0, 1) := zo_42 (zkb zk_cX5_answerCalls zn_cX5_answerCalls rfl)
theorem dX5_answerCalls_113 : decode cX5_answerCalls 113 = .ok (.aload_n 0, 1) := zo_42 (zkb zk_cX5_answerCalls zn_cX5_answerCalls rfl)
theorem dX5_answerCalls_114 : decode cX5_answerCalls 114 = .ok (.getfield 9, 3) := zo_180 (b1 := 0) (b2 := 9) (zkb3 zk_cX5_answerCalls zn_cX5_answerCalls rfl) rfl
theorem dX5_answerCalls_117 : decode cX5_answerCalls 117 = .ok (.bipush 21, 2) := zo_16 (b1 := 21) (zkb2 zk_cX5_answerCalls zn_cX5_answerCalls rfl) rfl
theorem dX5_answerCalls_119 : decode cX5_answerCalls 119 = .ok (.iaload, 1) := zo_46 (zkb zk_cX5_answerCalls zn_cX5_answerCalls rfl)
theorem dX5_answerCalls_120 : decode cX5_answerCalls 120 = .ok (.bipush 8, 2) := zo_16 (b1 := 8) (zkb2 zk_cX5_answerCalls zn_cX5_answerCalls rfl) rfl
theorem dX5_answerCalls_122 : decode cX5_answerCalls 122 = .ok (.ishl, 1) := zo_120 (zkb zk_cX5_answerCalls zn_cX5_answerCalls rfl)
theorem dX5_answerCalls_123 : decode cX5_answerCalls 123 = .ok (.sipush 255, 3) := zo_17 (b1 := 0) (b2 := 255) (zkb3 zk_cX5_answerCalls zn_cX5_answerCalls rfl) rfl
theorem dX5_answerCalls_126 : decode cX5_answerCalls 126 = .ok (.ior, 1) := zo_128 (zkb zk_cX5_answerCalls zn_cX5_answerCalls rfl)
theorem dX5_answerCalls_127 : decode cX5_answerCalls 127 = .ok (.invokevirtual 52, 3) := zo_182 (b1 := 0) (b2 := 52) (zkb3 zk_cX5_answerCalls zn_cX5_answerCalls rfl) rfl
theorem dX5_answerCalls_130 : decode cX5_answerCalls 130 = .ok (.invokevirtual 48, 3) := zo_182 (b1 := 0) (b2 := 48) (zkb3 zk_cX5_answerCalls zn_cX5_answerCalls rfl) rfl
theorem dX5_answerCalls_133 : decode cX5_answerCalls 133 = .ok (.bipush 19, 2) := zo_16 (b1 := 19) (zkb2 zk_cX5_answerCalls zn_cX5_answerCalls rfl) rfl
theorem dX5_answerCalls_135 : decode cX5_answerCalls 135 = .ok (.ireturn, 1) := zo_172 (zkb zk_cX5_answerCalls zn_cX5_answerCalls rfl)
theorem dX5_answerCalls_136 : decode cX5_answerCalls 136 = .ok (.aload_n 0, 1) := zo_42 (zkb zk_cX5_answerCalls zn_cX5_answerCalls rfl)
theorem dX5_answerCalls_137 : decode cX5_answerCalls 137 = .ok (.bipush 56, 2) := zo_16 (b1 := 56) (zkb2 zk_cX5_answerCalls zn_cX5_answerCalls rfl) rfl
theorem dX5_answerCalls_139 : decode cX5_answerCalls 139 = .ok (.invokevirtual 48, 3) := zo_182 (b1 := 0) (b2 := 48) (zkb3 zk_cX5_answerCalls zn_cX5_answerCalls rfl) rfl
theorem dX5_answerCalls_142 : decode cX5_answerCalls 142 = .ok (.bipush 13, 2) := zo_16 (b1 := 13) (zkb2 zk_cX5_answerCalls zn_cX5_answerCalls rfl) rfl
theorem dX5_answerCalls_144 : decode cX5_answerCalls 144 = .ok (.ireturn, 1) := zo_172 (zkb zk_cX5_answerCalls zn_cX5_answerCalls rfl)
noncomputable def kn_cX5_breakOff : Nat := 0xb13e00b61b2a3b00b62e13100900b42a2a4f031a100900b42a3800b62a
theorem zk_cX5_breakOff : zkd cX5_breakOff.data.toList kn_cX5_breakOff = true := by decide +kernel
theorem zn_cX5_breakOff : cX5_breakOff.data.toList.length = 29 := by decide +kernel
theorem dX5_breakOff_0 : decode cX5_breakOff 0 = .ok (.aload_n 0, 1) := zo_42 (zkb zk_cX5_breakOff zn_cX5_breakOff rfl)
theorem dX5_breakOff_1 : decode cX5_breakOff 1 = .ok (.invokevirtual 56, 3) := zo_182 (b1 := 0) (b2 := 56) (zkb3 zk_cX5_breakOff zn_cX5_breakOff rfl) rfl
theorem dX5_breakOff_4 : decode cX5_breakOff 4 = .ok (.aload_n 0, 1) := zo_42 (zkb zk_cX5_breakOff zn_cX5_breakOff rfl)
theorem dX5_breakOff_5 : decode cX5_breakOff 5 = .ok (.getfield 9, 3) := zo_180 (b1 := 0) (b2 := 9) (zkb3 zk_cX5_breakOff zn_cX5_breakOff rfl) rfl
theorem dX5_breakOff_8 : decode cX5_breakOff 8 = .ok (.bipush 26, 2) := zo_16 (b1 := 26) (zkb2 zk_cX5_breakOff zn_cX5_breakOff rfl) rfl
theorem dX5_breakOff_10 : decode cX5_breakOff 10 = .ok (.iconst 0, 1) := zo_3 (zkb zk_cX5_breakOff zn_cX5_breakOff rfl)
theorem dX5_breakOff_11 : decode cX5_breakOff 11 = .ok (.iastore, 1) := zo_79 (zkb zk_cX5_breakOff zn_cX5_breakOff rfl)
theorem dX5_breakOff_12 : decode cX5_breakOff 12 = .ok (.aload_n 0, 1) := zo_42 (zkb zk_cX5_breakOff zn_cX5_breakOff rfl)
theorem dX5_breakOff_13 : decode cX5_breakOff 13 = .ok (.aload_n 0, 1) := zo_42 (zkb zk_cX5_breakOff zn_cX5_breakOff rfl)
theorem dX5_breakOff_14 : decode cX5_breakOff 14 = .ok (.getfield 9, 3) := zo_180 (b1 := 0) (b2 := 9) (zkb3 zk_cX5_breakOff zn_cX5_breakOff rfl) rfl
theorem dX5_breakOff_17 : decode cX5_breakOff 17 = .ok (.bipush 19, 2) := zo_16 (b1 := 19) (zkb2 zk_cX5_breakOff zn_cX5_breakOff rfl) rfl
theorem dX5_breakOff_19 : decode cX5_breakOff 19 = .ok (.iaload, 1) := zo_46 (zkb zk_cX5_breakOff zn_cX5_breakOff rfl)
theorem dX5_breakOff_20 : decode cX5_breakOff 20 = .ok (.invokevirtual 59, 3) := zo_182 (b1 := 0) (b2 := 59) (zkb3 zk_cX5_breakOff zn_cX5_breakOff rfl) rfl
theorem dX5_breakOff_23 : decode cX5_breakOff 23 = .ok (.aload_n 0, 1) := zo_42 (zkb zk_cX5_breakOff zn_cX5_breakOff rfl)
theorem dX5_breakOff_24 : decode cX5_breakOff 24 = .ok (.iload_n 1, 1) := zo_27 (zkb zk_cX5_breakOff zn_cX5_breakOff rfl)
theorem dX5_breakOff_25 : decode cX5_breakOff 25 = .ok (.invokevirtual 62, 3) := zo_182 (b1 := 0) (b2 := 62) (zkb3 zk_cX5_breakOff zn_cX5_breakOff rfl) rfl
theorem dX5_breakOff_28 : decode cX5_breakOff 28 = .ok (.return_, 1) := zo_177 (zkb zk_cX5_breakOff zn_cX5_breakOff rfl)
noncomputable def kn_cX5_fetch : Nat := 0xac1b4f7e2f1260042e13100900b42a13100900b42a3c4b00b62e13100900b42a1400b42a
theorem zk_cX5_fetch : zkd cX5_fetch.data.toList kn_cX5_fetch = true := by decide +kernel
theorem zn_cX5_fetch : cX5_fetch.data.toList.length = 36 := by decide +kernel
theorem dX5_fetch_0 : decode cX5_fetch 0 = .ok (.aload_n 0, 1) := zo_42 (zkb zk_cX5_fetch zn_cX5_fetch rfl)
theorem dX5_fetch_1 : decode cX5_fetch 1 = .ok (.getfield 20, 3) := zo_180 (b1 := 0) (b2 := 20) (zkb3 zk_cX5_fetch zn_cX5_fetch rfl) rfl
theorem dX5_fetch_4 : decode cX5_fetch 4 = .ok (.aload_n 0, 1) := zo_42 (zkb zk_cX5_fetch zn_cX5_fetch rfl)
theorem dX5_fetch_5 : decode cX5_fetch 5 = .ok (.getfield 9, 3) := zo_180 (b1 := 0) (b2 := 9) (zkb3 zk_cX5_fetch zn_cX5_fetch rfl) rfl
theorem dX5_fetch_8 : decode cX5_fetch 8 = .ok (.bipush 19, 2) := zo_16 (b1 := 19) (zkb2 zk_cX5_fetch zn_cX5_fetch rfl) rfl
theorem dX5_fetch_10 : decode cX5_fetch 10 = .ok (.iaload, 1) := zo_46 (zkb zk_cX5_fetch zn_cX5_fetch rfl)
theorem dX5_fetch_11 : decode cX5_fetch 11 = .ok (.invokevirtual 75, 3) := zo_182 (b1 := 0) (b2 := 75) (zkb3 zk_cX5_fetch zn_cX5_fetch rfl) rfl
theorem dX5_fetch_14 : decode cX5_fetch 14 = .ok (.istore_n 1, 1) := zo_60 (zkb zk_cX5_fetch zn_cX5_fetch rfl)
theorem dX5_fetch_15 : decode cX5_fetch 15 = .ok (.aload_n 0, 1) := zo_42 (zkb zk_cX5_fetch zn_cX5_fetch rfl)
theorem dX5_fetch_16 : decode cX5_fetch 16 = .ok (.getfield 9, 3) := zo_180 (b1 := 0) (b2 := 9) (zkb3 zk_cX5_fetch zn_cX5_fetch rfl) rfl
theorem dX5_fetch_19 : decode cX5_fetch 19 = .ok (.bipush 19, 2) := zo_16 (b1 := 19) (zkb2 zk_cX5_fetch zn_cX5_fetch rfl) rfl
theorem dX5_fetch_21 : decode cX5_fetch 21 = .ok (.aload_n 0, 1) := zo_42 (zkb zk_cX5_fetch zn_cX5_fetch rfl)
theorem dX5_fetch_22 : decode cX5_fetch 22 = .ok (.getfield 9, 3) := zo_180 (b1 := 0) (b2 := 9) (zkb3 zk_cX5_fetch zn_cX5_fetch rfl) rfl
theorem dX5_fetch_25 : decode cX5_fetch 25 = .ok (.bipush 19, 2) := zo_16 (b1 := 19) (zkb2 zk_cX5_fetch zn_cX5_fetch rfl) rfl
theorem dX5_fetch_27 : decode cX5_fetch 27 = .ok (.iaload, 1) := zo_46 (zkb zk_cX5_fetch zn_cX5_fetch rfl)
theorem dX5_fetch_28 : decode cX5_fetch 28 = .ok (.iconst 1, 1) := zo_4 (zkb zk_cX5_fetch zn_cX5_fetch rfl)
theorem dX5_fetch_29 : decode cX5_fetch 29 = .ok (.iadd, 1) := zo_96 (zkb zk_cX5_fetch zn_cX5_fetch rfl)
theorem dX5_fetch_30 : decode cX5_fetch 30 = .ok (.ldc 47, 2) := zo_18 (b1 := 47) (zkb2 zk_cX5_fetch zn_cX5_fetch rfl)
theorem dX5_fetch_32 : decode cX5_fetch 32 = .ok (.iand, 1) := zo_126 (zkb zk_cX5_fetch zn_cX5_fetch rfl)
theorem dX5_fetch_33 : decode cX5_fetch 33 = .ok (.iastore, 1) := zo_79 (zkb zk_cX5_fetch zn_cX5_fetch rfl)
theorem dX5_fetch_34 : decode cX5_fetch 34 = .ok (.iload_n 1, 1) := zo_27 (zkb zk_cX5_fetch zn_cX5_fetch rfl)
theorem dX5_fetch_35 : decode cX5_fetch 35 = .ok (.ireturn, 1) := zo_172 (zkb zk_cX5_fetch zn_cX5_fetch rfl)
noncomputable def kn_cX5_fetchOp : Nat := 0xac7200b62a3800b62a
theorem zk_cX5_fetchOp : zkd cX5_fetchOp.data.toList kn_cX5_fetchOp = true := by decide +kernel
theorem zn_cX5_fetchOp : cX5_fetchOp.data.toList.length = 9 := by decide +kernel
theorem dX5_fetchOp_0 : decode cX5_fetchOp 0 = .ok (.aload_n 0, 1) := zo_42 (zkb zk_cX5_fetchOp zn_cX5_fetchOp rfl)
theorem dX5_fetchOp_1 : decode cX5_fetchOp 1 = .ok (.invokevirtual 56, 3) := zo_182 (b1 := 0) (b2 := 56) (zkb3 zk_cX5_fetchOp zn_cX5_fetchOp rfl) rfl
theorem dX5_fetchOp_4 : decode cX5_fetchOp 4 = .ok (.aload_n 0, 1) := zo_42 (zkb zk_cX5_fetchOp zn_cX5_fetchOp rfl)
theorem dX5_fetchOp_5 : decode cX5_fetchOp 5 = .ok (.invokevirtual 114, 3) := zo_182 (b1 := 0) (b2 := 114) (zkb3 zk_cX5_fetchOp zn_cX5_fetchOp rfl) rfl
theorem dX5_fetchOp_8 : decode cX5_fetchOp 8 = .ok (.ireturn, 1) := zo_172 (zkb zk_cX5_fetchOp zn_cX5_fetchOp rfl)
noncomputable def kn_cX5_growR : Nat := 0xb14f807e7f1060042e16100900b42a7e8000112e16100900b42a16100900b42a
theorem zk_cX5_growR : zkd cX5_growR.data.toList kn_cX5_growR = true := by decide +kernel
theorem zn_cX5_growR : cX5_growR.data.toList.length = 32 := by decide +kernel
theorem dX5_growR_0 : decode cX5_growR 0 = .ok (.aload_n 0, 1) := zo_42 (zkb zk_cX5_growR zn_cX5_growR rfl)
theorem dX5_growR_1 : decode cX5_growR 1 = .ok (.getfield 9, 3) := zo_180 (b1 := 0) (b2 := 9) (zkb3 zk_cX5_growR zn_cX5_growR rfl) rfl
theorem dX5_growR_4 : decode cX5_growR 4 = .ok (.bipush 22, 2) := zo_16 (b1 := 22) (zkb2 zk_cX5_growR zn_cX5_growR rfl) rfl
theorem dX5_growR_6 : decode cX5_growR 6 = .ok (.aload_n 0, 1) := zo_42 (zkb zk_cX5_growR zn_cX5_growR rfl)
theorem dX5_growR_7 : decode cX5_growR 7 = .ok (.getfield 9, 3) := zo_180 (b1 := 0) (b2 := 9) (zkb3 zk_cX5_growR zn_cX5_growR rfl) rfl
theorem dX5_growR_10 : decode cX5_growR 10 = .ok (.bipush 22, 2) := zo_16 (b1 := 22) (zkb2 zk_cX5_growR zn_cX5_growR rfl) rfl
theorem dX5_growR_12 : decode cX5_growR 12 = .ok (.iaload, 1) := zo_46 (zkb zk_cX5_growR zn_cX5_growR rfl)
theorem dX5_growR_13 : decode cX5_growR 13 = .ok (.sipush 128, 3) := zo_17 (b1 := 0) (b2 := 128) (zkb3 zk_cX5_growR zn_cX5_growR rfl) rfl
theorem dX5_growR_16 : decode cX5_growR 16 = .ok (.iand, 1) := zo_126 (zkb zk_cX5_growR zn_cX5_growR rfl)
theorem dX5_growR_17 : decode cX5_growR 17 = .ok (.aload_n 0, 1) := zo_42 (zkb zk_cX5_growR zn_cX5_growR rfl)
theorem dX5_growR_18 : decode cX5_growR 18 = .ok (.getfield 9, 3) := zo_180 (b1 := 0) (b2 := 9) (zkb3 zk_cX5_growR zn_cX5_growR rfl) rfl
theorem dX5_growR_21 : decode cX5_growR 21 = .ok (.bipush 22, 2) := zo_16 (b1 := 22) (zkb2 zk_cX5_growR zn_cX5_growR rfl) rfl
theorem dX5_growR_23 : decode cX5_growR 23 = .ok (.iaload, 1) := zo_46 (zkb zk_cX5_growR zn_cX5_growR rfl)
theorem dX5_growR_24 : decode cX5_growR 24 = .ok (.iconst 1, 1) := zo_4 (zkb zk_cX5_growR zn_cX5_growR rfl)
theorem dX5_growR_25 : decode cX5_growR 25 = .ok (.iadd, 1) := zo_96 (zkb zk_cX5_growR zn_cX5_growR rfl)
theorem dX5_growR_26 : decode cX5_growR 26 = .ok (.bipush 127, 2) := zo_16 (b1 := 127) (zkb2 zk_cX5_growR zn_cX5_growR rfl) rfl
theorem dX5_growR_28 : decode cX5_growR 28 = .ok (.iand, 1) := zo_126 (zkb zk_cX5_growR zn_cX5_growR rfl)
theorem dX5_growR_29 : decode cX5_growR 29 = .ok (.ior, 1) := zo_128 (zkb zk_cX5_growR zn_cX5_growR rfl)
theorem dX5_growR_30 : decode cX5_growR 30 = .ok (.iastore, 1) := zo_79 (zkb zk_cX5_growR zn_cX5_growR rfl)
theorem dX5_growR_31 : decode cX5_growR 31 = .ok (.return_, 1) := zo_177 (zkb zk_cX5_growR zn_cX5_growR rfl)
noncomputable def kn_cX5_readWord : Nat := 0xac807808104b00b660041b1400b42a4b00b61b1400b42a
theorem zk_cX5_readWord : zkd cX5_readWord.data.toList kn_cX5_readWord = true := by decide +kernel
theorem zn_cX5_readWord : cX5_readWord.data.toList.length = 23 := by decide +kernel
theorem dX5_readWord_0 : decode cX5_readWord 0 = .ok (.aload_n 0, 1) := zo_42 (zkb zk_cX5_readWord zn_cX5_readWord rfl)
theorem dX5_readWord_1 : decode cX5_readWord 1 = .ok (.getfield 20, 3) := zo_180 (b1 := 0) (b2 := 20) (zkb3 zk_cX5_readWord zn_cX5_readWord rfl) rfl
theorem dX5_readWord_4 : decode cX5_readWord 4 = .ok (.iload_n 1, 1) := zo_27 (zkb zk_cX5_readWord zn_cX5_readWord rfl)
theorem dX5_readWord_5 : decode cX5_readWord 5 = .ok (.invokevirtual 75, 3) := zo_182 (b1 := 0) (b2 := 75) (zkb3 zk_cX5_readWord zn_cX5_readWord rfl) rfl
theorem dX5_readWord_8 : decode cX5_readWord 8 = .ok (.aload_n 0, 1) := zo_42 (zkb zk_cX5_readWord zn_cX5_readWord rfl)
theorem dX5_readWord_9 : decode cX5_readWord 9 = .ok (.getfield 20, 3) := zo_180 (b1 := 0) (b2 := 20) (zkb3 zk_cX5_readWord zn_cX5_readWord rfl) rfl
theorem dX5_readWord_12 : decode cX5_readWord 12 = .ok (.iload_n 1, 1) := zo_27 (zkb zk_cX5_readWord zn_cX5_readWord rfl)
theorem dX5_readWord_13 : decode cX5_readWord 13 = .ok (.iconst 1, 1) := zo_4 (zkb zk_cX5_readWord zn_cX5_readWord rfl)
theorem dX5_readWord_14 : decode cX5_readWord 14 = .ok (.iadd, 1) := zo_96 (zkb zk_cX5_readWord zn_cX5_readWord rfl)
theorem dX5_readWord_15 : decode cX5_readWord 15 = .ok (.invokevirtual 75, 3) := zo_182 (b1 := 0) (b2 := 75) (zkb3 zk_cX5_readWord zn_cX5_readWord rfl) rfl
theorem dX5_readWord_18 : decode cX5_readWord 18 = .ok (.bipush 8, 2) := zo_16 (b1 := 8) (zkb2 zk_cX5_readWord zn_cX5_readWord rfl) rfl
theorem dX5_readWord_20 : decode cX5_readWord 20 = .ok (.ishl, 1) := zo_120 (zkb zk_cX5_readWord zn_cX5_readWord rfl)
theorem dX5_readWord_21 : decode cX5_readWord 21 = .ok (.ior, 1) := zo_128 (zkb zk_cX5_readWord zn_cX5_readWord rfl)
theorem dX5_readWord_22 : decode cX5_readWord 22 = .ok (.ireturn, 1) := zo_172 (zkb zk_cX5_readWord zn_cX5_readWord rfl)
noncomputable def kn_cX5_push : Nat := 0xb14f7e2f1264052e12100900b42a12100900b42a7500b67eff00111b64052e12100900b42a1400b42a7500b67a08101b64042e12100900b42a1400b42a
theorem zk_cX5_push : zkd cX5_push.data.toList kn_cX5_push = true := by decide +kernel
theorem zn_cX5_push : cX5_push.data.toList.length = 61 := by decide +kernel
theorem dX5_push_0 : decode cX5_push 0 = .ok (.aload_n 0, 1) := zo_42 (zkb zk_cX5_push zn_cX5_push rfl)
theorem dX5_push_1 : decode cX5_push 1 = .ok (.getfield 20, 3) := zo_180 (b1 := 0) (b2 := 20) (zkb3 zk_cX5_push zn_cX5_push rfl) rfl
theorem dX5_push_4 : decode cX5_push 4 = .ok (.aload_n 0, 1) := zo_42 (zkb zk_cX5_push zn_cX5_push rfl)
theorem dX5_push_5 : decode cX5_push 5 = .ok (.getfield 9, 3) := zo_180 (b1 := 0) (b2 := 9) (zkb3 zk_cX5_push zn_cX5_push rfl) rfl
theorem dX5_push_8 : decode cX5_push 8 = .ok (.bipush 18, 2) := zo_16 (b1 := 18) (zkb2 zk_cX5_push zn_cX5_push rfl) rfl
theorem dX5_push_10 : decode cX5_push 10 = .ok (.iaload, 1) := zo_46 (zkb zk_cX5_push zn_cX5_push rfl)
theorem dX5_push_11 : decode cX5_push 11 = .ok (.iconst 1, 1) := zo_4 (zkb zk_cX5_push zn_cX5_push rfl)
theorem dX5_push_12 : decode cX5_push 12 = .ok (.isub, 1) := zo_100 (zkb zk_cX5_push zn_cX5_push rfl)
theorem dX5_push_13 : decode cX5_push 13 = .ok (.iload_n 1, 1) := zo_27 (zkb zk_cX5_push zn_cX5_push rfl)
theorem dX5_push_14 : decode cX5_push 14 = .ok (.bipush 8, 2) := zo_16 (b1 := 8) (zkb2 zk_cX5_push zn_cX5_push rfl) rfl
theorem dX5_push_16 : decode cX5_push 16 = .ok (.ishr, 1) := zo_122 (zkb zk_cX5_push zn_cX5_push rfl)
theorem dX5_push_17 : decode cX5_push 17 = .ok (.invokevirtual 117, 3) := zo_182 (b1 := 0) (b2 := 117) (zkb3 zk_cX5_push zn_cX5_push rfl) rfl
theorem dX5_push_20 : decode cX5_push 20 = .ok (.aload_n 0, 1) := zo_42 (zkb zk_cX5_push zn_cX5_push rfl)
theorem dX5_push_21 : decode cX5_push 21 = .ok (.getfield 20, 3) := zo_180 (b1 := 0) (b2 := 20) (zkb3 zk_cX5_push zn_cX5_push rfl) rfl
theorem dX5_push_24 : decode cX5_push 24 = .ok (.aload_n 0, 1) := zo_42 (zkb zk_cX5_push zn_cX5_push rfl)
theorem dX5_push_25 : decode cX5_push 25 = .ok (.getfield 9, 3) := zo_180 (b1 := 0) (b2 := 9) (zkb3 zk_cX5_push zn_cX5_push rfl) rfl
theorem dX5_push_28 : decode cX5_push 28 = .ok (.bipush 18, 2) := zo_16 (b1 := 18) (zkb2 zk_cX5_push zn_cX5_push rfl) rfl
theorem dX5_push_30 : decode cX5_push 30 = .ok (.iaload, 1) := zo_46 (zkb zk_cX5_push zn_cX5_push rfl)
theorem dX5_push_31 : decode cX5_push 31 = .ok (.iconst 2, 1) := zo_5 (zkb zk_cX5_push zn_cX5_push rfl)
theorem dX5_push_32 : decode cX5_push 32 = .ok (.isub, 1) := zo_100 (zkb zk_cX5_push zn_cX5_push rfl)
theorem dX5_push_33 : decode cX5_push 33 = .ok (.iload_n 1, 1) := zo_27 (zkb zk_cX5_push zn_cX5_push rfl)
theorem dX5_push_34 : decode cX5_push 34 = .ok (.sipush 255, 3) := zo_17 (b1 := 0) (b2 := 255) (zkb3 zk_cX5_push zn_cX5_push rfl) rfl
theorem dX5_push_37 : decode cX5_push 37 = .ok (.iand, 1) := zo_126 (zkb zk_cX5_push zn_cX5_push rfl)
theorem dX5_push_38 : decode cX5_push 38 = .ok (.invokevirtual 117, 3) := zo_182 (b1 := 0) (b2 := 117) (zkb3 zk_cX5_push zn_cX5_push rfl) rfl
theorem dX5_push_41 : decode cX5_push 41 = .ok (.aload_n 0, 1) := zo_42 (zkb zk_cX5_push zn_cX5_push rfl)
theorem dX5_push_42 : decode cX5_push 42 = .ok (.getfield 9, 3) := zo_180 (b1 := 0) (b2 := 9) (zkb3 zk_cX5_push zn_cX5_push rfl) rfl
theorem dX5_push_45 : decode cX5_push 45 = .ok (.bipush 18, 2) := zo_16 (b1 := 18) (zkb2 zk_cX5_push zn_cX5_push rfl) rfl
theorem dX5_push_47 : decode cX5_push 47 = .ok (.aload_n 0, 1) := zo_42 (zkb zk_cX5_push zn_cX5_push rfl)
theorem dX5_push_48 : decode cX5_push 48 = .ok (.getfield 9, 3) := zo_180 (b1 := 0) (b2 := 9) (zkb3 zk_cX5_push zn_cX5_push rfl) rfl
theorem dX5_push_51 : decode cX5_push 51 = .ok (.bipush 18, 2) := zo_16 (b1 := 18) (zkb2 zk_cX5_push zn_cX5_push rfl) rfl
theorem dX5_push_53 : decode cX5_push 53 = .ok (.iaload, 1) := zo_46 (zkb zk_cX5_push zn_cX5_push rfl)
theorem dX5_push_54 : decode cX5_push 54 = .ok (.iconst 2, 1) := zo_5 (zkb zk_cX5_push zn_cX5_push rfl)
theorem dX5_push_55 : decode cX5_push 55 = .ok (.isub, 1) := zo_100 (zkb zk_cX5_push zn_cX5_push rfl)
theorem dX5_push_56 : decode cX5_push 56 = .ok (.ldc 47, 2) := zo_18 (b1 := 47) (zkb2 zk_cX5_push zn_cX5_push rfl)
theorem dX5_push_58 : decode cX5_push 58 = .ok (.iand, 1) := zo_126 (zkb zk_cX5_push zn_cX5_push rfl)
theorem dX5_push_59 : decode cX5_push 59 = .ok (.iastore, 1) := zo_79 (zkb zk_cX5_push zn_cX5_push rfl)
theorem dX5_push_60 : decode cX5_push 60 = .ok (.return_, 1) := zo_177 (zkb zk_cX5_push zn_cX5_push rfl)
noncomputable def kn_cX5_goTo : Nat := 0xb14f1b14100900b42a4f1b13100900b42a
theorem zk_cX5_goTo : zkd cX5_goTo.data.toList kn_cX5_goTo = true := by decide +kernel
theorem zn_cX5_goTo : cX5_goTo.data.toList.length = 17 := by decide +kernel
theorem dX5_goTo_0 : decode cX5_goTo 0 = .ok (.aload_n 0, 1) := zo_42 (zkb zk_cX5_goTo zn_cX5_goTo rfl)
theorem dX5_goTo_1 : decode cX5_goTo 1 = .ok (.getfield 9, 3) := zo_180 (b1 := 0) (b2 := 9) (zkb3 zk_cX5_goTo zn_cX5_goTo rfl) rfl
theorem dX5_goTo_4 : decode cX5_goTo 4 = .ok (.bipush 19, 2) := zo_16 (b1 := 19) (zkb2 zk_cX5_goTo zn_cX5_goTo rfl) rfl
theorem dX5_goTo_6 : decode cX5_goTo 6 = .ok (.iload_n 1, 1) := zo_27 (zkb zk_cX5_goTo zn_cX5_goTo rfl)
theorem dX5_goTo_7 : decode cX5_goTo 7 = .ok (.iastore, 1) := zo_79 (zkb zk_cX5_goTo zn_cX5_goTo rfl)
theorem dX5_goTo_8 : decode cX5_goTo 8 = .ok (.aload_n 0, 1) := zo_42 (zkb zk_cX5_goTo zn_cX5_goTo rfl)
theorem dX5_goTo_9 : decode cX5_goTo 9 = .ok (.getfield 9, 3) := zo_180 (b1 := 0) (b2 := 9) (zkb3 zk_cX5_goTo zn_cX5_goTo rfl) rfl
theorem dX5_goTo_12 : decode cX5_goTo 12 = .ok (.bipush 20, 2) := zo_16 (b1 := 20) (zkb2 zk_cX5_goTo zn_cX5_goTo rfl) rfl
theorem dX5_goTo_14 : decode cX5_goTo 14 = .ok (.iload_n 1, 1) := zo_27 (zkb zk_cX5_goTo zn_cX5_goTo rfl)
theorem dX5_goTo_15 : decode cX5_goTo 15 = .ok (.iastore, 1) := zo_79 (zkb zk_cX5_goTo zn_cX5_goTo rfl)
theorem dX5_goTo_16 : decode cX5_goTo 16 = .ok (.return_, 1) := zo_177 (zkb zk_cX5_goTo zn_cX5_goTo rfl)
noncomputable def kn_cX5_pairAt : Nat := 0xac802e60041b0900b42a7808102e1b0900b42a
theorem zk_cX5_pairAt : zkd cX5_pairAt.data.toList kn_cX5_pairAt = true := by decide +kernel
theorem zn_cX5_pairAt : cX5_pairAt.data.toList.length = 19 := by decide +kernel
theorem dX5_pairAt_0 : decode cX5_pairAt 0 = .ok (.aload_n 0, 1) := zo_42 (zkb zk_cX5_pairAt zn_cX5_pairAt rfl)
theorem dX5_pairAt_1 : decode cX5_pairAt 1 = .ok (.getfield 9, 3) := zo_180 (b1 := 0) (b2 := 9) (zkb3 zk_cX5_pairAt zn_cX5_pairAt rfl) rfl
theorem dX5_pairAt_4 : decode cX5_pairAt 4 = .ok (.iload_n 1, 1) := zo_27 (zkb zk_cX5_pairAt zn_cX5_pairAt rfl)
theorem dX5_pairAt_5 : decode cX5_pairAt 5 = .ok (.iaload, 1) := zo_46 (zkb zk_cX5_pairAt zn_cX5_pairAt rfl)
theorem dX5_pairAt_6 : decode cX5_pairAt 6 = .ok (.bipush 8, 2) := zo_16 (b1 := 8) (zkb2 zk_cX5_pairAt zn_cX5_pairAt rfl) rfl
theorem dX5_pairAt_8 : decode cX5_pairAt 8 = .ok (.ishl, 1) := zo_120 (zkb zk_cX5_pairAt zn_cX5_pairAt rfl)
theorem dX5_pairAt_9 : decode cX5_pairAt 9 = .ok (.aload_n 0, 1) := zo_42 (zkb zk_cX5_pairAt zn_cX5_pairAt rfl)
theorem dX5_pairAt_10 : decode cX5_pairAt 10 = .ok (.getfield 9, 3) := zo_180 (b1 := 0) (b2 := 9) (zkb3 zk_cX5_pairAt zn_cX5_pairAt rfl) rfl
theorem dX5_pairAt_13 : decode cX5_pairAt 13 = .ok (.iload_n 1, 1) := zo_27 (zkb zk_cX5_pairAt zn_cX5_pairAt rfl)
theorem dX5_pairAt_14 : decode cX5_pairAt 14 = .ok (.iconst 1, 1) := zo_4 (zkb zk_cX5_pairAt zn_cX5_pairAt rfl)
theorem dX5_pairAt_15 : decode cX5_pairAt 15 = .ok (.iadd, 1) := zo_96 (zkb zk_cX5_pairAt zn_cX5_pairAt rfl)
theorem dX5_pairAt_16 : decode cX5_pairAt 16 = .ok (.iaload, 1) := zo_46 (zkb zk_cX5_pairAt zn_cX5_pairAt rfl)
theorem dX5_pairAt_17 : decode cX5_pairAt 17 = .ok (.ior, 1) := zo_128 (zkb zk_cX5_pairAt zn_cX5_pairAt rfl)
theorem dX5_pairAt_18 : decode cX5_pairAt 18 = .ok (.ireturn, 1) := zo_172 (zkb zk_cX5_pairAt zn_cX5_pairAt rfl)
noncomputable def kn_cX5_by : Nat := 0xac80030400a7401008009a1a7ea800111a
theorem zk_cX5_by : zkd cX5_by.data.toList kn_cX5_by = true := by decide +kernel
theorem zn_cX5_by : cX5_by.data.toList.length = 17 := by decide +kernel
theorem dX5_by_0 : decode cX5_by 0 = .ok (.iload_n 0, 1) := zo_26 (zkb zk_cX5_by zn_cX5_by rfl)
theorem dX5_by_1 : decode cX5_by 1 = .ok (.sipush 168, 3) := zo_17 (b1 := 0) (b2 := 168) (zkb3 zk_cX5_by zn_cX5_by rfl) rfl
theorem dX5_by_4 : decode cX5_by 4 = .ok (.iand, 1) := zo_126 (zkb zk_cX5_by zn_cX5_by rfl)
theorem dX5_by_5 : decode cX5_by 5 = .ok (.iload_n 0, 1) := zo_26 (zkb zk_cX5_by zn_cX5_by rfl)
theorem dX5_by_6 : decode cX5_by 6 = .ok (.ifCond .ne 8, 3) := zo_154 (b1 := 0) (b2 := 8) (zkb3 zk_cX5_by zn_cX5_by rfl) rfl
theorem dX5_by_9 : decode cX5_by 9 = .ok (.bipush 64, 2) := zo_16 (b1 := 64) (zkb2 zk_cX5_by zn_cX5_by rfl) rfl
theorem dX5_by_11 : decode cX5_by 11 = .ok (.goto 4, 3) := zo_167 (b1 := 0) (b2 := 4) (zkb3 zk_cX5_by zn_cX5_by rfl) rfl
theorem dX5_by_14 : decode cX5_by 14 = .ok (.iconst 0, 1) := zo_3 (zkb zk_cX5_by zn_cX5_by rfl)
theorem dX5_by_15 : decode cX5_by 15 = .ok (.ior, 1) := zo_128 (zkb zk_cX5_by zn_cX5_by rfl)
theorem dX5_by_16 : decode cX5_by 16 = .ok (.ireturn, 1) := zo_172 (zkb zk_cX5_by zn_cX5_by rfl)
noncomputable def kn_cX5_parity : Nat := 0xac030400a70707009a7e048900b81a
theorem zk_cX5_parity : zkd cX5_parity.data.toList kn_cX5_parity = true := by decide +kernel
theorem zn_cX5_parity : cX5_parity.data.toList.length = 15 := by decide +kernel
theorem dX5_parity_0 : decode cX5_parity 0 = .ok (.iload_n 0, 1) := zo_26 (zkb zk_cX5_parity zn_cX5_parity rfl)
theorem dX5_parity_1 : decode cX5_parity 1 = .ok (.invokestatic 137, 3) := zo_184 (b1 := 0) (b2 := 137) (zkb3 zk_cX5_parity zn_cX5_parity rfl) rfl
theorem dX5_parity_4 : decode cX5_parity 4 = .ok (.iconst 1, 1) := zo_4 (zkb zk_cX5_parity zn_cX5_parity rfl)
theorem dX5_parity_5 : decode cX5_parity 5 = .ok (.iand, 1) := zo_126 (zkb zk_cX5_parity zn_cX5_parity rfl)
theorem dX5_parity_6 : decode cX5_parity 6 = .ok (.ifCond .ne 7, 3) := zo_154 (b1 := 0) (b2 := 7) (zkb3 zk_cX5_parity zn_cX5_parity rfl) rfl
theorem dX5_parity_9 : decode cX5_parity 9 = .ok (.iconst 4, 1) := zo_7 (zkb zk_cX5_parity zn_cX5_parity rfl)
theorem dX5_parity_10 : decode cX5_parity 10 = .ok (.goto 4, 3) := zo_167 (b1 := 0) (b2 := 4) (zkb3 zk_cX5_parity zn_cX5_parity rfl) rfl
theorem dX5_parity_13 : decode cX5_parity 13 = .ok (.iconst 0, 1) := zo_3 (zkb zk_cX5_parity zn_cX5_parity rfl)
theorem dX5_parity_14 : decode cX5_parity 14 = .ok (.ireturn, 1) := zo_172 (zkb zk_cX5_parity zn_cX5_parity rfl)
noncomputable def kn_cX5_turn : Nat := 0xac06154f80041580c400b80615bb00b80615040900b42a06368078071005157a041c0c00a78005157eff001178041c1000991d0536030600a70536040c00a705367a07101c1500a705367e042e040900b42a2200a705360415480000003f0000004e00000032000000320000002b0000002b00000006000000000000004e0000000000aa1b04367e041c0600a77a07101c0a00991d3e030400a70407009a7e041b
theorem zk_cX5_turn : zkd cX5_turn.data.toList kn_cX5_turn = true := by decide +kernel
theorem zn_cX5_turn : cX5_turn.data.toList.length = 161 := by decide +kernel
theorem dX5_turn_0 : decode cX5_turn 0 = .ok (.iload_n 1, 1) := zo_27 (zkb zk_cX5_turn zn_cX5_turn rfl)
theorem dX5_turn_1 : decode cX5_turn 1 = .ok (.iconst 1, 1) := zo_4 (zkb zk_cX5_turn zn_cX5_turn rfl)
theorem dX5_turn_2 : decode cX5_turn 2 = .ok (.iand, 1) := zo_126 (zkb zk_cX5_turn zn_cX5_turn rfl)
theorem dX5_turn_3 : decode cX5_turn 3 = .ok (.ifCond .ne 7, 3) := zo_154 (b1 := 0) (b2 := 7) (zkb3 zk_cX5_turn zn_cX5_turn rfl) rfl
theorem dX5_turn_6 : decode cX5_turn 6 = .ok (.iconst 1, 1) := zo_4 (zkb zk_cX5_turn zn_cX5_turn rfl)
theorem dX5_turn_7 : decode cX5_turn 7 = .ok (.goto 4, 3) := zo_167 (b1 := 0) (b2 := 4) (zkb3 zk_cX5_turn zn_cX5_turn rfl) rfl
theorem dX5_turn_10 : decode cX5_turn 10 = .ok (.iconst 0, 1) := zo_3 (zkb zk_cX5_turn zn_cX5_turn rfl)
theorem dX5_turn_11 : decode cX5_turn 11 = .ok (.istore_n 3, 1) := zo_62 (zkb zk_cX5_turn zn_cX5_turn rfl)
theorem dX5_turn_12 : decode cX5_turn 12 = .ok (.iload_n 3, 1) := zo_29 (zkb zk_cX5_turn zn_cX5_turn rfl)
theorem dX5_turn_13 : decode cX5_turn 13 = .ok (.ifCond .eq 10, 3) := zo_153 (b1 := 0) (b2 := 10) (zkb3 zk_cX5_turn zn_cX5_turn rfl) rfl
theorem dX5_turn_16 : decode cX5_turn 16 = .ok (.iload_n 2, 1) := zo_28 (zkb zk_cX5_turn zn_cX5_turn rfl)
theorem dX5_turn_17 : decode cX5_turn 17 = .ok (.bipush 7, 2) := zo_16 (b1 := 7) (zkb2 zk_cX5_turn zn_cX5_turn rfl) rfl
theorem dX5_turn_19 : decode cX5_turn 19 = .ok (.ishr, 1) := zo_122 (zkb zk_cX5_turn zn_cX5_turn rfl)
theorem dX5_turn_20 : decode cX5_turn 20 = .ok (.goto 6, 3) := zo_167 (b1 := 0) (b2 := 6) (zkb3 zk_cX5_turn zn_cX5_turn rfl) rfl
theorem dX5_turn_23 : decode cX5_turn 23 = .ok (.iload_n 2, 1) := zo_28 (zkb zk_cX5_turn zn_cX5_turn rfl)
theorem dX5_turn_24 : decode cX5_turn 24 = .ok (.iconst 1, 1) := zo_4 (zkb zk_cX5_turn zn_cX5_turn rfl)
theorem dX5_turn_25 : decode cX5_turn 25 = .ok (.iand, 1) := zo_126 (zkb zk_cX5_turn zn_cX5_turn rfl)
theorem dX5_turn_26 : decode cX5_turn 26 = .ok (.istore 4, 2) := zo_54 (b1 := 4) (zkb2 zk_cX5_turn zn_cX5_turn rfl)
theorem dX5_turn_28 : decode cX5_turn 28 = .ok (.iload_n 1, 1) := zo_27 (zkb zk_cX5_turn zn_cX5_turn rfl)
theorem dX5_turn_29 : decode cX5_turn 29 = .ok (.tableswitch 78 0 6 #[43, 43, 50, 50, 78, 63, 72], 43) := by decide +kernel
theorem dX5_turn_72 : decode cX5_turn 72 = .ok (.iload 4, 2) := zo_21 (b1 := 4) (zkb2 zk_cX5_turn zn_cX5_turn rfl)
theorem dX5_turn_74 : decode cX5_turn 74 = .ok (.istore 5, 2) := zo_54 (b1 := 5) (zkb2 zk_cX5_turn zn_cX5_turn rfl)
theorem dX5_turn_76 : decode cX5_turn 76 = .ok (.goto 34, 3) := zo_167 (b1 := 0) (b2 := 34) (zkb3 zk_cX5_turn zn_cX5_turn rfl) rfl
theorem dX5_turn_79 : decode cX5_turn 79 = .ok (.aload_n 0, 1) := zo_42 (zkb zk_cX5_turn zn_cX5_turn rfl)
theorem dX5_turn_80 : decode cX5_turn 80 = .ok (.getfield 9, 3) := zo_180 (b1 := 0) (b2 := 9) (zkb3 zk_cX5_turn zn_cX5_turn rfl) rfl
theorem dX5_turn_83 : decode cX5_turn 83 = .ok (.iconst 1, 1) := zo_4 (zkb zk_cX5_turn zn_cX5_turn rfl)
theorem dX5_turn_84 : decode cX5_turn 84 = .ok (.iaload, 1) := zo_46 (zkb zk_cX5_turn zn_cX5_turn rfl)
theorem dX5_turn_85 : decode cX5_turn 85 = .ok (.iconst 1, 1) := zo_4 (zkb zk_cX5_turn zn_cX5_turn rfl)
theorem dX5_turn_86 : decode cX5_turn 86 = .ok (.iand, 1) := zo_126 (zkb zk_cX5_turn zn_cX5_turn rfl)
theorem dX5_turn_87 : decode cX5_turn 87 = .ok (.istore 5, 2) := zo_54 (b1 := 5) (zkb2 zk_cX5_turn zn_cX5_turn rfl)
theorem dX5_turn_89 : decode cX5_turn 89 = .ok (.goto 21, 3) := zo_167 (b1 := 0) (b2 := 21) (zkb3 zk_cX5_turn zn_cX5_turn rfl) rfl
theorem dX5_turn_92 : decode cX5_turn 92 = .ok (.iload_n 2, 1) := zo_28 (zkb zk_cX5_turn zn_cX5_turn rfl)
theorem dX5_turn_93 : decode cX5_turn 93 = .ok (.bipush 7, 2) := zo_16 (b1 := 7) (zkb2 zk_cX5_turn zn_cX5_turn rfl) rfl
theorem dX5_turn_95 : decode cX5_turn 95 = .ok (.ishr, 1) := zo_122 (zkb zk_cX5_turn zn_cX5_turn rfl)
theorem dX5_turn_96 : decode cX5_turn 96 = .ok (.istore 5, 2) := zo_54 (b1 := 5) (zkb2 zk_cX5_turn zn_cX5_turn rfl)
theorem dX5_turn_98 : decode cX5_turn 98 = .ok (.goto 12, 3) := zo_167 (b1 := 0) (b2 := 12) (zkb3 zk_cX5_turn zn_cX5_turn rfl) rfl
theorem dX5_turn_101 : decode cX5_turn 101 = .ok (.iconst 1, 1) := zo_4 (zkb zk_cX5_turn zn_cX5_turn rfl)
theorem dX5_turn_102 : decode cX5_turn 102 = .ok (.istore 5, 2) := zo_54 (b1 := 5) (zkb2 zk_cX5_turn zn_cX5_turn rfl)
theorem dX5_turn_104 : decode cX5_turn 104 = .ok (.goto 6, 3) := zo_167 (b1 := 0) (b2 := 6) (zkb3 zk_cX5_turn zn_cX5_turn rfl) rfl
theorem dX5_turn_107 : decode cX5_turn 107 = .ok (.iconst 0, 1) := zo_3 (zkb zk_cX5_turn zn_cX5_turn rfl)
theorem dX5_turn_108 : decode cX5_turn 108 = .ok (.istore 5, 2) := zo_54 (b1 := 5) (zkb2 zk_cX5_turn zn_cX5_turn rfl)
theorem dX5_turn_110 : decode cX5_turn 110 = .ok (.iload_n 3, 1) := zo_29 (zkb zk_cX5_turn zn_cX5_turn rfl)
theorem dX5_turn_111 : decode cX5_turn 111 = .ok (.ifCond .eq 16, 3) := zo_153 (b1 := 0) (b2 := 16) (zkb3 zk_cX5_turn zn_cX5_turn rfl) rfl
theorem dX5_turn_114 : decode cX5_turn 114 = .ok (.iload_n 2, 1) := zo_28 (zkb zk_cX5_turn zn_cX5_turn rfl)
theorem dX5_turn_115 : decode cX5_turn 115 = .ok (.iconst 1, 1) := zo_4 (zkb zk_cX5_turn zn_cX5_turn rfl)
theorem dX5_turn_116 : decode cX5_turn 116 = .ok (.ishl, 1) := zo_120 (zkb zk_cX5_turn zn_cX5_turn rfl)
theorem dX5_turn_117 : decode cX5_turn 117 = .ok (.sipush 255, 3) := zo_17 (b1 := 0) (b2 := 255) (zkb3 zk_cX5_turn zn_cX5_turn rfl) rfl
theorem dX5_turn_120 : decode cX5_turn 120 = .ok (.iand, 1) := zo_126 (zkb zk_cX5_turn zn_cX5_turn rfl)
theorem dX5_turn_121 : decode cX5_turn 121 = .ok (.iload 5, 2) := zo_21 (b1 := 5) (zkb2 zk_cX5_turn zn_cX5_turn rfl)
theorem dX5_turn_123 : decode cX5_turn 123 = .ok (.ior, 1) := zo_128 (zkb zk_cX5_turn zn_cX5_turn rfl)
theorem dX5_turn_124 : decode cX5_turn 124 = .ok (.goto 12, 3) := zo_167 (b1 := 0) (b2 := 12) (zkb3 zk_cX5_turn zn_cX5_turn rfl) rfl
theorem dX5_turn_127 : decode cX5_turn 127 = .ok (.iload_n 2, 1) := zo_28 (zkb zk_cX5_turn zn_cX5_turn rfl)
theorem dX5_turn_128 : decode cX5_turn 128 = .ok (.iconst 1, 1) := zo_4 (zkb zk_cX5_turn zn_cX5_turn rfl)
theorem dX5_turn_129 : decode cX5_turn 129 = .ok (.ishr, 1) := zo_122 (zkb zk_cX5_turn zn_cX5_turn rfl)
theorem dX5_turn_130 : decode cX5_turn 130 = .ok (.iload 5, 2) := zo_21 (b1 := 5) (zkb2 zk_cX5_turn zn_cX5_turn rfl)
theorem dX5_turn_132 : decode cX5_turn 132 = .ok (.bipush 7, 2) := zo_16 (b1 := 7) (zkb2 zk_cX5_turn zn_cX5_turn rfl) rfl
theorem dX5_turn_134 : decode cX5_turn 134 = .ok (.ishl, 1) := zo_120 (zkb zk_cX5_turn zn_cX5_turn rfl)
theorem dX5_turn_135 : decode cX5_turn 135 = .ok (.ior, 1) := zo_128 (zkb zk_cX5_turn zn_cX5_turn rfl)
theorem dX5_turn_136 : decode cX5_turn 136 = .ok (.istore 6, 2) := zo_54 (b1 := 6) (zkb2 zk_cX5_turn zn_cX5_turn rfl)
theorem dX5_turn_138 : decode cX5_turn 138 = .ok (.aload_n 0, 1) := zo_42 (zkb zk_cX5_turn zn_cX5_turn rfl)
theorem dX5_turn_139 : decode cX5_turn 139 = .ok (.getfield 9, 3) := zo_180 (b1 := 0) (b2 := 9) (zkb3 zk_cX5_turn zn_cX5_turn rfl) rfl
theorem dX5_turn_142 : decode cX5_turn 142 = .ok (.iconst 1, 1) := zo_4 (zkb zk_cX5_turn zn_cX5_turn rfl)
theorem dX5_turn_143 : decode cX5_turn 143 = .ok (.iload 6, 2) := zo_21 (b1 := 6) (zkb2 zk_cX5_turn zn_cX5_turn rfl)
theorem dX5_turn_145 : decode cX5_turn 145 = .ok (.invokestatic 187, 3) := zo_184 (b1 := 0) (b2 := 187) (zkb3 zk_cX5_turn zn_cX5_turn rfl) rfl
theorem dX5_turn_148 : decode cX5_turn 148 = .ok (.iload 6, 2) := zo_21 (b1 := 6) (zkb2 zk_cX5_turn zn_cX5_turn rfl)
theorem dX5_turn_150 : decode cX5_turn 150 = .ok (.invokestatic 196, 3) := zo_184 (b1 := 0) (b2 := 196) (zkb3 zk_cX5_turn zn_cX5_turn rfl) rfl
theorem dX5_turn_153 : decode cX5_turn 153 = .ok (.ior, 1) := zo_128 (zkb zk_cX5_turn zn_cX5_turn rfl)
theorem dX5_turn_154 : decode cX5_turn 154 = .ok (.iload 4, 2) := zo_21 (b1 := 4) (zkb2 zk_cX5_turn zn_cX5_turn rfl)
theorem dX5_turn_156 : decode cX5_turn 156 = .ok (.ior, 1) := zo_128 (zkb zk_cX5_turn zn_cX5_turn rfl)
theorem dX5_turn_157 : decode cX5_turn 157 = .ok (.iastore, 1) := zo_79 (zkb zk_cX5_turn zn_cX5_turn rfl)
theorem dX5_turn_158 : decode cX5_turn 158 = .ok (.iload 6, 2) := zo_21 (b1 := 6) (zkb2 zk_cX5_turn zn_cX5_turn rfl)
theorem dX5_turn_160 : decode cX5_turn 160 = .ok (.ireturn, 1) := zo_172 (zkb zk_cX5_turn zn_cX5_turn rfl)
noncomputable def kn_cX5_turned : Nat := 0xac80781d041cac7e8202781d041cacc100b61c1d2a200000000200000019000000000000000200000028000000ab7a06101b3e7e07107a061b
theorem zk_cX5_turned : zkd cX5_turned.data.toList kn_cX5_turned = true := by decide +kernel
theorem zn_cX5_turned : cX5_turned.data.toList.length = 57 := by decide +kernel
theorem dX5_turned_0 : decode cX5_turned 0 = .ok (.iload_n 1, 1) := zo_27 (zkb zk_cX5_turned zn_cX5_turned rfl)
theorem dX5_turned_1 : decode cX5_turned 1 = .ok (.iconst 3, 1) := zo_6 (zkb zk_cX5_turned zn_cX5_turned rfl)
theorem dX5_turned_2 : decode cX5_turned 2 = .ok (.ishr, 1) := zo_122 (zkb zk_cX5_turned zn_cX5_turned rfl)
theorem dX5_turned_3 : decode cX5_turned 3 = .ok (.bipush 7, 2) := zo_16 (b1 := 7) (zkb2 zk_cX5_turned zn_cX5_turned rfl) rfl
theorem dX5_turned_5 : decode cX5_turned 5 = .ok (.iand, 1) := zo_126 (zkb zk_cX5_turned zn_cX5_turned rfl)
theorem dX5_turned_6 : decode cX5_turned 6 = .ok (.istore_n 3, 1) := zo_62 (zkb zk_cX5_turned zn_cX5_turned rfl)
theorem dX5_turned_7 : decode cX5_turned 7 = .ok (.iload_n 1, 1) := zo_27 (zkb zk_cX5_turned zn_cX5_turned rfl)
theorem dX5_turned_8 : decode cX5_turned 8 = .ok (.bipush 6, 2) := zo_16 (b1 := 6) (zkb2 zk_cX5_turned zn_cX5_turned rfl) rfl
theorem dX5_turned_10 : decode cX5_turned 10 = .ok (.ishr, 1) := zo_122 (zkb zk_cX5_turned zn_cX5_turned rfl)
theorem dX5_turned_11 : decode cX5_turned 11 = .ok (.lookupswitch 40 #[(0, 25), (2, 32)], 25) := by decide +kernel
theorem dX5_turned_36 : decode cX5_turned 36 = .ok (.aload_n 0, 1) := zo_42 (zkb zk_cX5_turned zn_cX5_turned rfl)
theorem dX5_turned_37 : decode cX5_turned 37 = .ok (.iload_n 3, 1) := zo_29 (zkb zk_cX5_turned zn_cX5_turned rfl)
theorem dX5_turned_38 : decode cX5_turned 38 = .ok (.iload_n 2, 1) := zo_28 (zkb zk_cX5_turned zn_cX5_turned rfl)
theorem dX5_turned_39 : decode cX5_turned 39 = .ok (.invokevirtual 193, 3) := zo_182 (b1 := 0) (b2 := 193) (zkb3 zk_cX5_turned zn_cX5_turned rfl) rfl
theorem dX5_turned_42 : decode cX5_turned 42 = .ok (.ireturn, 1) := zo_172 (zkb zk_cX5_turned zn_cX5_turned rfl)
theorem dX5_turned_43 : decode cX5_turned 43 = .ok (.iload_n 2, 1) := zo_28 (zkb zk_cX5_turned zn_cX5_turned rfl)
theorem dX5_turned_44 : decode cX5_turned 44 = .ok (.iconst 1, 1) := zo_4 (zkb zk_cX5_turned zn_cX5_turned rfl)
theorem dX5_turned_45 : decode cX5_turned 45 = .ok (.iload_n 3, 1) := zo_29 (zkb zk_cX5_turned zn_cX5_turned rfl)
theorem dX5_turned_46 : decode cX5_turned 46 = .ok (.ishl, 1) := zo_120 (zkb zk_cX5_turned zn_cX5_turned rfl)
theorem dX5_turned_47 : decode cX5_turned 47 = .ok (.iconst (-1), 1) := zo_2 (zkb zk_cX5_turned zn_cX5_turned rfl)
theorem dX5_turned_48 : decode cX5_turned 48 = .ok (.ixor, 1) := zo_130 (zkb zk_cX5_turned zn_cX5_turned rfl)
theorem dX5_turned_49 : decode cX5_turned 49 = .ok (.iand, 1) := zo_126 (zkb zk_cX5_turned zn_cX5_turned rfl)
theorem dX5_turned_50 : decode cX5_turned 50 = .ok (.ireturn, 1) := zo_172 (zkb zk_cX5_turned zn_cX5_turned rfl)
theorem dX5_turned_51 : decode cX5_turned 51 = .ok (.iload_n 2, 1) := zo_28 (zkb zk_cX5_turned zn_cX5_turned rfl)
theorem dX5_turned_52 : decode cX5_turned 52 = .ok (.iconst 1, 1) := zo_4 (zkb zk_cX5_turned zn_cX5_turned rfl)
theorem dX5_turned_53 : decode cX5_turned 53 = .ok (.iload_n 3, 1) := zo_29 (zkb zk_cX5_turned zn_cX5_turned rfl)
theorem dX5_turned_54 : decode cX5_turned 54 = .ok (.ishl, 1) := zo_120 (zkb zk_cX5_turned zn_cX5_turned rfl)
theorem dX5_turned_55 : decode cX5_turned 55 = .ok (.ior, 1) := zo_128 (zkb zk_cX5_turned zn_cX5_turned rfl)
theorem dX5_turned_56 : decode cX5_turned 56 = .ok (.ireturn, 1) := zo_172 (zkb zk_cX5_turned zn_cX5_turned rfl)
noncomputable def kn_cX5_askBit : Nat := 0xb14f807e28101d80101080030400a7441008009a0415807e80001104157e042e040900b42a040900b42a04367e781b041c
theorem zk_cX5_askBit : zkd cX5_askBit.data.toList kn_cX5_askBit = true := by decide +kernel
theorem zn_cX5_askBit : cX5_askBit.data.toList.length = 49 := by decide +kernel
theorem dX5_askBit_0 : decode cX5_askBit 0 = .ok (.iload_n 2, 1) := zo_28 (zkb zk_cX5_askBit zn_cX5_askBit rfl)
theorem dX5_askBit_1 : decode cX5_askBit 1 = .ok (.iconst 1, 1) := zo_4 (zkb zk_cX5_askBit zn_cX5_askBit rfl)
theorem dX5_askBit_2 : decode cX5_askBit 2 = .ok (.iload_n 1, 1) := zo_27 (zkb zk_cX5_askBit zn_cX5_askBit rfl)
theorem dX5_askBit_3 : decode cX5_askBit 3 = .ok (.ishl, 1) := zo_120 (zkb zk_cX5_askBit zn_cX5_askBit rfl)
theorem dX5_askBit_4 : decode cX5_askBit 4 = .ok (.iand, 1) := zo_126 (zkb zk_cX5_askBit zn_cX5_askBit rfl)
theorem dX5_askBit_5 : decode cX5_askBit 5 = .ok (.istore 4, 2) := zo_54 (b1 := 4) (zkb2 zk_cX5_askBit zn_cX5_askBit rfl)
theorem dX5_askBit_7 : decode cX5_askBit 7 = .ok (.aload_n 0, 1) := zo_42 (zkb zk_cX5_askBit zn_cX5_askBit rfl)
theorem dX5_askBit_8 : decode cX5_askBit 8 = .ok (.getfield 9, 3) := zo_180 (b1 := 0) (b2 := 9) (zkb3 zk_cX5_askBit zn_cX5_askBit rfl) rfl
theorem dX5_askBit_11 : decode cX5_askBit 11 = .ok (.iconst 1, 1) := zo_4 (zkb zk_cX5_askBit zn_cX5_askBit rfl)
theorem dX5_askBit_12 : decode cX5_askBit 12 = .ok (.aload_n 0, 1) := zo_42 (zkb zk_cX5_askBit zn_cX5_askBit rfl)
theorem dX5_askBit_13 : decode cX5_askBit 13 = .ok (.getfield 9, 3) := zo_180 (b1 := 0) (b2 := 9) (zkb3 zk_cX5_askBit zn_cX5_askBit rfl) rfl
theorem dX5_askBit_16 : decode cX5_askBit 16 = .ok (.iconst 1, 1) := zo_4 (zkb zk_cX5_askBit zn_cX5_askBit rfl)
theorem dX5_askBit_17 : decode cX5_askBit 17 = .ok (.iaload, 1) := zo_46 (zkb zk_cX5_askBit zn_cX5_askBit rfl)
theorem dX5_askBit_18 : decode cX5_askBit 18 = .ok (.iconst 1, 1) := zo_4 (zkb zk_cX5_askBit zn_cX5_askBit rfl)
theorem dX5_askBit_19 : decode cX5_askBit 19 = .ok (.iand, 1) := zo_126 (zkb zk_cX5_askBit zn_cX5_askBit rfl)
theorem dX5_askBit_20 : decode cX5_askBit 20 = .ok (.iload 4, 2) := zo_21 (b1 := 4) (zkb2 zk_cX5_askBit zn_cX5_askBit rfl)
theorem dX5_askBit_22 : decode cX5_askBit 22 = .ok (.sipush 128, 3) := zo_17 (b1 := 0) (b2 := 128) (zkb3 zk_cX5_askBit zn_cX5_askBit rfl) rfl
theorem dX5_askBit_25 : decode cX5_askBit 25 = .ok (.iand, 1) := zo_126 (zkb zk_cX5_askBit zn_cX5_askBit rfl)
theorem dX5_askBit_26 : decode cX5_askBit 26 = .ok (.ior, 1) := zo_128 (zkb zk_cX5_askBit zn_cX5_askBit rfl)
theorem dX5_askBit_27 : decode cX5_askBit 27 = .ok (.iload 4, 2) := zo_21 (b1 := 4) (zkb2 zk_cX5_askBit zn_cX5_askBit rfl)
theorem dX5_askBit_29 : decode cX5_askBit 29 = .ok (.ifCond .ne 8, 3) := zo_154 (b1 := 0) (b2 := 8) (zkb3 zk_cX5_askBit zn_cX5_askBit rfl) rfl
theorem dX5_askBit_32 : decode cX5_askBit 32 = .ok (.bipush 68, 2) := zo_16 (b1 := 68) (zkb2 zk_cX5_askBit zn_cX5_askBit rfl) rfl
theorem dX5_askBit_34 : decode cX5_askBit 34 = .ok (.goto 4, 3) := zo_167 (b1 := 0) (b2 := 4) (zkb3 zk_cX5_askBit zn_cX5_askBit rfl) rfl
theorem dX5_askBit_37 : decode cX5_askBit 37 = .ok (.iconst 0, 1) := zo_3 (zkb zk_cX5_askBit zn_cX5_askBit rfl)
theorem dX5_askBit_38 : decode cX5_askBit 38 = .ok (.ior, 1) := zo_128 (zkb zk_cX5_askBit zn_cX5_askBit rfl)
theorem dX5_askBit_39 : decode cX5_askBit 39 = .ok (.bipush 16, 2) := zo_16 (b1 := 16) (zkb2 zk_cX5_askBit zn_cX5_askBit rfl) rfl
theorem dX5_askBit_41 : decode cX5_askBit 41 = .ok (.ior, 1) := zo_128 (zkb zk_cX5_askBit zn_cX5_askBit rfl)
theorem dX5_askBit_42 : decode cX5_askBit 42 = .ok (.iload_n 3, 1) := zo_29 (zkb zk_cX5_askBit zn_cX5_askBit rfl)
theorem dX5_askBit_43 : decode cX5_askBit 43 = .ok (.bipush 40, 2) := zo_16 (b1 := 40) (zkb2 zk_cX5_askBit zn_cX5_askBit rfl) rfl
theorem dX5_askBit_45 : decode cX5_askBit 45 = .ok (.iand, 1) := zo_126 (zkb zk_cX5_askBit zn_cX5_askBit rfl)
theorem dX5_askBit_46 : decode cX5_askBit 46 = .ok (.ior, 1) := zo_128 (zkb zk_cX5_askBit zn_cX5_askBit rfl)
theorem dX5_askBit_47 : decode cX5_askBit 47 = .ok (.iastore, 1) := zo_79 (zkb zk_cX5_askBit zn_cX5_askBit rfl)
theorem dX5_askBit_48 : decode cX5_askBit 48 = .ok (.return_, 1) := zo_177 (zkb zk_cX5_askBit zn_cX5_askBit rfl)
noncomputable def kn_cX7_takeStereo : Nat := 0xb14f1b12100900b42a
theorem zk_cX7_takeStereo : zkd cX7_takeStereo.data.toList kn_cX7_takeStereo = true := by decide +kernel
theorem zn_cX7_takeStereo : cX7_takeStereo.data.toList.length = 9 := by decide +kernel
theorem dX7_takeStereo_0 : decode cX7_takeStereo 0 = .ok (.aload_n 0, 1) := zo_42 (zkb zk_cX7_takeStereo zn_cX7_takeStereo rfl)
theorem dX7_takeStereo_1 : decode cX7_takeStereo 1 = .ok (.getfield 9, 3) := zo_180 (b1 := 0) (b2 := 9) (zkb3 zk_cX7_takeStereo zn_cX7_takeStereo rfl) rfl
theorem dX7_takeStereo_4 : decode cX7_takeStereo 4 = .ok (.bipush 18, 2) := zo_16 (b1 := 18) (zkb2 zk_cX7_takeStereo zn_cX7_takeStereo rfl) rfl
theorem dX7_takeStereo_6 : decode cX7_takeStereo 6 = .ok (.iload_n 1, 1) := zo_27 (zkb zk_cX7_takeStereo zn_cX7_takeStereo rfl)
theorem dX7_takeStereo_7 : decode cX7_takeStereo 7 = .ok (.iastore, 1) := zo_79 (zkb zk_cX7_takeStereo zn_cX7_takeStereo rfl)
theorem dX7_takeStereo_8 : decode cX7_takeStereo 8 = .ok (.return_, 1) := zo_177 (zkb zk_cX7_takeStereo zn_cX7_takeStereo rfl)
noncomputable def kn_cX7_take : Nat := 0xb14f8078077e3f101b7e0f102e601d030900b42a601d030900b42a1d00a74f807e0f101b7ef003112e601d030900b42a601d030900b42a1f00991c3d00a74f1c1210100900b42a4f7e07101b0d100900b42a1a00a0061d5900a74f7e0f101b601d09100900b42a1300a0047e042e11100900b42a3e7a042e11100900b42a4f7e07107a071b11100900b42a1000991c3d030400a7040700a18000111b
theorem zk_cX7_take : zkd cX7_take.data.toList kn_cX7_take = true := by decide +kernel
theorem zn_cX7_take : cX7_take.data.toList.length = 156 := by decide +kernel
theorem dX7_take_0 : decode cX7_take 0 = .ok (.iload_n 1, 1) := zo_27 (zkb zk_cX7_take zn_cX7_take rfl)
theorem dX7_take_1 : decode cX7_take 1 = .ok (.sipush 128, 3) := zo_17 (b1 := 0) (b2 := 128) (zkb3 zk_cX7_take zn_cX7_take rfl) rfl
theorem dX7_take_4 : decode cX7_take 4 = .ok (.if_icmp .lt 7, 3) := zo_161 (b1 := 0) (b2 := 7) (zkb3 zk_cX7_take zn_cX7_take rfl) rfl
theorem dX7_take_7 : decode cX7_take 7 = .ok (.iconst 1, 1) := zo_4 (zkb zk_cX7_take zn_cX7_take rfl)
theorem dX7_take_8 : decode cX7_take 8 = .ok (.goto 4, 3) := zo_167 (b1 := 0) (b2 := 4) (zkb3 zk_cX7_take zn_cX7_take rfl) rfl
theorem dX7_take_11 : decode cX7_take 11 = .ok (.iconst 0, 1) := zo_3 (zkb zk_cX7_take zn_cX7_take rfl)
theorem dX7_take_12 : decode cX7_take 12 = .ok (.istore_n 2, 1) := zo_61 (zkb zk_cX7_take zn_cX7_take rfl)
theorem dX7_take_13 : decode cX7_take 13 = .ok (.iload_n 2, 1) := zo_28 (zkb zk_cX7_take zn_cX7_take rfl)
theorem dX7_take_14 : decode cX7_take 14 = .ok (.ifCond .eq 16, 3) := zo_153 (b1 := 0) (b2 := 16) (zkb3 zk_cX7_take zn_cX7_take rfl) rfl
theorem dX7_take_17 : decode cX7_take 17 = .ok (.aload_n 0, 1) := zo_42 (zkb zk_cX7_take zn_cX7_take rfl)
theorem dX7_take_18 : decode cX7_take 18 = .ok (.getfield 9, 3) := zo_180 (b1 := 0) (b2 := 9) (zkb3 zk_cX7_take zn_cX7_take rfl) rfl
theorem dX7_take_21 : decode cX7_take 21 = .ok (.bipush 17, 2) := zo_16 (b1 := 17) (zkb2 zk_cX7_take zn_cX7_take rfl) rfl
theorem dX7_take_23 : decode cX7_take 23 = .ok (.iload_n 1, 1) := zo_27 (zkb zk_cX7_take zn_cX7_take rfl)
theorem dX7_take_24 : decode cX7_take 24 = .ok (.iconst 4, 1) := zo_7 (zkb zk_cX7_take zn_cX7_take rfl)
theorem dX7_take_25 : decode cX7_take 25 = .ok (.ishr, 1) := zo_122 (zkb zk_cX7_take zn_cX7_take rfl)
theorem dX7_take_26 : decode cX7_take 26 = .ok (.bipush 7, 2) := zo_16 (b1 := 7) (zkb2 zk_cX7_take zn_cX7_take rfl) rfl
theorem dX7_take_28 : decode cX7_take 28 = .ok (.iand, 1) := zo_126 (zkb zk_cX7_take zn_cX7_take rfl)
theorem dX7_take_29 : decode cX7_take 29 = .ok (.iastore, 1) := zo_79 (zkb zk_cX7_take zn_cX7_take rfl)
theorem dX7_take_30 : decode cX7_take 30 = .ok (.aload_n 0, 1) := zo_42 (zkb zk_cX7_take zn_cX7_take rfl)
theorem dX7_take_31 : decode cX7_take 31 = .ok (.getfield 9, 3) := zo_180 (b1 := 0) (b2 := 9) (zkb3 zk_cX7_take zn_cX7_take rfl) rfl
theorem dX7_take_34 : decode cX7_take 34 = .ok (.bipush 17, 2) := zo_16 (b1 := 17) (zkb2 zk_cX7_take zn_cX7_take rfl) rfl
theorem dX7_take_36 : decode cX7_take 36 = .ok (.iaload, 1) := zo_46 (zkb zk_cX7_take zn_cX7_take rfl)
theorem dX7_take_37 : decode cX7_take 37 = .ok (.iconst 1, 1) := zo_4 (zkb zk_cX7_take zn_cX7_take rfl)
theorem dX7_take_38 : decode cX7_take 38 = .ok (.ishr, 1) := zo_122 (zkb zk_cX7_take zn_cX7_take rfl)
theorem dX7_take_39 : decode cX7_take 39 = .ok (.istore_n 3, 1) := zo_62 (zkb zk_cX7_take zn_cX7_take rfl)
theorem dX7_take_40 : decode cX7_take 40 = .ok (.aload_n 0, 1) := zo_42 (zkb zk_cX7_take zn_cX7_take rfl)
theorem dX7_take_41 : decode cX7_take 41 = .ok (.getfield 9, 3) := zo_180 (b1 := 0) (b2 := 9) (zkb3 zk_cX7_take zn_cX7_take rfl) rfl
theorem dX7_take_44 : decode cX7_take 44 = .ok (.bipush 17, 2) := zo_16 (b1 := 17) (zkb2 zk_cX7_take zn_cX7_take rfl) rfl
theorem dX7_take_46 : decode cX7_take 46 = .ok (.iaload, 1) := zo_46 (zkb zk_cX7_take zn_cX7_take rfl)
theorem dX7_take_47 : decode cX7_take 47 = .ok (.iconst 1, 1) := zo_4 (zkb zk_cX7_take zn_cX7_take rfl)
theorem dX7_take_48 : decode cX7_take 48 = .ok (.iand, 1) := zo_126 (zkb zk_cX7_take zn_cX7_take rfl)
theorem dX7_take_49 : decode cX7_take 49 = .ok (.iconst 1, 1) := zo_4 (zkb zk_cX7_take zn_cX7_take rfl)
theorem dX7_take_50 : decode cX7_take 50 = .ok (.if_icmp .ne 19, 3) := zo_160 (b1 := 0) (b2 := 19) (zkb3 zk_cX7_take zn_cX7_take rfl) rfl
theorem dX7_take_53 : decode cX7_take 53 = .ok (.aload_n 0, 1) := zo_42 (zkb zk_cX7_take zn_cX7_take rfl)
theorem dX7_take_54 : decode cX7_take 54 = .ok (.getfield 9, 3) := zo_180 (b1 := 0) (b2 := 9) (zkb3 zk_cX7_take zn_cX7_take rfl) rfl
theorem dX7_take_57 : decode cX7_take 57 = .ok (.bipush 9, 2) := zo_16 (b1 := 9) (zkb2 zk_cX7_take zn_cX7_take rfl) rfl
theorem dX7_take_59 : decode cX7_take 59 = .ok (.iload_n 3, 1) := zo_29 (zkb zk_cX7_take zn_cX7_take rfl)
theorem dX7_take_60 : decode cX7_take 60 = .ok (.iadd, 1) := zo_96 (zkb zk_cX7_take zn_cX7_take rfl)
theorem dX7_take_61 : decode cX7_take 61 = .ok (.iload_n 1, 1) := zo_27 (zkb zk_cX7_take zn_cX7_take rfl)
theorem dX7_take_62 : decode cX7_take 62 = .ok (.bipush 15, 2) := zo_16 (b1 := 15) (zkb2 zk_cX7_take zn_cX7_take rfl) rfl
theorem dX7_take_64 : decode cX7_take 64 = .ok (.iand, 1) := zo_126 (zkb zk_cX7_take zn_cX7_take rfl)
theorem dX7_take_65 : decode cX7_take 65 = .ok (.iastore, 1) := zo_79 (zkb zk_cX7_take zn_cX7_take rfl)
theorem dX7_take_66 : decode cX7_take 66 = .ok (.goto 89, 3) := zo_167 (b1 := 0) (b2 := 89) (zkb3 zk_cX7_take zn_cX7_take rfl) rfl
theorem dX7_take_69 : decode cX7_take 69 = .ok (.iload_n 3, 1) := zo_29 (zkb zk_cX7_take zn_cX7_take rfl)
theorem dX7_take_70 : decode cX7_take 70 = .ok (.iconst 3, 1) := zo_6 (zkb zk_cX7_take zn_cX7_take rfl)
theorem dX7_take_71 : decode cX7_take 71 = .ok (.if_icmp .ne 26, 3) := zo_160 (b1 := 0) (b2 := 26) (zkb3 zk_cX7_take zn_cX7_take rfl) rfl
theorem dX7_take_74 : decode cX7_take 74 = .ok (.aload_n 0, 1) := zo_42 (zkb zk_cX7_take zn_cX7_take rfl)
theorem dX7_take_75 : decode cX7_take 75 = .ok (.getfield 9, 3) := zo_180 (b1 := 0) (b2 := 9) (zkb3 zk_cX7_take zn_cX7_take rfl) rfl
theorem dX7_take_78 : decode cX7_take 78 = .ok (.bipush 13, 2) := zo_16 (b1 := 13) (zkb2 zk_cX7_take zn_cX7_take rfl) rfl
theorem dX7_take_80 : decode cX7_take 80 = .ok (.iload_n 1, 1) := zo_27 (zkb zk_cX7_take zn_cX7_take rfl)
theorem dX7_take_81 : decode cX7_take 81 = .ok (.bipush 7, 2) := zo_16 (b1 := 7) (zkb2 zk_cX7_take zn_cX7_take rfl) rfl
theorem dX7_take_83 : decode cX7_take 83 = .ok (.iand, 1) := zo_126 (zkb zk_cX7_take zn_cX7_take rfl)
theorem dX7_take_84 : decode cX7_take 84 = .ok (.iastore, 1) := zo_79 (zkb zk_cX7_take zn_cX7_take rfl)
theorem dX7_take_85 : decode cX7_take 85 = .ok (.aload_n 0, 1) := zo_42 (zkb zk_cX7_take zn_cX7_take rfl)
theorem dX7_take_86 : decode cX7_take 86 = .ok (.getfield 9, 3) := zo_180 (b1 := 0) (b2 := 9) (zkb3 zk_cX7_take zn_cX7_take rfl) rfl
theorem dX7_take_89 : decode cX7_take 89 = .ok (.bipush 16, 2) := zo_16 (b1 := 16) (zkb2 zk_cX7_take zn_cX7_take rfl) rfl
theorem dX7_take_91 : decode cX7_take 91 = .ok (.ldc 28, 2) := zo_18 (b1 := 28) (zkb2 zk_cX7_take zn_cX7_take rfl)
theorem dX7_take_93 : decode cX7_take 93 = .ok (.iastore, 1) := zo_79 (zkb zk_cX7_take zn_cX7_take rfl)
theorem dX7_take_94 : decode cX7_take 94 = .ok (.goto 61, 3) := zo_167 (b1 := 0) (b2 := 61) (zkb3 zk_cX7_take zn_cX7_take rfl) rfl
theorem dX7_take_97 : decode cX7_take 97 = .ok (.iload_n 2, 1) := zo_28 (zkb zk_cX7_take zn_cX7_take rfl)
theorem dX7_take_98 : decode cX7_take 98 = .ok (.ifCond .eq 31, 3) := zo_153 (b1 := 0) (b2 := 31) (zkb3 zk_cX7_take zn_cX7_take rfl) rfl
theorem dX7_take_101 : decode cX7_take 101 = .ok (.aload_n 0, 1) := zo_42 (zkb zk_cX7_take zn_cX7_take rfl)
theorem dX7_take_102 : decode cX7_take 102 = .ok (.getfield 9, 3) := zo_180 (b1 := 0) (b2 := 9) (zkb3 zk_cX7_take zn_cX7_take rfl) rfl
theorem dX7_take_105 : decode cX7_take 105 = .ok (.iconst 0, 1) := zo_3 (zkb zk_cX7_take zn_cX7_take rfl)
theorem dX7_take_106 : decode cX7_take 106 = .ok (.iload_n 3, 1) := zo_29 (zkb zk_cX7_take zn_cX7_take rfl)
theorem dX7_take_107 : decode cX7_take 107 = .ok (.iadd, 1) := zo_96 (zkb zk_cX7_take zn_cX7_take rfl)
theorem dX7_take_108 : decode cX7_take 108 = .ok (.aload_n 0, 1) := zo_42 (zkb zk_cX7_take zn_cX7_take rfl)
theorem dX7_take_109 : decode cX7_take 109 = .ok (.getfield 9, 3) := zo_180 (b1 := 0) (b2 := 9) (zkb3 zk_cX7_take zn_cX7_take rfl) rfl
theorem dX7_take_112 : decode cX7_take 112 = .ok (.iconst 0, 1) := zo_3 (zkb zk_cX7_take zn_cX7_take rfl)
theorem dX7_take_113 : decode cX7_take 113 = .ok (.iload_n 3, 1) := zo_29 (zkb zk_cX7_take zn_cX7_take rfl)
theorem dX7_take_114 : decode cX7_take 114 = .ok (.iadd, 1) := zo_96 (zkb zk_cX7_take zn_cX7_take rfl)
theorem dX7_take_115 : decode cX7_take 115 = .ok (.iaload, 1) := zo_46 (zkb zk_cX7_take zn_cX7_take rfl)
theorem dX7_take_116 : decode cX7_take 116 = .ok (.sipush 1008, 3) := zo_17 (b1 := 3) (b2 := 240) (zkb3 zk_cX7_take zn_cX7_take rfl) rfl
theorem dX7_take_119 : decode cX7_take 119 = .ok (.iand, 1) := zo_126 (zkb zk_cX7_take zn_cX7_take rfl)
theorem dX7_take_120 : decode cX7_take 120 = .ok (.iload_n 1, 1) := zo_27 (zkb zk_cX7_take zn_cX7_take rfl)
theorem dX7_take_121 : decode cX7_take 121 = .ok (.bipush 15, 2) := zo_16 (b1 := 15) (zkb2 zk_cX7_take zn_cX7_take rfl) rfl
theorem dX7_take_123 : decode cX7_take 123 = .ok (.iand, 1) := zo_126 (zkb zk_cX7_take zn_cX7_take rfl)
theorem dX7_take_124 : decode cX7_take 124 = .ok (.ior, 1) := zo_128 (zkb zk_cX7_take zn_cX7_take rfl)
theorem dX7_take_125 : decode cX7_take 125 = .ok (.iastore, 1) := zo_79 (zkb zk_cX7_take zn_cX7_take rfl)
theorem dX7_take_126 : decode cX7_take 126 = .ok (.goto 29, 3) := zo_167 (b1 := 0) (b2 := 29) (zkb3 zk_cX7_take zn_cX7_take rfl) rfl
theorem dX7_take_129 : decode cX7_take 129 = .ok (.aload_n 0, 1) := zo_42 (zkb zk_cX7_take zn_cX7_take rfl)
theorem dX7_take_130 : decode cX7_take 130 = .ok (.getfield 9, 3) := zo_180 (b1 := 0) (b2 := 9) (zkb3 zk_cX7_take zn_cX7_take rfl) rfl
theorem dX7_take_133 : decode cX7_take 133 = .ok (.iconst 0, 1) := zo_3 (zkb zk_cX7_take zn_cX7_take rfl)
theorem dX7_take_134 : decode cX7_take 134 = .ok (.iload_n 3, 1) := zo_29 (zkb zk_cX7_take zn_cX7_take rfl)
theorem dX7_take_135 : decode cX7_take 135 = .ok (.iadd, 1) := zo_96 (zkb zk_cX7_take zn_cX7_take rfl)
theorem dX7_take_136 : decode cX7_take 136 = .ok (.aload_n 0, 1) := zo_42 (zkb zk_cX7_take zn_cX7_take rfl)
theorem dX7_take_137 : decode cX7_take 137 = .ok (.getfield 9, 3) := zo_180 (b1 := 0) (b2 := 9) (zkb3 zk_cX7_take zn_cX7_take rfl) rfl
theorem dX7_take_140 : decode cX7_take 140 = .ok (.iconst 0, 1) := zo_3 (zkb zk_cX7_take zn_cX7_take rfl)
theorem dX7_take_141 : decode cX7_take 141 = .ok (.iload_n 3, 1) := zo_29 (zkb zk_cX7_take zn_cX7_take rfl)
theorem dX7_take_142 : decode cX7_take 142 = .ok (.iadd, 1) := zo_96 (zkb zk_cX7_take zn_cX7_take rfl)
theorem dX7_take_143 : decode cX7_take 143 = .ok (.iaload, 1) := zo_46 (zkb zk_cX7_take zn_cX7_take rfl)
theorem dX7_take_144 : decode cX7_take 144 = .ok (.bipush 15, 2) := zo_16 (b1 := 15) (zkb2 zk_cX7_take zn_cX7_take rfl) rfl
theorem dX7_take_146 : decode cX7_take 146 = .ok (.iand, 1) := zo_126 (zkb zk_cX7_take zn_cX7_take rfl)
theorem dX7_take_147 : decode cX7_take 147 = .ok (.iload_n 1, 1) := zo_27 (zkb zk_cX7_take zn_cX7_take rfl)
theorem dX7_take_148 : decode cX7_take 148 = .ok (.bipush 63, 2) := zo_16 (b1 := 63) (zkb2 zk_cX7_take zn_cX7_take rfl) rfl
theorem dX7_take_150 : decode cX7_take 150 = .ok (.iand, 1) := zo_126 (zkb zk_cX7_take zn_cX7_take rfl)
theorem dX7_take_151 : decode cX7_take 151 = .ok (.iconst 4, 1) := zo_7 (zkb zk_cX7_take zn_cX7_take rfl)
theorem dX7_take_152 : decode cX7_take 152 = .ok (.ishl, 1) := zo_120 (zkb zk_cX7_take zn_cX7_take rfl)
theorem dX7_take_153 : decode cX7_take 153 = .ok (.ior, 1) := zo_128 (zkb zk_cX7_take zn_cX7_take rfl)
theorem dX7_take_154 : decode cX7_take 154 = .ok (.iastore, 1) := zo_79 (zkb zk_cX7_take zn_cX7_take rfl)
theorem dX7_take_155 : decode cX7_take 155 = .ok (.return_, 1) := zo_177 (zkb zk_cX7_take zn_cX7_take rfl)
noncomputable def kn_cX9_writeControl : Nat := 0xb14f7eff00112e0b101000b42a7e0f101b1000b42a1700a30a107e0f101b2000a0052e0c101000b42a2b00a73f00b62a0a009a2e0c101000b42a4f7a06101b0c101000b42a4f807eff00112e0b101000b42a7808107e3f101b0b101000b42a4f030e101000b42ab14f040e101000b42a4f801b7e003f112e0b101000b42a0b101000b42a20009a2e0e101000b42a
theorem zk_cX9_writeControl : zkd cX9_writeControl.data.toList kn_cX9_writeControl = true := by decide +kernel
theorem zn_cX9_writeControl : cX9_writeControl.data.toList.length = 142 := by decide +kernel
theorem dX9_writeControl_0 : decode cX9_writeControl 0 = .ok (.aload_n 0, 1) := zo_42 (zkb zk_cX9_writeControl zn_cX9_writeControl rfl)
theorem dX9_writeControl_1 : decode cX9_writeControl 1 = .ok (.getfield 16, 3) := zo_180 (b1 := 0) (b2 := 16) (zkb3 zk_cX9_writeControl zn_cX9_writeControl rfl) rfl
theorem dX9_writeControl_4 : decode cX9_writeControl 4 = .ok (.bipush 14, 2) := zo_16 (b1 := 14) (zkb2 zk_cX9_writeControl zn_cX9_writeControl rfl) rfl
theorem dX9_writeControl_6 : decode cX9_writeControl 6 = .ok (.iaload, 1) := zo_46 (zkb zk_cX9_writeControl zn_cX9_writeControl rfl)
theorem dX9_writeControl_7 : decode cX9_writeControl 7 = .ok (.ifCond .ne 32, 3) := zo_154 (b1 := 0) (b2 := 32) (zkb3 zk_cX9_writeControl zn_cX9_writeControl rfl) rfl
theorem dX9_writeControl_10 : decode cX9_writeControl 10 = .ok (.aload_n 0, 1) := zo_42 (zkb zk_cX9_writeControl zn_cX9_writeControl rfl)
theorem dX9_writeControl_11 : decode cX9_writeControl 11 = .ok (.getfield 16, 3) := zo_180 (b1 := 0) (b2 := 16) (zkb3 zk_cX9_writeControl zn_cX9_writeControl rfl) rfl
theorem dX9_writeControl_14 : decode cX9_writeControl 14 = .ok (.bipush 11, 2) := zo_16 (b1 := 11) (zkb2 zk_cX9_writeControl zn_cX9_writeControl rfl) rfl
theorem dX9_writeControl_16 : decode cX9_writeControl 16 = .ok (.aload_n 0, 1) := zo_42 (zkb zk_cX9_writeControl zn_cX9_writeControl rfl)
theorem dX9_writeControl_17 : decode cX9_writeControl 17 = .ok (.getfield 16, 3) := zo_180 (b1 := 0) (b2 := 16) (zkb3 zk_cX9_writeControl zn_cX9_writeControl rfl) rfl
theorem dX9_writeControl_20 : decode cX9_writeControl 20 = .ok (.bipush 11, 2) := zo_16 (b1 := 11) (zkb2 zk_cX9_writeControl zn_cX9_writeControl rfl) rfl
theorem dX9_writeControl_22 : decode cX9_writeControl 22 = .ok (.iaload, 1) := zo_46 (zkb zk_cX9_writeControl zn_cX9_writeControl rfl)
theorem dX9_writeControl_23 : decode cX9_writeControl 23 = .ok (.sipush 16128, 3) := zo_17 (b1 := 63) (b2 := 0) (zkb3 zk_cX9_writeControl zn_cX9_writeControl rfl) rfl
theorem dX9_writeControl_26 : decode cX9_writeControl 26 = .ok (.iand, 1) := zo_126 (zkb zk_cX9_writeControl zn_cX9_writeControl rfl)
theorem dX9_writeControl_27 : decode cX9_writeControl 27 = .ok (.iload_n 1, 1) := zo_27 (zkb zk_cX9_writeControl zn_cX9_writeControl rfl)
theorem dX9_writeControl_28 : decode cX9_writeControl 28 = .ok (.ior, 1) := zo_128 (zkb zk_cX9_writeControl zn_cX9_writeControl rfl)
theorem dX9_writeControl_29 : decode cX9_writeControl 29 = .ok (.iastore, 1) := zo_79 (zkb zk_cX9_writeControl zn_cX9_writeControl rfl)
theorem dX9_writeControl_30 : decode cX9_writeControl 30 = .ok (.aload_n 0, 1) := zo_42 (zkb zk_cX9_writeControl zn_cX9_writeControl rfl)
theorem dX9_writeControl_31 : decode cX9_writeControl 31 = .ok (.getfield 16, 3) := zo_180 (b1 := 0) (b2 := 16) (zkb3 zk_cX9_writeControl zn_cX9_writeControl rfl) rfl
theorem dX9_writeControl_34 : decode cX9_writeControl 34 = .ok (.bipush 14, 2) := zo_16 (b1 := 14) (zkb2 zk_cX9_writeControl zn_cX9_writeControl rfl) rfl
theorem dX9_writeControl_36 : decode cX9_writeControl 36 = .ok (.iconst 1, 1) := zo_4 (zkb zk_cX9_writeControl zn_cX9_writeControl rfl)
theorem dX9_writeControl_37 : decode cX9_writeControl 37 = .ok (.iastore, 1) := zo_79 (zkb zk_cX9_writeControl zn_cX9_writeControl rfl)
theorem dX9_writeControl_38 : decode cX9_writeControl 38 = .ok (.return_, 1) := zo_177 (zkb zk_cX9_writeControl zn_cX9_writeControl rfl)
theorem dX9_writeControl_39 : decode cX9_writeControl 39 = .ok (.aload_n 0, 1) := zo_42 (zkb zk_cX9_writeControl zn_cX9_writeControl rfl)
theorem dX9_writeControl_40 : decode cX9_writeControl 40 = .ok (.getfield 16, 3) := zo_180 (b1 := 0) (b2 := 16) (zkb3 zk_cX9_writeControl zn_cX9_writeControl rfl) rfl
theorem dX9_writeControl_43 : decode cX9_writeControl 43 = .ok (.bipush 14, 2) := zo_16 (b1 := 14) (zkb2 zk_cX9_writeControl zn_cX9_writeControl rfl) rfl
theorem dX9_writeControl_45 : decode cX9_writeControl 45 = .ok (.iconst 0, 1) := zo_3 (zkb zk_cX9_writeControl zn_cX9_writeControl rfl)
theorem dX9_writeControl_46 : decode cX9_writeControl 46 = .ok (.iastore, 1) := zo_79 (zkb zk_cX9_writeControl zn_cX9_writeControl rfl)
theorem dX9_writeControl_47 : decode cX9_writeControl 47 = .ok (.aload_n 0, 1) := zo_42 (zkb zk_cX9_writeControl zn_cX9_writeControl rfl)
theorem dX9_writeControl_48 : decode cX9_writeControl 48 = .ok (.getfield 16, 3) := zo_180 (b1 := 0) (b2 := 16) (zkb3 zk_cX9_writeControl zn_cX9_writeControl rfl) rfl
theorem dX9_writeControl_51 : decode cX9_writeControl 51 = .ok (.bipush 11, 2) := zo_16 (b1 := 11) (zkb2 zk_cX9_writeControl zn_cX9_writeControl rfl) rfl
theorem dX9_writeControl_53 : decode cX9_writeControl 53 = .ok (.iload_n 1, 1) := zo_27 (zkb zk_cX9_writeControl zn_cX9_writeControl rfl)
theorem dX9_writeControl_54 : decode cX9_writeControl 54 = .ok (.bipush 63, 2) := zo_16 (b1 := 63) (zkb2 zk_cX9_writeControl zn_cX9_writeControl rfl) rfl
theorem dX9_writeControl_56 : decode cX9_writeControl 56 = .ok (.iand, 1) := zo_126 (zkb zk_cX9_writeControl zn_cX9_writeControl rfl)
theorem dX9_writeControl_57 : decode cX9_writeControl 57 = .ok (.bipush 8, 2) := zo_16 (b1 := 8) (zkb2 zk_cX9_writeControl zn_cX9_writeControl rfl) rfl
theorem dX9_writeControl_59 : decode cX9_writeControl 59 = .ok (.ishl, 1) := zo_120 (zkb zk_cX9_writeControl zn_cX9_writeControl rfl)
theorem dX9_writeControl_60 : decode cX9_writeControl 60 = .ok (.aload_n 0, 1) := zo_42 (zkb zk_cX9_writeControl zn_cX9_writeControl rfl)
theorem dX9_writeControl_61 : decode cX9_writeControl 61 = .ok (.getfield 16, 3) := zo_180 (b1 := 0) (b2 := 16) (zkb3 zk_cX9_writeControl zn_cX9_writeControl rfl) rfl
theorem dX9_writeControl_64 : decode cX9_writeControl 64 = .ok (.bipush 11, 2) := zo_16 (b1 := 11) (zkb2 zk_cX9_writeControl zn_cX9_writeControl rfl) rfl
theorem dX9_writeControl_66 : decode cX9_writeControl 66 = .ok (.iaload, 1) := zo_46 (zkb zk_cX9_writeControl zn_cX9_writeControl rfl)
theorem dX9_writeControl_67 : decode cX9_writeControl 67 = .ok (.sipush 255, 3) := zo_17 (b1 := 0) (b2 := 255) (zkb3 zk_cX9_writeControl zn_cX9_writeControl rfl) rfl
theorem dX9_writeControl_70 : decode cX9_writeControl 70 = .ok (.iand, 1) := zo_126 (zkb zk_cX9_writeControl zn_cX9_writeControl rfl)
theorem dX9_writeControl_71 : decode cX9_writeControl 71 = .ok (.ior, 1) := zo_128 (zkb zk_cX9_writeControl zn_cX9_writeControl rfl)
theorem dX9_writeControl_72 : decode cX9_writeControl 72 = .ok (.iastore, 1) := zo_79 (zkb zk_cX9_writeControl zn_cX9_writeControl rfl)
theorem dX9_writeControl_73 : decode cX9_writeControl 73 = .ok (.aload_n 0, 1) := zo_42 (zkb zk_cX9_writeControl zn_cX9_writeControl rfl)
theorem dX9_writeControl_74 : decode cX9_writeControl 74 = .ok (.getfield 16, 3) := zo_180 (b1 := 0) (b2 := 16) (zkb3 zk_cX9_writeControl zn_cX9_writeControl rfl) rfl
theorem dX9_writeControl_77 : decode cX9_writeControl 77 = .ok (.bipush 12, 2) := zo_16 (b1 := 12) (zkb2 zk_cX9_writeControl zn_cX9_writeControl rfl) rfl
theorem dX9_writeControl_79 : decode cX9_writeControl 79 = .ok (.iload_n 1, 1) := zo_27 (zkb zk_cX9_writeControl zn_cX9_writeControl rfl)
theorem dX9_writeControl_80 : decode cX9_writeControl 80 = .ok (.bipush 6, 2) := zo_16 (b1 := 6) (zkb2 zk_cX9_writeControl zn_cX9_writeControl rfl) rfl
theorem dX9_writeControl_82 : decode cX9_writeControl 82 = .ok (.ishr, 1) := zo_122 (zkb zk_cX9_writeControl zn_cX9_writeControl rfl)
theorem dX9_writeControl_83 : decode cX9_writeControl 83 = .ok (.iastore, 1) := zo_79 (zkb zk_cX9_writeControl zn_cX9_writeControl rfl)
theorem dX9_writeControl_84 : decode cX9_writeControl 84 = .ok (.aload_n 0, 1) := zo_42 (zkb zk_cX9_writeControl zn_cX9_writeControl rfl)
theorem dX9_writeControl_85 : decode cX9_writeControl 85 = .ok (.getfield 16, 3) := zo_180 (b1 := 0) (b2 := 16) (zkb3 zk_cX9_writeControl zn_cX9_writeControl rfl) rfl
theorem dX9_writeControl_88 : decode cX9_writeControl 88 = .ok (.bipush 12, 2) := zo_16 (b1 := 12) (zkb2 zk_cX9_writeControl zn_cX9_writeControl rfl) rfl
theorem dX9_writeControl_90 : decode cX9_writeControl 90 = .ok (.iaload, 1) := zo_46 (zkb zk_cX9_writeControl zn_cX9_writeControl rfl)
theorem dX9_writeControl_91 : decode cX9_writeControl 91 = .ok (.ifCond .ne 10, 3) := zo_154 (b1 := 0) (b2 := 10) (zkb3 zk_cX9_writeControl zn_cX9_writeControl rfl) rfl
theorem dX9_writeControl_94 : decode cX9_writeControl 94 = .ok (.aload_n 0, 1) := zo_42 (zkb zk_cX9_writeControl zn_cX9_writeControl rfl)
theorem dX9_writeControl_95 : decode cX9_writeControl 95 = .ok (.invokevirtual 63, 3) := zo_182 (b1 := 0) (b2 := 63) (zkb3 zk_cX9_writeControl zn_cX9_writeControl rfl) rfl
theorem dX9_writeControl_98 : decode cX9_writeControl 98 = .ok (.goto 43, 3) := zo_167 (b1 := 0) (b2 := 43) (zkb3 zk_cX9_writeControl zn_cX9_writeControl rfl) rfl
theorem dX9_writeControl_101 : decode cX9_writeControl 101 = .ok (.aload_n 0, 1) := zo_42 (zkb zk_cX9_writeControl zn_cX9_writeControl rfl)
theorem dX9_writeControl_102 : decode cX9_writeControl 102 = .ok (.getfield 16, 3) := zo_180 (b1 := 0) (b2 := 16) (zkb3 zk_cX9_writeControl zn_cX9_writeControl rfl) rfl
theorem dX9_writeControl_105 : decode cX9_writeControl 105 = .ok (.bipush 12, 2) := zo_16 (b1 := 12) (zkb2 zk_cX9_writeControl zn_cX9_writeControl rfl) rfl
theorem dX9_writeControl_107 : decode cX9_writeControl 107 = .ok (.iaload, 1) := zo_46 (zkb zk_cX9_writeControl zn_cX9_writeControl rfl)
theorem dX9_writeControl_108 : decode cX9_writeControl 108 = .ok (.iconst 2, 1) := zo_5 (zkb zk_cX9_writeControl zn_cX9_writeControl rfl)
theorem dX9_writeControl_109 : decode cX9_writeControl 109 = .ok (.if_icmp .ne 32, 3) := zo_160 (b1 := 0) (b2 := 32) (zkb3 zk_cX9_writeControl zn_cX9_writeControl rfl) rfl
theorem dX9_writeControl_112 : decode cX9_writeControl 112 = .ok (.iload_n 1, 1) := zo_27 (zkb zk_cX9_writeControl zn_cX9_writeControl rfl)
theorem dX9_writeControl_113 : decode cX9_writeControl 113 = .ok (.bipush 15, 2) := zo_16 (b1 := 15) (zkb2 zk_cX9_writeControl zn_cX9_writeControl rfl) rfl
theorem dX9_writeControl_115 : decode cX9_writeControl 115 = .ok (.iand, 1) := zo_126 (zkb zk_cX9_writeControl zn_cX9_writeControl rfl)
theorem dX9_writeControl_116 : decode cX9_writeControl 116 = .ok (.bipush 10, 2) := zo_16 (b1 := 10) (zkb2 zk_cX9_writeControl zn_cX9_writeControl rfl) rfl
theorem dX9_writeControl_118 : decode cX9_writeControl 118 = .ok (.if_icmp .gt 23, 3) := zo_163 (b1 := 0) (b2 := 23) (zkb3 zk_cX9_writeControl zn_cX9_writeControl rfl) rfl
theorem dX9_writeControl_121 : decode cX9_writeControl 121 = .ok (.aload_n 0, 1) := zo_42 (zkb zk_cX9_writeControl zn_cX9_writeControl rfl)
theorem dX9_writeControl_122 : decode cX9_writeControl 122 = .ok (.getfield 16, 3) := zo_180 (b1 := 0) (b2 := 16) (zkb3 zk_cX9_writeControl zn_cX9_writeControl rfl) rfl
theorem dX9_writeControl_125 : decode cX9_writeControl 125 = .ok (.iload_n 1, 1) := zo_27 (zkb zk_cX9_writeControl zn_cX9_writeControl rfl)
theorem dX9_writeControl_126 : decode cX9_writeControl 126 = .ok (.bipush 15, 2) := zo_16 (b1 := 15) (zkb2 zk_cX9_writeControl zn_cX9_writeControl rfl) rfl
theorem dX9_writeControl_128 : decode cX9_writeControl 128 = .ok (.iand, 1) := zo_126 (zkb zk_cX9_writeControl zn_cX9_writeControl rfl)
theorem dX9_writeControl_129 : decode cX9_writeControl 129 = .ok (.aload_n 0, 1) := zo_42 (zkb zk_cX9_writeControl zn_cX9_writeControl rfl)
theorem dX9_writeControl_130 : decode cX9_writeControl 130 = .ok (.getfield 16, 3) := zo_180 (b1 := 0) (b2 := 16) (zkb3 zk_cX9_writeControl zn_cX9_writeControl rfl) rfl
theorem dX9_writeControl_133 : decode cX9_writeControl 133 = .ok (.bipush 11, 2) := zo_16 (b1 := 11) (zkb2 zk_cX9_writeControl zn_cX9_writeControl rfl) rfl
theorem dX9_writeControl_135 : decode cX9_writeControl 135 = .ok (.iaload, 1) := zo_46 (zkb zk_cX9_writeControl zn_cX9_writeControl rfl)
theorem dX9_writeControl_136 : decode cX9_writeControl 136 = .ok (.sipush 255, 3) := zo_17 (b1 := 0) (b2 := 255) (zkb3 zk_cX9_writeControl zn_cX9_writeControl rfl) rfl
theorem dX9_writeControl_139 : decode cX9_writeControl 139 = .ok (.iand, 1) := zo_126 (zkb zk_cX9_writeControl zn_cX9_writeControl rfl)
theorem dX9_writeControl_140 : decode cX9_writeControl 140 = .ok (.iastore, 1) := zo_79 (zkb zk_cX9_writeControl zn_cX9_writeControl rfl)
theorem dX9_writeControl_141 : decode cX9_writeControl 141 = .ok (.return_, 1) := zo_177 (zkb zk_cX9_writeControl zn_cX9_writeControl rfl)
noncomputable def kn_cX9_readAhead : Nat := 0xb14f7eff3f1160042e0b101000b42a0b101000b42a4f2e7eff3f112e0b101000b42a0900b42a0d101000b42a
theorem zk_cX9_readAhead : zkd cX9_readAhead.data.toList kn_cX9_readAhead = true := by decide +kernel
theorem zn_cX9_readAhead : cX9_readAhead.data.toList.length = 44 := by decide +kernel
theorem dX9_readAhead_0 : decode cX9_readAhead 0 = .ok (.aload_n 0, 1) := zo_42 (zkb zk_cX9_readAhead zn_cX9_readAhead rfl)
theorem dX9_readAhead_1 : decode cX9_readAhead 1 = .ok (.getfield 16, 3) := zo_180 (b1 := 0) (b2 := 16) (zkb3 zk_cX9_readAhead zn_cX9_readAhead rfl) rfl
theorem dX9_readAhead_4 : decode cX9_readAhead 4 = .ok (.bipush 13, 2) := zo_16 (b1 := 13) (zkb2 zk_cX9_readAhead zn_cX9_readAhead rfl) rfl
theorem dX9_readAhead_6 : decode cX9_readAhead 6 = .ok (.aload_n 0, 1) := zo_42 (zkb zk_cX9_readAhead zn_cX9_readAhead rfl)
theorem dX9_readAhead_7 : decode cX9_readAhead 7 = .ok (.getfield 9, 3) := zo_180 (b1 := 0) (b2 := 9) (zkb3 zk_cX9_readAhead zn_cX9_readAhead rfl) rfl
theorem dX9_readAhead_10 : decode cX9_readAhead 10 = .ok (.aload_n 0, 1) := zo_42 (zkb zk_cX9_readAhead zn_cX9_readAhead rfl)
theorem dX9_readAhead_11 : decode cX9_readAhead 11 = .ok (.getfield 16, 3) := zo_180 (b1 := 0) (b2 := 16) (zkb3 zk_cX9_readAhead zn_cX9_readAhead rfl) rfl
theorem dX9_readAhead_14 : decode cX9_readAhead 14 = .ok (.bipush 11, 2) := zo_16 (b1 := 11) (zkb2 zk_cX9_readAhead zn_cX9_readAhead rfl) rfl
theorem dX9_readAhead_16 : decode cX9_readAhead 16 = .ok (.iaload, 1) := zo_46 (zkb zk_cX9_readAhead zn_cX9_readAhead rfl)
theorem dX9_readAhead_17 : decode cX9_readAhead 17 = .ok (.sipush 16383, 3) := zo_17 (b1 := 63) (b2 := 255) (zkb3 zk_cX9_readAhead zn_cX9_readAhead rfl) rfl
theorem dX9_readAhead_20 : decode cX9_readAhead 20 = .ok (.iand, 1) := zo_126 (zkb zk_cX9_readAhead zn_cX9_readAhead rfl)
theorem dX9_readAhead_21 : decode cX9_readAhead 21 = .ok (.iaload, 1) := zo_46 (zkb zk_cX9_readAhead zn_cX9_readAhead rfl)
theorem dX9_readAhead_22 : decode cX9_readAhead 22 = .ok (.iastore, 1) := zo_79 (zkb zk_cX9_readAhead zn_cX9_readAhead rfl)
theorem dX9_readAhead_23 : decode cX9_readAhead 23 = .ok (.aload_n 0, 1) := zo_42 (zkb zk_cX9_readAhead zn_cX9_readAhead rfl)
theorem dX9_readAhead_24 : decode cX9_readAhead 24 = .ok (.getfield 16, 3) := zo_180 (b1 := 0) (b2 := 16) (zkb3 zk_cX9_readAhead zn_cX9_readAhead rfl) rfl
theorem dX9_readAhead_27 : decode cX9_readAhead 27 = .ok (.bipush 11, 2) := zo_16 (b1 := 11) (zkb2 zk_cX9_readAhead zn_cX9_readAhead rfl) rfl
theorem dX9_readAhead_29 : decode cX9_readAhead 29 = .ok (.aload_n 0, 1) := zo_42 (zkb zk_cX9_readAhead zn_cX9_readAhead rfl)
theorem dX9_readAhead_30 : decode cX9_readAhead 30 = .ok (.getfield 16, 3) := zo_180 (b1 := 0) (b2 := 16) (zkb3 zk_cX9_readAhead zn_cX9_readAhead rfl) rfl
theorem dX9_readAhead_33 : decode cX9_readAhead 33 = .ok (.bipush 11, 2) := zo_16 (b1 := 11) (zkb2 zk_cX9_readAhead zn_cX9_readAhead rfl) rfl
theorem dX9_readAhead_35 : decode cX9_readAhead 35 = .ok (.iaload, 1) := zo_46 (zkb zk_cX9_readAhead zn_cX9_readAhead rfl)
theorem dX9_readAhead_36 : decode cX9_readAhead 36 = .ok (.iconst 1, 1) := zo_4 (zkb zk_cX9_readAhead zn_cX9_readAhead rfl)
theorem dX9_readAhead_37 : decode cX9_readAhead 37 = .ok (.iadd, 1) := zo_96 (zkb zk_cX9_readAhead zn_cX9_readAhead rfl)
theorem dX9_readAhead_38 : decode cX9_readAhead 38 = .ok (.sipush 16383, 3) := zo_17 (b1 := 63) (b2 := 255) (zkb3 zk_cX9_readAhead zn_cX9_readAhead rfl) rfl
theorem dX9_readAhead_41 : decode cX9_readAhead 41 = .ok (.iand, 1) := zo_126 (zkb zk_cX9_readAhead zn_cX9_readAhead rfl)
theorem dX9_readAhead_42 : decode cX9_readAhead 42 = .ok (.iastore, 1) := zo_79 (zkb zk_cX9_readAhead zn_cX9_readAhead rfl)
theorem dX9_readAhead_43 : decode cX9_readAhead 43 = .ok (.return_, 1) := zo_177 (zkb zk_cX9_readAhead zn_cX9_readAhead rfl)
noncomputable def kn_cX9_readStatus : Nat := 0xac1b4f0310101000b42a4f030f101000b42a4f030e101000b42a3c2e0f101000b42a
theorem zk_cX9_readStatus : zkd cX9_readStatus.data.toList kn_cX9_readStatus = true := by decide +kernel
theorem zn_cX9_readStatus : cX9_readStatus.data.toList.length = 34 := by decide +kernel
theorem dX9_readStatus_0 : decode cX9_readStatus 0 = .ok (.aload_n 0, 1) := zo_42 (zkb zk_cX9_readStatus zn_cX9_readStatus rfl)
theorem dX9_readStatus_1 : decode cX9_readStatus 1 = .ok (.getfield 16, 3) := zo_180 (b1 := 0) (b2 := 16) (zkb3 zk_cX9_readStatus zn_cX9_readStatus rfl) rfl
theorem dX9_readStatus_4 : decode cX9_readStatus 4 = .ok (.bipush 15, 2) := zo_16 (b1 := 15) (zkb2 zk_cX9_readStatus zn_cX9_readStatus rfl) rfl
theorem dX9_readStatus_6 : decode cX9_readStatus 6 = .ok (.iaload, 1) := zo_46 (zkb zk_cX9_readStatus zn_cX9_readStatus rfl)
theorem dX9_readStatus_7 : decode cX9_readStatus 7 = .ok (.istore_n 1, 1) := zo_60 (zkb zk_cX9_readStatus zn_cX9_readStatus rfl)
theorem dX9_readStatus_8 : decode cX9_readStatus 8 = .ok (.aload_n 0, 1) := zo_42 (zkb zk_cX9_readStatus zn_cX9_readStatus rfl)
theorem dX9_readStatus_9 : decode cX9_readStatus 9 = .ok (.getfield 16, 3) := zo_180 (b1 := 0) (b2 := 16) (zkb3 zk_cX9_readStatus zn_cX9_readStatus rfl) rfl
theorem dX9_readStatus_12 : decode cX9_readStatus 12 = .ok (.bipush 14, 2) := zo_16 (b1 := 14) (zkb2 zk_cX9_readStatus zn_cX9_readStatus rfl) rfl
theorem dX9_readStatus_14 : decode cX9_readStatus 14 = .ok (.iconst 0, 1) := zo_3 (zkb zk_cX9_readStatus zn_cX9_readStatus rfl)
theorem dX9_readStatus_15 : decode cX9_readStatus 15 = .ok (.iastore, 1) := zo_79 (zkb zk_cX9_readStatus zn_cX9_readStatus rfl)
theorem dX9_readStatus_16 : decode cX9_readStatus 16 = .ok (.aload_n 0, 1) := zo_42 (zkb zk_cX9_readStatus zn_cX9_readStatus rfl)
theorem dX9_readStatus_17 : decode cX9_readStatus 17 = .ok (.getfield 16, 3) := zo_180 (b1 := 0) (b2 := 16) (zkb3 zk_cX9_readStatus zn_cX9_readStatus rfl) rfl
theorem dX9_readStatus_20 : decode cX9_readStatus 20 = .ok (.bipush 15, 2) := zo_16 (b1 := 15) (zkb2 zk_cX9_readStatus zn_cX9_readStatus rfl) rfl
theorem dX9_readStatus_22 : decode cX9_readStatus 22 = .ok (.iconst 0, 1) := zo_3 (zkb zk_cX9_readStatus zn_cX9_readStatus rfl)
theorem dX9_readStatus_23 : decode cX9_readStatus 23 = .ok (.iastore, 1) := zo_79 (zkb zk_cX9_readStatus zn_cX9_readStatus rfl)
theorem dX9_readStatus_24 : decode cX9_readStatus 24 = .ok (.aload_n 0, 1) := zo_42 (zkb zk_cX9_readStatus zn_cX9_readStatus rfl)
theorem dX9_readStatus_25 : decode cX9_readStatus 25 = .ok (.getfield 16, 3) := zo_180 (b1 := 0) (b2 := 16) (zkb3 zk_cX9_readStatus zn_cX9_readStatus rfl) rfl
theorem dX9_readStatus_28 : decode cX9_readStatus 28 = .ok (.bipush 16, 2) := zo_16 (b1 := 16) (zkb2 zk_cX9_readStatus zn_cX9_readStatus rfl) rfl
theorem dX9_readStatus_30 : decode cX9_readStatus 30 = .ok (.iconst 0, 1) := zo_3 (zkb zk_cX9_readStatus zn_cX9_readStatus rfl)
theorem dX9_readStatus_31 : decode cX9_readStatus 31 = .ok (.iastore, 1) := zo_79 (zkb zk_cX9_readStatus zn_cX9_readStatus rfl)
theorem dX9_readStatus_32 : decode cX9_readStatus 32 = .ok (.iload_n 1, 1) := zo_27 (zkb zk_cX9_readStatus zn_cX9_readStatus rfl)
theorem dX9_readStatus_33 : decode cX9_readStatus 33 = .ok (.ireturn, 1) := zo_172 (zkb zk_cX9_readStatus zn_cX9_readStatus rfl)
noncomputable def kn_cX9_readData : Nat := 0xac1b3f00b62a4f030e101000b42a3c2e0d101000b42a
theorem zk_cX9_readData : zkd cX9_readData.data.toList kn_cX9_readData = true := by decide +kernel
theorem zn_cX9_readData : cX9_readData.data.toList.length = 22 := by decide +kernel
theorem dX9_readData_0 : decode cX9_readData 0 = .ok (.aload_n 0, 1) := zo_42 (zkb zk_cX9_readData zn_cX9_readData rfl)
theorem dX9_readData_1 : decode cX9_readData 1 = .ok (.getfield 16, 3) := zo_180 (b1 := 0) (b2 := 16) (zkb3 zk_cX9_readData zn_cX9_readData rfl) rfl
theorem dX9_readData_4 : decode cX9_readData 4 = .ok (.bipush 13, 2) := zo_16 (b1 := 13) (zkb2 zk_cX9_readData zn_cX9_readData rfl) rfl
theorem dX9_readData_6 : decode cX9_readData 6 = .ok (.iaload, 1) := zo_46 (zkb zk_cX9_readData zn_cX9_readData rfl)
theorem dX9_readData_7 : decode cX9_readData 7 = .ok (.istore_n 1, 1) := zo_60 (zkb zk_cX9_readData zn_cX9_readData rfl)
theorem dX9_readData_8 : decode cX9_readData 8 = .ok (.aload_n 0, 1) := zo_42 (zkb zk_cX9_readData zn_cX9_readData rfl)
theorem dX9_readData_9 : decode cX9_readData 9 = .ok (.getfield 16, 3) := zo_180 (b1 := 0) (b2 := 16) (zkb3 zk_cX9_readData zn_cX9_readData rfl) rfl
theorem dX9_readData_12 : decode cX9_readData 12 = .ok (.bipush 14, 2) := zo_16 (b1 := 14) (zkb2 zk_cX9_readData zn_cX9_readData rfl) rfl
theorem dX9_readData_14 : decode cX9_readData 14 = .ok (.iconst 0, 1) := zo_3 (zkb zk_cX9_readData zn_cX9_readData rfl)
theorem dX9_readData_15 : decode cX9_readData 15 = .ok (.iastore, 1) := zo_79 (zkb zk_cX9_readData zn_cX9_readData rfl)
theorem dX9_readData_16 : decode cX9_readData 16 = .ok (.aload_n 0, 1) := zo_42 (zkb zk_cX9_readData zn_cX9_readData rfl)
theorem dX9_readData_17 : decode cX9_readData 17 = .ok (.invokevirtual 63, 3) := zo_182 (b1 := 0) (b2 := 63) (zkb3 zk_cX9_readData zn_cX9_readData rfl) rfl
theorem dX9_readData_20 : decode cX9_readData 20 = .ok (.iload_n 1, 1) := zo_27 (zkb zk_cX9_readData zn_cX9_readData rfl)
theorem dX9_readData_21 : decode cX9_readData 21 = .ok (.ireturn, 1) := zo_172 (zkb zk_cX9_readData zn_cX9_readData rfl)
noncomputable def kn_cX9_writeData : Nat := 0xb14f1b1c0900b42a0a00a74200b61b1c2a0c00a0062e0c101000b42a4f7eff3f1160041c0b101000b42a4f1b0d101000b42a4f030e101000b42a3d7eff3f112e0b101000b42a
theorem zk_cX9_writeData : zkd cX9_writeData.data.toList kn_cX9_writeData = true := by decide +kernel
theorem zn_cX9_writeData : cX9_writeData.data.toList.length = 70 := by decide +kernel
theorem dX9_writeData_0 : decode cX9_writeData 0 = .ok (.aload_n 0, 1) := zo_42 (zkb zk_cX9_writeData zn_cX9_writeData rfl)
theorem dX9_writeData_1 : decode cX9_writeData 1 = .ok (.getfield 16, 3) := zo_180 (b1 := 0) (b2 := 16) (zkb3 zk_cX9_writeData zn_cX9_writeData rfl) rfl
theorem dX9_writeData_4 : decode cX9_writeData 4 = .ok (.bipush 11, 2) := zo_16 (b1 := 11) (zkb2 zk_cX9_writeData zn_cX9_writeData rfl) rfl
theorem dX9_writeData_6 : decode cX9_writeData 6 = .ok (.iaload, 1) := zo_46 (zkb zk_cX9_writeData zn_cX9_writeData rfl)
theorem dX9_writeData_7 : decode cX9_writeData 7 = .ok (.sipush 16383, 3) := zo_17 (b1 := 63) (b2 := 255) (zkb3 zk_cX9_writeData zn_cX9_writeData rfl) rfl
theorem dX9_writeData_10 : decode cX9_writeData 10 = .ok (.iand, 1) := zo_126 (zkb zk_cX9_writeData zn_cX9_writeData rfl)
theorem dX9_writeData_11 : decode cX9_writeData 11 = .ok (.istore_n 2, 1) := zo_61 (zkb zk_cX9_writeData zn_cX9_writeData rfl)
theorem dX9_writeData_12 : decode cX9_writeData 12 = .ok (.aload_n 0, 1) := zo_42 (zkb zk_cX9_writeData zn_cX9_writeData rfl)
theorem dX9_writeData_13 : decode cX9_writeData 13 = .ok (.getfield 16, 3) := zo_180 (b1 := 0) (b2 := 16) (zkb3 zk_cX9_writeData zn_cX9_writeData rfl) rfl
theorem dX9_writeData_16 : decode cX9_writeData 16 = .ok (.bipush 14, 2) := zo_16 (b1 := 14) (zkb2 zk_cX9_writeData zn_cX9_writeData rfl) rfl
theorem dX9_writeData_18 : decode cX9_writeData 18 = .ok (.iconst 0, 1) := zo_3 (zkb zk_cX9_writeData zn_cX9_writeData rfl)
theorem dX9_writeData_19 : decode cX9_writeData 19 = .ok (.iastore, 1) := zo_79 (zkb zk_cX9_writeData zn_cX9_writeData rfl)
theorem dX9_writeData_20 : decode cX9_writeData 20 = .ok (.aload_n 0, 1) := zo_42 (zkb zk_cX9_writeData zn_cX9_writeData rfl)
theorem dX9_writeData_21 : decode cX9_writeData 21 = .ok (.getfield 16, 3) := zo_180 (b1 := 0) (b2 := 16) (zkb3 zk_cX9_writeData zn_cX9_writeData rfl) rfl
theorem dX9_writeData_24 : decode cX9_writeData 24 = .ok (.bipush 13, 2) := zo_16 (b1 := 13) (zkb2 zk_cX9_writeData zn_cX9_writeData rfl) rfl
theorem dX9_writeData_26 : decode cX9_writeData 26 = .ok (.iload_n 1, 1) := zo_27 (zkb zk_cX9_writeData zn_cX9_writeData rfl)
theorem dX9_writeData_27 : decode cX9_writeData 27 = .ok (.iastore, 1) := zo_79 (zkb zk_cX9_writeData zn_cX9_writeData rfl)
theorem dX9_writeData_28 : decode cX9_writeData 28 = .ok (.aload_n 0, 1) := zo_42 (zkb zk_cX9_writeData zn_cX9_writeData rfl)
theorem dX9_writeData_29 : decode cX9_writeData 29 = .ok (.getfield 16, 3) := zo_180 (b1 := 0) (b2 := 16) (zkb3 zk_cX9_writeData zn_cX9_writeData rfl) rfl
theorem dX9_writeData_32 : decode cX9_writeData 32 = .ok (.bipush 11, 2) := zo_16 (b1 := 11) (zkb2 zk_cX9_writeData zn_cX9_writeData rfl) rfl
theorem dX9_writeData_34 : decode cX9_writeData 34 = .ok (.iload_n 2, 1) := zo_28 (zkb zk_cX9_writeData zn_cX9_writeData rfl)
theorem dX9_writeData_35 : decode cX9_writeData 35 = .ok (.iconst 1, 1) := zo_4 (zkb zk_cX9_writeData zn_cX9_writeData rfl)
theorem dX9_writeData_36 : decode cX9_writeData 36 = .ok (.iadd, 1) := zo_96 (zkb zk_cX9_writeData zn_cX9_writeData rfl)
theorem dX9_writeData_37 : decode cX9_writeData 37 = .ok (.sipush 16383, 3) := zo_17 (b1 := 63) (b2 := 255) (zkb3 zk_cX9_writeData zn_cX9_writeData rfl) rfl
theorem dX9_writeData_40 : decode cX9_writeData 40 = .ok (.iand, 1) := zo_126 (zkb zk_cX9_writeData zn_cX9_writeData rfl)
theorem dX9_writeData_41 : decode cX9_writeData 41 = .ok (.iastore, 1) := zo_79 (zkb zk_cX9_writeData zn_cX9_writeData rfl)
theorem dX9_writeData_42 : decode cX9_writeData 42 = .ok (.aload_n 0, 1) := zo_42 (zkb zk_cX9_writeData zn_cX9_writeData rfl)
theorem dX9_writeData_43 : decode cX9_writeData 43 = .ok (.getfield 16, 3) := zo_180 (b1 := 0) (b2 := 16) (zkb3 zk_cX9_writeData zn_cX9_writeData rfl) rfl
theorem dX9_writeData_46 : decode cX9_writeData 46 = .ok (.bipush 12, 2) := zo_16 (b1 := 12) (zkb2 zk_cX9_writeData zn_cX9_writeData rfl) rfl
theorem dX9_writeData_48 : decode cX9_writeData 48 = .ok (.iaload, 1) := zo_46 (zkb zk_cX9_writeData zn_cX9_writeData rfl)
theorem dX9_writeData_49 : decode cX9_writeData 49 = .ok (.iconst 3, 1) := zo_6 (zkb zk_cX9_writeData zn_cX9_writeData rfl)
theorem dX9_writeData_50 : decode cX9_writeData 50 = .ok (.if_icmp .ne 12, 3) := zo_160 (b1 := 0) (b2 := 12) (zkb3 zk_cX9_writeData zn_cX9_writeData rfl) rfl
theorem dX9_writeData_53 : decode cX9_writeData 53 = .ok (.aload_n 0, 1) := zo_42 (zkb zk_cX9_writeData zn_cX9_writeData rfl)
theorem dX9_writeData_54 : decode cX9_writeData 54 = .ok (.iload_n 2, 1) := zo_28 (zkb zk_cX9_writeData zn_cX9_writeData rfl)
theorem dX9_writeData_55 : decode cX9_writeData 55 = .ok (.iload_n 1, 1) := zo_27 (zkb zk_cX9_writeData zn_cX9_writeData rfl)
theorem dX9_writeData_56 : decode cX9_writeData 56 = .ok (.invokevirtual 66, 3) := zo_182 (b1 := 0) (b2 := 66) (zkb3 zk_cX9_writeData zn_cX9_writeData rfl) rfl
theorem dX9_writeData_59 : decode cX9_writeData 59 = .ok (.goto 10, 3) := zo_167 (b1 := 0) (b2 := 10) (zkb3 zk_cX9_writeData zn_cX9_writeData rfl) rfl
theorem dX9_writeData_62 : decode cX9_writeData 62 = .ok (.aload_n 0, 1) := zo_42 (zkb zk_cX9_writeData zn_cX9_writeData rfl)
theorem dX9_writeData_63 : decode cX9_writeData 63 = .ok (.getfield 9, 3) := zo_180 (b1 := 0) (b2 := 9) (zkb3 zk_cX9_writeData zn_cX9_writeData rfl) rfl
theorem dX9_writeData_66 : decode cX9_writeData 66 = .ok (.iload_n 2, 1) := zo_28 (zkb zk_cX9_writeData zn_cX9_writeData rfl)
theorem dX9_writeData_67 : decode cX9_writeData 67 = .ok (.iload_n 1, 1) := zo_27 (zkb zk_cX9_writeData zn_cX9_writeData rfl)
theorem dX9_writeData_68 : decode cX9_writeData 68 = .ok (.iastore, 1) := zo_79 (zkb zk_cX9_writeData zn_cX9_writeData rfl)
theorem dX9_writeData_69 : decode cX9_writeData 69 = .ok (.return_, 1) := zo_177 (zkb zk_cX9_writeData zn_cX9_writeData rfl)
noncomputable def kn_cX9_writeColour : Nat := 0xb14f1c607e3f101b20101000b42a4f2e1a101000b42a607e3e101b20101000b42a2300a74f1c1a101000b42a0e009a7e041b3400a74f1c607e1f101b20101000b42a13009a1600b42a
theorem zk_cX9_writeColour : zkd cX9_writeColour.data.toList kn_cX9_writeColour = true := by decide +kernel
theorem zn_cX9_writeColour : cX9_writeColour.data.toList.length = 73 := by decide +kernel
theorem dX9_writeColour_0 : decode cX9_writeColour 0 = .ok (.aload_n 0, 1) := zo_42 (zkb zk_cX9_writeColour zn_cX9_writeColour rfl)
theorem dX9_writeColour_1 : decode cX9_writeColour 1 = .ok (.getfield 22, 3) := zo_180 (b1 := 0) (b2 := 22) (zkb3 zk_cX9_writeColour zn_cX9_writeColour rfl) rfl
theorem dX9_writeColour_4 : decode cX9_writeColour 4 = .ok (.ifCond .ne 19, 3) := zo_154 (b1 := 0) (b2 := 19) (zkb3 zk_cX9_writeColour zn_cX9_writeColour rfl) rfl
theorem dX9_writeColour_7 : decode cX9_writeColour 7 = .ok (.aload_n 0, 1) := zo_42 (zkb zk_cX9_writeColour zn_cX9_writeColour rfl)
theorem dX9_writeColour_8 : decode cX9_writeColour 8 = .ok (.getfield 16, 3) := zo_180 (b1 := 0) (b2 := 16) (zkb3 zk_cX9_writeColour zn_cX9_writeColour rfl) rfl
theorem dX9_writeColour_11 : decode cX9_writeColour 11 = .ok (.bipush 32, 2) := zo_16 (b1 := 32) (zkb2 zk_cX9_writeColour zn_cX9_writeColour rfl) rfl
theorem dX9_writeColour_13 : decode cX9_writeColour 13 = .ok (.iload_n 1, 1) := zo_27 (zkb zk_cX9_writeColour zn_cX9_writeColour rfl)
theorem dX9_writeColour_14 : decode cX9_writeColour 14 = .ok (.bipush 31, 2) := zo_16 (b1 := 31) (zkb2 zk_cX9_writeColour zn_cX9_writeColour rfl) rfl
theorem dX9_writeColour_16 : decode cX9_writeColour 16 = .ok (.iand, 1) := zo_126 (zkb zk_cX9_writeColour zn_cX9_writeColour rfl)
theorem dX9_writeColour_17 : decode cX9_writeColour 17 = .ok (.iadd, 1) := zo_96 (zkb zk_cX9_writeColour zn_cX9_writeColour rfl)
theorem dX9_writeColour_18 : decode cX9_writeColour 18 = .ok (.iload_n 2, 1) := zo_28 (zkb zk_cX9_writeColour zn_cX9_writeColour rfl)
theorem dX9_writeColour_19 : decode cX9_writeColour 19 = .ok (.iastore, 1) := zo_79 (zkb zk_cX9_writeColour zn_cX9_writeColour rfl)
theorem dX9_writeColour_20 : decode cX9_writeColour 20 = .ok (.goto 52, 3) := zo_167 (b1 := 0) (b2 := 52) (zkb3 zk_cX9_writeColour zn_cX9_writeColour rfl) rfl
theorem dX9_writeColour_23 : decode cX9_writeColour 23 = .ok (.iload_n 1, 1) := zo_27 (zkb zk_cX9_writeColour zn_cX9_writeColour rfl)
theorem dX9_writeColour_24 : decode cX9_writeColour 24 = .ok (.iconst 1, 1) := zo_4 (zkb zk_cX9_writeColour zn_cX9_writeColour rfl)
theorem dX9_writeColour_25 : decode cX9_writeColour 25 = .ok (.iand, 1) := zo_126 (zkb zk_cX9_writeColour zn_cX9_writeColour rfl)
theorem dX9_writeColour_26 : decode cX9_writeColour 26 = .ok (.ifCond .ne 14, 3) := zo_154 (b1 := 0) (b2 := 14) (zkb3 zk_cX9_writeColour zn_cX9_writeColour rfl) rfl
theorem dX9_writeColour_29 : decode cX9_writeColour 29 = .ok (.aload_n 0, 1) := zo_42 (zkb zk_cX9_writeColour zn_cX9_writeColour rfl)
theorem dX9_writeColour_30 : decode cX9_writeColour 30 = .ok (.getfield 16, 3) := zo_180 (b1 := 0) (b2 := 16) (zkb3 zk_cX9_writeColour zn_cX9_writeColour rfl) rfl
theorem dX9_writeColour_33 : decode cX9_writeColour 33 = .ok (.bipush 26, 2) := zo_16 (b1 := 26) (zkb2 zk_cX9_writeColour zn_cX9_writeColour rfl) rfl
theorem dX9_writeColour_35 : decode cX9_writeColour 35 = .ok (.iload_n 2, 1) := zo_28 (zkb zk_cX9_writeColour zn_cX9_writeColour rfl)
theorem dX9_writeColour_36 : decode cX9_writeColour 36 = .ok (.iastore, 1) := zo_79 (zkb zk_cX9_writeColour zn_cX9_writeColour rfl)
theorem dX9_writeColour_37 : decode cX9_writeColour 37 = .ok (.goto 35, 3) := zo_167 (b1 := 0) (b2 := 35) (zkb3 zk_cX9_writeColour zn_cX9_writeColour rfl) rfl
theorem dX9_writeColour_40 : decode cX9_writeColour 40 = .ok (.aload_n 0, 1) := zo_42 (zkb zk_cX9_writeColour zn_cX9_writeColour rfl)
theorem dX9_writeColour_41 : decode cX9_writeColour 41 = .ok (.getfield 16, 3) := zo_180 (b1 := 0) (b2 := 16) (zkb3 zk_cX9_writeColour zn_cX9_writeColour rfl) rfl
theorem dX9_writeColour_44 : decode cX9_writeColour 44 = .ok (.bipush 32, 2) := zo_16 (b1 := 32) (zkb2 zk_cX9_writeColour zn_cX9_writeColour rfl) rfl
theorem dX9_writeColour_46 : decode cX9_writeColour 46 = .ok (.iload_n 1, 1) := zo_27 (zkb zk_cX9_writeColour zn_cX9_writeColour rfl)
theorem dX9_writeColour_47 : decode cX9_writeColour 47 = .ok (.bipush 62, 2) := zo_16 (b1 := 62) (zkb2 zk_cX9_writeColour zn_cX9_writeColour rfl) rfl
theorem dX9_writeColour_49 : decode cX9_writeColour 49 = .ok (.iand, 1) := zo_126 (zkb zk_cX9_writeColour zn_cX9_writeColour rfl)
theorem dX9_writeColour_50 : decode cX9_writeColour 50 = .ok (.iadd, 1) := zo_96 (zkb zk_cX9_writeColour zn_cX9_writeColour rfl)
theorem dX9_writeColour_51 : decode cX9_writeColour 51 = .ok (.aload_n 0, 1) := zo_42 (zkb zk_cX9_writeColour zn_cX9_writeColour rfl)
theorem dX9_writeColour_52 : decode cX9_writeColour 52 = .ok (.getfield 16, 3) := zo_180 (b1 := 0) (b2 := 16) (zkb3 zk_cX9_writeColour zn_cX9_writeColour rfl) rfl
theorem dX9_writeColour_55 : decode cX9_writeColour 55 = .ok (.bipush 26, 2) := zo_16 (b1 := 26) (zkb2 zk_cX9_writeColour zn_cX9_writeColour rfl) rfl
theorem dX9_writeColour_57 : decode cX9_writeColour 57 = .ok (.iaload, 1) := zo_46 (zkb zk_cX9_writeColour zn_cX9_writeColour rfl)
theorem dX9_writeColour_58 : decode cX9_writeColour 58 = .ok (.iastore, 1) := zo_79 (zkb zk_cX9_writeColour zn_cX9_writeColour rfl)
theorem dX9_writeColour_59 : decode cX9_writeColour 59 = .ok (.aload_n 0, 1) := zo_42 (zkb zk_cX9_writeColour zn_cX9_writeColour rfl)
theorem dX9_writeColour_60 : decode cX9_writeColour 60 = .ok (.getfield 16, 3) := zo_180 (b1 := 0) (b2 := 16) (zkb3 zk_cX9_writeColour zn_cX9_writeColour rfl) rfl
theorem dX9_writeColour_63 : decode cX9_writeColour 63 = .ok (.bipush 32, 2) := zo_16 (b1 := 32) (zkb2 zk_cX9_writeColour zn_cX9_writeColour rfl) rfl
theorem dX9_writeColour_65 : decode cX9_writeColour 65 = .ok (.iload_n 1, 1) := zo_27 (zkb zk_cX9_writeColour zn_cX9_writeColour rfl)
theorem dX9_writeColour_66 : decode cX9_writeColour 66 = .ok (.bipush 63, 2) := zo_16 (b1 := 63) (zkb2 zk_cX9_writeColour zn_cX9_writeColour rfl) rfl
theorem dX9_writeColour_68 : decode cX9_writeColour 68 = .ok (.iand, 1) := zo_126 (zkb zk_cX9_writeColour zn_cX9_writeColour rfl)
theorem dX9_writeColour_69 : decode cX9_writeColour 69 = .ok (.iadd, 1) := zo_96 (zkb zk_cX9_writeColour zn_cX9_writeColour rfl)
theorem dX9_writeColour_70 : decode cX9_writeColour 70 = .ok (.iload_n 2, 1) := zo_28 (zkb zk_cX9_writeColour zn_cX9_writeColour rfl)
theorem dX9_writeColour_71 : decode cX9_writeColour 71 = .ok (.iastore, 1) := zo_79 (zkb zk_cX9_writeColour zn_cX9_writeColour rfl)
theorem dX9_writeColour_72 : decode cX9_writeColour 72 = .ok (.return_, 1) := zo_177 (zkb zk_cX9_writeColour zn_cX9_writeColour rfl)
noncomputable def kn_cX9_vCount : Nat := 0xac7eff0011041504366406100500a739100800991c2e14101000b42a1600a72e14101000b42a0d00a21d2e14101000b42a3e1a00b42a0700a70b01110900991c1200a73eeb00110600a70301110900991c2300a73edb00110600a7f300110900991c2b000000e00000001a000000c0000000020000003c00000000ab1b3d030400a7040700a03901111a00b42a3c3200b62a
theorem zk_cX9_vCount : zkd cX9_vCount.data.toList kn_cX9_vCount = true := by decide +kernel
theorem zn_cX9_vCount : cX9_vCount.data.toList.length = 146 := by decide +kernel
theorem dX9_vCount_0 : decode cX9_vCount 0 = .ok (.aload_n 0, 1) := zo_42 (zkb zk_cX9_vCount zn_cX9_vCount rfl)
theorem dX9_vCount_1 : decode cX9_vCount 1 = .ok (.invokevirtual 50, 3) := zo_182 (b1 := 0) (b2 := 50) (zkb3 zk_cX9_vCount zn_cX9_vCount rfl) rfl
theorem dX9_vCount_4 : decode cX9_vCount 4 = .ok (.istore_n 1, 1) := zo_60 (zkb zk_cX9_vCount zn_cX9_vCount rfl)
theorem dX9_vCount_5 : decode cX9_vCount 5 = .ok (.aload_n 0, 1) := zo_42 (zkb zk_cX9_vCount zn_cX9_vCount rfl)
theorem dX9_vCount_6 : decode cX9_vCount 6 = .ok (.getfield 26, 3) := zo_180 (b1 := 0) (b2 := 26) (zkb3 zk_cX9_vCount zn_cX9_vCount rfl) rfl
theorem dX9_vCount_9 : decode cX9_vCount 9 = .ok (.sipush 313, 3) := zo_17 (b1 := 1) (b2 := 57) (zkb3 zk_cX9_vCount zn_cX9_vCount rfl) rfl
theorem dX9_vCount_12 : decode cX9_vCount 12 = .ok (.if_icmp .ne 7, 3) := zo_160 (b1 := 0) (b2 := 7) (zkb3 zk_cX9_vCount zn_cX9_vCount rfl) rfl
theorem dX9_vCount_15 : decode cX9_vCount 15 = .ok (.iconst 1, 1) := zo_4 (zkb zk_cX9_vCount zn_cX9_vCount rfl)
theorem dX9_vCount_16 : decode cX9_vCount 16 = .ok (.goto 4, 3) := zo_167 (b1 := 0) (b2 := 4) (zkb3 zk_cX9_vCount zn_cX9_vCount rfl) rfl
theorem dX9_vCount_19 : decode cX9_vCount 19 = .ok (.iconst 0, 1) := zo_3 (zkb zk_cX9_vCount zn_cX9_vCount rfl)
theorem dX9_vCount_20 : decode cX9_vCount 20 = .ok (.istore_n 2, 1) := zo_61 (zkb zk_cX9_vCount zn_cX9_vCount rfl)
theorem dX9_vCount_21 : decode cX9_vCount 21 = .ok (.iload_n 1, 1) := zo_27 (zkb zk_cX9_vCount zn_cX9_vCount rfl)
theorem dX9_vCount_22 : decode cX9_vCount 22 = .ok (.lookupswitch 60 #[(192, 26), (224, 43)], 26) := by decide +kernel
theorem dX9_vCount_48 : decode cX9_vCount 48 = .ok (.iload_n 2, 1) := zo_28 (zkb zk_cX9_vCount zn_cX9_vCount rfl)
theorem dX9_vCount_49 : decode cX9_vCount 49 = .ok (.ifCond .eq 9, 3) := zo_153 (b1 := 0) (b2 := 9) (zkb3 zk_cX9_vCount zn_cX9_vCount rfl) rfl
theorem dX9_vCount_52 : decode cX9_vCount 52 = .ok (.sipush 243, 3) := zo_17 (b1 := 0) (b2 := 243) (zkb3 zk_cX9_vCount zn_cX9_vCount rfl) rfl
theorem dX9_vCount_55 : decode cX9_vCount 55 = .ok (.goto 6, 3) := zo_167 (b1 := 0) (b2 := 6) (zkb3 zk_cX9_vCount zn_cX9_vCount rfl) rfl
theorem dX9_vCount_58 : decode cX9_vCount 58 = .ok (.sipush 219, 3) := zo_17 (b1 := 0) (b2 := 219) (zkb3 zk_cX9_vCount zn_cX9_vCount rfl) rfl
theorem dX9_vCount_61 : decode cX9_vCount 61 = .ok (.istore_n 3, 1) := zo_62 (zkb zk_cX9_vCount zn_cX9_vCount rfl)
theorem dX9_vCount_62 : decode cX9_vCount 62 = .ok (.goto 35, 3) := zo_167 (b1 := 0) (b2 := 35) (zkb3 zk_cX9_vCount zn_cX9_vCount rfl) rfl
theorem dX9_vCount_65 : decode cX9_vCount 65 = .ok (.iload_n 2, 1) := zo_28 (zkb zk_cX9_vCount zn_cX9_vCount rfl)
theorem dX9_vCount_66 : decode cX9_vCount 66 = .ok (.ifCond .eq 9, 3) := zo_153 (b1 := 0) (b2 := 9) (zkb3 zk_cX9_vCount zn_cX9_vCount rfl) rfl
theorem dX9_vCount_69 : decode cX9_vCount 69 = .ok (.sipush 259, 3) := zo_17 (b1 := 1) (b2 := 3) (zkb3 zk_cX9_vCount zn_cX9_vCount rfl) rfl
theorem dX9_vCount_72 : decode cX9_vCount 72 = .ok (.goto 6, 3) := zo_167 (b1 := 0) (b2 := 6) (zkb3 zk_cX9_vCount zn_cX9_vCount rfl) rfl
theorem dX9_vCount_75 : decode cX9_vCount 75 = .ok (.sipush 235, 3) := zo_17 (b1 := 0) (b2 := 235) (zkb3 zk_cX9_vCount zn_cX9_vCount rfl) rfl
theorem dX9_vCount_78 : decode cX9_vCount 78 = .ok (.istore_n 3, 1) := zo_62 (zkb zk_cX9_vCount zn_cX9_vCount rfl)
theorem dX9_vCount_79 : decode cX9_vCount 79 = .ok (.goto 18, 3) := zo_167 (b1 := 0) (b2 := 18) (zkb3 zk_cX9_vCount zn_cX9_vCount rfl) rfl
theorem dX9_vCount_82 : decode cX9_vCount 82 = .ok (.iload_n 2, 1) := zo_28 (zkb zk_cX9_vCount zn_cX9_vCount rfl)
theorem dX9_vCount_83 : decode cX9_vCount 83 = .ok (.ifCond .eq 9, 3) := zo_153 (b1 := 0) (b2 := 9) (zkb3 zk_cX9_vCount zn_cX9_vCount rfl) rfl
theorem dX9_vCount_86 : decode cX9_vCount 86 = .ok (.sipush 267, 3) := zo_17 (b1 := 1) (b2 := 11) (zkb3 zk_cX9_vCount zn_cX9_vCount rfl) rfl
theorem dX9_vCount_89 : decode cX9_vCount 89 = .ok (.goto 7, 3) := zo_167 (b1 := 0) (b2 := 7) (zkb3 zk_cX9_vCount zn_cX9_vCount rfl) rfl
theorem dX9_vCount_92 : decode cX9_vCount 92 = .ok (.aload_n 0, 1) := zo_42 (zkb zk_cX9_vCount zn_cX9_vCount rfl)
theorem dX9_vCount_93 : decode cX9_vCount 93 = .ok (.getfield 26, 3) := zo_180 (b1 := 0) (b2 := 26) (zkb3 zk_cX9_vCount zn_cX9_vCount rfl) rfl
theorem dX9_vCount_96 : decode cX9_vCount 96 = .ok (.istore_n 3, 1) := zo_62 (zkb zk_cX9_vCount zn_cX9_vCount rfl)
theorem dX9_vCount_97 : decode cX9_vCount 97 = .ok (.aload_n 0, 1) := zo_42 (zkb zk_cX9_vCount zn_cX9_vCount rfl)
theorem dX9_vCount_98 : decode cX9_vCount 98 = .ok (.getfield 16, 3) := zo_180 (b1 := 0) (b2 := 16) (zkb3 zk_cX9_vCount zn_cX9_vCount rfl) rfl
theorem dX9_vCount_101 : decode cX9_vCount 101 = .ok (.bipush 20, 2) := zo_16 (b1 := 20) (zkb2 zk_cX9_vCount zn_cX9_vCount rfl) rfl
theorem dX9_vCount_103 : decode cX9_vCount 103 = .ok (.iaload, 1) := zo_46 (zkb zk_cX9_vCount zn_cX9_vCount rfl)
theorem dX9_vCount_104 : decode cX9_vCount 104 = .ok (.iload_n 3, 1) := zo_29 (zkb zk_cX9_vCount zn_cX9_vCount rfl)
theorem dX9_vCount_105 : decode cX9_vCount 105 = .ok (.if_icmp .ge 13, 3) := zo_162 (b1 := 0) (b2 := 13) (zkb3 zk_cX9_vCount zn_cX9_vCount rfl) rfl
theorem dX9_vCount_108 : decode cX9_vCount 108 = .ok (.aload_n 0, 1) := zo_42 (zkb zk_cX9_vCount zn_cX9_vCount rfl)
theorem dX9_vCount_109 : decode cX9_vCount 109 = .ok (.getfield 16, 3) := zo_180 (b1 := 0) (b2 := 16) (zkb3 zk_cX9_vCount zn_cX9_vCount rfl) rfl
theorem dX9_vCount_112 : decode cX9_vCount 112 = .ok (.bipush 20, 2) := zo_16 (b1 := 20) (zkb2 zk_cX9_vCount zn_cX9_vCount rfl) rfl
theorem dX9_vCount_114 : decode cX9_vCount 114 = .ok (.iaload, 1) := zo_46 (zkb zk_cX9_vCount zn_cX9_vCount rfl)
theorem dX9_vCount_115 : decode cX9_vCount 115 = .ok (.goto 22, 3) := zo_167 (b1 := 0) (b2 := 22) (zkb3 zk_cX9_vCount zn_cX9_vCount rfl) rfl
theorem dX9_vCount_118 : decode cX9_vCount 118 = .ok (.aload_n 0, 1) := zo_42 (zkb zk_cX9_vCount zn_cX9_vCount rfl)
theorem dX9_vCount_119 : decode cX9_vCount 119 = .ok (.getfield 16, 3) := zo_180 (b1 := 0) (b2 := 16) (zkb3 zk_cX9_vCount zn_cX9_vCount rfl) rfl
theorem dX9_vCount_122 : decode cX9_vCount 122 = .ok (.bipush 20, 2) := zo_16 (b1 := 20) (zkb2 zk_cX9_vCount zn_cX9_vCount rfl) rfl
theorem dX9_vCount_124 : decode cX9_vCount 124 = .ok (.iaload, 1) := zo_46 (zkb zk_cX9_vCount zn_cX9_vCount rfl)
theorem dX9_vCount_125 : decode cX9_vCount 125 = .ok (.iload_n 2, 1) := zo_28 (zkb zk_cX9_vCount zn_cX9_vCount rfl)
theorem dX9_vCount_126 : decode cX9_vCount 126 = .ok (.ifCond .eq 8, 3) := zo_153 (b1 := 0) (b2 := 8) (zkb3 zk_cX9_vCount zn_cX9_vCount rfl) rfl
theorem dX9_vCount_129 : decode cX9_vCount 129 = .ok (.bipush 57, 2) := zo_16 (b1 := 57) (zkb2 zk_cX9_vCount zn_cX9_vCount rfl) rfl
theorem dX9_vCount_131 : decode cX9_vCount 131 = .ok (.goto 5, 3) := zo_167 (b1 := 0) (b2 := 5) (zkb3 zk_cX9_vCount zn_cX9_vCount rfl) rfl
theorem dX9_vCount_134 : decode cX9_vCount 134 = .ok (.bipush 6, 2) := zo_16 (b1 := 6) (zkb2 zk_cX9_vCount zn_cX9_vCount rfl) rfl
theorem dX9_vCount_136 : decode cX9_vCount 136 = .ok (.isub, 1) := zo_100 (zkb zk_cX9_vCount zn_cX9_vCount rfl)
theorem dX9_vCount_137 : decode cX9_vCount 137 = .ok (.istore 4, 2) := zo_54 (b1 := 4) (zkb2 zk_cX9_vCount zn_cX9_vCount rfl)
theorem dX9_vCount_139 : decode cX9_vCount 139 = .ok (.iload 4, 2) := zo_21 (b1 := 4) (zkb2 zk_cX9_vCount zn_cX9_vCount rfl)
theorem dX9_vCount_141 : decode cX9_vCount 141 = .ok (.sipush 255, 3) := zo_17 (b1 := 0) (b2 := 255) (zkb3 zk_cX9_vCount zn_cX9_vCount rfl) rfl
theorem dX9_vCount_144 : decode cX9_vCount 144 = .ok (.iand, 1) := zo_126 (zkb zk_cX9_vCount zn_cX9_vCount rfl)
theorem dX9_vCount_145 : decode cX9_vCount 145 = .ok (.ireturn, 1) := zo_172 (zkb zk_cX9_vCount zn_cX9_vCount rfl)
noncomputable def kn_cX10_take : Nat := 0xb14f7e061c40100900b42a0d00a74f1c7e3f102e44100900b42a0900b42a1600a0f100111b2700a74f7e3f101c44100900b42a1100a0f000111b
theorem zk_cX10_take : zkd cX10_take.data.toList kn_cX10_take = true := by decide +kernel
theorem zn_cX10_take : cX10_take.data.toList.length = 58 := by decide +kernel
theorem dX10_take_0 : decode cX10_take 0 = .ok (.iload_n 1, 1) := zo_27 (zkb zk_cX10_take zn_cX10_take rfl)
theorem dX10_take_1 : decode cX10_take 1 = .ok (.sipush 240, 3) := zo_17 (b1 := 0) (b2 := 240) (zkb3 zk_cX10_take zn_cX10_take rfl) rfl
theorem dX10_take_4 : decode cX10_take 4 = .ok (.if_icmp .ne 17, 3) := zo_160 (b1 := 0) (b2 := 17) (zkb3 zk_cX10_take zn_cX10_take rfl) rfl
theorem dX10_take_7 : decode cX10_take 7 = .ok (.aload_n 0, 1) := zo_42 (zkb zk_cX10_take zn_cX10_take rfl)
theorem dX10_take_8 : decode cX10_take 8 = .ok (.getfield 9, 3) := zo_180 (b1 := 0) (b2 := 9) (zkb3 zk_cX10_take zn_cX10_take rfl) rfl
theorem dX10_take_11 : decode cX10_take 11 = .ok (.bipush 68, 2) := zo_16 (b1 := 68) (zkb2 zk_cX10_take zn_cX10_take rfl) rfl
theorem dX10_take_13 : decode cX10_take 13 = .ok (.iload_n 2, 1) := zo_28 (zkb zk_cX10_take zn_cX10_take rfl)
theorem dX10_take_14 : decode cX10_take 14 = .ok (.bipush 63, 2) := zo_16 (b1 := 63) (zkb2 zk_cX10_take zn_cX10_take rfl) rfl
theorem dX10_take_16 : decode cX10_take 16 = .ok (.iand, 1) := zo_126 (zkb zk_cX10_take zn_cX10_take rfl)
theorem dX10_take_17 : decode cX10_take 17 = .ok (.iastore, 1) := zo_79 (zkb zk_cX10_take zn_cX10_take rfl)
theorem dX10_take_18 : decode cX10_take 18 = .ok (.goto 39, 3) := zo_167 (b1 := 0) (b2 := 39) (zkb3 zk_cX10_take zn_cX10_take rfl) rfl
theorem dX10_take_21 : decode cX10_take 21 = .ok (.iload_n 1, 1) := zo_27 (zkb zk_cX10_take zn_cX10_take rfl)
theorem dX10_take_22 : decode cX10_take 22 = .ok (.sipush 241, 3) := zo_17 (b1 := 0) (b2 := 241) (zkb3 zk_cX10_take zn_cX10_take rfl) rfl
theorem dX10_take_25 : decode cX10_take 25 = .ok (.if_icmp .ne 22, 3) := zo_160 (b1 := 0) (b2 := 22) (zkb3 zk_cX10_take zn_cX10_take rfl) rfl
theorem dX10_take_28 : decode cX10_take 28 = .ok (.aload_n 0, 1) := zo_42 (zkb zk_cX10_take zn_cX10_take rfl)
theorem dX10_take_29 : decode cX10_take 29 = .ok (.getfield 9, 3) := zo_180 (b1 := 0) (b2 := 9) (zkb3 zk_cX10_take zn_cX10_take rfl) rfl
theorem dX10_take_32 : decode cX10_take 32 = .ok (.aload_n 0, 1) := zo_42 (zkb zk_cX10_take zn_cX10_take rfl)
theorem dX10_take_33 : decode cX10_take 33 = .ok (.getfield 9, 3) := zo_180 (b1 := 0) (b2 := 9) (zkb3 zk_cX10_take zn_cX10_take rfl) rfl
theorem dX10_take_36 : decode cX10_take 36 = .ok (.bipush 68, 2) := zo_16 (b1 := 68) (zkb2 zk_cX10_take zn_cX10_take rfl) rfl
theorem dX10_take_38 : decode cX10_take 38 = .ok (.iaload, 1) := zo_46 (zkb zk_cX10_take zn_cX10_take rfl)
theorem dX10_take_39 : decode cX10_take 39 = .ok (.bipush 63, 2) := zo_16 (b1 := 63) (zkb2 zk_cX10_take zn_cX10_take rfl) rfl
theorem dX10_take_41 : decode cX10_take 41 = .ok (.iand, 1) := zo_126 (zkb zk_cX10_take zn_cX10_take rfl)
theorem dX10_take_42 : decode cX10_take 42 = .ok (.iload_n 2, 1) := zo_28 (zkb zk_cX10_take zn_cX10_take rfl)
theorem dX10_take_43 : decode cX10_take 43 = .ok (.iastore, 1) := zo_79 (zkb zk_cX10_take zn_cX10_take rfl)
theorem dX10_take_44 : decode cX10_take 44 = .ok (.goto 13, 3) := zo_167 (b1 := 0) (b2 := 13) (zkb3 zk_cX10_take zn_cX10_take rfl) rfl
theorem dX10_take_47 : decode cX10_take 47 = .ok (.aload_n 0, 1) := zo_42 (zkb zk_cX10_take zn_cX10_take rfl)
theorem dX10_take_48 : decode cX10_take 48 = .ok (.getfield 9, 3) := zo_180 (b1 := 0) (b2 := 9) (zkb3 zk_cX10_take zn_cX10_take rfl) rfl
theorem dX10_take_51 : decode cX10_take 51 = .ok (.bipush 64, 2) := zo_16 (b1 := 64) (zkb2 zk_cX10_take zn_cX10_take rfl) rfl
theorem dX10_take_53 : decode cX10_take 53 = .ok (.iload_n 2, 1) := zo_28 (zkb zk_cX10_take zn_cX10_take rfl)
theorem dX10_take_54 : decode cX10_take 54 = .ok (.iconst 3, 1) := zo_6 (zkb zk_cX10_take zn_cX10_take rfl)
theorem dX10_take_55 : decode cX10_take 55 = .ok (.iand, 1) := zo_126 (zkb zk_cX10_take zn_cX10_take rfl)
theorem dX10_take_56 : decode cX10_take 56 = .ok (.iastore, 1) := zo_79 (zkb zk_cX10_take zn_cX10_take rfl)
theorem dX10_take_57 : decode cX10_take 57 = .ok (.return_, 1) := zo_177 (zkb zk_cX10_take zn_cX10_take rfl)
noncomputable def kn_cJ6_bitCount_0f7a4 : Nat := 0xac7e3f101a3b607c10101a1a3b607c08101a1a3b7e0b0113607c071a1a3b607e0a01137c051a7e0a01131a3b647e0901137c041a1a
theorem zk_cJ6_bitCount_0f7a4 : zkd cJ6_bitCount_0f7a4.data.toList kn_cJ6_bitCount_0f7a4 = true := by decide +kernel
theorem zn_cJ6_bitCount_0f7a4 : cJ6_bitCount_0f7a4.data.toList.length = 53 := by decide +kernel
theorem dJ6_bitCount_0f7a4_0 : decode cJ6_bitCount_0f7a4 0 = .ok (.iload_n 0, 1) := zo_26 (zkb zk_cJ6_bitCount_0f7a4 zn_cJ6_bitCount_0f7a4 rfl)
theorem dJ6_bitCount_0f7a4_1 : decode cJ6_bitCount_0f7a4 1 = .ok (.iload_n 0, 1) := zo_26 (zkb zk_cJ6_bitCount_0f7a4 zn_cJ6_bitCount_0f7a4 rfl)
theorem dJ6_bitCount_0f7a4_2 : decode cJ6_bitCount_0f7a4 2 = .ok (.iconst 1, 1) := zo_4 (zkb zk_cJ6_bitCount_0f7a4 zn_cJ6_bitCount_0f7a4 rfl)
theorem dJ6_bitCount_0f7a4_3 : decode cJ6_bitCount_0f7a4 3 = .ok (.iushr, 1) := zo_124 (zkb zk_cJ6_bitCount_0f7a4 zn_cJ6_bitCount_0f7a4 rfl)
theorem dJ6_bitCount_0f7a4_4 : decode cJ6_bitCount_0f7a4 4 = .ok (.ldc_w 265, 3) := zo_19 (b1 := 1) (b2 := 9) (zkb3 zk_cJ6_bitCount_0f7a4 zn_cJ6_bitCount_0f7a4 rfl) rfl
theorem dJ6_bitCount_0f7a4_7 : decode cJ6_bitCount_0f7a4 7 = .ok (.iand, 1) := zo_126 (zkb zk_cJ6_bitCount_0f7a4 zn_cJ6_bitCount_0f7a4 rfl)
theorem dJ6_bitCount_0f7a4_8 : decode cJ6_bitCount_0f7a4 8 = .ok (.isub, 1) := zo_100 (zkb zk_cJ6_bitCount_0f7a4 zn_cJ6_bitCount_0f7a4 rfl)
theorem dJ6_bitCount_0f7a4_9 : decode cJ6_bitCount_0f7a4 9 = .ok (.istore_n 0, 1) := zo_59 (zkb zk_cJ6_bitCount_0f7a4 zn_cJ6_bitCount_0f7a4 rfl)
theorem dJ6_bitCount_0f7a4_10 : decode cJ6_bitCount_0f7a4 10 = .ok (.iload_n 0, 1) := zo_26 (zkb zk_cJ6_bitCount_0f7a4 zn_cJ6_bitCount_0f7a4 rfl)
theorem dJ6_bitCount_0f7a4_11 : decode cJ6_bitCount_0f7a4 11 = .ok (.ldc_w 266, 3) := zo_19 (b1 := 1) (b2 := 10) (zkb3 zk_cJ6_bitCount_0f7a4 zn_cJ6_bitCount_0f7a4 rfl) rfl
theorem dJ6_bitCount_0f7a4_14 : decode cJ6_bitCount_0f7a4 14 = .ok (.iand, 1) := zo_126 (zkb zk_cJ6_bitCount_0f7a4 zn_cJ6_bitCount_0f7a4 rfl)
theorem dJ6_bitCount_0f7a4_15 : decode cJ6_bitCount_0f7a4 15 = .ok (.iload_n 0, 1) := zo_26 (zkb zk_cJ6_bitCount_0f7a4 zn_cJ6_bitCount_0f7a4 rfl)
theorem dJ6_bitCount_0f7a4_16 : decode cJ6_bitCount_0f7a4 16 = .ok (.iconst 2, 1) := zo_5 (zkb zk_cJ6_bitCount_0f7a4 zn_cJ6_bitCount_0f7a4 rfl)
theorem dJ6_bitCount_0f7a4_17 : decode cJ6_bitCount_0f7a4 17 = .ok (.iushr, 1) := zo_124 (zkb zk_cJ6_bitCount_0f7a4 zn_cJ6_bitCount_0f7a4 rfl)
theorem dJ6_bitCount_0f7a4_18 : decode cJ6_bitCount_0f7a4 18 = .ok (.ldc_w 266, 3) := zo_19 (b1 := 1) (b2 := 10) (zkb3 zk_cJ6_bitCount_0f7a4 zn_cJ6_bitCount_0f7a4 rfl) rfl
theorem dJ6_bitCount_0f7a4_21 : decode cJ6_bitCount_0f7a4 21 = .ok (.iand, 1) := zo_126 (zkb zk_cJ6_bitCount_0f7a4 zn_cJ6_bitCount_0f7a4 rfl)
theorem dJ6_bitCount_0f7a4_22 : decode cJ6_bitCount_0f7a4 22 = .ok (.iadd, 1) := zo_96 (zkb zk_cJ6_bitCount_0f7a4 zn_cJ6_bitCount_0f7a4 rfl)
theorem dJ6_bitCount_0f7a4_23 : decode cJ6_bitCount_0f7a4 23 = .ok (.istore_n 0, 1) := zo_59 (zkb zk_cJ6_bitCount_0f7a4 zn_cJ6_bitCount_0f7a4 rfl)
theorem dJ6_bitCount_0f7a4_24 : decode cJ6_bitCount_0f7a4 24 = .ok (.iload_n 0, 1) := zo_26 (zkb zk_cJ6_bitCount_0f7a4 zn_cJ6_bitCount_0f7a4 rfl)
theorem dJ6_bitCount_0f7a4_25 : decode cJ6_bitCount_0f7a4 25 = .ok (.iload_n 0, 1) := zo_26 (zkb zk_cJ6_bitCount_0f7a4 zn_cJ6_bitCount_0f7a4 rfl)
theorem dJ6_bitCount_0f7a4_26 : decode cJ6_bitCount_0f7a4 26 = .ok (.iconst 4, 1) := zo_7 (zkb zk_cJ6_bitCount_0f7a4 zn_cJ6_bitCount_0f7a4 rfl)
theorem dJ6_bitCount_0f7a4_27 : decode cJ6_bitCount_0f7a4 27 = .ok (.iushr, 1) := zo_124 (zkb zk_cJ6_bitCount_0f7a4 zn_cJ6_bitCount_0f7a4 rfl)
theorem dJ6_bitCount_0f7a4_28 : decode cJ6_bitCount_0f7a4 28 = .ok (.iadd, 1) := zo_96 (zkb zk_cJ6_bitCount_0f7a4 zn_cJ6_bitCount_0f7a4 rfl)
theorem dJ6_bitCount_0f7a4_29 : decode cJ6_bitCount_0f7a4 29 = .ok (.ldc_w 267, 3) := zo_19 (b1 := 1) (b2 := 11) (zkb3 zk_cJ6_bitCount_0f7a4 zn_cJ6_bitCount_0f7a4 rfl) rfl
theorem dJ6_bitCount_0f7a4_32 : decode cJ6_bitCount_0f7a4 32 = .ok (.iand, 1) := zo_126 (zkb zk_cJ6_bitCount_0f7a4 zn_cJ6_bitCount_0f7a4 rfl)
theorem dJ6_bitCount_0f7a4_33 : decode cJ6_bitCount_0f7a4 33 = .ok (.istore_n 0, 1) := zo_59 (zkb zk_cJ6_bitCount_0f7a4 zn_cJ6_bitCount_0f7a4 rfl)
theorem dJ6_bitCount_0f7a4_34 : decode cJ6_bitCount_0f7a4 34 = .ok (.iload_n 0, 1) := zo_26 (zkb zk_cJ6_bitCount_0f7a4 zn_cJ6_bitCount_0f7a4 rfl)
theorem dJ6_bitCount_0f7a4_35 : decode cJ6_bitCount_0f7a4 35 = .ok (.iload_n 0, 1) := zo_26 (zkb zk_cJ6_bitCount_0f7a4 zn_cJ6_bitCount_0f7a4 rfl)
theorem dJ6_bitCount_0f7a4_36 : decode cJ6_bitCount_0f7a4 36 = .ok (.bipush 8, 2) := zo_16 (b1 := 8) (zkb2 zk_cJ6_bitCount_0f7a4 zn_cJ6_bitCount_0f7a4 rfl) rfl
theorem dJ6_bitCount_0f7a4_38 : decode cJ6_bitCount_0f7a4 38 = .ok (.iushr, 1) := zo_124 (zkb zk_cJ6_bitCount_0f7a4 zn_cJ6_bitCount_0f7a4 rfl)
theorem dJ6_bitCount_0f7a4_39 : decode cJ6_bitCount_0f7a4 39 = .ok (.iadd, 1) := zo_96 (zkb zk_cJ6_bitCount_0f7a4 zn_cJ6_bitCount_0f7a4 rfl)
theorem dJ6_bitCount_0f7a4_40 : decode cJ6_bitCount_0f7a4 40 = .ok (.istore_n 0, 1) := zo_59 (zkb zk_cJ6_bitCount_0f7a4 zn_cJ6_bitCount_0f7a4 rfl)
theorem dJ6_bitCount_0f7a4_41 : decode cJ6_bitCount_0f7a4 41 = .ok (.iload_n 0, 1) := zo_26 (zkb zk_cJ6_bitCount_0f7a4 zn_cJ6_bitCount_0f7a4 rfl)
theorem dJ6_bitCount_0f7a4_42 : decode cJ6_bitCount_0f7a4 42 = .ok (.iload_n 0, 1) := zo_26 (zkb zk_cJ6_bitCount_0f7a4 zn_cJ6_bitCount_0f7a4 rfl)
theorem dJ6_bitCount_0f7a4_43 : decode cJ6_bitCount_0f7a4 43 = .ok (.bipush 16, 2) := zo_16 (b1 := 16) (zkb2 zk_cJ6_bitCount_0f7a4 zn_cJ6_bitCount_0f7a4 rfl) rfl
theorem dJ6_bitCount_0f7a4_45 : decode cJ6_bitCount_0f7a4 45 = .ok (.iushr, 1) := zo_124 (zkb zk_cJ6_bitCount_0f7a4 zn_cJ6_bitCount_0f7a4 rfl)
theorem dJ6_bitCount_0f7a4_46 : decode cJ6_bitCount_0f7a4 46 = .ok (.iadd, 1) := zo_96 (zkb zk_cJ6_bitCount_0f7a4 zn_cJ6_bitCount_0f7a4 rfl)
theorem dJ6_bitCount_0f7a4_47 : decode cJ6_bitCount_0f7a4 47 = .ok (.istore_n 0, 1) := zo_59 (zkb zk_cJ6_bitCount_0f7a4 zn_cJ6_bitCount_0f7a4 rfl)
theorem dJ6_bitCount_0f7a4_48 : decode cJ6_bitCount_0f7a4 48 = .ok (.iload_n 0, 1) := zo_26 (zkb zk_cJ6_bitCount_0f7a4 zn_cJ6_bitCount_0f7a4 rfl)
theorem dJ6_bitCount_0f7a4_49 : decode cJ6_bitCount_0f7a4 49 = .ok (.bipush 63, 2) := zo_16 (b1 := 63) (zkb2 zk_cJ6_bitCount_0f7a4 zn_cJ6_bitCount_0f7a4 rfl) rfl
theorem dJ6_bitCount_0f7a4_51 : decode cJ6_bitCount_0f7a4 51 = .ok (.iand, 1) := zo_126 (zkb zk_cJ6_bitCount_0f7a4 zn_cJ6_bitCount_0f7a4 rfl)
theorem dJ6_bitCount_0f7a4_52 : decode cJ6_bitCount_0f7a4 52 = .ok (.ireturn, 1) := zo_172 (zkb zk_cJ6_bitCount_0f7a4 zn_cJ6_bitCount_0f7a4 rfl)
noncomputable def rmX4_readOddPads : Room := { frames := 1, cells := 0, slots := 0, locals := 23 }
noncomputable def wzX4_readOddPads : List Cond := .code yX4_readOddPads cX4_readOddPads 2 (some .int) :: wsL_law
theorem hinX4_readOddPads_X40 : ∀ w ∈ wsX40, w ∈ wzX4_readOddPads := fun w h => List.mem_cons_of_mem _ (inlX4 w h)
noncomputable def fX4_readOddPads_57  (σ : zSt) (s0 : Int32) : Option (zSt × Int32) :=
  some (σ, s0)
noncomputable def fX4_readOddPads  (σ : zSt)  : Option (zSt × Int32) :=
  zck (zin 8 12) (
  zbi (fX4_lines σ ) (fun σ1 v2 =>
  zbv ((((((zgi σ 34 (8 : Int32).toNatClampNeg) >>> ((2 : Int32) &&& 31)) ^^^ (-1)) &&& 15) ||| 48) ||| (v2 <<< ((6 : Int32) &&& 31))) (fun v3 =>
  zck (zin 0 12) (
  if ((zgi σ1 34 (0 : Int32).toNatClampNeg) &&& 4) = 0 then zck (zin 0 12) (
  fX4_readOddPads_57 σ1 ((v3 &&& (-9)) ||| (((zgi σ1 34 (0 : Int32).toNatClampNeg) &&& 64) >>> ((3 : Int32) &&& 31)))) else
  fX4_readOddPads_57 σ1 v3))))
set_option maxRecDepth 20000 in
set_option maxHeartbeats 4000000 in
theorem bX4_readOddPads_57 {st : Nat → Nat} {p : Program} {l : Launch} {e : Env} {s : State} {m : MethodId} {args : Array Value} {below : List Frame} {meth : Method} {c : Code} {D : va_G} {A : Nat → Prop} {ad : Nat → Nat} {cy : Nat → ClassId} (hC : zC p m c cX4_readOddPads 2 s args wzX4_readOddPads RX4 meth (some .int))  {res : zSt × Int32} {H : Heap} {locs : List Loc} {σ : zSt} {ls : Array Slot} {s0 : Int32} (hI : zI st D (tC cy) (wC ad cy σ) A s H locs) (hl : lv_has ls 2 []) (hf : fX4_readOddPads_57  σ s0 = some res) : W p l e rmX4_readOddPads s m args below meth c H locs 0 0 (zQi below args s D (tC cy) (wC ad cy) A res) (F0 m 57 ls [.int s0]) := by
  have hx := hC.1
  have hb := hC.2.1
  unfold fX4_readOddPads_57 at hf
  exact z_ireturn hC hI hf dX4_readOddPads_57
set_option maxRecDepth 20000 in
set_option maxHeartbeats 4000000 in
theorem bX4_readOddPads {st : Nat → Nat} {p : Program} {l : Launch} {e : Env} {s : State} {m : MethodId} {args : Array Value} {below : List Frame} {meth : Method} {c : Code} {D : va_G} {A : Nat → Prop} {ad : Nat → Nat} {cy : Nat → ClassId} (hC : zC p m c cX4_readOddPads 2 s args wzX4_readOddPads RX4 meth (some .int))  {res : zSt × Int32} {H : Heap} {locs : List Loc} {σ : zSt} {ls : Array Slot}  (hI : zI st D (tC cy) (wC ad cy σ) A s H locs) (hl : lv_has ls 2 [(0, .ref (ad 6))]) (hf : fX4_readOddPads  σ  = some res) : W p l e rmX4_readOddPads s m args below meth c H locs 0 0 (zQi below args s D (tC cy) (wC ad cy) A res) (F0 m 0 ls []) := by
  have hx := hC.1
  have hb := hC.2.1
  unfold fX4_readOddPads at hf
  refine lv_aload_n hx hb dX4_readOddPads_0 rfl (lv_at hl 0 rfl) ?_
  refine z_get hC hI hinX4_readOddPads_X40 6 (wC_e6 ad cy σ) rfl 4 (by decide) (List.mem_cons_of_mem _ zw6_15) rfl dX4_readOddPads_1 ?_
  refine lv_bipush (v := 8) hx hb dX4_readOddPads_4 (by decide) ?_
  obtain ⟨q, hf⟩ := zck_use hf
  refine z_iald hC hI 34 21 (wC_e34 ad cy σ) (tC_t34 cy) q dX4_readOddPads_6 ?_
  refine lv_iconst (v := 2) hx hb dX4_readOddPads_7 (by decide) ?_
  refine lv_ishr hx hb dX4_readOddPads_8 ?_
  refine lv_iconst (v := (-1)) hx hb dX4_readOddPads_9 (by decide) ?_
  refine lv_ixor hx hb dX4_readOddPads_10 ?_
  refine lv_bipush (v := 15) hx hb dX4_readOddPads_11 (by decide) ?_
  refine lv_iand hx hb dX4_readOddPads_13 ?_
  refine lv_bipush (v := 48) hx hb dX4_readOddPads_14 (by decide) ?_
  refine lv_ior hx hb dX4_readOddPads_16 ?_
  refine lv_aload_n hx hb dX4_readOddPads_17 rfl (lv_at hl 0 rfl) ?_
  obtain ⟨σ1, v2, g1, hf⟩ := zbi_use hf
  refine z_callVi (As := []) (rest := [.int (((((zgi σ 34 (8 : Int32).toNatClampNeg) >>> ((2 : Int32) &&& 31)) ^^^ (-1)) &&& 15) ||| 48)]) hC hI (cX4_lines_met st l D ad cy σ  _ g1) (zgV zw26_21 zw26_22 zw26_23 zw2_17 zw27_0) rfl ⟨rfl, rfl⟩ 0 hdX4_lines ⟨Nat.le_of_ble_eq_true rfl, Nat.le_of_ble_eq_true rfl⟩ rfl rfl (wC_e6 ad cy σ) rfl hl rfl (Nat.le_of_ble_eq_true rfl) dX4_readOddPads_18 ⟨Nat.zero_le _, Nat.zero_le _⟩ (fun H locs hI => ?_)
  refine lv_bipush (v := 6) hx hb dX4_readOddPads_21 (by decide) ?_
  refine lv_ishl hx hb dX4_readOddPads_23 ?_
  refine lv_ior hx hb dX4_readOddPads_24 ?_
  refine lv_topi (fun v3 ev3 => ?_)
  replace hf := zbv_use ev3 hf
  refine lv_istore_n (lv' := [(1, .int v3), (0, .ref (ad 6))]) hx hb dX4_readOddPads_25 rfl hl (by decide) rfl (fun ls hl => ?_)
  refine lv_aload_n hx hb dX4_readOddPads_26 rfl (lv_at hl 1 rfl) ?_
  refine z_get hC hI hinX4_readOddPads_X40 6 (wC_e6 ad cy σ1) rfl 4 (by decide) (List.mem_cons_of_mem _ zw6_15) rfl dX4_readOddPads_27 ?_
  refine lv_iconst (v := 0) hx hb dX4_readOddPads_30 (by decide) ?_
  obtain ⟨q, hf⟩ := zck_use hf
  refine z_iald hC hI 34 21 (wC_e34 ad cy σ1) (tC_t34 cy) q dX4_readOddPads_31 ?_
  refine lv_iconst (v := 4) hx hb dX4_readOddPads_32 (by decide) ?_
  refine lv_iand hx hb dX4_readOddPads_33 ?_
  refine lv_if_ne (tgt := 56) hx hb dX4_readOddPads_34 (by decide) (fun q => ?_) (fun q => ?_)
  · replace hf := zif_f q hf
    refine lv_iload_n hx hb dX4_readOddPads_56 rfl (lv_at hl 0 rfl) ?_
    exact bX4_readOddPads_57 hC  hI (lv_sub hl [] rfl) hf
  replace hf := zif_t q hf
  refine lv_iload_n hx hb dX4_readOddPads_37 rfl (lv_at hl 0 rfl) ?_
  refine lv_bipush (v := (-9)) hx hb dX4_readOddPads_38 (by decide) ?_
  refine lv_iand hx hb dX4_readOddPads_40 ?_
  refine lv_aload_n hx hb dX4_readOddPads_41 rfl (lv_at hl 1 rfl) ?_
  refine z_get hC hI hinX4_readOddPads_X40 6 (wC_e6 ad cy σ1) rfl 4 (by decide) (List.mem_cons_of_mem _ zw6_15) rfl dX4_readOddPads_42 ?_
  refine lv_iconst (v := 0) hx hb dX4_readOddPads_45 (by decide) ?_
  obtain ⟨q, hf⟩ := zck_use hf
  refine z_iald hC hI 34 21 (wC_e34 ad cy σ1) (tC_t34 cy) q dX4_readOddPads_46 ?_
  refine lv_bipush (v := 64) hx hb dX4_readOddPads_47 (by decide) ?_
  refine lv_iand hx hb dX4_readOddPads_49 ?_
  refine lv_iconst (v := 3) hx hb dX4_readOddPads_50 (by decide) ?_
  refine lv_ishr hx hb dX4_readOddPads_51 ?_
  refine lv_ior hx hb dX4_readOddPads_52 ?_
  refine lv_goto (tgt := 57) hx hb dX4_readOddPads_53 (by decide) ?_
  exact bX4_readOddPads_57 hC  hI (lv_sub hl [] rfl) hf
set_option maxRecDepth 20000 in
theorem cX4_readOddPads_met (st : Nat → Nat) (l : Launch) (D : va_G) (ad : Nat → Nat) (cy : Nat → ClassId) (σ : zSt)  (res : zSt × Int32) (hf : fX4_readOddPads σ  = some res) (sz : Nat) : zMi st l yX4_readOddPads wzX4_readOddPads rmX4_readOddPads [.ref (ad 6)] D (tC cy) (wC ad cy) sz σ res :=
  zMi.of (cc := cX4_readOddPads) (maxL := 2) (ret := (some .int)) (by decide) rfl (Nat.le_of_ble_eq_true rfl) (fun p e s m args below meth c hC A hI ls hl => bX4_readOddPads hC hI hl hf)
theorem hdX4_readOddPads : yX4_readOddPads.cls = RX4 ∧ yX4_readOddPads.cls ≠ "java/lang/invoke/MethodHandle" ∧ yX4_readOddPads.cls ≠ "java/lang/invoke/VarHandle" ∧ (parseMethodDescriptor yX4_readOddPads.desc).map (fun d => d.parameters.length) = some 0 := by decide +kernel
noncomputable def rmX9_readAhead : Room := { frames := 0, cells := 0, slots := 0, locals := 0 }
noncomputable def wzX9_readAhead : List Cond := .code yX9_readAhead cX9_readAhead 1 none :: wsL_law
theorem hinX9_readAhead_X90 : ∀ w ∈ wsX90, w ∈ wzX9_readAhead := fun w h => List.mem_cons_of_mem _ (inlX9 w h)
noncomputable def fX9_readAhead  (σ : zSt)  : Option (zSt) :=
  zck (zin 11 96) (
  zck (zin ((zgi σ 23 (11 : Int32).toNatClampNeg) &&& 16383) 16384) (
  zck (zin 13 96) (zbv (zsi σ 23 ((13 : Int32).toNatClampNeg) (zgi σ 21 ((zgi σ 23 (11 : Int32).toNatClampNeg) &&& 16383).toNatClampNeg)) (fun σ1 =>
  zck (zin 11 96) (
  zck (zin 11 96) (zbv (zsi σ1 23 ((11 : Int32).toNatClampNeg) (((zgi σ1 23 (11 : Int32).toNatClampNeg) + 1) &&& 16383)) (fun σ2 =>
  some σ2)))))))
set_option maxRecDepth 20000 in
set_option maxHeartbeats 4000000 in
theorem bX9_readAhead {st : Nat → Nat} {p : Program} {l : Launch} {e : Env} {s : State} {m : MethodId} {args : Array Value} {below : List Frame} {meth : Method} {c : Code} {D : va_G} {A : Nat → Prop} {ad : Nat → Nat} {cy : Nat → ClassId} (hC : zC p m c cX9_readAhead 1 s args wzX9_readAhead RX9 meth none)  {res : zSt} {H : Heap} {locs : List Loc} {σ : zSt} {ls : Array Slot}  (hI : zI st D (tC cy) (wC ad cy σ) A s H locs) (hl : lv_has ls 1 [(0, .ref (ad 2))]) (hf : fX9_readAhead  σ  = some res) : W p l e rmX9_readAhead s m args below meth c H locs 0 0 (zQu below args s D (tC cy) (wC ad cy) A res) (F0 m 0 ls []) := by
  have hx := hC.1
  have hb := hC.2.1
  unfold fX9_readAhead at hf
  refine lv_aload_n hx hb dX9_readAhead_0 rfl (lv_at hl 0 rfl) ?_
  refine z_get hC hI hinX9_readAhead_X90 2 (wC_e2 ad cy σ) rfl 4 (by decide) (List.mem_cons_of_mem _ zw4_8) rfl dX9_readAhead_1 ?_
  refine lv_bipush (v := 13) hx hb dX9_readAhead_4 (by decide) ?_
  refine lv_aload_n hx hb dX9_readAhead_6 rfl (lv_at hl 0 rfl) ?_
  refine z_get hC hI hinX9_readAhead_X90 2 (wC_e2 ad cy σ) rfl 2 (by decide) (List.mem_cons_of_mem _ zw4_6) rfl dX9_readAhead_7 ?_
  refine lv_aload_n hx hb dX9_readAhead_10 rfl (lv_at hl 0 rfl) ?_
  refine z_get hC hI hinX9_readAhead_X90 2 (wC_e2 ad cy σ) rfl 4 (by decide) (List.mem_cons_of_mem _ zw4_8) rfl dX9_readAhead_11 ?_
  refine lv_bipush (v := 11) hx hb dX9_readAhead_14 (by decide) ?_
  obtain ⟨q, hf⟩ := zck_use hf
  refine z_iald hC hI 23 10 (wC_e23 ad cy σ) (tC_t23 cy) q dX9_readAhead_16 ?_
  refine lv_sipush (v := 16383) hx hb dX9_readAhead_17 (by decide) ?_
  refine lv_iand hx hb dX9_readAhead_20 ?_
  obtain ⟨q, hf⟩ := zck_use hf
  refine z_iald hC hI 21 8 (wC_e21 ad cy σ) (tC_t21 cy) q dX9_readAhead_21 ?_
  obtain ⟨q, hf⟩ := zck_use hf
  obtain ⟨σ1, eσ1⟩ : ∃ z, z = zsi σ 23 ((13 : Int32).toNatClampNeg) (zgi σ 21 ((zgi σ 23 (11 : Int32).toNatClampNeg) &&& 16383).toNatClampNeg) := ⟨_, rfl⟩
  replace hf := zbv_use eσ1 hf
  refine z_iast hC hI 23 10 (wC_e23 ad cy σ) (tC_t23 cy) q ((wC_s23 ad cy σ _ _).trans (congrArg (wC ad cy) eσ1.symm)) dX9_readAhead_22 (fun H locs hI => ?_)
  refine lv_aload_n hx hb dX9_readAhead_23 rfl (lv_at hl 0 rfl) ?_
  refine z_get hC hI hinX9_readAhead_X90 2 (wC_e2 ad cy σ1) rfl 4 (by decide) (List.mem_cons_of_mem _ zw4_8) rfl dX9_readAhead_24 ?_
  refine lv_bipush (v := 11) hx hb dX9_readAhead_27 (by decide) ?_
  refine lv_aload_n hx hb dX9_readAhead_29 rfl (lv_at hl 0 rfl) ?_
  refine z_get hC hI hinX9_readAhead_X90 2 (wC_e2 ad cy σ1) rfl 4 (by decide) (List.mem_cons_of_mem _ zw4_8) rfl dX9_readAhead_30 ?_
  refine lv_bipush (v := 11) hx hb dX9_readAhead_33 (by decide) ?_
  obtain ⟨q, hf⟩ := zck_use hf
  refine z_iald hC hI 23 10 (wC_e23 ad cy σ1) (tC_t23 cy) q dX9_readAhead_35 ?_
  refine lv_iconst (v := 1) hx hb dX9_readAhead_36 (by decide) ?_
  refine lv_iadd hx hb dX9_readAhead_37 ?_
  refine lv_sipush (v := 16383) hx hb dX9_readAhead_38 (by decide) ?_
  refine lv_iand hx hb dX9_readAhead_41 ?_
  obtain ⟨q, hf⟩ := zck_use hf
  obtain ⟨σ2, eσ2⟩ : ∃ z, z = zsi σ1 23 ((11 : Int32).toNatClampNeg) (((zgi σ1 23 (11 : Int32).toNatClampNeg) + 1) &&& 16383) := ⟨_, rfl⟩
  replace hf := zbv_use eσ2 hf
  refine z_iast hC hI 23 10 (wC_e23 ad cy σ1) (tC_t23 cy) q ((wC_s23 ad cy σ1 _ _).trans (congrArg (wC ad cy) eσ2.symm)) dX9_readAhead_42 (fun H locs hI => ?_)
  exact z_return hC hI hf dX9_readAhead_43
set_option maxRecDepth 20000 in
theorem cX9_readAhead_met (st : Nat → Nat) (l : Launch) (D : va_G) (ad : Nat → Nat) (cy : Nat → ClassId) (σ : zSt)  (res : zSt) (hf : fX9_readAhead σ  = some res) (sz : Nat) : zMu st l yX9_readAhead wzX9_readAhead rmX9_readAhead [.ref (ad 2)] D (tC cy) (wC ad cy) sz σ res :=
  zMu.of (cc := cX9_readAhead) (maxL := 1) (ret := none) (by decide) rfl (Nat.le_of_ble_eq_true rfl) (fun p e s m args below meth c hC A hI ls hl => bX9_readAhead hC hI hl hf)
theorem hdX9_readAhead : yX9_readAhead.cls = RX9 ∧ yX9_readAhead.cls ≠ "java/lang/invoke/MethodHandle" ∧ yX9_readAhead.cls ≠ "java/lang/invoke/VarHandle" ∧ (parseMethodDescriptor yX9_readAhead.desc).map (fun d => d.parameters.length) = some 0 := by decide +kernel
noncomputable def rmX9_readData : Room := { frames := 1, cells := 0, slots := 0, locals := 20 }
noncomputable def wzX9_readData : List Cond := .code yX9_readData cX9_readData 2 (some .int) :: wsL_law
theorem hinX9_readData_X90 : ∀ w ∈ wsX90, w ∈ wzX9_readData := fun w h => List.mem_cons_of_mem _ (inlX9 w h)
noncomputable def fX9_readData  (σ : zSt)  : Option (zSt × Int32) :=
  zck (zin 13 96) (
  zbv (zgi σ 23 (13 : Int32).toNatClampNeg) (fun v1 =>
  zck (zin 14 96) (zbv (zsi σ 23 ((14 : Int32).toNatClampNeg) 0) (fun σ2 =>
  zbu (fX9_readAhead σ2 ) (fun σ3 =>
  some (σ3, v1))))))
set_option maxRecDepth 20000 in
set_option maxHeartbeats 4000000 in
theorem bX9_readData {st : Nat → Nat} {p : Program} {l : Launch} {e : Env} {s : State} {m : MethodId} {args : Array Value} {below : List Frame} {meth : Method} {c : Code} {D : va_G} {A : Nat → Prop} {ad : Nat → Nat} {cy : Nat → ClassId} (hC : zC p m c cX9_readData 2 s args wzX9_readData RX9 meth (some .int))  {res : zSt × Int32} {H : Heap} {locs : List Loc} {σ : zSt} {ls : Array Slot}  (hI : zI st D (tC cy) (wC ad cy σ) A s H locs) (hl : lv_has ls 2 [(0, .ref (ad 2))]) (hf : fX9_readData  σ  = some res) : W p l e rmX9_readData s m args below meth c H locs 0 0 (zQi below args s D (tC cy) (wC ad cy) A res) (F0 m 0 ls []) := by
  have hx := hC.1
  have hb := hC.2.1
  unfold fX9_readData at hf
  refine lv_aload_n hx hb dX9_readData_0 rfl (lv_at hl 0 rfl) ?_
  refine z_get hC hI hinX9_readData_X90 2 (wC_e2 ad cy σ) rfl 4 (by decide) (List.mem_cons_of_mem _ zw4_8) rfl dX9_readData_1 ?_
  refine lv_bipush (v := 13) hx hb dX9_readData_4 (by decide) ?_
  obtain ⟨q, hf⟩ := zck_use hf
  refine z_iald hC hI 23 10 (wC_e23 ad cy σ) (tC_t23 cy) q dX9_readData_6 ?_
  refine lv_topi (fun v1 ev1 => ?_)
  replace hf := zbv_use ev1 hf
  refine lv_istore_n (lv' := [(1, .int v1), (0, .ref (ad 2))]) hx hb dX9_readData_7 rfl hl (by decide) rfl (fun ls hl => ?_)
  refine lv_aload_n hx hb dX9_readData_8 rfl (lv_at hl 1 rfl) ?_
  refine z_get hC hI hinX9_readData_X90 2 (wC_e2 ad cy σ) rfl 4 (by decide) (List.mem_cons_of_mem _ zw4_8) rfl dX9_readData_9 ?_
  refine lv_bipush (v := 14) hx hb dX9_readData_12 (by decide) ?_
  refine lv_iconst (v := 0) hx hb dX9_readData_14 (by decide) ?_
  obtain ⟨q, hf⟩ := zck_use hf
  obtain ⟨σ2, eσ2⟩ : ∃ z, z = zsi σ 23 ((14 : Int32).toNatClampNeg) 0 := ⟨_, rfl⟩
  replace hf := zbv_use eσ2 hf
  refine z_iast hC hI 23 10 (wC_e23 ad cy σ) (tC_t23 cy) q ((wC_s23 ad cy σ _ _).trans (congrArg (wC ad cy) eσ2.symm)) dX9_readData_15 (fun H locs hI => ?_)
  refine lv_aload_n hx hb dX9_readData_16 rfl (lv_at hl 1 rfl) ?_
  obtain ⟨σ3, g3, hf⟩ := zbu_use hf
  refine z_callVu (As := []) (rest := []) hC hI (cX9_readAhead_met st l D ad cy σ2  _ g3) (zgV zw26_0 zw26_1 zw26_2 zw2_1 zw26_3) rfl ⟨rfl, rfl⟩ 0 hdX9_readAhead ⟨Nat.le_of_ble_eq_true rfl, Nat.le_of_ble_eq_true rfl⟩ rfl rfl (wC_e2 ad cy σ2) rfl hl rfl (Nat.le_of_ble_eq_true rfl) dX9_readData_17 ⟨Nat.zero_le _, Nat.zero_le _⟩ (fun H locs hI => ?_)
  refine lv_iload_n hx hb dX9_readData_20 rfl (lv_at hl 0 rfl) ?_
  exact z_ireturn hC hI hf dX9_readData_21
set_option maxRecDepth 20000 in
theorem cX9_readData_met (st : Nat → Nat) (l : Launch) (D : va_G) (ad : Nat → Nat) (cy : Nat → ClassId) (σ : zSt)  (res : zSt × Int32) (hf : fX9_readData σ  = some res) (sz : Nat) : zMi st l yX9_readData wzX9_readData rmX9_readData [.ref (ad 2)] D (tC cy) (wC ad cy) sz σ res :=
  zMi.of (cc := cX9_readData) (maxL := 2) (ret := (some .int)) (by decide) rfl (Nat.le_of_ble_eq_true rfl) (fun p e s m args below meth c hC A hI ls hl => bX9_readData hC hI hl hf)
theorem hdX9_readData : yX9_readData.cls = RX9 ∧ yX9_readData.cls ≠ "java/lang/invoke/MethodHandle" ∧ yX9_readData.cls ≠ "java/lang/invoke/VarHandle" ∧ (parseMethodDescriptor yX9_readData.desc).map (fun d => d.parameters.length) = some 0 := by decide +kernel
noncomputable def rmX9_readStatus : Room := { frames := 0, cells := 0, slots := 0, locals := 0 }
noncomputable def wzX9_readStatus : List Cond := .code yX9_readStatus cX9_readStatus 2 (some .int) :: wsL_law
theorem hinX9_readStatus_X90 : ∀ w ∈ wsX90, w ∈ wzX9_readStatus := fun w h => List.mem_cons_of_mem _ (inlX9 w h)
noncomputable def fX9_readStatus  (σ : zSt)  : Option (zSt × Int32) :=
  zck (zin 15 96) (
  zbv (zgi σ 23 (15 : Int32).toNatClampNeg) (fun v1 =>
  zck (zin 14 96) (zbv (zsi σ 23 ((14 : Int32).toNatClampNeg) 0) (fun σ2 =>
  zck (zin 15 96) (zbv (zsi σ2 23 ((15 : Int32).toNatClampNeg) 0) (fun σ3 =>
  zck (zin 16 96) (zbv (zsi σ3 23 ((16 : Int32).toNatClampNeg) 0) (fun σ4 =>
  some (σ4, v1)))))))))
set_option maxRecDepth 20000 in
set_option maxHeartbeats 4000000 in
theorem bX9_readStatus {st : Nat → Nat} {p : Program} {l : Launch} {e : Env} {s : State} {m : MethodId} {args : Array Value} {below : List Frame} {meth : Method} {c : Code} {D : va_G} {A : Nat → Prop} {ad : Nat → Nat} {cy : Nat → ClassId} (hC : zC p m c cX9_readStatus 2 s args wzX9_readStatus RX9 meth (some .int))  {res : zSt × Int32} {H : Heap} {locs : List Loc} {σ : zSt} {ls : Array Slot}  (hI : zI st D (tC cy) (wC ad cy σ) A s H locs) (hl : lv_has ls 2 [(0, .ref (ad 2))]) (hf : fX9_readStatus  σ  = some res) : W p l e rmX9_readStatus s m args below meth c H locs 0 0 (zQi below args s D (tC cy) (wC ad cy) A res) (F0 m 0 ls []) := by
  have hx := hC.1
  have hb := hC.2.1
  unfold fX9_readStatus at hf
  refine lv_aload_n hx hb dX9_readStatus_0 rfl (lv_at hl 0 rfl) ?_
  refine z_get hC hI hinX9_readStatus_X90 2 (wC_e2 ad cy σ) rfl 4 (by decide) (List.mem_cons_of_mem _ zw4_8) rfl dX9_readStatus_1 ?_
  refine lv_bipush (v := 15) hx hb dX9_readStatus_4 (by decide) ?_
  obtain ⟨q, hf⟩ := zck_use hf
  refine z_iald hC hI 23 10 (wC_e23 ad cy σ) (tC_t23 cy) q dX9_readStatus_6 ?_
  refine lv_topi (fun v1 ev1 => ?_)
  replace hf := zbv_use ev1 hf
  refine lv_istore_n (lv' := [(1, .int v1), (0, .ref (ad 2))]) hx hb dX9_readStatus_7 rfl hl (by decide) rfl (fun ls hl => ?_)
  refine lv_aload_n hx hb dX9_readStatus_8 rfl (lv_at hl 1 rfl) ?_
  refine z_get hC hI hinX9_readStatus_X90 2 (wC_e2 ad cy σ) rfl 4 (by decide) (List.mem_cons_of_mem _ zw4_8) rfl dX9_readStatus_9 ?_
  refine lv_bipush (v := 14) hx hb dX9_readStatus_12 (by decide) ?_
  refine lv_iconst (v := 0) hx hb dX9_readStatus_14 (by decide) ?_
  obtain ⟨q, hf⟩ := zck_use hf
  obtain ⟨σ2, eσ2⟩ : ∃ z, z = zsi σ 23 ((14 : Int32).toNatClampNeg) 0 := ⟨_, rfl⟩
  replace hf := zbv_use eσ2 hf
  refine z_iast hC hI 23 10 (wC_e23 ad cy σ) (tC_t23 cy) q ((wC_s23 ad cy σ _ _).trans (congrArg (wC ad cy) eσ2.symm)) dX9_readStatus_15 (fun H locs hI => ?_)
  refine lv_aload_n hx hb dX9_readStatus_16 rfl (lv_at hl 1 rfl) ?_
  refine z_get hC hI hinX9_readStatus_X90 2 (wC_e2 ad cy σ2) rfl 4 (by decide) (List.mem_cons_of_mem _ zw4_8) rfl dX9_readStatus_17 ?_
  refine lv_bipush (v := 15) hx hb dX9_readStatus_20 (by decide) ?_
  refine lv_iconst (v := 0) hx hb dX9_readStatus_22 (by decide) ?_
  obtain ⟨q, hf⟩ := zck_use hf
  obtain ⟨σ3, eσ3⟩ : ∃ z, z = zsi σ2 23 ((15 : Int32).toNatClampNeg) 0 := ⟨_, rfl⟩
  replace hf := zbv_use eσ3 hf
  refine z_iast hC hI 23 10 (wC_e23 ad cy σ2) (tC_t23 cy) q ((wC_s23 ad cy σ2 _ _).trans (congrArg (wC ad cy) eσ3.symm)) dX9_readStatus_23 (fun H locs hI => ?_)
  refine lv_aload_n hx hb dX9_readStatus_24 rfl (lv_at hl 1 rfl) ?_
  refine z_get hC hI hinX9_readStatus_X90 2 (wC_e2 ad cy σ3) rfl 4 (by decide) (List.mem_cons_of_mem _ zw4_8) rfl dX9_readStatus_25 ?_
  refine lv_bipush (v := 16) hx hb dX9_readStatus_28 (by decide) ?_
  refine lv_iconst (v := 0) hx hb dX9_readStatus_30 (by decide) ?_
  obtain ⟨q, hf⟩ := zck_use hf
  obtain ⟨σ4, eσ4⟩ : ∃ z, z = zsi σ3 23 ((16 : Int32).toNatClampNeg) 0 := ⟨_, rfl⟩
  replace hf := zbv_use eσ4 hf
  refine z_iast hC hI 23 10 (wC_e23 ad cy σ3) (tC_t23 cy) q ((wC_s23 ad cy σ3 _ _).trans (congrArg (wC ad cy) eσ4.symm)) dX9_readStatus_31 (fun H locs hI => ?_)
  refine lv_iload_n hx hb dX9_readStatus_32 rfl (lv_at hl 0 rfl) ?_
  exact z_ireturn hC hI hf dX9_readStatus_33
set_option maxRecDepth 20000 in
theorem cX9_readStatus_met (st : Nat → Nat) (l : Launch) (D : va_G) (ad : Nat → Nat) (cy : Nat → ClassId) (σ : zSt)  (res : zSt × Int32) (hf : fX9_readStatus σ  = some res) (sz : Nat) : zMi st l yX9_readStatus wzX9_readStatus rmX9_readStatus [.ref (ad 2)] D (tC cy) (wC ad cy) sz σ res :=
  zMi.of (cc := cX9_readStatus) (maxL := 2) (ret := (some .int)) (by decide) rfl (Nat.le_of_ble_eq_true rfl) (fun p e s m args below meth c hC A hI ls hl => bX9_readStatus hC hI hl hf)
theorem hdX9_readStatus : yX9_readStatus.cls = RX9 ∧ yX9_readStatus.cls ≠ "java/lang/invoke/MethodHandle" ∧ yX9_readStatus.cls ≠ "java/lang/invoke/VarHandle" ∧ (parseMethodDescriptor yX9_readStatus.desc).map (fun d => d.parameters.length) = some 0 := by decide +kernel
noncomputable def rmX9_vCount : Room := { frames := 1, cells := 0, slots := 0, locals := 20 }
noncomputable def wzX9_vCount : List Cond := .code yX9_vCount cX9_vCount 5 (some .int) :: wsL_law
theorem hinX9_vCount_X90 : ∀ w ∈ wsX90, w ∈ wzX9_vCount := fun w h => List.mem_cons_of_mem _ (inlX9 w h)
noncomputable def fX9_vCount_137  (σ : zSt) (s0 : Int32) : Option (zSt × Int32) :=
  some (σ, s0 &&& 255)
noncomputable def fX9_vCount_136  (σ : zSt) (s0 : Int32) (s1 : Int32) : Option (zSt × Int32) :=
  fX9_vCount_137 σ (s1 - s0)
noncomputable def fX9_vCount_97  (σ : zSt) (x2 : Int32) (x3 : Int32) : Option (zSt × Int32) :=
  zck (zin 20 96) (
  if x3 ≤ (zgi σ 23 (20 : Int32).toNatClampNeg) then zck (zin 20 96) (
  if x2 = 0 then fX9_vCount_136 σ 6 (zgi σ 23 (20 : Int32).toNatClampNeg) else
  fX9_vCount_136 σ 57 (zgi σ 23 (20 : Int32).toNatClampNeg)) else
  zck (zin 20 96) (
  fX9_vCount_137 σ (zgi σ 23 (20 : Int32).toNatClampNeg)))
noncomputable def fX9_vCount_96  (σ : zSt) (x2 : Int32) (s0 : Int32) : Option (zSt × Int32) :=
  fX9_vCount_97 σ x2 s0
noncomputable def fX9_vCount_78  (σ : zSt) (x2 : Int32) (s0 : Int32) : Option (zSt × Int32) :=
  fX9_vCount_97 σ x2 s0
noncomputable def fX9_vCount_61  (σ : zSt) (x2 : Int32) (s0 : Int32) : Option (zSt × Int32) :=
  fX9_vCount_97 σ x2 s0
noncomputable def fX9_vCount_20  (σ : zSt) (x1 : Int32) (s0 : Int32) : Option (zSt × Int32) :=
  if x1 = 192 then if s0 = 0 then fX9_vCount_61 σ s0 219 else
  fX9_vCount_61 σ s0 243 else
  if x1 = 224 then if s0 = 0 then fX9_vCount_78 σ s0 235 else
  fX9_vCount_78 σ s0 259 else
  if s0 = 0 then fX9_vCount_96 σ s0 (zgi σ 2 1) else
  fX9_vCount_96 σ s0 267
noncomputable def fX9_vCount  (σ : zSt)  : Option (zSt × Int32) :=
  zbi (fX9_height σ ) (fun σ1 v2 =>
  if (zgi σ1 2 1) = 313 then fX9_vCount_20 σ1 v2 1 else
  fX9_vCount_20 σ1 v2 0)
set_option maxRecDepth 20000 in
set_option maxHeartbeats 4000000 in
theorem bX9_vCount_137 {st : Nat → Nat} {p : Program} {l : Launch} {e : Env} {s : State} {m : MethodId} {args : Array Value} {below : List Frame} {meth : Method} {c : Code} {D : va_G} {A : Nat → Prop} {ad : Nat → Nat} {cy : Nat → ClassId} (hC : zC p m c cX9_vCount 5 s args wzX9_vCount RX9 meth (some .int))  {res : zSt × Int32} {H : Heap} {locs : List Loc} {σ : zSt} {ls : Array Slot} {s0 : Int32} (hI : zI st D (tC cy) (wC ad cy σ) A s H locs) (hl : lv_has ls 5 []) (hf : fX9_vCount_137  σ s0 = some res) : W p l e rmX9_vCount s m args below meth c H locs 0 0 (zQi below args s D (tC cy) (wC ad cy) A res) (F0 m 137 ls [.int s0]) := by
  have hx := hC.1
  have hb := hC.2.1
  unfold fX9_vCount_137 at hf
  refine lv_istore (lv' := [(4, .int s0)]) hx hb dX9_vCount_137 hl (by decide) rfl (fun ls hl => ?_)
  refine lv_iload hx hb dX9_vCount_139 (lv_at hl 0 rfl) ?_
  refine lv_sipush (v := 255) hx hb dX9_vCount_141 (by decide) ?_
  refine lv_iand hx hb dX9_vCount_144 ?_
  exact z_ireturn hC hI hf dX9_vCount_145
set_option maxRecDepth 20000 in
set_option maxHeartbeats 4000000 in
theorem bX9_vCount_136 {st : Nat → Nat} {p : Program} {l : Launch} {e : Env} {s : State} {m : MethodId} {args : Array Value} {below : List Frame} {meth : Method} {c : Code} {D : va_G} {A : Nat → Prop} {ad : Nat → Nat} {cy : Nat → ClassId} (hC : zC p m c cX9_vCount 5 s args wzX9_vCount RX9 meth (some .int))  {res : zSt × Int32} {H : Heap} {locs : List Loc} {σ : zSt} {ls : Array Slot} {s0 : Int32} {s1 : Int32} (hI : zI st D (tC cy) (wC ad cy σ) A s H locs) (hl : lv_has ls 5 []) (hf : fX9_vCount_136  σ s0 s1 = some res) : W p l e rmX9_vCount s m args below meth c H locs 0 0 (zQi below args s D (tC cy) (wC ad cy) A res) (F0 m 136 ls [.int s0, .int s1]) := by
  have hx := hC.1
  have hb := hC.2.1
  unfold fX9_vCount_136 at hf
  refine lv_isub hx hb dX9_vCount_136 ?_
  exact bX9_vCount_137 hC  hI hl hf
set_option maxRecDepth 20000 in
set_option maxHeartbeats 4000000 in
theorem bX9_vCount_97 {st : Nat → Nat} {p : Program} {l : Launch} {e : Env} {s : State} {m : MethodId} {args : Array Value} {below : List Frame} {meth : Method} {c : Code} {D : va_G} {A : Nat → Prop} {ad : Nat → Nat} {cy : Nat → ClassId} (hC : zC p m c cX9_vCount 5 s args wzX9_vCount RX9 meth (some .int))  {res : zSt × Int32} {H : Heap} {locs : List Loc} {σ : zSt} {ls : Array Slot} {x2 : Int32} {x3 : Int32} (hI : zI st D (tC cy) (wC ad cy σ) A s H locs) (hl : lv_has ls 5 [(0, .ref (ad 2)), (2, .int x2), (3, .int x3)]) (hf : fX9_vCount_97  σ x2 x3 = some res) : W p l e rmX9_vCount s m args below meth c H locs 0 0 (zQi below args s D (tC cy) (wC ad cy) A res) (F0 m 97 ls []) := by
  have hx := hC.1
  have hb := hC.2.1
  unfold fX9_vCount_97 at hf
  refine lv_aload_n hx hb dX9_vCount_97 rfl (lv_at hl 0 rfl) ?_
  refine z_get hC hI hinX9_vCount_X90 2 (wC_e2 ad cy σ) rfl 4 (by decide) (List.mem_cons_of_mem _ zw4_8) rfl dX9_vCount_98 ?_
  refine lv_bipush (v := 20) hx hb dX9_vCount_101 (by decide) ?_
  obtain ⟨q, hf⟩ := zck_use hf
  refine z_iald hC hI 23 10 (wC_e23 ad cy σ) (tC_t23 cy) q dX9_vCount_103 ?_
  refine lv_iload_n hx hb dX9_vCount_104 rfl (lv_at hl 2 rfl) ?_
  refine lv_icmp_ge (tgt := 118) hx hb dX9_vCount_105 (by decide) (fun q => ?_) (fun q => ?_)
  · replace hf := zif_t q hf
    refine lv_aload_n hx hb dX9_vCount_118 rfl (lv_at hl 0 rfl) ?_
    refine z_get hC hI hinX9_vCount_X90 2 (wC_e2 ad cy σ) rfl 4 (by decide) (List.mem_cons_of_mem _ zw4_8) rfl dX9_vCount_119 ?_
    refine lv_bipush (v := 20) hx hb dX9_vCount_122 (by decide) ?_
    obtain ⟨q, hf⟩ := zck_use hf
    refine z_iald hC hI 23 10 (wC_e23 ad cy σ) (tC_t23 cy) q dX9_vCount_124 ?_
    refine lv_iload_n hx hb dX9_vCount_125 rfl (lv_at hl 1 rfl) ?_
    refine lv_if_eq (tgt := 134) hx hb dX9_vCount_126 (by decide) (fun q => ?_) (fun q => ?_)
    · replace hf := zif_t q hf
      refine lv_bipush (v := 6) hx hb dX9_vCount_134 (by decide) ?_
      exact bX9_vCount_136 hC  hI (lv_sub hl [] rfl) hf
    replace hf := zif_f q hf
    refine lv_bipush (v := 57) hx hb dX9_vCount_129 (by decide) ?_
    refine lv_goto (tgt := 136) hx hb dX9_vCount_131 (by decide) ?_
    exact bX9_vCount_136 hC  hI (lv_sub hl [] rfl) hf
  replace hf := zif_f q hf
  refine lv_aload_n hx hb dX9_vCount_108 rfl (lv_at hl 0 rfl) ?_
  refine z_get hC hI hinX9_vCount_X90 2 (wC_e2 ad cy σ) rfl 4 (by decide) (List.mem_cons_of_mem _ zw4_8) rfl dX9_vCount_109 ?_
  refine lv_bipush (v := 20) hx hb dX9_vCount_112 (by decide) ?_
  obtain ⟨q, hf⟩ := zck_use hf
  refine z_iald hC hI 23 10 (wC_e23 ad cy σ) (tC_t23 cy) q dX9_vCount_114 ?_
  refine lv_goto (tgt := 137) hx hb dX9_vCount_115 (by decide) ?_
  exact bX9_vCount_137 hC  hI (lv_sub hl [] rfl) hf
set_option maxRecDepth 20000 in
set_option maxHeartbeats 4000000 in
theorem bX9_vCount_96 {st : Nat → Nat} {p : Program} {l : Launch} {e : Env} {s : State} {m : MethodId} {args : Array Value} {below : List Frame} {meth : Method} {c : Code} {D : va_G} {A : Nat → Prop} {ad : Nat → Nat} {cy : Nat → ClassId} (hC : zC p m c cX9_vCount 5 s args wzX9_vCount RX9 meth (some .int))  {res : zSt × Int32} {H : Heap} {locs : List Loc} {σ : zSt} {ls : Array Slot} {x2 : Int32} {s0 : Int32} (hI : zI st D (tC cy) (wC ad cy σ) A s H locs) (hl : lv_has ls 5 [(0, .ref (ad 2)), (2, .int x2)]) (hf : fX9_vCount_96  σ x2 s0 = some res) : W p l e rmX9_vCount s m args below meth c H locs 0 0 (zQi below args s D (tC cy) (wC ad cy) A res) (F0 m 96 ls [.int s0]) := by
  have hx := hC.1
  have hb := hC.2.1
  unfold fX9_vCount_96 at hf
  refine lv_istore_n (lv' := [(3, .int s0), (0, .ref (ad 2)), (2, .int x2)]) hx hb dX9_vCount_96 rfl hl (by decide) rfl (fun ls hl => ?_)
  exact bX9_vCount_97 hC  hI (lv_sub hl [1, 2, 0] rfl) hf
set_option maxRecDepth 20000 in
set_option maxHeartbeats 4000000 in
theorem bX9_vCount_78 {st : Nat → Nat} {p : Program} {l : Launch} {e : Env} {s : State} {m : MethodId} {args : Array Value} {below : List Frame} {meth : Method} {c : Code} {D : va_G} {A : Nat → Prop} {ad : Nat → Nat} {cy : Nat → ClassId} (hC : zC p m c cX9_vCount 5 s args wzX9_vCount RX9 meth (some .int))  {res : zSt × Int32} {H : Heap} {locs : List Loc} {σ : zSt} {ls : Array Slot} {x2 : Int32} {s0 : Int32} (hI : zI st D (tC cy) (wC ad cy σ) A s H locs) (hl : lv_has ls 5 [(0, .ref (ad 2)), (2, .int x2)]) (hf : fX9_vCount_78  σ x2 s0 = some res) : W p l e rmX9_vCount s m args below meth c H locs 0 0 (zQi below args s D (tC cy) (wC ad cy) A res) (F0 m 78 ls [.int s0]) := by
  have hx := hC.1
  have hb := hC.2.1
  unfold fX9_vCount_78 at hf
  refine lv_istore_n (lv' := [(3, .int s0), (0, .ref (ad 2)), (2, .int x2)]) hx hb dX9_vCount_78 rfl hl (by decide) rfl (fun ls hl => ?_)
  refine lv_goto (tgt := 97) hx hb dX9_vCount_79 (by decide) ?_
  exact bX9_vCount_97 hC  hI (lv_sub hl [1, 2, 0] rfl) hf
set_option maxRecDepth 20000 in
set_option maxHeartbeats 4000000 in
theorem bX9_vCount_61 {st : Nat → Nat} {p : Program} {l : Launch} {e : Env} {s : State} {m : MethodId} {args : Array Value} {below : List Frame} {meth : Method} {c : Code} {D : va_G} {A : Nat → Prop} {ad : Nat → Nat} {cy : Nat → ClassId} (hC : zC p m c cX9_vCount 5 s args wzX9_vCount RX9 meth (some .int))  {res : zSt × Int32} {H : Heap} {locs : List Loc} {σ : zSt} {ls : Array Slot} {x2 : Int32} {s0 : Int32} (hI : zI st D (tC cy) (wC ad cy σ) A s H locs) (hl : lv_has ls 5 [(0, .ref (ad 2)), (2, .int x2)]) (hf : fX9_vCount_61  σ x2 s0 = some res) : W p l e rmX9_vCount s m args below meth c H locs 0 0 (zQi below args s D (tC cy) (wC ad cy) A res) (F0 m 61 ls [.int s0]) := by
  have hx := hC.1
  have hb := hC.2.1
  unfold fX9_vCount_61 at hf
  refine lv_istore_n (lv' := [(3, .int s0), (0, .ref (ad 2)), (2, .int x2)]) hx hb dX9_vCount_61 rfl hl (by decide) rfl (fun ls hl => ?_)
  refine lv_goto (tgt := 97) hx hb dX9_vCount_62 (by decide) ?_
  exact bX9_vCount_97 hC  hI (lv_sub hl [1, 2, 0] rfl) hf
set_option maxRecDepth 20000 in
set_option maxHeartbeats 4000000 in
theorem bX9_vCount_20 {st : Nat → Nat} {p : Program} {l : Launch} {e : Env} {s : State} {m : MethodId} {args : Array Value} {below : List Frame} {meth : Method} {c : Code} {D : va_G} {A : Nat → Prop} {ad : Nat → Nat} {cy : Nat → ClassId} (hC : zC p m c cX9_vCount 5 s args wzX9_vCount RX9 meth (some .int))  {res : zSt × Int32} {H : Heap} {locs : List Loc} {σ : zSt} {ls : Array Slot} {x1 : Int32} {s0 : Int32} (hI : zI st D (tC cy) (wC ad cy σ) A s H locs) (hl : lv_has ls 5 [(0, .ref (ad 2)), (1, .int x1)]) (hf : fX9_vCount_20  σ x1 s0 = some res) : W p l e rmX9_vCount s m args below meth c H locs 0 0 (zQi below args s D (tC cy) (wC ad cy) A res) (F0 m 20 ls [.int s0]) := by
  have hx := hC.1
  have hb := hC.2.1
  unfold fX9_vCount_20 at hf
  refine lv_istore_n (lv' := [(2, .int s0), (0, .ref (ad 2)), (1, .int x1)]) hx hb dX9_vCount_20 rfl hl (by decide) rfl (fun ls hl => ?_)
  refine lv_iload_n hx hb dX9_vCount_21 rfl (lv_at hl 2 rfl) ?_
  by_cases q0 : x1 = 192
  · replace hf := zif_t q0 hf
    refine lv_lookup (off := 26) (tgt := 48) hx hb dX9_vCount_22 (by decide) (by rw [q0] <;> rfl) (by decide) ?_
    refine lv_iload_n hx hb dX9_vCount_48 rfl (lv_at hl 0 rfl) ?_
    refine lv_if_eq (tgt := 58) hx hb dX9_vCount_49 (by decide) (fun q => ?_) (fun q => ?_)
    · replace hf := zif_t q hf
      refine lv_sipush (v := 219) hx hb dX9_vCount_58 (by decide) ?_
      exact bX9_vCount_61 hC  hI (lv_sub hl [1, 0] rfl) hf
    replace hf := zif_f q hf
    refine lv_sipush (v := 243) hx hb dX9_vCount_52 (by decide) ?_
    refine lv_goto (tgt := 61) hx hb dX9_vCount_55 (by decide) ?_
    exact bX9_vCount_61 hC  hI (lv_sub hl [1, 0] rfl) hf
  replace hf := zif_f q0 hf
  by_cases q1 : x1 = 224
  · replace hf := zif_t q1 hf
    refine lv_lookup (off := 43) (tgt := 65) hx hb dX9_vCount_22 (by decide) (by rw [q1] <;> rfl) (by decide) ?_
    refine lv_iload_n hx hb dX9_vCount_65 rfl (lv_at hl 0 rfl) ?_
    refine lv_if_eq (tgt := 75) hx hb dX9_vCount_66 (by decide) (fun q => ?_) (fun q => ?_)
    · replace hf := zif_t q hf
      refine lv_sipush (v := 235) hx hb dX9_vCount_75 (by decide) ?_
      exact bX9_vCount_78 hC  hI (lv_sub hl [1, 0] rfl) hf
    replace hf := zif_f q hf
    refine lv_sipush (v := 259) hx hb dX9_vCount_69 (by decide) ?_
    refine lv_goto (tgt := 78) hx hb dX9_vCount_72 (by decide) ?_
    exact bX9_vCount_78 hC  hI (lv_sub hl [1, 0] rfl) hf
  replace hf := zif_f q1 hf
  refine lv_lookup (off := 60) (tgt := 82) hx hb dX9_vCount_22 (by decide) (by show Op.lookupswitch.offset [(192, 26), (224, 43)] _ _ = _; rw [lv_osw q0 (by decide), lv_osw q1 (by decide)] <;> rfl) (by decide) ?_
  refine lv_iload_n hx hb dX9_vCount_82 rfl (lv_at hl 0 rfl) ?_
  refine lv_if_eq (tgt := 92) hx hb dX9_vCount_83 (by decide) (fun q => ?_) (fun q => ?_)
  · replace hf := zif_t q hf
    refine lv_aload_n hx hb dX9_vCount_92 rfl (lv_at hl 1 rfl) ?_
    refine z_get hC hI hinX9_vCount_X90 2 (wC_e2 ad cy σ) rfl 1 (by decide) (List.mem_cons_of_mem _ zw4_11) rfl dX9_vCount_93 ?_
    exact bX9_vCount_96 hC  hI (lv_sub hl [1, 0] rfl) hf
  replace hf := zif_f q hf
  refine lv_sipush (v := 267) hx hb dX9_vCount_86 (by decide) ?_
  refine lv_goto (tgt := 96) hx hb dX9_vCount_89 (by decide) ?_
  exact bX9_vCount_96 hC  hI (lv_sub hl [1, 0] rfl) hf
set_option maxRecDepth 20000 in
set_option maxHeartbeats 4000000 in
theorem bX9_vCount {st : Nat → Nat} {p : Program} {l : Launch} {e : Env} {s : State} {m : MethodId} {args : Array Value} {below : List Frame} {meth : Method} {c : Code} {D : va_G} {A : Nat → Prop} {ad : Nat → Nat} {cy : Nat → ClassId} (hC : zC p m c cX9_vCount 5 s args wzX9_vCount RX9 meth (some .int))  {res : zSt × Int32} {H : Heap} {locs : List Loc} {σ : zSt} {ls : Array Slot}  (hI : zI st D (tC cy) (wC ad cy σ) A s H locs) (hl : lv_has ls 5 [(0, .ref (ad 2))]) (hf : fX9_vCount  σ  = some res) : W p l e rmX9_vCount s m args below meth c H locs 0 0 (zQi below args s D (tC cy) (wC ad cy) A res) (F0 m 0 ls []) := by
  have hx := hC.1
  have hb := hC.2.1
  unfold fX9_vCount at hf
  refine lv_aload_n hx hb dX9_vCount_0 rfl (lv_at hl 0 rfl) ?_
  obtain ⟨σ1, v2, g1, hf⟩ := zbi_use hf
  refine z_callVi (As := []) (rest := []) hC hI (cX9_height_met st l D ad cy σ  _ g1) (zgV zw25_16 zw25_17 zw25_18 zw2_1 zw25_19) rfl ⟨rfl, rfl⟩ 0 hdX9_height ⟨Nat.le_of_ble_eq_true rfl, Nat.le_of_ble_eq_true rfl⟩ rfl rfl (wC_e2 ad cy σ) rfl hl rfl (Nat.le_of_ble_eq_true rfl) dX9_vCount_1 ⟨Nat.zero_le _, Nat.zero_le _⟩ (fun H locs hI => ?_)
  refine lv_istore_n (lv' := [(1, .int v2), (0, .ref (ad 2))]) hx hb dX9_vCount_4 rfl hl (by decide) rfl (fun ls hl => ?_)
  refine lv_aload_n hx hb dX9_vCount_5 rfl (lv_at hl 1 rfl) ?_
  refine z_get hC hI hinX9_vCount_X90 2 (wC_e2 ad cy σ1) rfl 1 (by decide) (List.mem_cons_of_mem _ zw4_11) rfl dX9_vCount_6 ?_
  refine lv_sipush (v := 313) hx hb dX9_vCount_9 (by decide) ?_
  refine lv_icmp_ne (tgt := 19) hx hb dX9_vCount_12 (by decide) (fun q => ?_) (fun q => ?_)
  · replace hf := zif_f q hf
    refine lv_iconst (v := 0) hx hb dX9_vCount_19 (by decide) ?_
    exact bX9_vCount_20 hC  hI (lv_sub hl [1, 0] rfl) hf
  replace hf := zif_t q hf
  refine lv_iconst (v := 1) hx hb dX9_vCount_15 (by decide) ?_
  refine lv_goto (tgt := 20) hx hb dX9_vCount_16 (by decide) ?_
  exact bX9_vCount_20 hC  hI (lv_sub hl [1, 0] rfl) hf
set_option maxRecDepth 20000 in
theorem cX9_vCount_met (st : Nat → Nat) (l : Launch) (D : va_G) (ad : Nat → Nat) (cy : Nat → ClassId) (σ : zSt)  (res : zSt × Int32) (hf : fX9_vCount σ  = some res) (sz : Nat) : zMi st l yX9_vCount wzX9_vCount rmX9_vCount [.ref (ad 2)] D (tC cy) (wC ad cy) sz σ res :=
  zMi.of (cc := cX9_vCount) (maxL := 5) (ret := (some .int)) (by decide) rfl (Nat.le_of_ble_eq_true rfl) (fun p e s m args below meth c hC A hI ls hl => bX9_vCount hC hI hl hf)
theorem hdX9_vCount : yX9_vCount.cls = RX9 ∧ yX9_vCount.cls ≠ "java/lang/invoke/MethodHandle" ∧ yX9_vCount.cls ≠ "java/lang/invoke/VarHandle" ∧ (parseMethodDescriptor yX9_vCount.desc).map (fun d => d.parameters.length) = some 0 := by decide +kernel
noncomputable def rmX4_readHandy : Room := { frames := 0, cells := 0, slots := 0, locals := 0 }
noncomputable def wzX4_readHandy : List Cond := .code yX4_readHandy cX4_readHandy 2 (some .int) :: wsL_law
theorem hinX4_readHandy_X40 : ∀ w ∈ wsX40, w ∈ wzX4_readHandy := fun w h => List.mem_cons_of_mem _ (inlX4 w h)
noncomputable def fX4_readHandy_23  (σ : zSt) (s0 : Int32) : Option (zSt × Int32) :=
  some (σ, s0)
noncomputable def fX4_readHandy_46  (σ : zSt) (s0 : Int32) : Option (zSt × Int32) :=
  some (σ, s0)
noncomputable def fX4_readHandy_43  (σ : zSt)  : Option (zSt × Int32) :=
  fX4_readHandy_46 σ 255
noncomputable def fX4_readHandy  (σ : zSt) (x1 : Int32) : Option (zSt × Int32) :=
  if x1 = 0 then zck (zin 9 12) (
  if (zgi σ 34 (9 : Int32).toNatClampNeg) = 1 then fX4_readHandy_23 σ 64 else
  fX4_readHandy_23 σ 192) else
  if x1 < 1 then fX4_readHandy_43 σ else
  if 5 < x1 then fX4_readHandy_43 σ else
  zck (zin x1 12) (
  fX4_readHandy_46 σ (zgi σ 34 x1.toNatClampNeg))
set_option maxRecDepth 20000 in
set_option maxHeartbeats 4000000 in
theorem bX4_readHandy_23 {st : Nat → Nat} {p : Program} {l : Launch} {e : Env} {s : State} {m : MethodId} {args : Array Value} {below : List Frame} {meth : Method} {c : Code} {D : va_G} {A : Nat → Prop} {ad : Nat → Nat} {cy : Nat → ClassId} (hC : zC p m c cX4_readHandy 2 s args wzX4_readHandy RX4 meth (some .int))  {res : zSt × Int32} {H : Heap} {locs : List Loc} {σ : zSt} {ls : Array Slot} {s0 : Int32} (hI : zI st D (tC cy) (wC ad cy σ) A s H locs) (hl : lv_has ls 2 []) (hf : fX4_readHandy_23  σ s0 = some res) : W p l e rmX4_readHandy s m args below meth c H locs 0 0 (zQi below args s D (tC cy) (wC ad cy) A res) (F0 m 23 ls [.int s0]) := by
  have hx := hC.1
  have hb := hC.2.1
  unfold fX4_readHandy_23 at hf
  exact z_ireturn hC hI hf dX4_readHandy_23
set_option maxRecDepth 20000 in
set_option maxHeartbeats 4000000 in
theorem bX4_readHandy_46 {st : Nat → Nat} {p : Program} {l : Launch} {e : Env} {s : State} {m : MethodId} {args : Array Value} {below : List Frame} {meth : Method} {c : Code} {D : va_G} {A : Nat → Prop} {ad : Nat → Nat} {cy : Nat → ClassId} (hC : zC p m c cX4_readHandy 2 s args wzX4_readHandy RX4 meth (some .int))  {res : zSt × Int32} {H : Heap} {locs : List Loc} {σ : zSt} {ls : Array Slot} {s0 : Int32} (hI : zI st D (tC cy) (wC ad cy σ) A s H locs) (hl : lv_has ls 2 []) (hf : fX4_readHandy_46  σ s0 = some res) : W p l e rmX4_readHandy s m args below meth c H locs 0 0 (zQi below args s D (tC cy) (wC ad cy) A res) (F0 m 46 ls [.int s0]) := by
  have hx := hC.1
  have hb := hC.2.1
  unfold fX4_readHandy_46 at hf
  exact z_ireturn hC hI hf dX4_readHandy_46
set_option maxRecDepth 20000 in
set_option maxHeartbeats 4000000 in
theorem bX4_readHandy_43 {st : Nat → Nat} {p : Program} {l : Launch} {e : Env} {s : State} {m : MethodId} {args : Array Value} {below : List Frame} {meth : Method} {c : Code} {D : va_G} {A : Nat → Prop} {ad : Nat → Nat} {cy : Nat → ClassId} (hC : zC p m c cX4_readHandy 2 s args wzX4_readHandy RX4 meth (some .int))  {res : zSt × Int32} {H : Heap} {locs : List Loc} {σ : zSt} {ls : Array Slot}  (hI : zI st D (tC cy) (wC ad cy σ) A s H locs) (hl : lv_has ls 2 []) (hf : fX4_readHandy_43  σ  = some res) : W p l e rmX4_readHandy s m args below meth c H locs 0 0 (zQi below args s D (tC cy) (wC ad cy) A res) (F0 m 43 ls []) := by
  have hx := hC.1
  have hb := hC.2.1
  unfold fX4_readHandy_43 at hf
  refine lv_sipush (v := 255) hx hb dX4_readHandy_43 (by decide) ?_
  exact bX4_readHandy_46 hC  hI hl hf
set_option maxRecDepth 20000 in
set_option maxHeartbeats 4000000 in
theorem bX4_readHandy {st : Nat → Nat} {p : Program} {l : Launch} {e : Env} {s : State} {m : MethodId} {args : Array Value} {below : List Frame} {meth : Method} {c : Code} {D : va_G} {A : Nat → Prop} {ad : Nat → Nat} {cy : Nat → ClassId} (hC : zC p m c cX4_readHandy 2 s args wzX4_readHandy RX4 meth (some .int))  {res : zSt × Int32} {H : Heap} {locs : List Loc} {σ : zSt} {ls : Array Slot} {x1 : Int32} (hI : zI st D (tC cy) (wC ad cy σ) A s H locs) (hl : lv_has ls 2 [(0, .ref (ad 6)), (1, .int x1)]) (hf : fX4_readHandy  σ x1 = some res) : W p l e rmX4_readHandy s m args below meth c H locs 0 0 (zQi below args s D (tC cy) (wC ad cy) A res) (F0 m 0 ls []) := by
  have hx := hC.1
  have hb := hC.2.1
  unfold fX4_readHandy at hf
  refine lv_iload_n hx hb dX4_readHandy_0 rfl (lv_at hl 1 rfl) ?_
  refine lv_if_ne (tgt := 24) hx hb dX4_readHandy_1 (by decide) (fun q => ?_) (fun q => ?_)
  · replace hf := zif_f q hf
    refine lv_iload_n hx hb dX4_readHandy_24 rfl (lv_at hl 1 rfl) ?_
    refine lv_iconst (v := 1) hx hb dX4_readHandy_25 (by decide) ?_
    refine lv_icmp_lt (tgt := 43) hx hb dX4_readHandy_26 (by decide) (fun q => ?_) (fun q => ?_)
    · replace hf := zif_t q hf
      exact bX4_readHandy_43 hC  hI (lv_sub hl [] rfl) hf
    replace hf := zif_f q hf
    refine lv_iload_n hx hb dX4_readHandy_29 rfl (lv_at hl 1 rfl) ?_
    refine lv_iconst (v := 5) hx hb dX4_readHandy_30 (by decide) ?_
    refine lv_icmp_gt (tgt := 43) hx hb dX4_readHandy_31 (by decide) (fun q => ?_) (fun q => ?_)
    · replace hf := zif_t q hf
      exact bX4_readHandy_43 hC  hI (lv_sub hl [] rfl) hf
    replace hf := zif_f q hf
    refine lv_aload_n hx hb dX4_readHandy_34 rfl (lv_at hl 0 rfl) ?_
    refine z_get hC hI hinX4_readHandy_X40 6 (wC_e6 ad cy σ) rfl 4 (by decide) (List.mem_cons_of_mem _ zw6_15) rfl dX4_readHandy_35 ?_
    refine lv_iload_n hx hb dX4_readHandy_38 rfl (lv_at hl 1 rfl) ?_
    obtain ⟨q, hf⟩ := zck_use hf
    refine z_iald hC hI 34 21 (wC_e34 ad cy σ) (tC_t34 cy) q dX4_readHandy_39 ?_
    refine lv_goto (tgt := 46) hx hb dX4_readHandy_40 (by decide) ?_
    exact bX4_readHandy_46 hC  hI (lv_sub hl [] rfl) hf
  replace hf := zif_t q hf
  refine lv_aload_n hx hb dX4_readHandy_4 rfl (lv_at hl 0 rfl) ?_
  refine z_get hC hI hinX4_readHandy_X40 6 (wC_e6 ad cy σ) rfl 4 (by decide) (List.mem_cons_of_mem _ zw6_15) rfl dX4_readHandy_5 ?_
  refine lv_bipush (v := 9) hx hb dX4_readHandy_8 (by decide) ?_
  obtain ⟨q, hf⟩ := zck_use hf
  refine z_iald hC hI 34 21 (wC_e34 ad cy σ) (tC_t34 cy) q dX4_readHandy_10 ?_
  refine lv_iconst (v := 1) hx hb dX4_readHandy_11 (by decide) ?_
  refine lv_icmp_ne (tgt := 20) hx hb dX4_readHandy_12 (by decide) (fun q => ?_) (fun q => ?_)
  · replace hf := zif_f q hf
    refine lv_sipush (v := 192) hx hb dX4_readHandy_20 (by decide) ?_
    exact bX4_readHandy_23 hC  hI (lv_sub hl [] rfl) hf
  replace hf := zif_t q hf
  refine lv_bipush (v := 64) hx hb dX4_readHandy_15 (by decide) ?_
  refine lv_goto (tgt := 23) hx hb dX4_readHandy_17 (by decide) ?_
  exact bX4_readHandy_23 hC  hI (lv_sub hl [] rfl) hf
set_option maxRecDepth 20000 in
theorem cX4_readHandy_met (st : Nat → Nat) (l : Launch) (D : va_G) (ad : Nat → Nat) (cy : Nat → ClassId) (σ : zSt) (x1 : Int32) (res : zSt × Int32) (hf : fX4_readHandy σ x1 = some res) (sz : Nat) : zMi st l yX4_readHandy wzX4_readHandy rmX4_readHandy [.ref (ad 6), .int x1] D (tC cy) (wC ad cy) sz σ res :=
  zMi.of (cc := cX4_readHandy) (maxL := 2) (ret := (some .int)) (by decide) rfl (Nat.le_of_ble_eq_true rfl) (fun p e s m args below meth c hC A hI ls hl => bX4_readHandy hC hI hl hf)
theorem hdX4_readHandy : yX4_readHandy.cls = RX4 ∧ yX4_readHandy.cls ≠ "java/lang/invoke/MethodHandle" ∧ yX4_readHandy.cls ≠ "java/lang/invoke/VarHandle" ∧ (parseMethodDescriptor yX4_readHandy.desc).map (fun d => d.parameters.length) = some 1 := by decide +kernel
noncomputable def rmX4_read : Room := { frames := 2, cells := 0, slots := 0, locals := 44 }
noncomputable def wzX4_read : List Cond := .code yX4_read cX4_read 3 (some .int) :: wsL_law
theorem hinX4_read_X40 : ∀ w ∈ wsX40, w ∈ wzX4_read := fun w h => List.mem_cons_of_mem _ (inlX4 w h)
noncomputable def fX4_read_146  (σ : zSt) (s0 : Int32) : Option (zSt × Int32) :=
  some (σ, s0)
noncomputable def fX4_read_131  (σ : zSt) (x2 : Int32) : Option (zSt × Int32) :=
  if x2 = 0 then zbi (fX4_readOddPads σ ) (fun σ1 v2 =>
  fX4_read_146 σ1 v2) else
  zbi (fX4_readEvenPads σ ) (fun σ3 v4 =>
  fX4_read_146 σ3 v4)
noncomputable def fX4_read_106  (σ : zSt) (s0 : Int32) : Option (zSt × Int32) :=
  some (σ, s0)
noncomputable def fX4_read_84  (σ : zSt) (s0 : Int32) : Option (zSt × Int32) :=
  some (σ, s0)
noncomputable def fX4_read_62  (σ : zSt) (s0 : Int32) : Option (zSt × Int32) :=
  some (σ, s0)
noncomputable def fX4_read_11  (σ : zSt) (x1 : Int32) (s0 : Int32) : Option (zSt × Int32) :=
  if (x1 >>> ((6 : Int32) &&& 31)) = 0 then if (zgi σ 6 0) = 0 then fX4_read_62 σ 255 else
  zbi (fX4_readHandy σ x1) (fun σ5 v6 =>
  fX4_read_62 σ5 v6) else
  if (x1 >>> ((6 : Int32) &&& 31)) = 1 then if s0 = 0 then zck (zin 6 12) (
  fX4_read_84 σ (zgi σ 34 (6 : Int32).toNatClampNeg)) else
  zbi (fX9_vCount σ ) (fun σ7 v8 =>
  fX4_read_84 σ7 v8) else
  if (x1 >>> ((6 : Int32) &&& 31)) = 2 then if s0 = 0 then zbi (fX9_readStatus σ ) (fun σ9 v10 =>
  fX4_read_106 σ9 v10) else
  zbi (fX9_readData σ ) (fun σ11 v12 =>
  fX4_read_106 σ11 v12) else
  if x1 = 242 then if (zgi σ 6 0) = 0 then zbi (fX10_value σ 64) (fun σ13 v14 =>
  some (σ13, v14)) else
  fX4_read_131 σ s0 else
  fX4_read_131 σ s0
noncomputable def fX4_read  (σ : zSt) (x1 : Int32) : Option (zSt × Int32) :=
  if (x1 &&& 1) = 0 then fX4_read_11 σ x1 1 else
  fX4_read_11 σ x1 0
set_option maxRecDepth 20000 in
set_option maxHeartbeats 4000000 in
theorem bX4_read_146 {st : Nat → Nat} {p : Program} {l : Launch} {e : Env} {s : State} {m : MethodId} {args : Array Value} {below : List Frame} {meth : Method} {c : Code} {D : va_G} {A : Nat → Prop} {ad : Nat → Nat} {cy : Nat → ClassId} (hC : zC p m c cX4_read 3 s args wzX4_read RX4 meth (some .int))  {res : zSt × Int32} {H : Heap} {locs : List Loc} {σ : zSt} {ls : Array Slot} {s0 : Int32} (hI : zI st D (tC cy) (wC ad cy σ) A s H locs) (hl : lv_has ls 3 []) (hf : fX4_read_146  σ s0 = some res) : W p l e rmX4_read s m args below meth c H locs 0 0 (zQi below args s D (tC cy) (wC ad cy) A res) (F0 m 146 ls [.int s0]) := by
  have hx := hC.1
  have hb := hC.2.1
  unfold fX4_read_146 at hf
  exact z_ireturn hC hI hf dX4_read_146
set_option maxRecDepth 20000 in
set_option maxHeartbeats 4000000 in
theorem bX4_read_131 {st : Nat → Nat} {p : Program} {l : Launch} {e : Env} {s : State} {m : MethodId} {args : Array Value} {below : List Frame} {meth : Method} {c : Code} {D : va_G} {A : Nat → Prop} {ad : Nat → Nat} {cy : Nat → ClassId} (hC : zC p m c cX4_read 3 s args wzX4_read RX4 meth (some .int))  {res : zSt × Int32} {H : Heap} {locs : List Loc} {σ : zSt} {ls : Array Slot} {x2 : Int32} (hI : zI st D (tC cy) (wC ad cy σ) A s H locs) (hl : lv_has ls 3 [(0, .ref (ad 6)), (2, .int x2)]) (hf : fX4_read_131  σ x2 = some res) : W p l e rmX4_read s m args below meth c H locs 0 0 (zQi below args s D (tC cy) (wC ad cy) A res) (F0 m 131 ls []) := by
  have hx := hC.1
  have hb := hC.2.1
  unfold fX4_read_131 at hf
  refine lv_iload_n hx hb dX4_read_131 rfl (lv_at hl 1 rfl) ?_
  refine lv_if_eq (tgt := 142) hx hb dX4_read_132 (by decide) (fun q => ?_) (fun q => ?_)
  · replace hf := zif_t q hf
    refine lv_aload_n hx hb dX4_read_142 rfl (lv_at hl 0 rfl) ?_
    obtain ⟨σ1, v2, g1, hf⟩ := zbi_use hf
    refine z_callVi (As := []) (rest := []) hC hI (cX4_readOddPads_met st l D ad cy σ  _ g1) (zgV zw26_17 zw26_18 zw26_19 zw2_17 zw26_20) rfl ⟨rfl, rfl⟩ 0 hdX4_readOddPads ⟨Nat.le_of_ble_eq_true rfl, Nat.le_of_ble_eq_true rfl⟩ rfl rfl (wC_e6 ad cy σ) rfl hl rfl (Nat.le_of_ble_eq_true rfl) dX4_read_143 ⟨Nat.zero_le _, Nat.zero_le _⟩ (fun H locs hI => ?_)
    exact bX4_read_146 hC  hI (lv_sub hl [] rfl) hf
  replace hf := zif_f q hf
  refine lv_aload_n hx hb dX4_read_135 rfl (lv_at hl 0 rfl) ?_
  obtain ⟨σ3, v4, g3, hf⟩ := zbi_use hf
  refine z_callVi (As := []) (rest := []) hC hI (cX4_readEvenPads_met st l D ad cy σ  _ g3) (zgV zw26_13 zw26_14 zw26_15 zw2_17 zw26_16) rfl ⟨rfl, rfl⟩ 0 hdX4_readEvenPads ⟨Nat.le_of_ble_eq_true rfl, Nat.le_of_ble_eq_true rfl⟩ rfl rfl (wC_e6 ad cy σ) rfl hl rfl (Nat.le_of_ble_eq_true rfl) dX4_read_136 ⟨Nat.zero_le _, Nat.zero_le _⟩ (fun H locs hI => ?_)
  refine lv_goto (tgt := 146) hx hb dX4_read_139 (by decide) ?_
  exact bX4_read_146 hC  hI (lv_sub hl [] rfl) hf
set_option maxRecDepth 20000 in
set_option maxHeartbeats 4000000 in
theorem bX4_read_106 {st : Nat → Nat} {p : Program} {l : Launch} {e : Env} {s : State} {m : MethodId} {args : Array Value} {below : List Frame} {meth : Method} {c : Code} {D : va_G} {A : Nat → Prop} {ad : Nat → Nat} {cy : Nat → ClassId} (hC : zC p m c cX4_read 3 s args wzX4_read RX4 meth (some .int))  {res : zSt × Int32} {H : Heap} {locs : List Loc} {σ : zSt} {ls : Array Slot} {s0 : Int32} (hI : zI st D (tC cy) (wC ad cy σ) A s H locs) (hl : lv_has ls 3 []) (hf : fX4_read_106  σ s0 = some res) : W p l e rmX4_read s m args below meth c H locs 0 0 (zQi below args s D (tC cy) (wC ad cy) A res) (F0 m 106 ls [.int s0]) := by
  have hx := hC.1
  have hb := hC.2.1
  unfold fX4_read_106 at hf
  exact z_ireturn hC hI hf dX4_read_106
set_option maxRecDepth 20000 in
set_option maxHeartbeats 4000000 in
theorem bX4_read_84 {st : Nat → Nat} {p : Program} {l : Launch} {e : Env} {s : State} {m : MethodId} {args : Array Value} {below : List Frame} {meth : Method} {c : Code} {D : va_G} {A : Nat → Prop} {ad : Nat → Nat} {cy : Nat → ClassId} (hC : zC p m c cX4_read 3 s args wzX4_read RX4 meth (some .int))  {res : zSt × Int32} {H : Heap} {locs : List Loc} {σ : zSt} {ls : Array Slot} {s0 : Int32} (hI : zI st D (tC cy) (wC ad cy σ) A s H locs) (hl : lv_has ls 3 []) (hf : fX4_read_84  σ s0 = some res) : W p l e rmX4_read s m args below meth c H locs 0 0 (zQi below args s D (tC cy) (wC ad cy) A res) (F0 m 84 ls [.int s0]) := by
  have hx := hC.1
  have hb := hC.2.1
  unfold fX4_read_84 at hf
  exact z_ireturn hC hI hf dX4_read_84
set_option maxRecDepth 20000 in
set_option maxHeartbeats 4000000 in
theorem bX4_read_62 {st : Nat → Nat} {p : Program} {l : Launch} {e : Env} {s : State} {m : MethodId} {args : Array Value} {below : List Frame} {meth : Method} {c : Code} {D : va_G} {A : Nat → Prop} {ad : Nat → Nat} {cy : Nat → ClassId} (hC : zC p m c cX4_read 3 s args wzX4_read RX4 meth (some .int))  {res : zSt × Int32} {H : Heap} {locs : List Loc} {σ : zSt} {ls : Array Slot} {s0 : Int32} (hI : zI st D (tC cy) (wC ad cy σ) A s H locs) (hl : lv_has ls 3 []) (hf : fX4_read_62  σ s0 = some res) : W p l e rmX4_read s m args below meth c H locs 0 0 (zQi below args s D (tC cy) (wC ad cy) A res) (F0 m 62 ls [.int s0]) := by
  have hx := hC.1
  have hb := hC.2.1
  unfold fX4_read_62 at hf
  exact z_ireturn hC hI hf dX4_read_62
set_option maxRecDepth 20000 in
set_option maxHeartbeats 4000000 in
theorem bX4_read_11 {st : Nat → Nat} {p : Program} {l : Launch} {e : Env} {s : State} {m : MethodId} {args : Array Value} {below : List Frame} {meth : Method} {c : Code} {D : va_G} {A : Nat → Prop} {ad : Nat → Nat} {cy : Nat → ClassId} (hC : zC p m c cX4_read 3 s args wzX4_read RX4 meth (some .int))  {res : zSt × Int32} {H : Heap} {locs : List Loc} {σ : zSt} {ls : Array Slot} {x1 : Int32} {s0 : Int32} (hI : zI st D (tC cy) (wC ad cy σ) A s H locs) (hl : lv_has ls 3 [(0, .ref (ad 6)), (1, .int x1)]) (hf : fX4_read_11  σ x1 s0 = some res) : W p l e rmX4_read s m args below meth c H locs 0 0 (zQi below args s D (tC cy) (wC ad cy) A res) (F0 m 11 ls [.int s0]) := by
  have hx := hC.1
  have hb := hC.2.1
  unfold fX4_read_11 at hf
  refine lv_istore_n (lv' := [(2, .int s0), (0, .ref (ad 6)), (1, .int x1)]) hx hb dX4_read_11 rfl hl (by decide) rfl (fun ls hl => ?_)
  refine lv_iload_n hx hb dX4_read_12 rfl (lv_at hl 2 rfl) ?_
  refine lv_bipush (v := 6) hx hb dX4_read_13 (by decide) ?_
  refine lv_ishr hx hb dX4_read_15 ?_
  by_cases q0 : (x1 >>> ((6 : Int32) &&& 31)) = 0
  · replace hf := zif_t q0 hf
    refine lv_tableIn (tgt := 44) hx hb dX4_read_16 (by rw [q0]; decide) (by rw [q0]; decide) (by rw [q0]; rfl) (by decide) ?_
    refine lv_aload_n hx hb dX4_read_44 rfl (lv_at hl 1 rfl) ?_
    refine z_get hC hI hinX4_read_X40 6 (wC_e6 ad cy σ) rfl 0 (by decide) (List.mem_cons_of_mem _ zw6_17) rfl dX4_read_45 ?_
    refine lv_if_eq (tgt := 59) hx hb dX4_read_48 (by decide) (fun q => ?_) (fun q => ?_)
    · replace hf := zif_t q hf
      refine lv_sipush (v := 255) hx hb dX4_read_59 (by decide) ?_
      exact bX4_read_62 hC  hI (lv_sub hl [] rfl) hf
    replace hf := zif_f q hf
    refine lv_aload_n hx hb dX4_read_51 rfl (lv_at hl 1 rfl) ?_
    refine lv_iload_n hx hb dX4_read_52 rfl (lv_at hl 2 rfl) ?_
    obtain ⟨σ5, v6, g5, hf⟩ := zbi_use hf
    refine z_callVi (As := [.int x1]) (rest := []) hC hI (cX4_readHandy_met st l D ad cy σ x1 _ g5) (zgV zw25_8 zw25_9 zw25_10 zw2_17 zw25_11) rfl ⟨rfl, rfl⟩ 1 hdX4_readHandy ⟨Nat.le_of_ble_eq_true rfl, Nat.le_of_ble_eq_true rfl⟩ rfl rfl (wC_e6 ad cy σ) rfl hl rfl (Nat.le_of_ble_eq_true rfl) dX4_read_53 ⟨Nat.zero_le _, Nat.zero_le _⟩ (fun H locs hI => ?_)
    refine lv_goto (tgt := 62) hx hb dX4_read_56 (by decide) ?_
    exact bX4_read_62 hC  hI (lv_sub hl [] rfl) hf
  replace hf := zif_f q0 hf
  by_cases q1 : (x1 >>> ((6 : Int32) &&& 31)) = 1
  · replace hf := zif_t q1 hf
    refine lv_tableIn (tgt := 63) hx hb dX4_read_16 (by rw [q1]; decide) (by rw [q1]; decide) (by rw [q1]; rfl) (by decide) ?_
    refine lv_iload_n hx hb dX4_read_63 rfl (lv_at hl 0 rfl) ?_
    refine lv_if_eq (tgt := 77) hx hb dX4_read_64 (by decide) (fun q => ?_) (fun q => ?_)
    · replace hf := zif_t q hf
      refine lv_aload_n hx hb dX4_read_77 rfl (lv_at hl 1 rfl) ?_
      refine z_get hC hI hinX4_read_X40 6 (wC_e6 ad cy σ) rfl 4 (by decide) (List.mem_cons_of_mem _ zw6_15) rfl dX4_read_78 ?_
      refine lv_bipush (v := 6) hx hb dX4_read_81 (by decide) ?_
      obtain ⟨q, hf⟩ := zck_use hf
      refine z_iald hC hI 34 21 (wC_e34 ad cy σ) (tC_t34 cy) q dX4_read_83 ?_
      exact bX4_read_84 hC  hI (lv_sub hl [] rfl) hf
    replace hf := zif_f q hf
    refine lv_aload_n hx hb dX4_read_67 rfl (lv_at hl 1 rfl) ?_
    refine z_get hC hI hinX4_read_X40 6 (wC_e6 ad cy σ) rfl 1 (by decide) (List.mem_cons_of_mem _ zw6_18) rfl dX4_read_68 ?_
    obtain ⟨σ7, v8, g7, hf⟩ := zbi_use hf
    refine z_callVi (As := []) (rest := []) hC hI (cX9_vCount_met st l D ad cy σ  _ g7) (zgV zw25_12 zw25_13 zw25_14 zw2_1 zw25_15) rfl ⟨rfl, rfl⟩ 0 hdX9_vCount ⟨Nat.le_of_ble_eq_true rfl, Nat.le_of_ble_eq_true rfl⟩ rfl rfl (wC_e2 ad cy σ) rfl hl rfl (Nat.le_of_ble_eq_true rfl) dX4_read_71 ⟨Nat.zero_le _, Nat.zero_le _⟩ (fun H locs hI => ?_)
    refine lv_goto (tgt := 84) hx hb dX4_read_74 (by decide) ?_
    exact bX4_read_84 hC  hI (lv_sub hl [] rfl) hf
  replace hf := zif_f q1 hf
  by_cases q2 : (x1 >>> ((6 : Int32) &&& 31)) = 2
  · replace hf := zif_t q2 hf
    refine lv_tableIn (tgt := 85) hx hb dX4_read_16 (by rw [q2]; decide) (by rw [q2]; decide) (by rw [q2]; rfl) (by decide) ?_
    refine lv_iload_n hx hb dX4_read_85 rfl (lv_at hl 0 rfl) ?_
    refine lv_if_eq (tgt := 99) hx hb dX4_read_86 (by decide) (fun q => ?_) (fun q => ?_)
    · replace hf := zif_t q hf
      refine lv_aload_n hx hb dX4_read_99 rfl (lv_at hl 1 rfl) ?_
      refine z_get hC hI hinX4_read_X40 6 (wC_e6 ad cy σ) rfl 1 (by decide) (List.mem_cons_of_mem _ zw6_18) rfl dX4_read_100 ?_
      obtain ⟨σ9, v10, g9, hf⟩ := zbi_use hf
      refine z_callVi (As := []) (rest := []) hC hI (cX9_readStatus_met st l D ad cy σ  _ g9) (zgV zw26_4 zw26_5 zw26_6 zw2_1 zw26_7) rfl ⟨rfl, rfl⟩ 0 hdX9_readStatus ⟨Nat.le_of_ble_eq_true rfl, Nat.le_of_ble_eq_true rfl⟩ rfl rfl (wC_e2 ad cy σ) rfl hl rfl (Nat.le_of_ble_eq_true rfl) dX4_read_103 ⟨Nat.zero_le _, Nat.zero_le _⟩ (fun H locs hI => ?_)
      exact bX4_read_106 hC  hI (lv_sub hl [] rfl) hf
    replace hf := zif_f q hf
    refine lv_aload_n hx hb dX4_read_89 rfl (lv_at hl 1 rfl) ?_
    refine z_get hC hI hinX4_read_X40 6 (wC_e6 ad cy σ) rfl 1 (by decide) (List.mem_cons_of_mem _ zw6_18) rfl dX4_read_90 ?_
    obtain ⟨σ11, v12, g11, hf⟩ := zbi_use hf
    refine z_callVi (As := []) (rest := []) hC hI (cX9_readData_met st l D ad cy σ  _ g11) (zgV zw25_20 zw25_21 zw25_22 zw2_1 zw25_23) rfl ⟨rfl, rfl⟩ 0 hdX9_readData ⟨Nat.le_of_ble_eq_true rfl, Nat.le_of_ble_eq_true rfl⟩ rfl rfl (wC_e2 ad cy σ) rfl hl rfl (Nat.le_of_ble_eq_true rfl) dX4_read_93 ⟨Nat.zero_le _, Nat.zero_le _⟩ (fun H locs hI => ?_)
    refine lv_goto (tgt := 106) hx hb dX4_read_96 (by decide) ?_
    exact bX4_read_106 hC  hI (lv_sub hl [] rfl) hf
  replace hf := zif_f q2 hf
  refine lv_tableOut (tgt := 107) hx hb dX4_read_16 (zsw (fun k h1 h2 => by rcases (show k = 0 ∨ k = 1 ∨ k = 2 by omega) with rfl | rfl | rfl <;> assumption)) (by decide) ?_
  refine lv_iload_n hx hb dX4_read_107 rfl (lv_at hl 2 rfl) ?_
  refine lv_sipush (v := 242) hx hb dX4_read_108 (by decide) ?_
  refine lv_icmp_ne (tgt := 131) hx hb dX4_read_111 (by decide) (fun q => ?_) (fun q => ?_)
  · replace hf := zif_f q hf
    exact bX4_read_131 hC  hI (lv_sub hl [1, 0] rfl) hf
  replace hf := zif_t q hf
  refine lv_aload_n hx hb dX4_read_114 rfl (lv_at hl 1 rfl) ?_
  refine z_get hC hI hinX4_read_X40 6 (wC_e6 ad cy σ) rfl 0 (by decide) (List.mem_cons_of_mem _ zw6_17) rfl dX4_read_115 ?_
  refine lv_if_ne (tgt := 131) hx hb dX4_read_118 (by decide) (fun q => ?_) (fun q => ?_)
  · replace hf := zif_f q hf
    exact bX4_read_131 hC  hI (lv_sub hl [1, 0] rfl) hf
  replace hf := zif_t q hf
  refine lv_aload_n hx hb dX4_read_121 rfl (lv_at hl 1 rfl) ?_
  refine z_get hC hI hinX4_read_X40 6 (wC_e6 ad cy σ) rfl 3 (by decide) (List.mem_cons_of_mem _ zw6_20) rfl dX4_read_122 ?_
  refine lv_bipush (v := 64) hx hb dX4_read_125 (by decide) ?_
  obtain ⟨σ13, v14, g13, hf⟩ := zbi_use hf
  refine z_callVi (As := [.int 64]) (rest := []) hC hI (cX10_value_met st l D ad cy σ 64 _ g13) (zgV zw26_8 zw26_9 zw26_10 zw2_13 zw26_11) rfl ⟨rfl, rfl⟩ 1 hdX10_value ⟨Nat.le_of_ble_eq_true rfl, Nat.le_of_ble_eq_true rfl⟩ rfl rfl (wC_e5 ad cy σ) rfl hl rfl (Nat.le_of_ble_eq_true rfl) dX4_read_127 ⟨Nat.zero_le _, Nat.zero_le _⟩ (fun H locs hI => ?_)
  exact z_ireturn hC hI hf dX4_read_130
set_option maxRecDepth 20000 in
set_option maxHeartbeats 4000000 in
theorem bX4_read {st : Nat → Nat} {p : Program} {l : Launch} {e : Env} {s : State} {m : MethodId} {args : Array Value} {below : List Frame} {meth : Method} {c : Code} {D : va_G} {A : Nat → Prop} {ad : Nat → Nat} {cy : Nat → ClassId} (hC : zC p m c cX4_read 3 s args wzX4_read RX4 meth (some .int))  {res : zSt × Int32} {H : Heap} {locs : List Loc} {σ : zSt} {ls : Array Slot} {x1 : Int32} (hI : zI st D (tC cy) (wC ad cy σ) A s H locs) (hl : lv_has ls 3 [(0, .ref (ad 6)), (1, .int x1)]) (hf : fX4_read  σ x1 = some res) : W p l e rmX4_read s m args below meth c H locs 0 0 (zQi below args s D (tC cy) (wC ad cy) A res) (F0 m 0 ls []) := by
  have hx := hC.1
  have hb := hC.2.1
  unfold fX4_read at hf
  refine lv_iload_n hx hb dX4_read_0 rfl (lv_at hl 1 rfl) ?_
  refine lv_iconst (v := 1) hx hb dX4_read_1 (by decide) ?_
  refine lv_iand hx hb dX4_read_2 ?_
  refine lv_if_ne (tgt := 10) hx hb dX4_read_3 (by decide) (fun q => ?_) (fun q => ?_)
  · replace hf := zif_f q hf
    refine lv_iconst (v := 0) hx hb dX4_read_10 (by decide) ?_
    exact bX4_read_11 hC  hI hl hf
  replace hf := zif_t q hf
  refine lv_iconst (v := 1) hx hb dX4_read_6 (by decide) ?_
  refine lv_goto (tgt := 11) hx hb dX4_read_7 (by decide) ?_
  exact bX4_read_11 hC  hI hl hf
set_option maxRecDepth 20000 in
theorem cX4_read_met (st : Nat → Nat) (l : Launch) (D : va_G) (ad : Nat → Nat) (cy : Nat → ClassId) (σ : zSt) (x1 : Int32) (res : zSt × Int32) (hf : fX4_read σ x1 = some res) (sz : Nat) : zMi st l yX4_read wzX4_read rmX4_read [.ref (ad 6), .int x1] D (tC cy) (wC ad cy) sz σ res :=
  zMi.of (cc := cX4_read) (maxL := 3) (ret := (some .int)) (by decide) rfl (Nat.le_of_ble_eq_true rfl) (fun p e s m args below meth c hC A hI ls hl => bX4_read hC hI hl hf)
theorem hdX4_read : yX4_read.cls = RX4 ∧ yX4_read.cls ≠ "java/lang/invoke/MethodHandle" ∧ yX4_read.cls ≠ "java/lang/invoke/VarHandle" ∧ (parseMethodDescriptor yX4_read.desc).map (fun d => d.parameters.length) = some 1 := by decide +kernel
noncomputable def rmX10_take : Room := { frames := 0, cells := 0, slots := 0, locals := 0 }
noncomputable def wzX10_take : List Cond := .code yX10_take cX10_take 3 none :: wsL_law
theorem hinX10_take_X100 : ∀ w ∈ wsX100, w ∈ wzX10_take := fun w h => List.mem_cons_of_mem _ (inlX10 w h)
noncomputable def fX10_take_57  (σ : zSt)  : Option (zSt) :=
  some σ
noncomputable def fX10_take  (σ : zSt) (x1 : Int32) (x2 : Int32) : Option (zSt) :=
  if x1 = 240 then zck (zin 68 272) (zbv (zsi σ 32 ((68 : Int32).toNatClampNeg) (x2 &&& 63)) (fun σ3 =>
  fX10_take_57 σ3)) else
  if x1 = 241 then zck (zin 68 272) (
  zck (zin ((zgi σ 32 (68 : Int32).toNatClampNeg) &&& 63) 272) (zbv (zsi σ 32 (((zgi σ 32 (68 : Int32).toNatClampNeg) &&& 63).toNatClampNeg) x2) (fun σ2 =>
  fX10_take_57 σ2))) else
  zck (zin 64 272) (zbv (zsi σ 32 ((64 : Int32).toNatClampNeg) (x2 &&& 3)) (fun σ1 =>
  fX10_take_57 σ1))
set_option maxRecDepth 20000 in
set_option maxHeartbeats 4000000 in
theorem bX10_take_57 {st : Nat → Nat} {p : Program} {l : Launch} {e : Env} {s : State} {m : MethodId} {args : Array Value} {below : List Frame} {meth : Method} {c : Code} {D : va_G} {A : Nat → Prop} {ad : Nat → Nat} {cy : Nat → ClassId} (hC : zC p m c cX10_take 3 s args wzX10_take RX10 meth none)  {res : zSt} {H : Heap} {locs : List Loc} {σ : zSt} {ls : Array Slot}  (hI : zI st D (tC cy) (wC ad cy σ) A s H locs) (hl : lv_has ls 3 []) (hf : fX10_take_57  σ  = some res) : W p l e rmX10_take s m args below meth c H locs 0 0 (zQu below args s D (tC cy) (wC ad cy) A res) (F0 m 57 ls []) := by
  have hx := hC.1
  have hb := hC.2.1
  unfold fX10_take_57 at hf
  exact z_return hC hI hf dX10_take_57
set_option maxRecDepth 20000 in
set_option maxHeartbeats 4000000 in
theorem bX10_take {st : Nat → Nat} {p : Program} {l : Launch} {e : Env} {s : State} {m : MethodId} {args : Array Value} {below : List Frame} {meth : Method} {c : Code} {D : va_G} {A : Nat → Prop} {ad : Nat → Nat} {cy : Nat → ClassId} (hC : zC p m c cX10_take 3 s args wzX10_take RX10 meth none)  {res : zSt} {H : Heap} {locs : List Loc} {σ : zSt} {ls : Array Slot} {x1 : Int32} {x2 : Int32} (hI : zI st D (tC cy) (wC ad cy σ) A s H locs) (hl : lv_has ls 3 [(0, .ref (ad 5)), (1, .int x1), (2, .int x2)]) (hf : fX10_take  σ x1 x2 = some res) : W p l e rmX10_take s m args below meth c H locs 0 0 (zQu below args s D (tC cy) (wC ad cy) A res) (F0 m 0 ls []) := by
  have hx := hC.1
  have hb := hC.2.1
  unfold fX10_take at hf
  refine lv_iload_n hx hb dX10_take_0 rfl (lv_at hl 1 rfl) ?_
  refine lv_sipush (v := 240) hx hb dX10_take_1 (by decide) ?_
  refine lv_icmp_ne (tgt := 21) hx hb dX10_take_4 (by decide) (fun q => ?_) (fun q => ?_)
  · replace hf := zif_f q hf
    refine lv_iload_n hx hb dX10_take_21 rfl (lv_at hl 1 rfl) ?_
    refine lv_sipush (v := 241) hx hb dX10_take_22 (by decide) ?_
    refine lv_icmp_ne (tgt := 47) hx hb dX10_take_25 (by decide) (fun q => ?_) (fun q => ?_)
    · replace hf := zif_f q hf
      refine lv_aload_n hx hb dX10_take_47 rfl (lv_at hl 0 rfl) ?_
      refine z_get hC hI hinX10_take_X100 5 (wC_e5 ad cy σ) rfl 0 (by decide) (List.mem_cons_of_mem _ zw6_4) rfl dX10_take_48 ?_
      refine lv_bipush (v := 64) hx hb dX10_take_51 (by decide) ?_
      refine lv_iload_n hx hb dX10_take_53 rfl (lv_at hl 2 rfl) ?_
      refine lv_iconst (v := 3) hx hb dX10_take_54 (by decide) ?_
      refine lv_iand hx hb dX10_take_55 ?_
      obtain ⟨q, hf⟩ := zck_use hf
      obtain ⟨σ1, eσ1⟩ : ∃ z, z = zsi σ 32 ((64 : Int32).toNatClampNeg) (x2 &&& 3) := ⟨_, rfl⟩
      replace hf := zbv_use eσ1 hf
      refine z_iast hC hI 32 19 (wC_e32 ad cy σ) (tC_t32 cy) q ((wC_s32 ad cy σ _ _).trans (congrArg (wC ad cy) eσ1.symm)) dX10_take_56 (fun H locs hI => ?_)
      exact bX10_take_57 hC  hI (lv_sub hl [] rfl) hf
    replace hf := zif_t q hf
    refine lv_aload_n hx hb dX10_take_28 rfl (lv_at hl 0 rfl) ?_
    refine z_get hC hI hinX10_take_X100 5 (wC_e5 ad cy σ) rfl 0 (by decide) (List.mem_cons_of_mem _ zw6_4) rfl dX10_take_29 ?_
    refine lv_aload_n hx hb dX10_take_32 rfl (lv_at hl 0 rfl) ?_
    refine z_get hC hI hinX10_take_X100 5 (wC_e5 ad cy σ) rfl 0 (by decide) (List.mem_cons_of_mem _ zw6_4) rfl dX10_take_33 ?_
    refine lv_bipush (v := 68) hx hb dX10_take_36 (by decide) ?_
    obtain ⟨q, hf⟩ := zck_use hf
    refine z_iald hC hI 32 19 (wC_e32 ad cy σ) (tC_t32 cy) q dX10_take_38 ?_
    refine lv_bipush (v := 63) hx hb dX10_take_39 (by decide) ?_
    refine lv_iand hx hb dX10_take_41 ?_
    refine lv_iload_n hx hb dX10_take_42 rfl (lv_at hl 2 rfl) ?_
    obtain ⟨q, hf⟩ := zck_use hf
    obtain ⟨σ2, eσ2⟩ : ∃ z, z = zsi σ 32 (((zgi σ 32 (68 : Int32).toNatClampNeg) &&& 63).toNatClampNeg) x2 := ⟨_, rfl⟩
    replace hf := zbv_use eσ2 hf
    refine z_iast hC hI 32 19 (wC_e32 ad cy σ) (tC_t32 cy) q ((wC_s32 ad cy σ _ _).trans (congrArg (wC ad cy) eσ2.symm)) dX10_take_43 (fun H locs hI => ?_)
    refine lv_goto (tgt := 57) hx hb dX10_take_44 (by decide) ?_
    exact bX10_take_57 hC  hI (lv_sub hl [] rfl) hf
  replace hf := zif_t q hf
  refine lv_aload_n hx hb dX10_take_7 rfl (lv_at hl 0 rfl) ?_
  refine z_get hC hI hinX10_take_X100 5 (wC_e5 ad cy σ) rfl 0 (by decide) (List.mem_cons_of_mem _ zw6_4) rfl dX10_take_8 ?_
  refine lv_bipush (v := 68) hx hb dX10_take_11 (by decide) ?_
  refine lv_iload_n hx hb dX10_take_13 rfl (lv_at hl 2 rfl) ?_
  refine lv_bipush (v := 63) hx hb dX10_take_14 (by decide) ?_
  refine lv_iand hx hb dX10_take_16 ?_
  obtain ⟨q, hf⟩ := zck_use hf
  obtain ⟨σ3, eσ3⟩ : ∃ z, z = zsi σ 32 ((68 : Int32).toNatClampNeg) (x2 &&& 63) := ⟨_, rfl⟩
  replace hf := zbv_use eσ3 hf
  refine z_iast hC hI 32 19 (wC_e32 ad cy σ) (tC_t32 cy) q ((wC_s32 ad cy σ _ _).trans (congrArg (wC ad cy) eσ3.symm)) dX10_take_17 (fun H locs hI => ?_)
  refine lv_goto (tgt := 57) hx hb dX10_take_18 (by decide) ?_
  exact bX10_take_57 hC  hI (lv_sub hl [] rfl) hf
set_option maxRecDepth 20000 in
theorem cX10_take_met (st : Nat → Nat) (l : Launch) (D : va_G) (ad : Nat → Nat) (cy : Nat → ClassId) (σ : zSt) (x1 : Int32) (x2 : Int32) (res : zSt) (hf : fX10_take σ x1 x2 = some res) (sz : Nat) : zMu st l yX10_take wzX10_take rmX10_take [.ref (ad 5), .int x1, .int x2] D (tC cy) (wC ad cy) sz σ res :=
  zMu.of (cc := cX10_take) (maxL := 3) (ret := none) (by decide) rfl (Nat.le_of_ble_eq_true rfl) (fun p e s m args below meth c hC A hI ls hl => bX10_take hC hI hl hf)
theorem hdX10_take : yX10_take.cls = RX10 ∧ yX10_take.cls ≠ "java/lang/invoke/MethodHandle" ∧ yX10_take.cls ≠ "java/lang/invoke/VarHandle" ∧ (parseMethodDescriptor yX10_take.desc).map (fun d => d.parameters.length) = some 2 := by decide +kernel
noncomputable def rmX9_writeColour : Room := { frames := 0, cells := 0, slots := 0, locals := 0 }
noncomputable def wzX9_writeColour : List Cond := .code yX9_writeColour cX9_writeColour 3 none :: wsL_law
theorem hinX9_writeColour_X90 : ∀ w ∈ wsX90, w ∈ wzX9_writeColour := fun w h => List.mem_cons_of_mem _ (inlX9 w h)
noncomputable def fX9_writeColour_72  (σ : zSt)  : Option (zSt) :=
  some σ
noncomputable def fX9_writeColour  (σ : zSt) (x1 : Int32) (x2 : Int32) : Option (zSt) :=
  if (zgi σ 2 0) = 0 then zck (zin (32 + (x1 &&& 31)) 96) (zbv (zsi σ 23 ((32 + (x1 &&& 31)).toNatClampNeg) x2) (fun σ4 =>
  fX9_writeColour_72 σ4)) else
  if (x1 &&& 1) = 0 then zck (zin 26 96) (zbv (zsi σ 23 ((26 : Int32).toNatClampNeg) x2) (fun σ3 =>
  fX9_writeColour_72 σ3)) else
  zck (zin 26 96) (
  zck (zin (32 + (x1 &&& 62)) 96) (zbv (zsi σ 23 ((32 + (x1 &&& 62)).toNatClampNeg) (zgi σ 23 (26 : Int32).toNatClampNeg)) (fun σ1 =>
  zck (zin (32 + (x1 &&& 63)) 96) (zbv (zsi σ1 23 ((32 + (x1 &&& 63)).toNatClampNeg) x2) (fun σ2 =>
  fX9_writeColour_72 σ2)))))
set_option maxRecDepth 20000 in
set_option maxHeartbeats 4000000 in
theorem bX9_writeColour_72 {st : Nat → Nat} {p : Program} {l : Launch} {e : Env} {s : State} {m : MethodId} {args : Array Value} {below : List Frame} {meth : Method} {c : Code} {D : va_G} {A : Nat → Prop} {ad : Nat → Nat} {cy : Nat → ClassId} (hC : zC p m c cX9_writeColour 3 s args wzX9_writeColour RX9 meth none)  {res : zSt} {H : Heap} {locs : List Loc} {σ : zSt} {ls : Array Slot}  (hI : zI st D (tC cy) (wC ad cy σ) A s H locs) (hl : lv_has ls 3 []) (hf : fX9_writeColour_72  σ  = some res) : W p l e rmX9_writeColour s m args below meth c H locs 0 0 (zQu below args s D (tC cy) (wC ad cy) A res) (F0 m 72 ls []) := by
  have hx := hC.1
  have hb := hC.2.1
  unfold fX9_writeColour_72 at hf
  exact z_return hC hI hf dX9_writeColour_72
set_option maxRecDepth 20000 in
set_option maxHeartbeats 4000000 in
theorem bX9_writeColour {st : Nat → Nat} {p : Program} {l : Launch} {e : Env} {s : State} {m : MethodId} {args : Array Value} {below : List Frame} {meth : Method} {c : Code} {D : va_G} {A : Nat → Prop} {ad : Nat → Nat} {cy : Nat → ClassId} (hC : zC p m c cX9_writeColour 3 s args wzX9_writeColour RX9 meth none)  {res : zSt} {H : Heap} {locs : List Loc} {σ : zSt} {ls : Array Slot} {x1 : Int32} {x2 : Int32} (hI : zI st D (tC cy) (wC ad cy σ) A s H locs) (hl : lv_has ls 3 [(0, .ref (ad 2)), (1, .int x1), (2, .int x2)]) (hf : fX9_writeColour  σ x1 x2 = some res) : W p l e rmX9_writeColour s m args below meth c H locs 0 0 (zQu below args s D (tC cy) (wC ad cy) A res) (F0 m 0 ls []) := by
  have hx := hC.1
  have hb := hC.2.1
  unfold fX9_writeColour at hf
  refine lv_aload_n hx hb dX9_writeColour_0 rfl (lv_at hl 0 rfl) ?_
  refine z_get hC hI hinX9_writeColour_X90 2 (wC_e2 ad cy σ) rfl 0 (by decide) (List.mem_cons_of_mem _ zw4_10) rfl dX9_writeColour_1 ?_
  refine lv_if_ne (tgt := 23) hx hb dX9_writeColour_4 (by decide) (fun q => ?_) (fun q => ?_)
  · replace hf := zif_f q hf
    refine lv_iload_n hx hb dX9_writeColour_23 rfl (lv_at hl 1 rfl) ?_
    refine lv_iconst (v := 1) hx hb dX9_writeColour_24 (by decide) ?_
    refine lv_iand hx hb dX9_writeColour_25 ?_
    refine lv_if_ne (tgt := 40) hx hb dX9_writeColour_26 (by decide) (fun q => ?_) (fun q => ?_)
    · replace hf := zif_f q hf
      refine lv_aload_n hx hb dX9_writeColour_40 rfl (lv_at hl 0 rfl) ?_
      refine z_get hC hI hinX9_writeColour_X90 2 (wC_e2 ad cy σ) rfl 4 (by decide) (List.mem_cons_of_mem _ zw4_8) rfl dX9_writeColour_41 ?_
      refine lv_bipush (v := 32) hx hb dX9_writeColour_44 (by decide) ?_
      refine lv_iload_n hx hb dX9_writeColour_46 rfl (lv_at hl 1 rfl) ?_
      refine lv_bipush (v := 62) hx hb dX9_writeColour_47 (by decide) ?_
      refine lv_iand hx hb dX9_writeColour_49 ?_
      refine lv_iadd hx hb dX9_writeColour_50 ?_
      refine lv_aload_n hx hb dX9_writeColour_51 rfl (lv_at hl 0 rfl) ?_
      refine z_get hC hI hinX9_writeColour_X90 2 (wC_e2 ad cy σ) rfl 4 (by decide) (List.mem_cons_of_mem _ zw4_8) rfl dX9_writeColour_52 ?_
      refine lv_bipush (v := 26) hx hb dX9_writeColour_55 (by decide) ?_
      obtain ⟨q, hf⟩ := zck_use hf
      refine z_iald hC hI 23 10 (wC_e23 ad cy σ) (tC_t23 cy) q dX9_writeColour_57 ?_
      obtain ⟨q, hf⟩ := zck_use hf
      obtain ⟨σ1, eσ1⟩ : ∃ z, z = zsi σ 23 ((32 + (x1 &&& 62)).toNatClampNeg) (zgi σ 23 (26 : Int32).toNatClampNeg) := ⟨_, rfl⟩
      replace hf := zbv_use eσ1 hf
      refine z_iast hC hI 23 10 (wC_e23 ad cy σ) (tC_t23 cy) q ((wC_s23 ad cy σ _ _).trans (congrArg (wC ad cy) eσ1.symm)) dX9_writeColour_58 (fun H locs hI => ?_)
      refine lv_aload_n hx hb dX9_writeColour_59 rfl (lv_at hl 0 rfl) ?_
      refine z_get hC hI hinX9_writeColour_X90 2 (wC_e2 ad cy σ1) rfl 4 (by decide) (List.mem_cons_of_mem _ zw4_8) rfl dX9_writeColour_60 ?_
      refine lv_bipush (v := 32) hx hb dX9_writeColour_63 (by decide) ?_
      refine lv_iload_n hx hb dX9_writeColour_65 rfl (lv_at hl 1 rfl) ?_
      refine lv_bipush (v := 63) hx hb dX9_writeColour_66 (by decide) ?_
      refine lv_iand hx hb dX9_writeColour_68 ?_
      refine lv_iadd hx hb dX9_writeColour_69 ?_
      refine lv_iload_n hx hb dX9_writeColour_70 rfl (lv_at hl 2 rfl) ?_
      obtain ⟨q, hf⟩ := zck_use hf
      obtain ⟨σ2, eσ2⟩ : ∃ z, z = zsi σ1 23 ((32 + (x1 &&& 63)).toNatClampNeg) x2 := ⟨_, rfl⟩
      replace hf := zbv_use eσ2 hf
      refine z_iast hC hI 23 10 (wC_e23 ad cy σ1) (tC_t23 cy) q ((wC_s23 ad cy σ1 _ _).trans (congrArg (wC ad cy) eσ2.symm)) dX9_writeColour_71 (fun H locs hI => ?_)
      exact bX9_writeColour_72 hC  hI (lv_sub hl [] rfl) hf
    replace hf := zif_t q hf
    refine lv_aload_n hx hb dX9_writeColour_29 rfl (lv_at hl 0 rfl) ?_
    refine z_get hC hI hinX9_writeColour_X90 2 (wC_e2 ad cy σ) rfl 4 (by decide) (List.mem_cons_of_mem _ zw4_8) rfl dX9_writeColour_30 ?_
    refine lv_bipush (v := 26) hx hb dX9_writeColour_33 (by decide) ?_
    refine lv_iload_n hx hb dX9_writeColour_35 rfl (lv_at hl 2 rfl) ?_
    obtain ⟨q, hf⟩ := zck_use hf
    obtain ⟨σ3, eσ3⟩ : ∃ z, z = zsi σ 23 ((26 : Int32).toNatClampNeg) x2 := ⟨_, rfl⟩
    replace hf := zbv_use eσ3 hf
    refine z_iast hC hI 23 10 (wC_e23 ad cy σ) (tC_t23 cy) q ((wC_s23 ad cy σ _ _).trans (congrArg (wC ad cy) eσ3.symm)) dX9_writeColour_36 (fun H locs hI => ?_)
    refine lv_goto (tgt := 72) hx hb dX9_writeColour_37 (by decide) ?_
    exact bX9_writeColour_72 hC  hI (lv_sub hl [] rfl) hf
  replace hf := zif_t q hf
  refine lv_aload_n hx hb dX9_writeColour_7 rfl (lv_at hl 0 rfl) ?_
  refine z_get hC hI hinX9_writeColour_X90 2 (wC_e2 ad cy σ) rfl 4 (by decide) (List.mem_cons_of_mem _ zw4_8) rfl dX9_writeColour_8 ?_
  refine lv_bipush (v := 32) hx hb dX9_writeColour_11 (by decide) ?_
  refine lv_iload_n hx hb dX9_writeColour_13 rfl (lv_at hl 1 rfl) ?_
  refine lv_bipush (v := 31) hx hb dX9_writeColour_14 (by decide) ?_
  refine lv_iand hx hb dX9_writeColour_16 ?_
  refine lv_iadd hx hb dX9_writeColour_17 ?_
  refine lv_iload_n hx hb dX9_writeColour_18 rfl (lv_at hl 2 rfl) ?_
  obtain ⟨q, hf⟩ := zck_use hf
  obtain ⟨σ4, eσ4⟩ : ∃ z, z = zsi σ 23 ((32 + (x1 &&& 31)).toNatClampNeg) x2 := ⟨_, rfl⟩
  replace hf := zbv_use eσ4 hf
  refine z_iast hC hI 23 10 (wC_e23 ad cy σ) (tC_t23 cy) q ((wC_s23 ad cy σ _ _).trans (congrArg (wC ad cy) eσ4.symm)) dX9_writeColour_19 (fun H locs hI => ?_)
  refine lv_goto (tgt := 72) hx hb dX9_writeColour_20 (by decide) ?_
  exact bX9_writeColour_72 hC  hI (lv_sub hl [] rfl) hf
set_option maxRecDepth 20000 in
theorem cX9_writeColour_met (st : Nat → Nat) (l : Launch) (D : va_G) (ad : Nat → Nat) (cy : Nat → ClassId) (σ : zSt) (x1 : Int32) (x2 : Int32) (res : zSt) (hf : fX9_writeColour σ x1 x2 = some res) (sz : Nat) : zMu st l yX9_writeColour wzX9_writeColour rmX9_writeColour [.ref (ad 2), .int x1, .int x2] D (tC cy) (wC ad cy) sz σ res :=
  zMu.of (cc := cX9_writeColour) (maxL := 3) (ret := none) (by decide) rfl (Nat.le_of_ble_eq_true rfl) (fun p e s m args below meth c hC A hI ls hl => bX9_writeColour hC hI hl hf)
theorem hdX9_writeColour : yX9_writeColour.cls = RX9 ∧ yX9_writeColour.cls ≠ "java/lang/invoke/MethodHandle" ∧ yX9_writeColour.cls ≠ "java/lang/invoke/VarHandle" ∧ (parseMethodDescriptor yX9_writeColour.desc).map (fun d => d.parameters.length) = some 2 := by decide +kernel
noncomputable def rmX9_writeData : Room := { frames := 1, cells := 0, slots := 0, locals := 22 }
noncomputable def wzX9_writeData : List Cond := .code yX9_writeData cX9_writeData 3 none :: wsL_law
theorem hinX9_writeData_X90 : ∀ w ∈ wsX90, w ∈ wzX9_writeData := fun w h => List.mem_cons_of_mem _ (inlX9 w h)
noncomputable def fX9_writeData_69  (σ : zSt)  : Option (zSt) :=
  some σ
noncomputable def fX9_writeData  (σ : zSt) (x1 : Int32) : Option (zSt) :=
  zck (zin 11 96) (
  zbv ((zgi σ 23 (11 : Int32).toNatClampNeg) &&& 16383) (fun v1 =>
  zck (zin 14 96) (zbv (zsi σ 23 ((14 : Int32).toNatClampNeg) 0) (fun σ2 =>
  zck (zin 13 96) (zbv (zsi σ2 23 ((13 : Int32).toNatClampNeg) x1) (fun σ3 =>
  zck (zin 11 96) (zbv (zsi σ3 23 ((11 : Int32).toNatClampNeg) ((v1 + 1) &&& 16383)) (fun σ4 =>
  zck (zin 12 96) (
  if (zgi σ4 23 (12 : Int32).toNatClampNeg) = 3 then zbu (fX9_writeColour σ4 v1 x1) (fun σ6 =>
  fX9_writeData_69 σ6) else
  zck (zin v1 16384) (zbv (zsi σ4 21 (v1.toNatClampNeg) x1) (fun σ5 =>
  fX9_writeData_69 σ5)))))))))))
set_option maxRecDepth 20000 in
set_option maxHeartbeats 4000000 in
theorem bX9_writeData_69 {st : Nat → Nat} {p : Program} {l : Launch} {e : Env} {s : State} {m : MethodId} {args : Array Value} {below : List Frame} {meth : Method} {c : Code} {D : va_G} {A : Nat → Prop} {ad : Nat → Nat} {cy : Nat → ClassId} (hC : zC p m c cX9_writeData 3 s args wzX9_writeData RX9 meth none)  {res : zSt} {H : Heap} {locs : List Loc} {σ : zSt} {ls : Array Slot}  (hI : zI st D (tC cy) (wC ad cy σ) A s H locs) (hl : lv_has ls 3 []) (hf : fX9_writeData_69  σ  = some res) : W p l e rmX9_writeData s m args below meth c H locs 0 0 (zQu below args s D (tC cy) (wC ad cy) A res) (F0 m 69 ls []) := by
  have hx := hC.1
  have hb := hC.2.1
  unfold fX9_writeData_69 at hf
  exact z_return hC hI hf dX9_writeData_69
set_option maxRecDepth 20000 in
set_option maxHeartbeats 4000000 in
theorem bX9_writeData {st : Nat → Nat} {p : Program} {l : Launch} {e : Env} {s : State} {m : MethodId} {args : Array Value} {below : List Frame} {meth : Method} {c : Code} {D : va_G} {A : Nat → Prop} {ad : Nat → Nat} {cy : Nat → ClassId} (hC : zC p m c cX9_writeData 3 s args wzX9_writeData RX9 meth none)  {res : zSt} {H : Heap} {locs : List Loc} {σ : zSt} {ls : Array Slot} {x1 : Int32} (hI : zI st D (tC cy) (wC ad cy σ) A s H locs) (hl : lv_has ls 3 [(0, .ref (ad 2)), (1, .int x1)]) (hf : fX9_writeData  σ x1 = some res) : W p l e rmX9_writeData s m args below meth c H locs 0 0 (zQu below args s D (tC cy) (wC ad cy) A res) (F0 m 0 ls []) := by
  have hx := hC.1
  have hb := hC.2.1
  unfold fX9_writeData at hf
  refine lv_aload_n hx hb dX9_writeData_0 rfl (lv_at hl 0 rfl) ?_
  refine z_get hC hI hinX9_writeData_X90 2 (wC_e2 ad cy σ) rfl 4 (by decide) (List.mem_cons_of_mem _ zw4_8) rfl dX9_writeData_1 ?_
  refine lv_bipush (v := 11) hx hb dX9_writeData_4 (by decide) ?_
  obtain ⟨q, hf⟩ := zck_use hf
  refine z_iald hC hI 23 10 (wC_e23 ad cy σ) (tC_t23 cy) q dX9_writeData_6 ?_
  refine lv_sipush (v := 16383) hx hb dX9_writeData_7 (by decide) ?_
  refine lv_iand hx hb dX9_writeData_10 ?_
  refine lv_topi (fun v1 ev1 => ?_)
  replace hf := zbv_use ev1 hf
  refine lv_istore_n (lv' := [(2, .int v1), (0, .ref (ad 2)), (1, .int x1)]) hx hb dX9_writeData_11 rfl hl (by decide) rfl (fun ls hl => ?_)
  refine lv_aload_n hx hb dX9_writeData_12 rfl (lv_at hl 1 rfl) ?_
  refine z_get hC hI hinX9_writeData_X90 2 (wC_e2 ad cy σ) rfl 4 (by decide) (List.mem_cons_of_mem _ zw4_8) rfl dX9_writeData_13 ?_
  refine lv_bipush (v := 14) hx hb dX9_writeData_16 (by decide) ?_
  refine lv_iconst (v := 0) hx hb dX9_writeData_18 (by decide) ?_
  obtain ⟨q, hf⟩ := zck_use hf
  obtain ⟨σ2, eσ2⟩ : ∃ z, z = zsi σ 23 ((14 : Int32).toNatClampNeg) 0 := ⟨_, rfl⟩
  replace hf := zbv_use eσ2 hf
  refine z_iast hC hI 23 10 (wC_e23 ad cy σ) (tC_t23 cy) q ((wC_s23 ad cy σ _ _).trans (congrArg (wC ad cy) eσ2.symm)) dX9_writeData_19 (fun H locs hI => ?_)
  refine lv_aload_n hx hb dX9_writeData_20 rfl (lv_at hl 1 rfl) ?_
  refine z_get hC hI hinX9_writeData_X90 2 (wC_e2 ad cy σ2) rfl 4 (by decide) (List.mem_cons_of_mem _ zw4_8) rfl dX9_writeData_21 ?_
  refine lv_bipush (v := 13) hx hb dX9_writeData_24 (by decide) ?_
  refine lv_iload_n hx hb dX9_writeData_26 rfl (lv_at hl 2 rfl) ?_
  obtain ⟨q, hf⟩ := zck_use hf
  obtain ⟨σ3, eσ3⟩ : ∃ z, z = zsi σ2 23 ((13 : Int32).toNatClampNeg) x1 := ⟨_, rfl⟩
  replace hf := zbv_use eσ3 hf
  refine z_iast hC hI 23 10 (wC_e23 ad cy σ2) (tC_t23 cy) q ((wC_s23 ad cy σ2 _ _).trans (congrArg (wC ad cy) eσ3.symm)) dX9_writeData_27 (fun H locs hI => ?_)
  refine lv_aload_n hx hb dX9_writeData_28 rfl (lv_at hl 1 rfl) ?_
  refine z_get hC hI hinX9_writeData_X90 2 (wC_e2 ad cy σ3) rfl 4 (by decide) (List.mem_cons_of_mem _ zw4_8) rfl dX9_writeData_29 ?_
  refine lv_bipush (v := 11) hx hb dX9_writeData_32 (by decide) ?_
  refine lv_iload_n hx hb dX9_writeData_34 rfl (lv_at hl 0 rfl) ?_
  refine lv_iconst (v := 1) hx hb dX9_writeData_35 (by decide) ?_
  refine lv_iadd hx hb dX9_writeData_36 ?_
  refine lv_sipush (v := 16383) hx hb dX9_writeData_37 (by decide) ?_
  refine lv_iand hx hb dX9_writeData_40 ?_
  obtain ⟨q, hf⟩ := zck_use hf
  obtain ⟨σ4, eσ4⟩ : ∃ z, z = zsi σ3 23 ((11 : Int32).toNatClampNeg) ((v1 + 1) &&& 16383) := ⟨_, rfl⟩
  replace hf := zbv_use eσ4 hf
  refine z_iast hC hI 23 10 (wC_e23 ad cy σ3) (tC_t23 cy) q ((wC_s23 ad cy σ3 _ _).trans (congrArg (wC ad cy) eσ4.symm)) dX9_writeData_41 (fun H locs hI => ?_)
  refine lv_aload_n hx hb dX9_writeData_42 rfl (lv_at hl 1 rfl) ?_
  refine z_get hC hI hinX9_writeData_X90 2 (wC_e2 ad cy σ4) rfl 4 (by decide) (List.mem_cons_of_mem _ zw4_8) rfl dX9_writeData_43 ?_
  refine lv_bipush (v := 12) hx hb dX9_writeData_46 (by decide) ?_
  obtain ⟨q, hf⟩ := zck_use hf
  refine z_iald hC hI 23 10 (wC_e23 ad cy σ4) (tC_t23 cy) q dX9_writeData_48 ?_
  refine lv_iconst (v := 3) hx hb dX9_writeData_49 (by decide) ?_
  refine lv_icmp_ne (tgt := 62) hx hb dX9_writeData_50 (by decide) (fun q => ?_) (fun q => ?_)
  · replace hf := zif_f q hf
    refine lv_aload_n hx hb dX9_writeData_62 rfl (lv_at hl 1 rfl) ?_
    refine z_get hC hI hinX9_writeData_X90 2 (wC_e2 ad cy σ4) rfl 2 (by decide) (List.mem_cons_of_mem _ zw4_6) rfl dX9_writeData_63 ?_
    refine lv_iload_n hx hb dX9_writeData_66 rfl (lv_at hl 0 rfl) ?_
    refine lv_iload_n hx hb dX9_writeData_67 rfl (lv_at hl 2 rfl) ?_
    obtain ⟨q, hf⟩ := zck_use hf
    obtain ⟨σ5, eσ5⟩ : ∃ z, z = zsi σ4 21 (v1.toNatClampNeg) x1 := ⟨_, rfl⟩
    replace hf := zbv_use eσ5 hf
    refine z_iast hC hI 21 8 (wC_e21 ad cy σ4) (tC_t21 cy) q ((wC_s21 ad cy σ4 _ _).trans (congrArg (wC ad cy) eσ5.symm)) dX9_writeData_68 (fun H locs hI => ?_)
    exact bX9_writeData_69 hC  hI (lv_sub hl [] rfl) hf
  replace hf := zif_t q hf
  refine lv_aload_n hx hb dX9_writeData_53 rfl (lv_at hl 1 rfl) ?_
  refine lv_iload_n hx hb dX9_writeData_54 rfl (lv_at hl 0 rfl) ?_
  refine lv_iload_n hx hb dX9_writeData_55 rfl (lv_at hl 2 rfl) ?_
  obtain ⟨σ6, g6, hf⟩ := zbu_use hf
  refine z_callVu (As := [.int v1, .int x1]) (rest := []) hC hI (cX9_writeColour_met st l D ad cy σ4 v1 x1 _ g6) (zgV zw28_13 zw28_14 zw28_15 zw2_1 zw28_16) rfl ⟨rfl, rfl⟩ 2 hdX9_writeColour ⟨Nat.le_of_ble_eq_true rfl, Nat.le_of_ble_eq_true rfl⟩ rfl rfl (wC_e2 ad cy σ4) rfl hl rfl (Nat.le_of_ble_eq_true rfl) dX9_writeData_56 ⟨Nat.zero_le _, Nat.zero_le _⟩ (fun H locs hI => ?_)
  refine lv_goto (tgt := 69) hx hb dX9_writeData_59 (by decide) ?_
  exact bX9_writeData_69 hC  hI (lv_sub hl [] rfl) hf
set_option maxRecDepth 20000 in
theorem cX9_writeData_met (st : Nat → Nat) (l : Launch) (D : va_G) (ad : Nat → Nat) (cy : Nat → ClassId) (σ : zSt) (x1 : Int32) (res : zSt) (hf : fX9_writeData σ x1 = some res) (sz : Nat) : zMu st l yX9_writeData wzX9_writeData rmX9_writeData [.ref (ad 2), .int x1] D (tC cy) (wC ad cy) sz σ res :=
  zMu.of (cc := cX9_writeData) (maxL := 3) (ret := none) (by decide) rfl (Nat.le_of_ble_eq_true rfl) (fun p e s m args below meth c hC A hI ls hl => bX9_writeData hC hI hl hf)
theorem hdX9_writeData : yX9_writeData.cls = RX9 ∧ yX9_writeData.cls ≠ "java/lang/invoke/MethodHandle" ∧ yX9_writeData.cls ≠ "java/lang/invoke/VarHandle" ∧ (parseMethodDescriptor yX9_writeData.desc).map (fun d => d.parameters.length) = some 1 := by decide +kernel
noncomputable def rmX9_writeControl : Room := { frames := 1, cells := 0, slots := 0, locals := 20 }
noncomputable def wzX9_writeControl : List Cond := .code yX9_writeControl cX9_writeControl 2 none :: wsL_law
theorem hinX9_writeControl_X90 : ∀ w ∈ wsX90, w ∈ wzX9_writeControl := fun w h => List.mem_cons_of_mem _ (inlX9 w h)
noncomputable def fX9_writeControl_141  (σ : zSt)  : Option (zSt) :=
  some σ
noncomputable def fX9_writeControl  (σ : zSt) (x1 : Int32) : Option (zSt) :=
  zck (zin 14 96) (
  if (zgi σ 23 (14 : Int32).toNatClampNeg) = 0 then zck (zin 11 96) (
  zck (zin 11 96) (zbv (zsi σ 23 ((11 : Int32).toNatClampNeg) (((zgi σ 23 (11 : Int32).toNatClampNeg) &&& 16128) ||| x1)) (fun σ6 =>
  zck (zin 14 96) (zbv (zsi σ6 23 ((14 : Int32).toNatClampNeg) 1) (fun σ7 =>
  some σ7))))) else
  zck (zin 14 96) (zbv (zsi σ 23 ((14 : Int32).toNatClampNeg) 0) (fun σ1 =>
  zck (zin 11 96) (
  zck (zin 11 96) (zbv (zsi σ1 23 ((11 : Int32).toNatClampNeg) (((x1 &&& 63) <<< ((8 : Int32) &&& 31)) ||| ((zgi σ1 23 (11 : Int32).toNatClampNeg) &&& 255))) (fun σ2 =>
  zck (zin 12 96) (zbv (zsi σ2 23 ((12 : Int32).toNatClampNeg) (x1 >>> ((6 : Int32) &&& 31))) (fun σ3 =>
  zck (zin 12 96) (
  if (zgi σ3 23 (12 : Int32).toNatClampNeg) = 0 then zbu (fX9_readAhead σ3 ) (fun σ5 =>
  fX9_writeControl_141 σ5) else
  zck (zin 12 96) (
  if (zgi σ3 23 (12 : Int32).toNatClampNeg) = 2 then if 10 < (x1 &&& 15) then fX9_writeControl_141 σ3 else
  zck (zin 11 96) (
  zck (zin (x1 &&& 15) 96) (zbv (zsi σ3 23 ((x1 &&& 15).toNatClampNeg) ((zgi σ3 23 (11 : Int32).toNatClampNeg) &&& 255)) (fun σ4 =>
  fX9_writeControl_141 σ4))) else
  fX9_writeControl_141 σ3))))))))))
set_option maxRecDepth 20000 in
set_option maxHeartbeats 4000000 in
theorem bX9_writeControl_141 {st : Nat → Nat} {p : Program} {l : Launch} {e : Env} {s : State} {m : MethodId} {args : Array Value} {below : List Frame} {meth : Method} {c : Code} {D : va_G} {A : Nat → Prop} {ad : Nat → Nat} {cy : Nat → ClassId} (hC : zC p m c cX9_writeControl 2 s args wzX9_writeControl RX9 meth none)  {res : zSt} {H : Heap} {locs : List Loc} {σ : zSt} {ls : Array Slot}  (hI : zI st D (tC cy) (wC ad cy σ) A s H locs) (hl : lv_has ls 2 []) (hf : fX9_writeControl_141  σ  = some res) : W p l e rmX9_writeControl s m args below meth c H locs 0 0 (zQu below args s D (tC cy) (wC ad cy) A res) (F0 m 141 ls []) := by
  have hx := hC.1
  have hb := hC.2.1
  unfold fX9_writeControl_141 at hf
  exact z_return hC hI hf dX9_writeControl_141
set_option maxRecDepth 20000 in
set_option maxHeartbeats 4000000 in
theorem bX9_writeControl {st : Nat → Nat} {p : Program} {l : Launch} {e : Env} {s : State} {m : MethodId} {args : Array Value} {below : List Frame} {meth : Method} {c : Code} {D : va_G} {A : Nat → Prop} {ad : Nat → Nat} {cy : Nat → ClassId} (hC : zC p m c cX9_writeControl 2 s args wzX9_writeControl RX9 meth none)  {res : zSt} {H : Heap} {locs : List Loc} {σ : zSt} {ls : Array Slot} {x1 : Int32} (hI : zI st D (tC cy) (wC ad cy σ) A s H locs) (hl : lv_has ls 2 [(0, .ref (ad 2)), (1, .int x1)]) (hf : fX9_writeControl  σ x1 = some res) : W p l e rmX9_writeControl s m args below meth c H locs 0 0 (zQu below args s D (tC cy) (wC ad cy) A res) (F0 m 0 ls []) := by
  have hx := hC.1
  have hb := hC.2.1
  unfold fX9_writeControl at hf
  refine lv_aload_n hx hb dX9_writeControl_0 rfl (lv_at hl 0 rfl) ?_
  refine z_get hC hI hinX9_writeControl_X90 2 (wC_e2 ad cy σ) rfl 4 (by decide) (List.mem_cons_of_mem _ zw4_8) rfl dX9_writeControl_1 ?_
  refine lv_bipush (v := 14) hx hb dX9_writeControl_4 (by decide) ?_
  obtain ⟨q, hf⟩ := zck_use hf
  refine z_iald hC hI 23 10 (wC_e23 ad cy σ) (tC_t23 cy) q dX9_writeControl_6 ?_
  refine lv_if_ne (tgt := 39) hx hb dX9_writeControl_7 (by decide) (fun q => ?_) (fun q => ?_)
  · replace hf := zif_f q hf
    refine lv_aload_n hx hb dX9_writeControl_39 rfl (lv_at hl 0 rfl) ?_
    refine z_get hC hI hinX9_writeControl_X90 2 (wC_e2 ad cy σ) rfl 4 (by decide) (List.mem_cons_of_mem _ zw4_8) rfl dX9_writeControl_40 ?_
    refine lv_bipush (v := 14) hx hb dX9_writeControl_43 (by decide) ?_
    refine lv_iconst (v := 0) hx hb dX9_writeControl_45 (by decide) ?_
    obtain ⟨q, hf⟩ := zck_use hf
    obtain ⟨σ1, eσ1⟩ : ∃ z, z = zsi σ 23 ((14 : Int32).toNatClampNeg) 0 := ⟨_, rfl⟩
    replace hf := zbv_use eσ1 hf
    refine z_iast hC hI 23 10 (wC_e23 ad cy σ) (tC_t23 cy) q ((wC_s23 ad cy σ _ _).trans (congrArg (wC ad cy) eσ1.symm)) dX9_writeControl_46 (fun H locs hI => ?_)
    refine lv_aload_n hx hb dX9_writeControl_47 rfl (lv_at hl 0 rfl) ?_
    refine z_get hC hI hinX9_writeControl_X90 2 (wC_e2 ad cy σ1) rfl 4 (by decide) (List.mem_cons_of_mem _ zw4_8) rfl dX9_writeControl_48 ?_
    refine lv_bipush (v := 11) hx hb dX9_writeControl_51 (by decide) ?_
    refine lv_iload_n hx hb dX9_writeControl_53 rfl (lv_at hl 1 rfl) ?_
    refine lv_bipush (v := 63) hx hb dX9_writeControl_54 (by decide) ?_
    refine lv_iand hx hb dX9_writeControl_56 ?_
    refine lv_bipush (v := 8) hx hb dX9_writeControl_57 (by decide) ?_
    refine lv_ishl hx hb dX9_writeControl_59 ?_
    refine lv_aload_n hx hb dX9_writeControl_60 rfl (lv_at hl 0 rfl) ?_
    refine z_get hC hI hinX9_writeControl_X90 2 (wC_e2 ad cy σ1) rfl 4 (by decide) (List.mem_cons_of_mem _ zw4_8) rfl dX9_writeControl_61 ?_
    refine lv_bipush (v := 11) hx hb dX9_writeControl_64 (by decide) ?_
    obtain ⟨q, hf⟩ := zck_use hf
    refine z_iald hC hI 23 10 (wC_e23 ad cy σ1) (tC_t23 cy) q dX9_writeControl_66 ?_
    refine lv_sipush (v := 255) hx hb dX9_writeControl_67 (by decide) ?_
    refine lv_iand hx hb dX9_writeControl_70 ?_
    refine lv_ior hx hb dX9_writeControl_71 ?_
    obtain ⟨q, hf⟩ := zck_use hf
    obtain ⟨σ2, eσ2⟩ : ∃ z, z = zsi σ1 23 ((11 : Int32).toNatClampNeg) (((x1 &&& 63) <<< ((8 : Int32) &&& 31)) ||| ((zgi σ1 23 (11 : Int32).toNatClampNeg) &&& 255)) := ⟨_, rfl⟩
    replace hf := zbv_use eσ2 hf
    refine z_iast hC hI 23 10 (wC_e23 ad cy σ1) (tC_t23 cy) q ((wC_s23 ad cy σ1 _ _).trans (congrArg (wC ad cy) eσ2.symm)) dX9_writeControl_72 (fun H locs hI => ?_)
    refine lv_aload_n hx hb dX9_writeControl_73 rfl (lv_at hl 0 rfl) ?_
    refine z_get hC hI hinX9_writeControl_X90 2 (wC_e2 ad cy σ2) rfl 4 (by decide) (List.mem_cons_of_mem _ zw4_8) rfl dX9_writeControl_74 ?_
    refine lv_bipush (v := 12) hx hb dX9_writeControl_77 (by decide) ?_
    refine lv_iload_n hx hb dX9_writeControl_79 rfl (lv_at hl 1 rfl) ?_
    refine lv_bipush (v := 6) hx hb dX9_writeControl_80 (by decide) ?_
    refine lv_ishr hx hb dX9_writeControl_82 ?_
    obtain ⟨q, hf⟩ := zck_use hf
    obtain ⟨σ3, eσ3⟩ : ∃ z, z = zsi σ2 23 ((12 : Int32).toNatClampNeg) (x1 >>> ((6 : Int32) &&& 31)) := ⟨_, rfl⟩
    replace hf := zbv_use eσ3 hf
    refine z_iast hC hI 23 10 (wC_e23 ad cy σ2) (tC_t23 cy) q ((wC_s23 ad cy σ2 _ _).trans (congrArg (wC ad cy) eσ3.symm)) dX9_writeControl_83 (fun H locs hI => ?_)
    refine lv_aload_n hx hb dX9_writeControl_84 rfl (lv_at hl 0 rfl) ?_
    refine z_get hC hI hinX9_writeControl_X90 2 (wC_e2 ad cy σ3) rfl 4 (by decide) (List.mem_cons_of_mem _ zw4_8) rfl dX9_writeControl_85 ?_
    refine lv_bipush (v := 12) hx hb dX9_writeControl_88 (by decide) ?_
    obtain ⟨q, hf⟩ := zck_use hf
    refine z_iald hC hI 23 10 (wC_e23 ad cy σ3) (tC_t23 cy) q dX9_writeControl_90 ?_
    refine lv_if_ne (tgt := 101) hx hb dX9_writeControl_91 (by decide) (fun q => ?_) (fun q => ?_)
    · replace hf := zif_f q hf
      refine lv_aload_n hx hb dX9_writeControl_101 rfl (lv_at hl 0 rfl) ?_
      refine z_get hC hI hinX9_writeControl_X90 2 (wC_e2 ad cy σ3) rfl 4 (by decide) (List.mem_cons_of_mem _ zw4_8) rfl dX9_writeControl_102 ?_
      refine lv_bipush (v := 12) hx hb dX9_writeControl_105 (by decide) ?_
      obtain ⟨q, hf⟩ := zck_use hf
      refine z_iald hC hI 23 10 (wC_e23 ad cy σ3) (tC_t23 cy) q dX9_writeControl_107 ?_
      refine lv_iconst (v := 2) hx hb dX9_writeControl_108 (by decide) ?_
      refine lv_icmp_ne (tgt := 141) hx hb dX9_writeControl_109 (by decide) (fun q => ?_) (fun q => ?_)
      · replace hf := zif_f q hf
        exact bX9_writeControl_141 hC  hI (lv_sub hl [] rfl) hf
      replace hf := zif_t q hf
      refine lv_iload_n hx hb dX9_writeControl_112 rfl (lv_at hl 1 rfl) ?_
      refine lv_bipush (v := 15) hx hb dX9_writeControl_113 (by decide) ?_
      refine lv_iand hx hb dX9_writeControl_115 ?_
      refine lv_bipush (v := 10) hx hb dX9_writeControl_116 (by decide) ?_
      refine lv_icmp_gt (tgt := 141) hx hb dX9_writeControl_118 (by decide) (fun q => ?_) (fun q => ?_)
      · replace hf := zif_t q hf
        exact bX9_writeControl_141 hC  hI (lv_sub hl [] rfl) hf
      replace hf := zif_f q hf
      refine lv_aload_n hx hb dX9_writeControl_121 rfl (lv_at hl 0 rfl) ?_
      refine z_get hC hI hinX9_writeControl_X90 2 (wC_e2 ad cy σ3) rfl 4 (by decide) (List.mem_cons_of_mem _ zw4_8) rfl dX9_writeControl_122 ?_
      refine lv_iload_n hx hb dX9_writeControl_125 rfl (lv_at hl 1 rfl) ?_
      refine lv_bipush (v := 15) hx hb dX9_writeControl_126 (by decide) ?_
      refine lv_iand hx hb dX9_writeControl_128 ?_
      refine lv_aload_n hx hb dX9_writeControl_129 rfl (lv_at hl 0 rfl) ?_
      refine z_get hC hI hinX9_writeControl_X90 2 (wC_e2 ad cy σ3) rfl 4 (by decide) (List.mem_cons_of_mem _ zw4_8) rfl dX9_writeControl_130 ?_
      refine lv_bipush (v := 11) hx hb dX9_writeControl_133 (by decide) ?_
      obtain ⟨q, hf⟩ := zck_use hf
      refine z_iald hC hI 23 10 (wC_e23 ad cy σ3) (tC_t23 cy) q dX9_writeControl_135 ?_
      refine lv_sipush (v := 255) hx hb dX9_writeControl_136 (by decide) ?_
      refine lv_iand hx hb dX9_writeControl_139 ?_
      obtain ⟨q, hf⟩ := zck_use hf
      obtain ⟨σ4, eσ4⟩ : ∃ z, z = zsi σ3 23 ((x1 &&& 15).toNatClampNeg) ((zgi σ3 23 (11 : Int32).toNatClampNeg) &&& 255) := ⟨_, rfl⟩
      replace hf := zbv_use eσ4 hf
      refine z_iast hC hI 23 10 (wC_e23 ad cy σ3) (tC_t23 cy) q ((wC_s23 ad cy σ3 _ _).trans (congrArg (wC ad cy) eσ4.symm)) dX9_writeControl_140 (fun H locs hI => ?_)
      exact bX9_writeControl_141 hC  hI (lv_sub hl [] rfl) hf
    replace hf := zif_t q hf
    refine lv_aload_n hx hb dX9_writeControl_94 rfl (lv_at hl 0 rfl) ?_
    obtain ⟨σ5, g5, hf⟩ := zbu_use hf
    refine z_callVu (As := []) (rest := []) hC hI (cX9_readAhead_met st l D ad cy σ3  _ g5) (zgV zw26_0 zw26_1 zw26_2 zw2_1 zw26_3) rfl ⟨rfl, rfl⟩ 0 hdX9_readAhead ⟨Nat.le_of_ble_eq_true rfl, Nat.le_of_ble_eq_true rfl⟩ rfl rfl (wC_e2 ad cy σ3) rfl hl rfl (Nat.le_of_ble_eq_true rfl) dX9_writeControl_95 ⟨Nat.zero_le _, Nat.zero_le _⟩ (fun H locs hI => ?_)
    refine lv_goto (tgt := 141) hx hb dX9_writeControl_98 (by decide) ?_
    exact bX9_writeControl_141 hC  hI (lv_sub hl [] rfl) hf
  replace hf := zif_t q hf
  refine lv_aload_n hx hb dX9_writeControl_10 rfl (lv_at hl 0 rfl) ?_
  refine z_get hC hI hinX9_writeControl_X90 2 (wC_e2 ad cy σ) rfl 4 (by decide) (List.mem_cons_of_mem _ zw4_8) rfl dX9_writeControl_11 ?_
  refine lv_bipush (v := 11) hx hb dX9_writeControl_14 (by decide) ?_
  refine lv_aload_n hx hb dX9_writeControl_16 rfl (lv_at hl 0 rfl) ?_
  refine z_get hC hI hinX9_writeControl_X90 2 (wC_e2 ad cy σ) rfl 4 (by decide) (List.mem_cons_of_mem _ zw4_8) rfl dX9_writeControl_17 ?_
  refine lv_bipush (v := 11) hx hb dX9_writeControl_20 (by decide) ?_
  obtain ⟨q, hf⟩ := zck_use hf
  refine z_iald hC hI 23 10 (wC_e23 ad cy σ) (tC_t23 cy) q dX9_writeControl_22 ?_
  refine lv_sipush (v := 16128) hx hb dX9_writeControl_23 (by decide) ?_
  refine lv_iand hx hb dX9_writeControl_26 ?_
  refine lv_iload_n hx hb dX9_writeControl_27 rfl (lv_at hl 1 rfl) ?_
  refine lv_ior hx hb dX9_writeControl_28 ?_
  obtain ⟨q, hf⟩ := zck_use hf
  obtain ⟨σ6, eσ6⟩ : ∃ z, z = zsi σ 23 ((11 : Int32).toNatClampNeg) (((zgi σ 23 (11 : Int32).toNatClampNeg) &&& 16128) ||| x1) := ⟨_, rfl⟩
  replace hf := zbv_use eσ6 hf
  refine z_iast hC hI 23 10 (wC_e23 ad cy σ) (tC_t23 cy) q ((wC_s23 ad cy σ _ _).trans (congrArg (wC ad cy) eσ6.symm)) dX9_writeControl_29 (fun H locs hI => ?_)
  refine lv_aload_n hx hb dX9_writeControl_30 rfl (lv_at hl 0 rfl) ?_
  refine z_get hC hI hinX9_writeControl_X90 2 (wC_e2 ad cy σ6) rfl 4 (by decide) (List.mem_cons_of_mem _ zw4_8) rfl dX9_writeControl_31 ?_
  refine lv_bipush (v := 14) hx hb dX9_writeControl_34 (by decide) ?_
  refine lv_iconst (v := 1) hx hb dX9_writeControl_36 (by decide) ?_
  obtain ⟨q, hf⟩ := zck_use hf
  obtain ⟨σ7, eσ7⟩ : ∃ z, z = zsi σ6 23 ((14 : Int32).toNatClampNeg) 1 := ⟨_, rfl⟩
  replace hf := zbv_use eσ7 hf
  refine z_iast hC hI 23 10 (wC_e23 ad cy σ6) (tC_t23 cy) q ((wC_s23 ad cy σ6 _ _).trans (congrArg (wC ad cy) eσ7.symm)) dX9_writeControl_37 (fun H locs hI => ?_)
  exact z_return hC hI hf dX9_writeControl_38
set_option maxRecDepth 20000 in
theorem cX9_writeControl_met (st : Nat → Nat) (l : Launch) (D : va_G) (ad : Nat → Nat) (cy : Nat → ClassId) (σ : zSt) (x1 : Int32) (res : zSt) (hf : fX9_writeControl σ x1 = some res) (sz : Nat) : zMu st l yX9_writeControl wzX9_writeControl rmX9_writeControl [.ref (ad 2), .int x1] D (tC cy) (wC ad cy) sz σ res :=
  zMu.of (cc := cX9_writeControl) (maxL := 2) (ret := none) (by decide) rfl (Nat.le_of_ble_eq_true rfl) (fun p e s m args below meth c hC A hI ls hl => bX9_writeControl hC hI hl hf)
theorem hdX9_writeControl : yX9_writeControl.cls = RX9 ∧ yX9_writeControl.cls ≠ "java/lang/invoke/MethodHandle" ∧ yX9_writeControl.cls ≠ "java/lang/invoke/VarHandle" ∧ (parseMethodDescriptor yX9_writeControl.desc).map (fun d => d.parameters.length) = some 1 := by decide +kernel
noncomputable def rmX7_take : Room := { frames := 0, cells := 0, slots := 0, locals := 0 }
noncomputable def wzX7_take : List Cond := .code yX7_take cX7_take 4 none :: wsL_law
theorem hinX7_take_X70 : ∀ w ∈ wsX70, w ∈ wzX7_take := fun w h => List.mem_cons_of_mem _ (inlX7 w h)
noncomputable def fX7_take_155  (σ : zSt)  : Option (zSt) :=
  some σ
noncomputable def fX7_take_30  (σ : zSt) (x1 : Int32) (x2 : Int32) : Option (zSt) :=
  zck (zin 17 19) (
  zbv ((zgi σ 30 (17 : Int32).toNatClampNeg) >>> ((1 : Int32) &&& 31)) (fun v1 =>
  zck (zin 17 19) (
  if ((zgi σ 30 (17 : Int32).toNatClampNeg) &&& 1) = 1 then zck (zin (9 + v1) 19) (zbv (zsi σ 30 ((9 + v1).toNatClampNeg) (x1 &&& 15)) (fun σ6 =>
  fX7_take_155 σ6)) else
  if v1 = 3 then zck (zin 13 19) (zbv (zsi σ 30 ((13 : Int32).toNatClampNeg) (x1 &&& 7)) (fun σ4 =>
  zck (zin 16 19) (zbv (zsi σ4 30 ((16 : Int32).toNatClampNeg) 32768) (fun σ5 =>
  fX7_take_155 σ5)))) else
  if x2 = 0 then zck (zin (0 + v1) 19) (
  zck (zin (0 + v1) 19) (zbv (zsi σ 30 ((0 + v1).toNatClampNeg) (((zgi σ 30 (0 + v1).toNatClampNeg) &&& 15) ||| ((x1 &&& 63) <<< ((4 : Int32) &&& 31)))) (fun σ2 =>
  fX7_take_155 σ2))) else
  zck (zin (0 + v1) 19) (
  zck (zin (0 + v1) 19) (zbv (zsi σ 30 ((0 + v1).toNatClampNeg) (((zgi σ 30 (0 + v1).toNatClampNeg) &&& 1008) ||| (x1 &&& 15))) (fun σ3 =>
  fX7_take_155 σ3))))))
noncomputable def fX7_take_12  (σ : zSt) (x1 : Int32) (s0 : Int32) : Option (zSt) :=
  if s0 = 0 then fX7_take_30 σ x1 s0 else
  zck (zin 17 19) (zbv (zsi σ 30 ((17 : Int32).toNatClampNeg) ((x1 >>> ((4 : Int32) &&& 31)) &&& 7)) (fun σ7 =>
  fX7_take_30 σ7 x1 s0))
noncomputable def fX7_take  (σ : zSt) (x1 : Int32) : Option (zSt) :=
  if x1 < 128 then fX7_take_12 σ x1 0 else
  fX7_take_12 σ x1 1
set_option maxRecDepth 20000 in
set_option maxHeartbeats 4000000 in
theorem bX7_take_155 {st : Nat → Nat} {p : Program} {l : Launch} {e : Env} {s : State} {m : MethodId} {args : Array Value} {below : List Frame} {meth : Method} {c : Code} {D : va_G} {A : Nat → Prop} {ad : Nat → Nat} {cy : Nat → ClassId} (hC : zC p m c cX7_take 4 s args wzX7_take RX7 meth none)  {res : zSt} {H : Heap} {locs : List Loc} {σ : zSt} {ls : Array Slot}  (hI : zI st D (tC cy) (wC ad cy σ) A s H locs) (hl : lv_has ls 4 []) (hf : fX7_take_155  σ  = some res) : W p l e rmX7_take s m args below meth c H locs 0 0 (zQu below args s D (tC cy) (wC ad cy) A res) (F0 m 155 ls []) := by
  have hx := hC.1
  have hb := hC.2.1
  unfold fX7_take_155 at hf
  exact z_return hC hI hf dX7_take_155
set_option maxRecDepth 20000 in
set_option maxHeartbeats 4000000 in
theorem bX7_take_30 {st : Nat → Nat} {p : Program} {l : Launch} {e : Env} {s : State} {m : MethodId} {args : Array Value} {below : List Frame} {meth : Method} {c : Code} {D : va_G} {A : Nat → Prop} {ad : Nat → Nat} {cy : Nat → ClassId} (hC : zC p m c cX7_take 4 s args wzX7_take RX7 meth none)  {res : zSt} {H : Heap} {locs : List Loc} {σ : zSt} {ls : Array Slot} {x1 : Int32} {x2 : Int32} (hI : zI st D (tC cy) (wC ad cy σ) A s H locs) (hl : lv_has ls 4 [(0, .ref (ad 4)), (1, .int x1), (2, .int x2)]) (hf : fX7_take_30  σ x1 x2 = some res) : W p l e rmX7_take s m args below meth c H locs 0 0 (zQu below args s D (tC cy) (wC ad cy) A res) (F0 m 30 ls []) := by
  have hx := hC.1
  have hb := hC.2.1
  unfold fX7_take_30 at hf
  refine lv_aload_n hx hb dX7_take_30 rfl (lv_at hl 0 rfl) ?_
  refine z_get hC hI hinX7_take_X70 4 (wC_e4 ad cy σ) rfl 0 (by decide) (List.mem_cons_of_mem _ zw5_4) rfl dX7_take_31 ?_
  refine lv_bipush (v := 17) hx hb dX7_take_34 (by decide) ?_
  obtain ⟨q, hf⟩ := zck_use hf
  refine z_iald hC hI 30 17 (wC_e30 ad cy σ) (tC_t30 cy) q dX7_take_36 ?_
  refine lv_iconst (v := 1) hx hb dX7_take_37 (by decide) ?_
  refine lv_ishr hx hb dX7_take_38 ?_
  refine lv_topi (fun v1 ev1 => ?_)
  replace hf := zbv_use ev1 hf
  refine lv_istore_n (lv' := [(3, .int v1), (0, .ref (ad 4)), (1, .int x1), (2, .int x2)]) hx hb dX7_take_39 rfl hl (by decide) rfl (fun ls hl => ?_)
  refine lv_aload_n hx hb dX7_take_40 rfl (lv_at hl 1 rfl) ?_
  refine z_get hC hI hinX7_take_X70 4 (wC_e4 ad cy σ) rfl 0 (by decide) (List.mem_cons_of_mem _ zw5_4) rfl dX7_take_41 ?_
  refine lv_bipush (v := 17) hx hb dX7_take_44 (by decide) ?_
  obtain ⟨q, hf⟩ := zck_use hf
  refine z_iald hC hI 30 17 (wC_e30 ad cy σ) (tC_t30 cy) q dX7_take_46 ?_
  refine lv_iconst (v := 1) hx hb dX7_take_47 (by decide) ?_
  refine lv_iand hx hb dX7_take_48 ?_
  refine lv_iconst (v := 1) hx hb dX7_take_49 (by decide) ?_
  refine lv_icmp_ne (tgt := 69) hx hb dX7_take_50 (by decide) (fun q => ?_) (fun q => ?_)
  · replace hf := zif_f q hf
    refine lv_iload_n hx hb dX7_take_69 rfl (lv_at hl 0 rfl) ?_
    refine lv_iconst (v := 3) hx hb dX7_take_70 (by decide) ?_
    refine lv_icmp_ne (tgt := 97) hx hb dX7_take_71 (by decide) (fun q => ?_) (fun q => ?_)
    · replace hf := zif_f q hf
      refine lv_iload_n hx hb dX7_take_97 rfl (lv_at hl 3 rfl) ?_
      refine lv_if_eq (tgt := 129) hx hb dX7_take_98 (by decide) (fun q => ?_) (fun q => ?_)
      · replace hf := zif_t q hf
        refine lv_aload_n hx hb dX7_take_129 rfl (lv_at hl 1 rfl) ?_
        refine z_get hC hI hinX7_take_X70 4 (wC_e4 ad cy σ) rfl 0 (by decide) (List.mem_cons_of_mem _ zw5_4) rfl dX7_take_130 ?_
        refine lv_iconst (v := 0) hx hb dX7_take_133 (by decide) ?_
        refine lv_iload_n hx hb dX7_take_134 rfl (lv_at hl 0 rfl) ?_
        refine lv_iadd hx hb dX7_take_135 ?_
        refine lv_aload_n hx hb dX7_take_136 rfl (lv_at hl 1 rfl) ?_
        refine z_get hC hI hinX7_take_X70 4 (wC_e4 ad cy σ) rfl 0 (by decide) (List.mem_cons_of_mem _ zw5_4) rfl dX7_take_137 ?_
        refine lv_iconst (v := 0) hx hb dX7_take_140 (by decide) ?_
        refine lv_iload_n hx hb dX7_take_141 rfl (lv_at hl 0 rfl) ?_
        refine lv_iadd hx hb dX7_take_142 ?_
        obtain ⟨q, hf⟩ := zck_use hf
        refine z_iald hC hI 30 17 (wC_e30 ad cy σ) (tC_t30 cy) q dX7_take_143 ?_
        refine lv_bipush (v := 15) hx hb dX7_take_144 (by decide) ?_
        refine lv_iand hx hb dX7_take_146 ?_
        refine lv_iload_n hx hb dX7_take_147 rfl (lv_at hl 2 rfl) ?_
        refine lv_bipush (v := 63) hx hb dX7_take_148 (by decide) ?_
        refine lv_iand hx hb dX7_take_150 ?_
        refine lv_iconst (v := 4) hx hb dX7_take_151 (by decide) ?_
        refine lv_ishl hx hb dX7_take_152 ?_
        refine lv_ior hx hb dX7_take_153 ?_
        obtain ⟨q, hf⟩ := zck_use hf
        obtain ⟨σ2, eσ2⟩ : ∃ z, z = zsi σ 30 ((0 + v1).toNatClampNeg) (((zgi σ 30 (0 + v1).toNatClampNeg) &&& 15) ||| ((x1 &&& 63) <<< ((4 : Int32) &&& 31))) := ⟨_, rfl⟩
        replace hf := zbv_use eσ2 hf
        refine z_iast hC hI 30 17 (wC_e30 ad cy σ) (tC_t30 cy) q ((wC_s30 ad cy σ _ _).trans (congrArg (wC ad cy) eσ2.symm)) dX7_take_154 (fun H locs hI => ?_)
        exact bX7_take_155 hC  hI (lv_sub hl [] rfl) hf
      replace hf := zif_f q hf
      refine lv_aload_n hx hb dX7_take_101 rfl (lv_at hl 1 rfl) ?_
      refine z_get hC hI hinX7_take_X70 4 (wC_e4 ad cy σ) rfl 0 (by decide) (List.mem_cons_of_mem _ zw5_4) rfl dX7_take_102 ?_
      refine lv_iconst (v := 0) hx hb dX7_take_105 (by decide) ?_
      refine lv_iload_n hx hb dX7_take_106 rfl (lv_at hl 0 rfl) ?_
      refine lv_iadd hx hb dX7_take_107 ?_
      refine lv_aload_n hx hb dX7_take_108 rfl (lv_at hl 1 rfl) ?_
      refine z_get hC hI hinX7_take_X70 4 (wC_e4 ad cy σ) rfl 0 (by decide) (List.mem_cons_of_mem _ zw5_4) rfl dX7_take_109 ?_
      refine lv_iconst (v := 0) hx hb dX7_take_112 (by decide) ?_
      refine lv_iload_n hx hb dX7_take_113 rfl (lv_at hl 0 rfl) ?_
      refine lv_iadd hx hb dX7_take_114 ?_
      obtain ⟨q, hf⟩ := zck_use hf
      refine z_iald hC hI 30 17 (wC_e30 ad cy σ) (tC_t30 cy) q dX7_take_115 ?_
      refine lv_sipush (v := 1008) hx hb dX7_take_116 (by decide) ?_
      refine lv_iand hx hb dX7_take_119 ?_
      refine lv_iload_n hx hb dX7_take_120 rfl (lv_at hl 2 rfl) ?_
      refine lv_bipush (v := 15) hx hb dX7_take_121 (by decide) ?_
      refine lv_iand hx hb dX7_take_123 ?_
      refine lv_ior hx hb dX7_take_124 ?_
      obtain ⟨q, hf⟩ := zck_use hf
      obtain ⟨σ3, eσ3⟩ : ∃ z, z = zsi σ 30 ((0 + v1).toNatClampNeg) (((zgi σ 30 (0 + v1).toNatClampNeg) &&& 1008) ||| (x1 &&& 15)) := ⟨_, rfl⟩
      replace hf := zbv_use eσ3 hf
      refine z_iast hC hI 30 17 (wC_e30 ad cy σ) (tC_t30 cy) q ((wC_s30 ad cy σ _ _).trans (congrArg (wC ad cy) eσ3.symm)) dX7_take_125 (fun H locs hI => ?_)
      refine lv_goto (tgt := 155) hx hb dX7_take_126 (by decide) ?_
      exact bX7_take_155 hC  hI (lv_sub hl [] rfl) hf
    replace hf := zif_t q hf
    refine lv_aload_n hx hb dX7_take_74 rfl (lv_at hl 1 rfl) ?_
    refine z_get hC hI hinX7_take_X70 4 (wC_e4 ad cy σ) rfl 0 (by decide) (List.mem_cons_of_mem _ zw5_4) rfl dX7_take_75 ?_
    refine lv_bipush (v := 13) hx hb dX7_take_78 (by decide) ?_
    refine lv_iload_n hx hb dX7_take_80 rfl (lv_at hl 2 rfl) ?_
    refine lv_bipush (v := 7) hx hb dX7_take_81 (by decide) ?_
    refine lv_iand hx hb dX7_take_83 ?_
    obtain ⟨q, hf⟩ := zck_use hf
    obtain ⟨σ4, eσ4⟩ : ∃ z, z = zsi σ 30 ((13 : Int32).toNatClampNeg) (x1 &&& 7) := ⟨_, rfl⟩
    replace hf := zbv_use eσ4 hf
    refine z_iast hC hI 30 17 (wC_e30 ad cy σ) (tC_t30 cy) q ((wC_s30 ad cy σ _ _).trans (congrArg (wC ad cy) eσ4.symm)) dX7_take_84 (fun H locs hI => ?_)
    refine lv_aload_n hx hb dX7_take_85 rfl (lv_at hl 1 rfl) ?_
    refine z_get hC hI hinX7_take_X70 4 (wC_e4 ad cy σ4) rfl 0 (by decide) (List.mem_cons_of_mem _ zw5_4) rfl dX7_take_86 ?_
    refine lv_bipush (v := 16) hx hb dX7_take_89 (by decide) ?_
    refine lv_ldc (v := 32768) hx hb hC.2.2.2.1 (hC.2.2.2.2.1 _ (List.mem_cons_of_mem _ zw5_10)) dX7_take_91 ?_
    obtain ⟨q, hf⟩ := zck_use hf
    obtain ⟨σ5, eσ5⟩ : ∃ z, z = zsi σ4 30 ((16 : Int32).toNatClampNeg) 32768 := ⟨_, rfl⟩
    replace hf := zbv_use eσ5 hf
    refine z_iast hC hI 30 17 (wC_e30 ad cy σ4) (tC_t30 cy) q ((wC_s30 ad cy σ4 _ _).trans (congrArg (wC ad cy) eσ5.symm)) dX7_take_93 (fun H locs hI => ?_)
    refine lv_goto (tgt := 155) hx hb dX7_take_94 (by decide) ?_
    exact bX7_take_155 hC  hI (lv_sub hl [] rfl) hf
  replace hf := zif_t q hf
  refine lv_aload_n hx hb dX7_take_53 rfl (lv_at hl 1 rfl) ?_
  refine z_get hC hI hinX7_take_X70 4 (wC_e4 ad cy σ) rfl 0 (by decide) (List.mem_cons_of_mem _ zw5_4) rfl dX7_take_54 ?_
  refine lv_bipush (v := 9) hx hb dX7_take_57 (by decide) ?_
  refine lv_iload_n hx hb dX7_take_59 rfl (lv_at hl 0 rfl) ?_
  refine lv_iadd hx hb dX7_take_60 ?_
  refine lv_iload_n hx hb dX7_take_61 rfl (lv_at hl 2 rfl) ?_
  refine lv_bipush (v := 15) hx hb dX7_take_62 (by decide) ?_
  refine lv_iand hx hb dX7_take_64 ?_
  obtain ⟨q, hf⟩ := zck_use hf
  obtain ⟨σ6, eσ6⟩ : ∃ z, z = zsi σ 30 ((9 + v1).toNatClampNeg) (x1 &&& 15) := ⟨_, rfl⟩
  replace hf := zbv_use eσ6 hf
  refine z_iast hC hI 30 17 (wC_e30 ad cy σ) (tC_t30 cy) q ((wC_s30 ad cy σ _ _).trans (congrArg (wC ad cy) eσ6.symm)) dX7_take_65 (fun H locs hI => ?_)
  refine lv_goto (tgt := 155) hx hb dX7_take_66 (by decide) ?_
  exact bX7_take_155 hC  hI (lv_sub hl [] rfl) hf
set_option maxRecDepth 20000 in
set_option maxHeartbeats 4000000 in
theorem bX7_take_12 {st : Nat → Nat} {p : Program} {l : Launch} {e : Env} {s : State} {m : MethodId} {args : Array Value} {below : List Frame} {meth : Method} {c : Code} {D : va_G} {A : Nat → Prop} {ad : Nat → Nat} {cy : Nat → ClassId} (hC : zC p m c cX7_take 4 s args wzX7_take RX7 meth none)  {res : zSt} {H : Heap} {locs : List Loc} {σ : zSt} {ls : Array Slot} {x1 : Int32} {s0 : Int32} (hI : zI st D (tC cy) (wC ad cy σ) A s H locs) (hl : lv_has ls 4 [(0, .ref (ad 4)), (1, .int x1)]) (hf : fX7_take_12  σ x1 s0 = some res) : W p l e rmX7_take s m args below meth c H locs 0 0 (zQu below args s D (tC cy) (wC ad cy) A res) (F0 m 12 ls [.int s0]) := by
  have hx := hC.1
  have hb := hC.2.1
  unfold fX7_take_12 at hf
  refine lv_istore_n (lv' := [(2, .int s0), (0, .ref (ad 4)), (1, .int x1)]) hx hb dX7_take_12 rfl hl (by decide) rfl (fun ls hl => ?_)
  refine lv_iload_n hx hb dX7_take_13 rfl (lv_at hl 0 rfl) ?_
  refine lv_if_eq (tgt := 30) hx hb dX7_take_14 (by decide) (fun q => ?_) (fun q => ?_)
  · replace hf := zif_t q hf
    exact bX7_take_30 hC  hI (lv_sub hl [1, 2, 0] rfl) hf
  replace hf := zif_f q hf
  refine lv_aload_n hx hb dX7_take_17 rfl (lv_at hl 1 rfl) ?_
  refine z_get hC hI hinX7_take_X70 4 (wC_e4 ad cy σ) rfl 0 (by decide) (List.mem_cons_of_mem _ zw5_4) rfl dX7_take_18 ?_
  refine lv_bipush (v := 17) hx hb dX7_take_21 (by decide) ?_
  refine lv_iload_n hx hb dX7_take_23 rfl (lv_at hl 2 rfl) ?_
  refine lv_iconst (v := 4) hx hb dX7_take_24 (by decide) ?_
  refine lv_ishr hx hb dX7_take_25 ?_
  refine lv_bipush (v := 7) hx hb dX7_take_26 (by decide) ?_
  refine lv_iand hx hb dX7_take_28 ?_
  obtain ⟨q, hf⟩ := zck_use hf
  obtain ⟨σ7, eσ7⟩ : ∃ z, z = zsi σ 30 ((17 : Int32).toNatClampNeg) ((x1 >>> ((4 : Int32) &&& 31)) &&& 7) := ⟨_, rfl⟩
  replace hf := zbv_use eσ7 hf
  refine z_iast hC hI 30 17 (wC_e30 ad cy σ) (tC_t30 cy) q ((wC_s30 ad cy σ _ _).trans (congrArg (wC ad cy) eσ7.symm)) dX7_take_29 (fun H locs hI => ?_)
  exact bX7_take_30 hC  hI (lv_sub hl [1, 2, 0] rfl) hf
set_option maxRecDepth 20000 in
set_option maxHeartbeats 4000000 in
theorem bX7_take {st : Nat → Nat} {p : Program} {l : Launch} {e : Env} {s : State} {m : MethodId} {args : Array Value} {below : List Frame} {meth : Method} {c : Code} {D : va_G} {A : Nat → Prop} {ad : Nat → Nat} {cy : Nat → ClassId} (hC : zC p m c cX7_take 4 s args wzX7_take RX7 meth none)  {res : zSt} {H : Heap} {locs : List Loc} {σ : zSt} {ls : Array Slot} {x1 : Int32} (hI : zI st D (tC cy) (wC ad cy σ) A s H locs) (hl : lv_has ls 4 [(0, .ref (ad 4)), (1, .int x1)]) (hf : fX7_take  σ x1 = some res) : W p l e rmX7_take s m args below meth c H locs 0 0 (zQu below args s D (tC cy) (wC ad cy) A res) (F0 m 0 ls []) := by
  have hx := hC.1
  have hb := hC.2.1
  unfold fX7_take at hf
  refine lv_iload_n hx hb dX7_take_0 rfl (lv_at hl 1 rfl) ?_
  refine lv_sipush (v := 128) hx hb dX7_take_1 (by decide) ?_
  refine lv_icmp_lt (tgt := 11) hx hb dX7_take_4 (by decide) (fun q => ?_) (fun q => ?_)
  · replace hf := zif_t q hf
    refine lv_iconst (v := 0) hx hb dX7_take_11 (by decide) ?_
    exact bX7_take_12 hC  hI hl hf
  replace hf := zif_f q hf
  refine lv_iconst (v := 1) hx hb dX7_take_7 (by decide) ?_
  refine lv_goto (tgt := 12) hx hb dX7_take_8 (by decide) ?_
  exact bX7_take_12 hC  hI hl hf
set_option maxRecDepth 20000 in
theorem cX7_take_met (st : Nat → Nat) (l : Launch) (D : va_G) (ad : Nat → Nat) (cy : Nat → ClassId) (σ : zSt) (x1 : Int32) (res : zSt) (hf : fX7_take σ x1 = some res) (sz : Nat) : zMu st l yX7_take wzX7_take rmX7_take [.ref (ad 4), .int x1] D (tC cy) (wC ad cy) sz σ res :=
  zMu.of (cc := cX7_take) (maxL := 4) (ret := none) (by decide) rfl (Nat.le_of_ble_eq_true rfl) (fun p e s m args below meth c hC A hI ls hl => bX7_take hC hI hl hf)
theorem hdX7_take : yX7_take.cls = RX7 ∧ yX7_take.cls ≠ "java/lang/invoke/MethodHandle" ∧ yX7_take.cls ≠ "java/lang/invoke/VarHandle" ∧ (parseMethodDescriptor yX7_take.desc).map (fun d => d.parameters.length) = some 1 := by decide +kernel
noncomputable def rmX7_takeStereo : Room := { frames := 0, cells := 0, slots := 0, locals := 0 }
noncomputable def wzX7_takeStereo : List Cond := .code yX7_takeStereo cX7_takeStereo 2 none :: wsL_law
theorem hinX7_takeStereo_X70 : ∀ w ∈ wsX70, w ∈ wzX7_takeStereo := fun w h => List.mem_cons_of_mem _ (inlX7 w h)
noncomputable def fX7_takeStereo  (σ : zSt) (x1 : Int32) : Option (zSt) :=
  zck (zin 18 19) (zbv (zsi σ 30 ((18 : Int32).toNatClampNeg) x1) (fun σ1 =>
  some σ1))
set_option maxRecDepth 20000 in
set_option maxHeartbeats 4000000 in
theorem bX7_takeStereo {st : Nat → Nat} {p : Program} {l : Launch} {e : Env} {s : State} {m : MethodId} {args : Array Value} {below : List Frame} {meth : Method} {c : Code} {D : va_G} {A : Nat → Prop} {ad : Nat → Nat} {cy : Nat → ClassId} (hC : zC p m c cX7_takeStereo 2 s args wzX7_takeStereo RX7 meth none)  {res : zSt} {H : Heap} {locs : List Loc} {σ : zSt} {ls : Array Slot} {x1 : Int32} (hI : zI st D (tC cy) (wC ad cy σ) A s H locs) (hl : lv_has ls 2 [(0, .ref (ad 4)), (1, .int x1)]) (hf : fX7_takeStereo  σ x1 = some res) : W p l e rmX7_takeStereo s m args below meth c H locs 0 0 (zQu below args s D (tC cy) (wC ad cy) A res) (F0 m 0 ls []) := by
  have hx := hC.1
  have hb := hC.2.1
  unfold fX7_takeStereo at hf
  refine lv_aload_n hx hb dX7_takeStereo_0 rfl (lv_at hl 0 rfl) ?_
  refine z_get hC hI hinX7_takeStereo_X70 4 (wC_e4 ad cy σ) rfl 0 (by decide) (List.mem_cons_of_mem _ zw5_4) rfl dX7_takeStereo_1 ?_
  refine lv_bipush (v := 18) hx hb dX7_takeStereo_4 (by decide) ?_
  refine lv_iload_n hx hb dX7_takeStereo_6 rfl (lv_at hl 1 rfl) ?_
  obtain ⟨q, hf⟩ := zck_use hf
  obtain ⟨σ1, eσ1⟩ : ∃ z, z = zsi σ 30 ((18 : Int32).toNatClampNeg) x1 := ⟨_, rfl⟩
  replace hf := zbv_use eσ1 hf
  refine z_iast hC hI 30 17 (wC_e30 ad cy σ) (tC_t30 cy) q ((wC_s30 ad cy σ _ _).trans (congrArg (wC ad cy) eσ1.symm)) dX7_takeStereo_7 (fun H locs hI => ?_)
  exact z_return hC hI hf dX7_takeStereo_8
set_option maxRecDepth 20000 in
theorem cX7_takeStereo_met (st : Nat → Nat) (l : Launch) (D : va_G) (ad : Nat → Nat) (cy : Nat → ClassId) (σ : zSt) (x1 : Int32) (res : zSt) (hf : fX7_takeStereo σ x1 = some res) (sz : Nat) : zMu st l yX7_takeStereo wzX7_takeStereo rmX7_takeStereo [.ref (ad 4), .int x1] D (tC cy) (wC ad cy) sz σ res :=
  zMu.of (cc := cX7_takeStereo) (maxL := 2) (ret := none) (by decide) rfl (Nat.le_of_ble_eq_true rfl) (fun p e s m args below meth c hC A hI ls hl => bX7_takeStereo hC hI hl hf)
theorem hdX7_takeStereo : yX7_takeStereo.cls = RX7 ∧ yX7_takeStereo.cls ≠ "java/lang/invoke/MethodHandle" ∧ yX7_takeStereo.cls ≠ "java/lang/invoke/VarHandle" ∧ (parseMethodDescriptor yX7_takeStereo.desc).map (fun d => d.parameters.length) = some 1 := by decide +kernel
noncomputable def rmX4_writeHandy : Room := { frames := 1, cells := 0, slots := 0, locals := 21 }
noncomputable def wzX4_writeHandy : List Cond := .code yX4_writeHandy cX4_writeHandy 3 none :: wsL_law
theorem hinX4_writeHandy_X40 : ∀ w ∈ wsX40, w ∈ wzX4_writeHandy := fun w h => List.mem_cons_of_mem _ (inlX4 w h)
noncomputable def fX4_writeHandy_34  (σ : zSt)  : Option (zSt) :=
  some σ
noncomputable def fX4_writeHandy  (σ : zSt) (x1 : Int32) (x2 : Int32) : Option (zSt) :=
  if x1 = 6 then zbu (fX7_takeStereo σ x2) (fun σ2 =>
  fX4_writeHandy_34 σ2) else
  if x1 < 1 then fX4_writeHandy_34 σ else
  if 5 < x1 then fX4_writeHandy_34 σ else
  zck (zin x1 12) (zbv (zsi σ 34 (x1.toNatClampNeg) x2) (fun σ1 =>
  fX4_writeHandy_34 σ1))
set_option maxRecDepth 20000 in
set_option maxHeartbeats 4000000 in
theorem bX4_writeHandy_34 {st : Nat → Nat} {p : Program} {l : Launch} {e : Env} {s : State} {m : MethodId} {args : Array Value} {below : List Frame} {meth : Method} {c : Code} {D : va_G} {A : Nat → Prop} {ad : Nat → Nat} {cy : Nat → ClassId} (hC : zC p m c cX4_writeHandy 3 s args wzX4_writeHandy RX4 meth none)  {res : zSt} {H : Heap} {locs : List Loc} {σ : zSt} {ls : Array Slot}  (hI : zI st D (tC cy) (wC ad cy σ) A s H locs) (hl : lv_has ls 3 []) (hf : fX4_writeHandy_34  σ  = some res) : W p l e rmX4_writeHandy s m args below meth c H locs 0 0 (zQu below args s D (tC cy) (wC ad cy) A res) (F0 m 34 ls []) := by
  have hx := hC.1
  have hb := hC.2.1
  unfold fX4_writeHandy_34 at hf
  exact z_return hC hI hf dX4_writeHandy_34
set_option maxRecDepth 20000 in
set_option maxHeartbeats 4000000 in
theorem bX4_writeHandy {st : Nat → Nat} {p : Program} {l : Launch} {e : Env} {s : State} {m : MethodId} {args : Array Value} {below : List Frame} {meth : Method} {c : Code} {D : va_G} {A : Nat → Prop} {ad : Nat → Nat} {cy : Nat → ClassId} (hC : zC p m c cX4_writeHandy 3 s args wzX4_writeHandy RX4 meth none)  {res : zSt} {H : Heap} {locs : List Loc} {σ : zSt} {ls : Array Slot} {x1 : Int32} {x2 : Int32} (hI : zI st D (tC cy) (wC ad cy σ) A s H locs) (hl : lv_has ls 3 [(0, .ref (ad 6)), (1, .int x1), (2, .int x2)]) (hf : fX4_writeHandy  σ x1 x2 = some res) : W p l e rmX4_writeHandy s m args below meth c H locs 0 0 (zQu below args s D (tC cy) (wC ad cy) A res) (F0 m 0 ls []) := by
  have hx := hC.1
  have hb := hC.2.1
  unfold fX4_writeHandy at hf
  refine lv_iload_n hx hb dX4_writeHandy_0 rfl (lv_at hl 1 rfl) ?_
  refine lv_bipush (v := 6) hx hb dX4_writeHandy_1 (by decide) ?_
  refine lv_icmp_ne (tgt := 17) hx hb dX4_writeHandy_3 (by decide) (fun q => ?_) (fun q => ?_)
  · replace hf := zif_f q hf
    refine lv_iload_n hx hb dX4_writeHandy_17 rfl (lv_at hl 1 rfl) ?_
    refine lv_iconst (v := 1) hx hb dX4_writeHandy_18 (by decide) ?_
    refine lv_icmp_lt (tgt := 34) hx hb dX4_writeHandy_19 (by decide) (fun q => ?_) (fun q => ?_)
    · replace hf := zif_t q hf
      exact bX4_writeHandy_34 hC  hI (lv_sub hl [] rfl) hf
    replace hf := zif_f q hf
    refine lv_iload_n hx hb dX4_writeHandy_22 rfl (lv_at hl 1 rfl) ?_
    refine lv_iconst (v := 5) hx hb dX4_writeHandy_23 (by decide) ?_
    refine lv_icmp_gt (tgt := 34) hx hb dX4_writeHandy_24 (by decide) (fun q => ?_) (fun q => ?_)
    · replace hf := zif_t q hf
      exact bX4_writeHandy_34 hC  hI (lv_sub hl [] rfl) hf
    replace hf := zif_f q hf
    refine lv_aload_n hx hb dX4_writeHandy_27 rfl (lv_at hl 0 rfl) ?_
    refine z_get hC hI hinX4_writeHandy_X40 6 (wC_e6 ad cy σ) rfl 4 (by decide) (List.mem_cons_of_mem _ zw6_15) rfl dX4_writeHandy_28 ?_
    refine lv_iload_n hx hb dX4_writeHandy_31 rfl (lv_at hl 1 rfl) ?_
    refine lv_iload_n hx hb dX4_writeHandy_32 rfl (lv_at hl 2 rfl) ?_
    obtain ⟨q, hf⟩ := zck_use hf
    obtain ⟨σ1, eσ1⟩ : ∃ z, z = zsi σ 34 (x1.toNatClampNeg) x2 := ⟨_, rfl⟩
    replace hf := zbv_use eσ1 hf
    refine z_iast hC hI 34 21 (wC_e34 ad cy σ) (tC_t34 cy) q ((wC_s34 ad cy σ _ _).trans (congrArg (wC ad cy) eσ1.symm)) dX4_writeHandy_33 (fun H locs hI => ?_)
    exact bX4_writeHandy_34 hC  hI (lv_sub hl [] rfl) hf
  replace hf := zif_t q hf
  refine lv_aload_n hx hb dX4_writeHandy_6 rfl (lv_at hl 0 rfl) ?_
  refine z_get hC hI hinX4_writeHandy_X40 6 (wC_e6 ad cy σ) rfl 2 (by decide) (List.mem_cons_of_mem _ zw6_19) rfl dX4_writeHandy_7 ?_
  refine lv_iload_n hx hb dX4_writeHandy_10 rfl (lv_at hl 2 rfl) ?_
  obtain ⟨σ2, g2, hf⟩ := zbu_use hf
  refine z_callVu (As := [.int x2]) (rest := []) hC hI (cX7_takeStereo_met st l D ad cy σ x2 _ g2) (zgV zw27_17 zw27_18 zw27_19 zw2_9 zw27_20) rfl ⟨rfl, rfl⟩ 1 hdX7_takeStereo ⟨Nat.le_of_ble_eq_true rfl, Nat.le_of_ble_eq_true rfl⟩ rfl rfl (wC_e4 ad cy σ) rfl hl rfl (Nat.le_of_ble_eq_true rfl) dX4_writeHandy_11 ⟨Nat.zero_le _, Nat.zero_le _⟩ (fun H locs hI => ?_)
  refine lv_goto (tgt := 34) hx hb dX4_writeHandy_14 (by decide) ?_
  exact bX4_writeHandy_34 hC  hI (lv_sub hl [] rfl) hf
set_option maxRecDepth 20000 in
theorem cX4_writeHandy_met (st : Nat → Nat) (l : Launch) (D : va_G) (ad : Nat → Nat) (cy : Nat → ClassId) (σ : zSt) (x1 : Int32) (x2 : Int32) (res : zSt) (hf : fX4_writeHandy σ x1 x2 = some res) (sz : Nat) : zMu st l yX4_writeHandy wzX4_writeHandy rmX4_writeHandy [.ref (ad 6), .int x1, .int x2] D (tC cy) (wC ad cy) sz σ res :=
  zMu.of (cc := cX4_writeHandy) (maxL := 3) (ret := none) (by decide) rfl (Nat.le_of_ble_eq_true rfl) (fun p e s m args below meth c hC A hI ls hl => bX4_writeHandy hC hI hl hf)
theorem hdX4_writeHandy : yX4_writeHandy.cls = RX4 ∧ yX4_writeHandy.cls ≠ "java/lang/invoke/MethodHandle" ∧ yX4_writeHandy.cls ≠ "java/lang/invoke/VarHandle" ∧ (parseMethodDescriptor yX4_writeHandy.desc).map (fun d => d.parameters.length) = some 2 := by decide +kernel
noncomputable def rmX4_write : Room := { frames := 2, cells := 0, slots := 0, locals := 46 }
noncomputable def wzX4_write : List Cond := .code yX4_write cX4_write 4 none :: wsL_law
theorem hinX4_write_X40 : ∀ w ∈ wsX40, w ∈ wzX4_write := fun w h => List.mem_cons_of_mem _ (inlX4 w h)
noncomputable def fX4_write_151  (σ : zSt)  : Option (zSt) :=
  some σ
noncomputable def fX4_write_71  (σ : zSt) (x2 : Int32) (x3 : Int32) : Option (zSt) :=
  if x3 = 0 then zbu (fX4_changeLines σ 0 x2) (fun σ1 =>
  fX4_write_151 σ1) else
  fX4_write_151 σ
noncomputable def fX4_write_11  (σ : zSt) (x1 : Int32) (x2 : Int32) (s0 : Int32) : Option (zSt) :=
  if (x1 >>> ((6 : Int32) &&& 31)) = 0 then if (zgi σ 6 0) = 0 then fX4_write_71 σ x2 s0 else
  if x1 < 1 then fX4_write_71 σ x2 s0 else
  if 6 < x1 then fX4_write_71 σ x2 s0 else
  zbu (fX4_writeHandy σ x1 x2) (fun σ2 =>
  fX4_write_151 σ2) else
  if (x1 >>> ((6 : Int32) &&& 31)) = 1 then zbu (fX7_take σ x2) (fun σ3 =>
  fX4_write_151 σ3) else
  if (x1 >>> ((6 : Int32) &&& 31)) = 2 then if s0 = 0 then zbu (fX9_writeControl σ x2) (fun σ4 =>
  fX4_write_151 σ4) else
  zbu (fX9_writeData σ x2) (fun σ5 =>
  fX4_write_151 σ5) else
  if (zgi σ 6 0) = 0 then if x1 < 240 then fX4_write_151 σ else
  if 242 < x1 then fX4_write_151 σ else
  zbu (fX10_take σ x1 x2) (fun σ6 =>
  fX4_write_151 σ6) else
  fX4_write_151 σ
noncomputable def fX4_write  (σ : zSt) (x1 : Int32) (x2 : Int32) : Option (zSt) :=
  if (x1 &&& 1) = 0 then fX4_write_11 σ x1 x2 1 else
  fX4_write_11 σ x1 x2 0
set_option maxRecDepth 20000 in
set_option maxHeartbeats 4000000 in
theorem bX4_write_151 {st : Nat → Nat} {p : Program} {l : Launch} {e : Env} {s : State} {m : MethodId} {args : Array Value} {below : List Frame} {meth : Method} {c : Code} {D : va_G} {A : Nat → Prop} {ad : Nat → Nat} {cy : Nat → ClassId} (hC : zC p m c cX4_write 4 s args wzX4_write RX4 meth none)  {res : zSt} {H : Heap} {locs : List Loc} {σ : zSt} {ls : Array Slot}  (hI : zI st D (tC cy) (wC ad cy σ) A s H locs) (hl : lv_has ls 4 []) (hf : fX4_write_151  σ  = some res) : W p l e rmX4_write s m args below meth c H locs 0 0 (zQu below args s D (tC cy) (wC ad cy) A res) (F0 m 151 ls []) := by
  have hx := hC.1
  have hb := hC.2.1
  unfold fX4_write_151 at hf
  exact z_return hC hI hf dX4_write_151
set_option maxRecDepth 20000 in
set_option maxHeartbeats 4000000 in
theorem bX4_write_71 {st : Nat → Nat} {p : Program} {l : Launch} {e : Env} {s : State} {m : MethodId} {args : Array Value} {below : List Frame} {meth : Method} {c : Code} {D : va_G} {A : Nat → Prop} {ad : Nat → Nat} {cy : Nat → ClassId} (hC : zC p m c cX4_write 4 s args wzX4_write RX4 meth none)  {res : zSt} {H : Heap} {locs : List Loc} {σ : zSt} {ls : Array Slot} {x2 : Int32} {x3 : Int32} (hI : zI st D (tC cy) (wC ad cy σ) A s H locs) (hl : lv_has ls 4 [(0, .ref (ad 6)), (2, .int x2), (3, .int x3)]) (hf : fX4_write_71  σ x2 x3 = some res) : W p l e rmX4_write s m args below meth c H locs 0 0 (zQu below args s D (tC cy) (wC ad cy) A res) (F0 m 71 ls []) := by
  have hx := hC.1
  have hb := hC.2.1
  unfold fX4_write_71 at hf
  refine lv_iload_n hx hb dX4_write_71 rfl (lv_at hl 2 rfl) ?_
  refine lv_if_ne (tgt := 151) hx hb dX4_write_72 (by decide) (fun q => ?_) (fun q => ?_)
  · replace hf := zif_f q hf
    exact bX4_write_151 hC  hI (lv_sub hl [] rfl) hf
  replace hf := zif_t q hf
  refine lv_aload_n hx hb dX4_write_75 rfl (lv_at hl 0 rfl) ?_
  refine lv_iconst (v := 0) hx hb dX4_write_76 (by decide) ?_
  refine lv_iload_n hx hb dX4_write_77 rfl (lv_at hl 1 rfl) ?_
  obtain ⟨σ1, g1, hf⟩ := zbu_use hf
  refine z_callVu (As := [.int 0, .int x2]) (rest := []) hC hI (cX4_changeLines_met st l D ad cy σ 0 x2 _ g1) (zgV zw27_21 zw27_22 zw27_23 zw2_17 zw28_0) rfl ⟨rfl, rfl⟩ 2 hdX4_changeLines ⟨Nat.le_of_ble_eq_true rfl, Nat.le_of_ble_eq_true rfl⟩ rfl rfl (wC_e6 ad cy σ) rfl hl rfl (Nat.le_of_ble_eq_true rfl) dX4_write_78 ⟨Nat.zero_le _, Nat.zero_le _⟩ (fun H locs hI => ?_)
  refine lv_goto (tgt := 151) hx hb dX4_write_81 (by decide) ?_
  exact bX4_write_151 hC  hI (lv_sub hl [] rfl) hf
set_option maxRecDepth 20000 in
set_option maxHeartbeats 4000000 in
theorem bX4_write_11 {st : Nat → Nat} {p : Program} {l : Launch} {e : Env} {s : State} {m : MethodId} {args : Array Value} {below : List Frame} {meth : Method} {c : Code} {D : va_G} {A : Nat → Prop} {ad : Nat → Nat} {cy : Nat → ClassId} (hC : zC p m c cX4_write 4 s args wzX4_write RX4 meth none)  {res : zSt} {H : Heap} {locs : List Loc} {σ : zSt} {ls : Array Slot} {x1 : Int32} {x2 : Int32} {s0 : Int32} (hI : zI st D (tC cy) (wC ad cy σ) A s H locs) (hl : lv_has ls 4 [(0, .ref (ad 6)), (1, .int x1), (2, .int x2)]) (hf : fX4_write_11  σ x1 x2 s0 = some res) : W p l e rmX4_write s m args below meth c H locs 0 0 (zQu below args s D (tC cy) (wC ad cy) A res) (F0 m 11 ls [.int s0]) := by
  have hx := hC.1
  have hb := hC.2.1
  unfold fX4_write_11 at hf
  refine lv_istore_n (lv' := [(3, .int s0), (0, .ref (ad 6)), (1, .int x1), (2, .int x2)]) hx hb dX4_write_11 rfl hl (by decide) rfl (fun ls hl => ?_)
  refine lv_iload_n hx hb dX4_write_12 rfl (lv_at hl 2 rfl) ?_
  refine lv_bipush (v := 6) hx hb dX4_write_13 (by decide) ?_
  refine lv_ishr hx hb dX4_write_15 ?_
  by_cases q0 : (x1 >>> ((6 : Int32) &&& 31)) = 0
  · replace hf := zif_t q0 hf
    refine lv_tableIn (tgt := 44) hx hb dX4_write_16 (by rw [q0]; decide) (by rw [q0]; decide) (by rw [q0]; rfl) (by decide) ?_
    refine lv_aload_n hx hb dX4_write_44 rfl (lv_at hl 1 rfl) ?_
    refine z_get hC hI hinX4_write_X40 6 (wC_e6 ad cy σ) rfl 0 (by decide) (List.mem_cons_of_mem _ zw6_17) rfl dX4_write_45 ?_
    refine lv_if_eq (tgt := 71) hx hb dX4_write_48 (by decide) (fun q => ?_) (fun q => ?_)
    · replace hf := zif_t q hf
      exact bX4_write_71 hC  hI (lv_sub hl [1, 3, 0] rfl) hf
    replace hf := zif_f q hf
    refine lv_iload_n hx hb dX4_write_51 rfl (lv_at hl 2 rfl) ?_
    refine lv_iconst (v := 1) hx hb dX4_write_52 (by decide) ?_
    refine lv_icmp_lt (tgt := 71) hx hb dX4_write_53 (by decide) (fun q => ?_) (fun q => ?_)
    · replace hf := zif_t q hf
      exact bX4_write_71 hC  hI (lv_sub hl [1, 3, 0] rfl) hf
    replace hf := zif_f q hf
    refine lv_iload_n hx hb dX4_write_56 rfl (lv_at hl 2 rfl) ?_
    refine lv_bipush (v := 6) hx hb dX4_write_57 (by decide) ?_
    refine lv_icmp_gt (tgt := 71) hx hb dX4_write_59 (by decide) (fun q => ?_) (fun q => ?_)
    · replace hf := zif_t q hf
      exact bX4_write_71 hC  hI (lv_sub hl [1, 3, 0] rfl) hf
    replace hf := zif_f q hf
    refine lv_aload_n hx hb dX4_write_62 rfl (lv_at hl 1 rfl) ?_
    refine lv_iload_n hx hb dX4_write_63 rfl (lv_at hl 2 rfl) ?_
    refine lv_iload_n hx hb dX4_write_64 rfl (lv_at hl 3 rfl) ?_
    obtain ⟨σ2, g2, hf⟩ := zbu_use hf
    refine z_callVu (As := [.int x1, .int x2]) (rest := []) hC hI (cX4_writeHandy_met st l D ad cy σ x1 x2 _ g2) (zgV zw27_13 zw27_14 zw27_15 zw2_17 zw27_16) rfl ⟨rfl, rfl⟩ 2 hdX4_writeHandy ⟨Nat.le_of_ble_eq_true rfl, Nat.le_of_ble_eq_true rfl⟩ rfl rfl (wC_e6 ad cy σ) rfl hl rfl (Nat.le_of_ble_eq_true rfl) dX4_write_65 ⟨Nat.zero_le _, Nat.zero_le _⟩ (fun H locs hI => ?_)
    refine lv_goto (tgt := 151) hx hb dX4_write_68 (by decide) ?_
    exact bX4_write_151 hC  hI (lv_sub hl [] rfl) hf
  replace hf := zif_f q0 hf
  by_cases q1 : (x1 >>> ((6 : Int32) &&& 31)) = 1
  · replace hf := zif_t q1 hf
    refine lv_tableIn (tgt := 84) hx hb dX4_write_16 (by rw [q1]; decide) (by rw [q1]; decide) (by rw [q1]; rfl) (by decide) ?_
    refine lv_aload_n hx hb dX4_write_84 rfl (lv_at hl 1 rfl) ?_
    refine z_get hC hI hinX4_write_X40 6 (wC_e6 ad cy σ) rfl 2 (by decide) (List.mem_cons_of_mem _ zw6_19) rfl dX4_write_85 ?_
    refine lv_iload_n hx hb dX4_write_88 rfl (lv_at hl 3 rfl) ?_
    obtain ⟨σ3, g3, hf⟩ := zbu_use hf
    refine z_callVu (As := [.int x2]) (rest := []) hC hI (cX7_take_met st l D ad cy σ x2 _ g3) (zgV zw28_5 zw28_6 zw28_7 zw2_9 zw28_8) rfl ⟨rfl, rfl⟩ 1 hdX7_take ⟨Nat.le_of_ble_eq_true rfl, Nat.le_of_ble_eq_true rfl⟩ rfl rfl (wC_e4 ad cy σ) rfl hl rfl (Nat.le_of_ble_eq_true rfl) dX4_write_89 ⟨Nat.zero_le _, Nat.zero_le _⟩ (fun H locs hI => ?_)
    refine lv_goto (tgt := 151) hx hb dX4_write_92 (by decide) ?_
    exact bX4_write_151 hC  hI (lv_sub hl [] rfl) hf
  replace hf := zif_f q1 hf
  by_cases q2 : (x1 >>> ((6 : Int32) &&& 31)) = 2
  · replace hf := zif_t q2 hf
    refine lv_tableIn (tgt := 95) hx hb dX4_write_16 (by rw [q2]; decide) (by rw [q2]; decide) (by rw [q2]; rfl) (by decide) ?_
    refine lv_iload_n hx hb dX4_write_95 rfl (lv_at hl 0 rfl) ?_
    refine lv_if_eq (tgt := 110) hx hb dX4_write_96 (by decide) (fun q => ?_) (fun q => ?_)
    · replace hf := zif_t q hf
      refine lv_aload_n hx hb dX4_write_110 rfl (lv_at hl 1 rfl) ?_
      refine z_get hC hI hinX4_write_X40 6 (wC_e6 ad cy σ) rfl 1 (by decide) (List.mem_cons_of_mem _ zw6_18) rfl dX4_write_111 ?_
      refine lv_iload_n hx hb dX4_write_114 rfl (lv_at hl 3 rfl) ?_
      obtain ⟨σ4, g4, hf⟩ := zbu_use hf
      refine z_callVu (As := [.int x2]) (rest := []) hC hI (cX9_writeControl_met st l D ad cy σ x2 _ g4) (zgV zw28_17 zw28_18 zw28_19 zw2_1 zw28_20) rfl ⟨rfl, rfl⟩ 1 hdX9_writeControl ⟨Nat.le_of_ble_eq_true rfl, Nat.le_of_ble_eq_true rfl⟩ rfl rfl (wC_e2 ad cy σ) rfl hl rfl (Nat.le_of_ble_eq_true rfl) dX4_write_115 ⟨Nat.zero_le _, Nat.zero_le _⟩ (fun H locs hI => ?_)
      refine lv_goto (tgt := 151) hx hb dX4_write_118 (by decide) ?_
      exact bX4_write_151 hC  hI (lv_sub hl [] rfl) hf
    replace hf := zif_f q hf
    refine lv_aload_n hx hb dX4_write_99 rfl (lv_at hl 1 rfl) ?_
    refine z_get hC hI hinX4_write_X40 6 (wC_e6 ad cy σ) rfl 1 (by decide) (List.mem_cons_of_mem _ zw6_18) rfl dX4_write_100 ?_
    refine lv_iload_n hx hb dX4_write_103 rfl (lv_at hl 3 rfl) ?_
    obtain ⟨σ5, g5, hf⟩ := zbu_use hf
    refine z_callVu (As := [.int x2]) (rest := []) hC hI (cX9_writeData_met st l D ad cy σ x2 _ g5) (zgV zw28_9 zw28_10 zw28_11 zw2_1 zw28_12) rfl ⟨rfl, rfl⟩ 1 hdX9_writeData ⟨Nat.le_of_ble_eq_true rfl, Nat.le_of_ble_eq_true rfl⟩ rfl rfl (wC_e2 ad cy σ) rfl hl rfl (Nat.le_of_ble_eq_true rfl) dX4_write_104 ⟨Nat.zero_le _, Nat.zero_le _⟩ (fun H locs hI => ?_)
    refine lv_goto (tgt := 151) hx hb dX4_write_107 (by decide) ?_
    exact bX4_write_151 hC  hI (lv_sub hl [] rfl) hf
  replace hf := zif_f q2 hf
  refine lv_tableOut (tgt := 121) hx hb dX4_write_16 (zsw (fun k h1 h2 => by rcases (show k = 0 ∨ k = 1 ∨ k = 2 by omega) with rfl | rfl | rfl <;> assumption)) (by decide) ?_
  refine lv_aload_n hx hb dX4_write_121 rfl (lv_at hl 1 rfl) ?_
  refine z_get hC hI hinX4_write_X40 6 (wC_e6 ad cy σ) rfl 0 (by decide) (List.mem_cons_of_mem _ zw6_17) rfl dX4_write_122 ?_
  refine lv_if_ne (tgt := 151) hx hb dX4_write_125 (by decide) (fun q => ?_) (fun q => ?_)
  · replace hf := zif_f q hf
    exact bX4_write_151 hC  hI (lv_sub hl [] rfl) hf
  replace hf := zif_t q hf
  refine lv_iload_n hx hb dX4_write_128 rfl (lv_at hl 2 rfl) ?_
  refine lv_sipush (v := 240) hx hb dX4_write_129 (by decide) ?_
  refine lv_icmp_lt (tgt := 151) hx hb dX4_write_132 (by decide) (fun q => ?_) (fun q => ?_)
  · replace hf := zif_t q hf
    exact bX4_write_151 hC  hI (lv_sub hl [] rfl) hf
  replace hf := zif_f q hf
  refine lv_iload_n hx hb dX4_write_135 rfl (lv_at hl 2 rfl) ?_
  refine lv_sipush (v := 242) hx hb dX4_write_136 (by decide) ?_
  refine lv_icmp_gt (tgt := 151) hx hb dX4_write_139 (by decide) (fun q => ?_) (fun q => ?_)
  · replace hf := zif_t q hf
    exact bX4_write_151 hC  hI (lv_sub hl [] rfl) hf
  replace hf := zif_f q hf
  refine lv_aload_n hx hb dX4_write_142 rfl (lv_at hl 1 rfl) ?_
  refine z_get hC hI hinX4_write_X40 6 (wC_e6 ad cy σ) rfl 3 (by decide) (List.mem_cons_of_mem _ zw6_20) rfl dX4_write_143 ?_
  refine lv_iload_n hx hb dX4_write_146 rfl (lv_at hl 2 rfl) ?_
  refine lv_iload_n hx hb dX4_write_147 rfl (lv_at hl 3 rfl) ?_
  obtain ⟨σ6, g6, hf⟩ := zbu_use hf
  refine z_callVu (As := [.int x1, .int x2]) (rest := []) hC hI (cX10_take_met st l D ad cy σ x1 x2 _ g6) (zgV zw28_21 zw28_22 zw28_23 zw2_13 zw29_0) rfl ⟨rfl, rfl⟩ 2 hdX10_take ⟨Nat.le_of_ble_eq_true rfl, Nat.le_of_ble_eq_true rfl⟩ rfl rfl (wC_e5 ad cy σ) rfl hl rfl (Nat.le_of_ble_eq_true rfl) dX4_write_148 ⟨Nat.zero_le _, Nat.zero_le _⟩ (fun H locs hI => ?_)
  exact bX4_write_151 hC  hI (lv_sub hl [] rfl) hf
set_option maxRecDepth 20000 in
set_option maxHeartbeats 4000000 in
theorem bX4_write {st : Nat → Nat} {p : Program} {l : Launch} {e : Env} {s : State} {m : MethodId} {args : Array Value} {below : List Frame} {meth : Method} {c : Code} {D : va_G} {A : Nat → Prop} {ad : Nat → Nat} {cy : Nat → ClassId} (hC : zC p m c cX4_write 4 s args wzX4_write RX4 meth none)  {res : zSt} {H : Heap} {locs : List Loc} {σ : zSt} {ls : Array Slot} {x1 : Int32} {x2 : Int32} (hI : zI st D (tC cy) (wC ad cy σ) A s H locs) (hl : lv_has ls 4 [(0, .ref (ad 6)), (1, .int x1), (2, .int x2)]) (hf : fX4_write  σ x1 x2 = some res) : W p l e rmX4_write s m args below meth c H locs 0 0 (zQu below args s D (tC cy) (wC ad cy) A res) (F0 m 0 ls []) := by
  have hx := hC.1
  have hb := hC.2.1
  unfold fX4_write at hf
  refine lv_iload_n hx hb dX4_write_0 rfl (lv_at hl 1 rfl) ?_
  refine lv_iconst (v := 1) hx hb dX4_write_1 (by decide) ?_
  refine lv_iand hx hb dX4_write_2 ?_
  refine lv_if_ne (tgt := 10) hx hb dX4_write_3 (by decide) (fun q => ?_) (fun q => ?_)
  · replace hf := zif_f q hf
    refine lv_iconst (v := 0) hx hb dX4_write_10 (by decide) ?_
    exact bX4_write_11 hC  hI hl hf
  replace hf := zif_t q hf
  refine lv_iconst (v := 1) hx hb dX4_write_6 (by decide) ?_
  refine lv_goto (tgt := 11) hx hb dX4_write_7 (by decide) ?_
  exact bX4_write_11 hC  hI hl hf
set_option maxRecDepth 20000 in
theorem cX4_write_met (st : Nat → Nat) (l : Launch) (D : va_G) (ad : Nat → Nat) (cy : Nat → ClassId) (σ : zSt) (x1 : Int32) (x2 : Int32) (res : zSt) (hf : fX4_write σ x1 x2 = some res) (sz : Nat) : zMu st l yX4_write wzX4_write rmX4_write [.ref (ad 6), .int x1, .int x2] D (tC cy) (wC ad cy) sz σ res :=
  zMu.of (cc := cX4_write) (maxL := 4) (ret := none) (by decide) rfl (Nat.le_of_ble_eq_true rfl) (fun p e s m args below meth c hC A hI ls hl => bX4_write hC hI hl hf)
theorem hdX4_write : yX4_write.cls = RX4 ∧ yX4_write.cls ≠ "java/lang/invoke/MethodHandle" ∧ yX4_write.cls ≠ "java/lang/invoke/VarHandle" ∧ (parseMethodDescriptor yX4_write.desc).map (fun d => d.parameters.length) = some 2 := by decide +kernel
noncomputable def rmJ7_fill_53178_k36 : Room := { frames := 0, cells := 0, slots := 0, locals := 0 }
noncomputable def fJ7_fill_53178_k36_5_body (k5 : zSt → Int32 → Int32 → Int32 → Option (zSt)) (σ : zSt) (x1 : Int32) (x2 : Int32) (x3 : Int32) : Option (zSt) :=
  if x3 ≤ x2 then some σ else
  zck (zin x2 29) (zbv (zsi σ 36 (x2.toNatClampNeg) x1) (fun σ1 =>
  zbv (x2 + 1) (fun v2 =>
  k5 σ1 x1 v2 x3)))
noncomputable def fJ7_fill_53178_k36_5  : Nat → zSt → Int32 → Int32 → Int32 → Option (zSt)
  | 0, _, _, _, _ => none
  | n + 1, σ, x1, x2, x3 => fJ7_fill_53178_k36_5_body (fJ7_fill_53178_k36_5  n) σ x1 x2 x3
noncomputable def fJ7_fill_53178_k36  (σ : zSt) (x1 : Int32) : Option (zSt) :=
  fJ7_fill_53178_k36_5 zfuel σ x1 0 29
set_option maxRecDepth 20000 in
set_option maxHeartbeats 4000000 in
theorem bJ7_fill_53178_k36_5_body {st : Nat → Nat} {p : Program} {l : Launch} {e : Env} {s : State} {m : MethodId} {args : Array Value} {below : List Frame} {meth : Method} {c : Code} {D : va_G} {A : Nat → Prop} {ad : Nat → Nat} {cy : Nat → ClassId} (hC : zC p m c cJ7_fill_53178 4 s args wzJ7_fill_53178 RJ7 meth none) {k5 : zSt → Int32 → Int32 → Int32 → Option (zSt)} {res : zSt} (hk5 : ∀ (H : Heap) (locs : List Loc) (σ : zSt) (ls : Array Slot) (x1 : Int32) (x2 : Int32) (x3 : Int32), zI st D (tC cy) (wC ad cy σ) A s H locs → lv_has ls 4 [(0, .ref (ad 36)), (1, .int x1), (2, .int x2), (3, .int x3)] → k5 σ x1 x2 x3 = some res → W p l e rmJ7_fill_53178_k36 s m args below meth c H locs 0 0 (zQu below args s D (tC cy) (wC ad cy) A res) (F0 m 5 ls [])) {H : Heap} {locs : List Loc} {σ : zSt} {ls : Array Slot} {x1 : Int32} {x2 : Int32} {x3 : Int32} (hI : zI st D (tC cy) (wC ad cy σ) A s H locs) (hl : lv_has ls 4 [(0, .ref (ad 36)), (1, .int x1), (2, .int x2), (3, .int x3)]) (hf : fJ7_fill_53178_k36_5_body k5 σ x1 x2 x3 = some res) : W p l e rmJ7_fill_53178_k36 s m args below meth c H locs 0 0 (zQu below args s D (tC cy) (wC ad cy) A res) (F0 m 5 ls []) := by
  have hx := hC.1
  have hb := hC.2.1
  unfold fJ7_fill_53178_k36_5_body at hf
  refine lv_iload_n hx hb dJ7_fill_53178_5 rfl (lv_at hl 2 rfl) ?_
  refine lv_iload_n hx hb dJ7_fill_53178_6 rfl (lv_at hl 3 rfl) ?_
  refine lv_icmp_ge (tgt := 20) hx hb dJ7_fill_53178_7 (by decide) (fun q => ?_) (fun q => ?_)
  · replace hf := zif_t q hf
    exact z_return hC hI hf dJ7_fill_53178_20
  replace hf := zif_f q hf
  refine lv_aload_n hx hb dJ7_fill_53178_10 rfl (lv_at hl 0 rfl) ?_
  refine lv_iload_n hx hb dJ7_fill_53178_11 rfl (lv_at hl 2 rfl) ?_
  refine lv_iload_n hx hb dJ7_fill_53178_12 rfl (lv_at hl 1 rfl) ?_
  obtain ⟨q, hf⟩ := zck_use hf
  obtain ⟨σ1, eσ1⟩ : ∃ z, z = zsi σ 36 (x2.toNatClampNeg) x1 := ⟨_, rfl⟩
  replace hf := zbv_use eσ1 hf
  refine z_iast hC hI 36 23 (wC_e36 ad cy σ) (tC_t36 cy) q ((wC_s36 ad cy σ _ _).trans (congrArg (wC ad cy) eσ1.symm)) dJ7_fill_53178_13 (fun H locs hI => ?_)
  obtain ⟨v2, ev2⟩ : ∃ z : Int32, z = x2 + 1 := ⟨_, rfl⟩
  replace hf := zbv_use ev2 hf
  refine lv_iinc (v := v2) (lv' := [(2, .int v2), (0, .ref (ad 36)), (1, .int x1), (3, .int x3)]) hx hb dJ7_fill_53178_14 hl (k := 2) rfl (by rw [ev2]; rfl) (by decide) rfl (fun ls hl => ?_)
  refine lv_goto (tgt := 5) hx hb dJ7_fill_53178_17 (by decide) ?_
  exact hk5 _ _ _ _ _ _ _ hI (lv_sub hl [1, 2, 0, 3] rfl) hf
theorem blJ7_fill_53178_k36_5 {st : Nat → Nat} {p : Program} {l : Launch} {e : Env} {s : State} {m : MethodId} {args : Array Value} {below : List Frame} {meth : Method} {c : Code} {D : va_G} {A : Nat → Prop} {ad : Nat → Nat} {cy : Nat → ClassId} (hC : zC p m c cJ7_fill_53178 4 s args wzJ7_fill_53178 RJ7 meth none)  {res : zSt} : ∀ (n : Nat) (H : Heap) (locs : List Loc) (σ : zSt) (ls : Array Slot) (x1 : Int32) (x2 : Int32) (x3 : Int32), zI st D (tC cy) (wC ad cy σ) A s H locs → lv_has ls 4 [(0, .ref (ad 36)), (1, .int x1), (2, .int x2), (3, .int x3)] → fJ7_fill_53178_k36_5  n σ x1 x2 x3 = some res → W p l e rmJ7_fill_53178_k36 s m args below meth c H locs 0 0 (zQu below args s D (tC cy) (wC ad cy) A res) (F0 m 5 ls []) := by
  intro n
  induction n with
  | zero => intro H locs σ ls x1 x2 x3 hI hl hf; cases hf
  | succ n ih => intro H locs σ ls x1 x2 x3 hI hl hf; exact bJ7_fill_53178_k36_5_body hC ih hI hl hf
set_option maxRecDepth 20000 in
set_option maxHeartbeats 4000000 in
theorem bJ7_fill_53178_k36 {st : Nat → Nat} {p : Program} {l : Launch} {e : Env} {s : State} {m : MethodId} {args : Array Value} {below : List Frame} {meth : Method} {c : Code} {D : va_G} {A : Nat → Prop} {ad : Nat → Nat} {cy : Nat → ClassId} (hC : zC p m c cJ7_fill_53178 4 s args wzJ7_fill_53178 RJ7 meth none)  {res : zSt} {H : Heap} {locs : List Loc} {σ : zSt} {ls : Array Slot} {x1 : Int32} (hI : zI st D (tC cy) (wC ad cy σ) A s H locs) (hl : lv_has ls 4 [(0, .ref (ad 36)), (1, .int x1)]) (hf : fJ7_fill_53178_k36  σ x1 = some res) : W p l e rmJ7_fill_53178_k36 s m args below meth c H locs 0 0 (zQu below args s D (tC cy) (wC ad cy) A res) (F0 m 0 ls []) := by
  have hx := hC.1
  have hb := hC.2.1
  unfold fJ7_fill_53178_k36 at hf
  refine lv_iconst (v := 0) hx hb dJ7_fill_53178_0 (by decide) ?_
  refine lv_istore_n (lv' := [(2, .int 0), (0, .ref (ad 36)), (1, .int x1)]) hx hb dJ7_fill_53178_1 rfl hl (by decide) rfl (fun ls hl => ?_)
  refine lv_aload_n hx hb dJ7_fill_53178_2 rfl (lv_at hl 1 rfl) ?_
  refine z_alen (v := 29) hC hI 36 23 (wC_e36 ad cy σ) (tC_t36 cy) rfl dJ7_fill_53178_3 ?_
  refine lv_istore_n (lv' := [(3, .int 29), (2, .int 0), (0, .ref (ad 36)), (1, .int x1)]) hx hb dJ7_fill_53178_4 rfl hl (by decide) rfl (fun ls hl => ?_)
  exact blJ7_fill_53178_k36_5 hC  zfuel _ _ _ _ _ _ _ hI (lv_sub hl [2, 3, 1, 0] rfl) hf
set_option maxRecDepth 20000 in
theorem cJ7_fill_53178_k36_met (st : Nat → Nat) (l : Launch) (D : va_G) (ad : Nat → Nat) (cy : Nat → ClassId) (σ : zSt) (x1 : Int32) (res : zSt) (hf : fJ7_fill_53178_k36 σ x1 = some res) (sz : Nat) : zMu st l yJ7_fill_53178 wzJ7_fill_53178 rmJ7_fill_53178_k36 [.ref (ad 36), .int x1] D (tC cy) (wC ad cy) sz σ res :=
  zMu.of (cc := cJ7_fill_53178) (maxL := 4) (ret := none) (by decide) rfl (Nat.le_of_ble_eq_true rfl) (fun p e s m args below meth c hC A hI ls hl => bJ7_fill_53178_k36 hC hI hl hf)
theorem hdJ7_fill_53178_k36 : yJ7_fill_53178.cls ≠ "java/lang/invoke/MethodHandle" ∧ yJ7_fill_53178.cls ≠ "java/lang/invoke/VarHandle" ∧ (parseMethodDescriptor yJ7_fill_53178.desc).map (fun d => d.parameters.length) = some 2 := by decide +kernel
noncomputable def rmX5_clear : Room := { frames := 1, cells := 0, slots := 0, locals := 23 }
noncomputable def wzX5_clear : List Cond := .code yX5_clear cX5_clear 1 none :: wsL_law
theorem hinX5_clear_X50 : ∀ w ∈ wsX50, w ∈ wzX5_clear := fun w h => List.mem_cons_of_mem _ (inlX5 w h)
noncomputable def fX5_clear  (σ : zSt)  : Option (zSt) :=
  zbu (fJ7_fill_53178_k36 σ 0) (fun σ1 =>
  zck (zin 18 29) (zbv (zsi σ1 36 ((18 : Int32).toNatClampNeg) 57328) (fun σ2 =>
  some σ2)))
set_option maxRecDepth 20000 in
set_option maxHeartbeats 4000000 in
theorem bX5_clear {st : Nat → Nat} {p : Program} {l : Launch} {e : Env} {s : State} {m : MethodId} {args : Array Value} {below : List Frame} {meth : Method} {c : Code} {D : va_G} {A : Nat → Prop} {ad : Nat → Nat} {cy : Nat → ClassId} (hC : zC p m c cX5_clear 1 s args wzX5_clear RX5 meth none)  {res : zSt} {H : Heap} {locs : List Loc} {σ : zSt} {ls : Array Slot}  (hI : zI st D (tC cy) (wC ad cy σ) A s H locs) (hl : lv_has ls 1 [(0, .ref (ad 7))]) (hf : fX5_clear  σ  = some res) : W p l e rmX5_clear s m args below meth c H locs 0 0 (zQu below args s D (tC cy) (wC ad cy) A res) (F0 m 0 ls []) := by
  have hx := hC.1
  have hb := hC.2.1
  unfold fX5_clear at hf
  refine lv_aload_n hx hb dX5_clear_0 rfl (lv_at hl 0 rfl) ?_
  refine z_get hC hI hinX5_clear_X50 7 (wC_e7 ad cy σ) rfl 2 (by decide) (List.mem_cons_of_mem _ zw7_5) rfl dX5_clear_1 ?_
  refine lv_iconst (v := 0) hx hb dX5_clear_4 (by decide) ?_
  obtain ⟨σ1, g1, hf⟩ := zbu_use hf
  refine z_callSu (As := [.ref (ad 36), .int 0]) (rest := []) hC hI (cJ7_fill_53178_k36_met st l D ad cy σ 0 _ g1) (zgS zw16_1 zw5_12 zw5_13 zw5_14) rfl ⟨rfl, rfl⟩ 2 hdJ7_fill_53178_k36 ⟨Nat.le_of_ble_eq_true rfl, Nat.le_of_ble_eq_true rfl⟩ rfl hl rfl (Nat.le_of_ble_eq_true rfl) dX5_clear_5 ⟨Nat.zero_le _, Nat.zero_le _⟩ (fun H locs hI => ?_)
  refine lv_aload_n hx hb dX5_clear_8 rfl (lv_at hl 0 rfl) ?_
  refine z_get hC hI hinX5_clear_X50 7 (wC_e7 ad cy σ1) rfl 2 (by decide) (List.mem_cons_of_mem _ zw7_5) rfl dX5_clear_9 ?_
  refine lv_bipush (v := 18) hx hb dX5_clear_12 (by decide) ?_
  refine lv_ldc (v := 57328) hx hb hC.2.2.2.1 (hC.2.2.2.2.1 _ (List.mem_cons_of_mem _ zw7_10)) dX5_clear_14 ?_
  obtain ⟨q, hf⟩ := zck_use hf
  obtain ⟨σ2, eσ2⟩ : ∃ z, z = zsi σ1 36 ((18 : Int32).toNatClampNeg) 57328 := ⟨_, rfl⟩
  replace hf := zbv_use eσ2 hf
  refine z_iast hC hI 36 23 (wC_e36 ad cy σ1) (tC_t36 cy) q ((wC_s36 ad cy σ1 _ _).trans (congrArg (wC ad cy) eσ2.symm)) dX5_clear_16 (fun H locs hI => ?_)
  exact z_return hC hI hf dX5_clear_17
set_option maxRecDepth 20000 in
theorem cX5_clear_met (st : Nat → Nat) (l : Launch) (D : va_G) (ad : Nat → Nat) (cy : Nat → ClassId) (σ : zSt)  (res : zSt) (hf : fX5_clear σ  = some res) (sz : Nat) : zMu st l yX5_clear wzX5_clear rmX5_clear [.ref (ad 7)] D (tC cy) (wC ad cy) sz σ res :=
  zMu.of (cc := cX5_clear) (maxL := 1) (ret := none) (by decide) rfl (Nat.le_of_ble_eq_true rfl) (fun p e s m args below meth c hC A hI ls hl => bX5_clear hC hI hl hf)
theorem hdX5_clear : yX5_clear.cls = RX5 ∧ yX5_clear.cls ≠ "java/lang/invoke/MethodHandle" ∧ yX5_clear.cls ≠ "java/lang/invoke/VarHandle" ∧ (parseMethodDescriptor yX5_clear.desc).map (fun d => d.parameters.length) = some 0 := by decide +kernel
noncomputable def rmX5_keep : Room := { frames := 1, cells := 0, slots := 0, locals := 64 }
noncomputable def wzX5_keep : List Cond := .code yX5_keep cX5_keep 1 none :: wsL_law
theorem hinX5_keep_X50 : ∀ w ∈ wsX50, w ∈ wzX5_keep := fun w h => List.mem_cons_of_mem _ (inlX5 w h)
noncomputable def fX5_keep  (σ : zSt)  : Option (zSt) :=
  zck (zco 0 0 29 29 29) (zbv (zcpi σ 36 37 ((0 : Int32).toNatClampNeg) ((0 : Int32).toNatClampNeg) ((29 : Int32).toNatClampNeg)) (fun σ1 =>
  some σ1))
set_option maxRecDepth 20000 in
set_option maxHeartbeats 4000000 in
theorem bX5_keep {st : Nat → Nat} {p : Program} {l : Launch} {e : Env} {s : State} {m : MethodId} {args : Array Value} {below : List Frame} {meth : Method} {c : Code} {D : va_G} {A : Nat → Prop} {ad : Nat → Nat} {cy : Nat → ClassId} (hC : zC p m c cX5_keep 1 s args wzX5_keep RX5 meth none)  {res : zSt} {H : Heap} {locs : List Loc} {σ : zSt} {ls : Array Slot}  (hI : zI st D (tC cy) (wC ad cy σ) A s H locs) (hl : lv_has ls 1 [(0, .ref (ad 7))]) (hf : fX5_keep  σ  = some res) : W p l e rmX5_keep s m args below meth c H locs 0 0 (zQu below args s D (tC cy) (wC ad cy) A res) (F0 m 0 ls []) := by
  have hx := hC.1
  have hb := hC.2.1
  unfold fX5_keep at hf
  refine lv_aload_n hx hb dX5_keep_0 rfl (lv_at hl 0 rfl) ?_
  refine z_get hC hI hinX5_keep_X50 7 (wC_e7 ad cy σ) rfl 2 (by decide) (List.mem_cons_of_mem _ zw7_5) rfl dX5_keep_1 ?_
  refine lv_iconst (v := 0) hx hb dX5_keep_4 (by decide) ?_
  refine lv_aload_n hx hb dX5_keep_5 rfl (lv_at hl 0 rfl) ?_
  refine z_get hC hI hinX5_keep_X50 7 (wC_e7 ad cy σ) rfl 3 (by decide) (List.mem_cons_of_mem _ zw7_6) rfl dX5_keep_6 ?_
  refine lv_iconst (v := 0) hx hb dX5_keep_9 (by decide) ?_
  refine lv_bipush (v := 29) hx hb dX5_keep_10 (by decide) ?_
  obtain ⟨q, hf⟩ := zck_use hf
  obtain ⟨σ1, eσ1⟩ : ∃ z, z = zcpi σ 36 37 ((0 : Int32).toNatClampNeg) ((0 : Int32).toNatClampNeg) ((29 : Int32).toNatClampNeg) := ⟨_, rfl⟩
  replace hf := zbv_use eσ1 hf
  refine z_cpi hC hI (List.mem_cons_of_mem _ zw81_14) (List.mem_cons_of_mem _ zw80_6) (List.mem_cons_of_mem _ zw80_7) (List.mem_cons_of_mem _ zw80_8) hl 36 37 23 24 (wC_e36 ad cy σ) (wC_e37 ad cy σ) (tC_t36 cy) (tC_t37 cy) q (show _ = wC ad cy σ1 from eσ1 ▸ rfl) (Nat.le_of_ble_eq_true rfl) (Nat.le_of_ble_eq_true rfl) dX5_keep_12 (fun H locs hI => ?_)
  exact z_return hC hI hf dX5_keep_15
set_option maxRecDepth 20000 in
theorem cX5_keep_met (st : Nat → Nat) (l : Launch) (D : va_G) (ad : Nat → Nat) (cy : Nat → ClassId) (σ : zSt)  (res : zSt) (hf : fX5_keep σ  = some res) (sz : Nat) : zMu st l yX5_keep wzX5_keep rmX5_keep [.ref (ad 7)] D (tC cy) (wC ad cy) sz σ res :=
  zMu.of (cc := cX5_keep) (maxL := 1) (ret := none) (by decide) rfl (Nat.le_of_ble_eq_true rfl) (fun p e s m args below meth c hC A hI ls hl => bX5_keep hC hI hl hf)
theorem hdX5_keep : yX5_keep.cls = RX5 ∧ yX5_keep.cls ≠ "java/lang/invoke/MethodHandle" ∧ yX5_keep.cls ≠ "java/lang/invoke/VarHandle" ∧ (parseMethodDescriptor yX5_keep.desc).map (fun d => d.parameters.length) = some 0 := by decide +kernel
noncomputable def rmX5_bringBack : Room := { frames := 1, cells := 0, slots := 0, locals := 64 }
noncomputable def wzX5_bringBack : List Cond := .code yX5_bringBack cX5_bringBack 1 none :: wsL_law
theorem hinX5_bringBack_X50 : ∀ w ∈ wsX50, w ∈ wzX5_bringBack := fun w h => List.mem_cons_of_mem _ (inlX5 w h)
noncomputable def fX5_bringBack  (σ : zSt)  : Option (zSt) :=
  zck (zco 0 0 29 29 29) (zbv (zcpi σ 37 36 ((0 : Int32).toNatClampNeg) ((0 : Int32).toNatClampNeg) ((29 : Int32).toNatClampNeg)) (fun σ1 =>
  some σ1))
set_option maxRecDepth 20000 in
set_option maxHeartbeats 4000000 in
theorem bX5_bringBack {st : Nat → Nat} {p : Program} {l : Launch} {e : Env} {s : State} {m : MethodId} {args : Array Value} {below : List Frame} {meth : Method} {c : Code} {D : va_G} {A : Nat → Prop} {ad : Nat → Nat} {cy : Nat → ClassId} (hC : zC p m c cX5_bringBack 1 s args wzX5_bringBack RX5 meth none)  {res : zSt} {H : Heap} {locs : List Loc} {σ : zSt} {ls : Array Slot}  (hI : zI st D (tC cy) (wC ad cy σ) A s H locs) (hl : lv_has ls 1 [(0, .ref (ad 7))]) (hf : fX5_bringBack  σ  = some res) : W p l e rmX5_bringBack s m args below meth c H locs 0 0 (zQu below args s D (tC cy) (wC ad cy) A res) (F0 m 0 ls []) := by
  have hx := hC.1
  have hb := hC.2.1
  unfold fX5_bringBack at hf
  refine lv_aload_n hx hb dX5_bringBack_0 rfl (lv_at hl 0 rfl) ?_
  refine z_get hC hI hinX5_bringBack_X50 7 (wC_e7 ad cy σ) rfl 3 (by decide) (List.mem_cons_of_mem _ zw7_6) rfl dX5_bringBack_1 ?_
  refine lv_iconst (v := 0) hx hb dX5_bringBack_4 (by decide) ?_
  refine lv_aload_n hx hb dX5_bringBack_5 rfl (lv_at hl 0 rfl) ?_
  refine z_get hC hI hinX5_bringBack_X50 7 (wC_e7 ad cy σ) rfl 2 (by decide) (List.mem_cons_of_mem _ zw7_5) rfl dX5_bringBack_6 ?_
  refine lv_iconst (v := 0) hx hb dX5_bringBack_9 (by decide) ?_
  refine lv_bipush (v := 29) hx hb dX5_bringBack_10 (by decide) ?_
  obtain ⟨q, hf⟩ := zck_use hf
  obtain ⟨σ1, eσ1⟩ : ∃ z, z = zcpi σ 37 36 ((0 : Int32).toNatClampNeg) ((0 : Int32).toNatClampNeg) ((29 : Int32).toNatClampNeg) := ⟨_, rfl⟩
  replace hf := zbv_use eσ1 hf
  refine z_cpi hC hI (List.mem_cons_of_mem _ zw81_14) (List.mem_cons_of_mem _ zw80_6) (List.mem_cons_of_mem _ zw80_7) (List.mem_cons_of_mem _ zw80_8) hl 37 36 24 23 (wC_e37 ad cy σ) (wC_e36 ad cy σ) (tC_t37 cy) (tC_t36 cy) q (show _ = wC ad cy σ1 from eσ1 ▸ rfl) (Nat.le_of_ble_eq_true rfl) (Nat.le_of_ble_eq_true rfl) dX5_bringBack_12 (fun H locs hI => ?_)
  exact z_return hC hI hf dX5_bringBack_15
set_option maxRecDepth 20000 in
theorem cX5_bringBack_met (st : Nat → Nat) (l : Launch) (D : va_G) (ad : Nat → Nat) (cy : Nat → ClassId) (σ : zSt)  (res : zSt) (hf : fX5_bringBack σ  = some res) (sz : Nat) : zMu st l yX5_bringBack wzX5_bringBack rmX5_bringBack [.ref (ad 7)] D (tC cy) (wC ad cy) sz σ res :=
  zMu.of (cc := cX5_bringBack) (maxL := 1) (ret := none) (by decide) rfl (Nat.le_of_ble_eq_true rfl) (fun p e s m args below meth c hC A hI ls hl => bX5_bringBack hC hI hl hf)
theorem hdX5_bringBack : yX5_bringBack.cls = RX5 ∧ yX5_bringBack.cls ≠ "java/lang/invoke/MethodHandle" ∧ yX5_bringBack.cls ≠ "java/lang/invoke/VarHandle" ∧ (parseMethodDescriptor yX5_bringBack.desc).map (fun d => d.parameters.length) = some 0 := by decide +kernel
noncomputable def rmX5_value : Room := { frames := 0, cells := 0, slots := 0, locals := 0 }
noncomputable def wzX5_value : List Cond := .code yX5_value cX5_value 2 (some .int) :: wsL_law
theorem hinX5_value_X50 : ∀ w ∈ wsX50, w ∈ wzX5_value := fun w h => List.mem_cons_of_mem _ (inlX5 w h)
noncomputable def fX5_value_20  (σ : zSt) (s0 : Int32) : Option (zSt × Int32) :=
  some (σ, s0)
noncomputable def fX5_value_19  (σ : zSt)  : Option (zSt × Int32) :=
  fX5_value_20 σ 0
noncomputable def fX5_value  (σ : zSt) (x1 : Int32) : Option (zSt × Int32) :=
  if x1 < 0 then fX5_value_19 σ else
  if 29 ≤ x1 then fX5_value_19 σ else
  zck (zin x1 29) (
  fX5_value_20 σ (zgi σ 36 x1.toNatClampNeg))
set_option maxRecDepth 20000 in
set_option maxHeartbeats 4000000 in
theorem bX5_value_20 {st : Nat → Nat} {p : Program} {l : Launch} {e : Env} {s : State} {m : MethodId} {args : Array Value} {below : List Frame} {meth : Method} {c : Code} {D : va_G} {A : Nat → Prop} {ad : Nat → Nat} {cy : Nat → ClassId} (hC : zC p m c cX5_value 2 s args wzX5_value RX5 meth (some .int))  {res : zSt × Int32} {H : Heap} {locs : List Loc} {σ : zSt} {ls : Array Slot} {s0 : Int32} (hI : zI st D (tC cy) (wC ad cy σ) A s H locs) (hl : lv_has ls 2 []) (hf : fX5_value_20  σ s0 = some res) : W p l e rmX5_value s m args below meth c H locs 0 0 (zQi below args s D (tC cy) (wC ad cy) A res) (F0 m 20 ls [.int s0]) := by
  have hx := hC.1
  have hb := hC.2.1
  unfold fX5_value_20 at hf
  exact z_ireturn hC hI hf dX5_value_20
set_option maxRecDepth 20000 in
set_option maxHeartbeats 4000000 in
theorem bX5_value_19 {st : Nat → Nat} {p : Program} {l : Launch} {e : Env} {s : State} {m : MethodId} {args : Array Value} {below : List Frame} {meth : Method} {c : Code} {D : va_G} {A : Nat → Prop} {ad : Nat → Nat} {cy : Nat → ClassId} (hC : zC p m c cX5_value 2 s args wzX5_value RX5 meth (some .int))  {res : zSt × Int32} {H : Heap} {locs : List Loc} {σ : zSt} {ls : Array Slot}  (hI : zI st D (tC cy) (wC ad cy σ) A s H locs) (hl : lv_has ls 2 []) (hf : fX5_value_19  σ  = some res) : W p l e rmX5_value s m args below meth c H locs 0 0 (zQi below args s D (tC cy) (wC ad cy) A res) (F0 m 19 ls []) := by
  have hx := hC.1
  have hb := hC.2.1
  unfold fX5_value_19 at hf
  refine lv_iconst (v := 0) hx hb dX5_value_19 (by decide) ?_
  exact bX5_value_20 hC  hI hl hf
set_option maxRecDepth 20000 in
set_option maxHeartbeats 4000000 in
theorem bX5_value {st : Nat → Nat} {p : Program} {l : Launch} {e : Env} {s : State} {m : MethodId} {args : Array Value} {below : List Frame} {meth : Method} {c : Code} {D : va_G} {A : Nat → Prop} {ad : Nat → Nat} {cy : Nat → ClassId} (hC : zC p m c cX5_value 2 s args wzX5_value RX5 meth (some .int))  {res : zSt × Int32} {H : Heap} {locs : List Loc} {σ : zSt} {ls : Array Slot} {x1 : Int32} (hI : zI st D (tC cy) (wC ad cy σ) A s H locs) (hl : lv_has ls 2 [(0, .ref (ad 7)), (1, .int x1)]) (hf : fX5_value  σ x1 = some res) : W p l e rmX5_value s m args below meth c H locs 0 0 (zQi below args s D (tC cy) (wC ad cy) A res) (F0 m 0 ls []) := by
  have hx := hC.1
  have hb := hC.2.1
  unfold fX5_value at hf
  refine lv_iload_n hx hb dX5_value_0 rfl (lv_at hl 1 rfl) ?_
  refine lv_if_lt (tgt := 19) hx hb dX5_value_1 (by decide) (fun q => ?_) (fun q => ?_)
  · replace hf := zif_t q hf
    exact bX5_value_19 hC  hI (lv_sub hl [] rfl) hf
  replace hf := zif_f q hf
  refine lv_iload_n hx hb dX5_value_4 rfl (lv_at hl 1 rfl) ?_
  refine lv_bipush (v := 29) hx hb dX5_value_5 (by decide) ?_
  refine lv_icmp_ge (tgt := 19) hx hb dX5_value_7 (by decide) (fun q => ?_) (fun q => ?_)
  · replace hf := zif_t q hf
    exact bX5_value_19 hC  hI (lv_sub hl [] rfl) hf
  replace hf := zif_f q hf
  refine lv_aload_n hx hb dX5_value_10 rfl (lv_at hl 0 rfl) ?_
  refine z_get hC hI hinX5_value_X50 7 (wC_e7 ad cy σ) rfl 2 (by decide) (List.mem_cons_of_mem _ zw7_5) rfl dX5_value_11 ?_
  refine lv_iload_n hx hb dX5_value_14 rfl (lv_at hl 1 rfl) ?_
  obtain ⟨q, hf⟩ := zck_use hf
  refine z_iald hC hI 36 23 (wC_e36 ad cy σ) (tC_t36 cy) q dX5_value_15 ?_
  refine lv_goto (tgt := 20) hx hb dX5_value_16 (by decide) ?_
  exact bX5_value_20 hC  hI (lv_sub hl [] rfl) hf
set_option maxRecDepth 20000 in
theorem cX5_value_met (st : Nat → Nat) (l : Launch) (D : va_G) (ad : Nat → Nat) (cy : Nat → ClassId) (σ : zSt) (x1 : Int32) (res : zSt × Int32) (hf : fX5_value σ x1 = some res) (sz : Nat) : zMi st l yX5_value wzX5_value rmX5_value [.ref (ad 7), .int x1] D (tC cy) (wC ad cy) sz σ res :=
  zMi.of (cc := cX5_value) (maxL := 2) (ret := (some .int)) (by decide) rfl (Nat.le_of_ble_eq_true rfl) (fun p e s m args below meth c hC A hI ls hl => bX5_value hC hI hl hf)
theorem hdX5_value : yX5_value.cls = RX5 ∧ yX5_value.cls ≠ "java/lang/invoke/MethodHandle" ∧ yX5_value.cls ≠ "java/lang/invoke/VarHandle" ∧ (parseMethodDescriptor yX5_value.desc).map (fun d => d.parameters.length) = some 1 := by decide +kernel
noncomputable def rmX5_change : Room := { frames := 1, cells := 0, slots := 0, locals := 21 }
noncomputable def wzX5_change : List Cond := .code yX5_change cX5_change 3 none :: wsL_law
theorem hinX5_change_X50 : ∀ w ∈ wsX50, w ∈ wzX5_change := fun w h => List.mem_cons_of_mem _ (inlX5 w h)
noncomputable def fX5_change_10  (σ : zSt)  : Option (zSt) :=
  some σ
noncomputable def fX5_change_81  (σ : zSt)  : Option (zSt) :=
  some σ
noncomputable def fX5_change_80  (σ : zSt) (s0 : Int32) (s1 : Int32) : Option (zSt) :=
  zck (zin s1 29) (zbv (zsi σ 36 (s1.toNatClampNeg) s0) (fun σ1 =>
  fX5_change_81 σ1))
noncomputable def fX5_change_75  (σ : zSt) (x2 : Int32) (s0 : Int32) : Option (zSt) :=
  fX5_change_80 σ (x2 &&& 255) s0
noncomputable def fX5_change  (σ : zSt) (x1 : Int32) (x2 : Int32) : Option (zSt) :=
  if x1 < 0 then fX5_change_10 σ else
  if x1 ≤ 25 then if x1 = 25 then zck (zin x1 29) (zbv (zsi σ 36 (x1.toNatClampNeg) (zmin 2 (x2 &&& 3))) (fun σ3 =>
  fX5_change_81 σ3)) else
  if x1 < 23 then if x1 < 16 then fX5_change_75 σ x2 x1 else
  if 20 < x1 then fX5_change_75 σ x2 x1 else
  fX5_change_80 σ (x2 &&& 65535) x1 else
  zck (zin x1 29) (zbv (zsi σ 36 (x1.toNatClampNeg) (x2 &&& 1)) (fun σ2 =>
  fX5_change_81 σ2)) else
  fX5_change_10 σ
set_option maxRecDepth 20000 in
set_option maxHeartbeats 4000000 in
theorem bX5_change_10 {st : Nat → Nat} {p : Program} {l : Launch} {e : Env} {s : State} {m : MethodId} {args : Array Value} {below : List Frame} {meth : Method} {c : Code} {D : va_G} {A : Nat → Prop} {ad : Nat → Nat} {cy : Nat → ClassId} (hC : zC p m c cX5_change 3 s args wzX5_change RX5 meth none)  {res : zSt} {H : Heap} {locs : List Loc} {σ : zSt} {ls : Array Slot}  (hI : zI st D (tC cy) (wC ad cy σ) A s H locs) (hl : lv_has ls 3 []) (hf : fX5_change_10  σ  = some res) : W p l e rmX5_change s m args below meth c H locs 0 0 (zQu below args s D (tC cy) (wC ad cy) A res) (F0 m 10 ls []) := by
  have hx := hC.1
  have hb := hC.2.1
  unfold fX5_change_10 at hf
  exact z_return hC hI hf dX5_change_10
set_option maxRecDepth 20000 in
set_option maxHeartbeats 4000000 in
theorem bX5_change_81 {st : Nat → Nat} {p : Program} {l : Launch} {e : Env} {s : State} {m : MethodId} {args : Array Value} {below : List Frame} {meth : Method} {c : Code} {D : va_G} {A : Nat → Prop} {ad : Nat → Nat} {cy : Nat → ClassId} (hC : zC p m c cX5_change 3 s args wzX5_change RX5 meth none)  {res : zSt} {H : Heap} {locs : List Loc} {σ : zSt} {ls : Array Slot}  (hI : zI st D (tC cy) (wC ad cy σ) A s H locs) (hl : lv_has ls 3 []) (hf : fX5_change_81  σ  = some res) : W p l e rmX5_change s m args below meth c H locs 0 0 (zQu below args s D (tC cy) (wC ad cy) A res) (F0 m 81 ls []) := by
  have hx := hC.1
  have hb := hC.2.1
  unfold fX5_change_81 at hf
  exact z_return hC hI hf dX5_change_81
set_option maxRecDepth 20000 in
set_option maxHeartbeats 4000000 in
theorem bX5_change_80 {st : Nat → Nat} {p : Program} {l : Launch} {e : Env} {s : State} {m : MethodId} {args : Array Value} {below : List Frame} {meth : Method} {c : Code} {D : va_G} {A : Nat → Prop} {ad : Nat → Nat} {cy : Nat → ClassId} (hC : zC p m c cX5_change 3 s args wzX5_change RX5 meth none)  {res : zSt} {H : Heap} {locs : List Loc} {σ : zSt} {ls : Array Slot} {s0 : Int32} {s1 : Int32} (hI : zI st D (tC cy) (wC ad cy σ) A s H locs) (hl : lv_has ls 3 []) (hf : fX5_change_80  σ s0 s1 = some res) : W p l e rmX5_change s m args below meth c H locs 0 0 (zQu below args s D (tC cy) (wC ad cy) A res) (F0 m 80 ls [.int s0, .int s1, .ref (ad 36)]) := by
  have hx := hC.1
  have hb := hC.2.1
  unfold fX5_change_80 at hf
  obtain ⟨q, hf⟩ := zck_use hf
  obtain ⟨σ1, eσ1⟩ : ∃ z, z = zsi σ 36 (s1.toNatClampNeg) s0 := ⟨_, rfl⟩
  replace hf := zbv_use eσ1 hf
  refine z_iast hC hI 36 23 (wC_e36 ad cy σ) (tC_t36 cy) q ((wC_s36 ad cy σ _ _).trans (congrArg (wC ad cy) eσ1.symm)) dX5_change_80 (fun H locs hI => ?_)
  exact bX5_change_81 hC  hI hl hf
set_option maxRecDepth 20000 in
set_option maxHeartbeats 4000000 in
theorem bX5_change_75 {st : Nat → Nat} {p : Program} {l : Launch} {e : Env} {s : State} {m : MethodId} {args : Array Value} {below : List Frame} {meth : Method} {c : Code} {D : va_G} {A : Nat → Prop} {ad : Nat → Nat} {cy : Nat → ClassId} (hC : zC p m c cX5_change 3 s args wzX5_change RX5 meth none)  {res : zSt} {H : Heap} {locs : List Loc} {σ : zSt} {ls : Array Slot} {x2 : Int32} {s0 : Int32} (hI : zI st D (tC cy) (wC ad cy σ) A s H locs) (hl : lv_has ls 3 [(2, .int x2)]) (hf : fX5_change_75  σ x2 s0 = some res) : W p l e rmX5_change s m args below meth c H locs 0 0 (zQu below args s D (tC cy) (wC ad cy) A res) (F0 m 75 ls [.int s0, .ref (ad 36)]) := by
  have hx := hC.1
  have hb := hC.2.1
  unfold fX5_change_75 at hf
  refine lv_iload_n hx hb dX5_change_75 rfl (lv_at hl 0 rfl) ?_
  refine lv_sipush (v := 255) hx hb dX5_change_76 (by decide) ?_
  refine lv_iand hx hb dX5_change_79 ?_
  exact bX5_change_80 hC  hI (lv_sub hl [] rfl) hf
set_option maxRecDepth 20000 in
set_option maxHeartbeats 4000000 in
theorem bX5_change {st : Nat → Nat} {p : Program} {l : Launch} {e : Env} {s : State} {m : MethodId} {args : Array Value} {below : List Frame} {meth : Method} {c : Code} {D : va_G} {A : Nat → Prop} {ad : Nat → Nat} {cy : Nat → ClassId} (hC : zC p m c cX5_change 3 s args wzX5_change RX5 meth none)  {res : zSt} {H : Heap} {locs : List Loc} {σ : zSt} {ls : Array Slot} {x1 : Int32} {x2 : Int32} (hI : zI st D (tC cy) (wC ad cy σ) A s H locs) (hl : lv_has ls 3 [(0, .ref (ad 7)), (1, .int x1), (2, .int x2)]) (hf : fX5_change  σ x1 x2 = some res) : W p l e rmX5_change s m args below meth c H locs 0 0 (zQu below args s D (tC cy) (wC ad cy) A res) (F0 m 0 ls []) := by
  have hx := hC.1
  have hb := hC.2.1
  unfold fX5_change at hf
  refine lv_iload_n hx hb dX5_change_0 rfl (lv_at hl 1 rfl) ?_
  refine lv_if_lt (tgt := 10) hx hb dX5_change_1 (by decide) (fun q => ?_) (fun q => ?_)
  · replace hf := zif_t q hf
    exact bX5_change_10 hC  hI (lv_sub hl [] rfl) hf
  replace hf := zif_f q hf
  refine lv_iload_n hx hb dX5_change_4 rfl (lv_at hl 1 rfl) ?_
  refine lv_bipush (v := 25) hx hb dX5_change_5 (by decide) ?_
  refine lv_icmp_le (tgt := 11) hx hb dX5_change_7 (by decide) (fun q => ?_) (fun q => ?_)
  · replace hf := zif_t q hf
    refine lv_iload_n hx hb dX5_change_11 rfl (lv_at hl 1 rfl) ?_
    refine lv_bipush (v := 25) hx hb dX5_change_12 (by decide) ?_
    refine lv_icmp_ne (tgt := 33) hx hb dX5_change_14 (by decide) (fun q => ?_) (fun q => ?_)
    · replace hf := zif_f q hf
      refine lv_iload_n hx hb dX5_change_33 rfl (lv_at hl 1 rfl) ?_
      refine lv_bipush (v := 23) hx hb dX5_change_34 (by decide) ?_
      refine lv_icmp_lt (tgt := 51) hx hb dX5_change_36 (by decide) (fun q => ?_) (fun q => ?_)
      · replace hf := zif_t q hf
        refine lv_aload_n hx hb dX5_change_51 rfl (lv_at hl 0 rfl) ?_
        refine z_get hC hI hinX5_change_X50 7 (wC_e7 ad cy σ) rfl 2 (by decide) (List.mem_cons_of_mem _ zw7_5) rfl dX5_change_52 ?_
        refine lv_iload_n hx hb dX5_change_55 rfl (lv_at hl 1 rfl) ?_
        refine lv_iload_n hx hb dX5_change_56 rfl (lv_at hl 1 rfl) ?_
        refine lv_bipush (v := 16) hx hb dX5_change_57 (by decide) ?_
        refine lv_icmp_lt (tgt := 75) hx hb dX5_change_59 (by decide) (fun q => ?_) (fun q => ?_)
        · replace hf := zif_t q hf
          exact bX5_change_75 hC  hI (lv_sub hl [2] rfl) hf
        replace hf := zif_f q hf
        refine lv_iload_n hx hb dX5_change_62 rfl (lv_at hl 1 rfl) ?_
        refine lv_bipush (v := 20) hx hb dX5_change_63 (by decide) ?_
        refine lv_icmp_gt (tgt := 75) hx hb dX5_change_65 (by decide) (fun q => ?_) (fun q => ?_)
        · replace hf := zif_t q hf
          exact bX5_change_75 hC  hI (lv_sub hl [2] rfl) hf
        replace hf := zif_f q hf
        refine lv_iload_n hx hb dX5_change_68 rfl (lv_at hl 2 rfl) ?_
        refine lv_ldc (v := 65535) hx hb hC.2.2.2.1 (hC.2.2.2.2.1 _ (List.mem_cons_of_mem _ zw20_6)) dX5_change_69 ?_
        refine lv_iand hx hb dX5_change_71 ?_
        refine lv_goto (tgt := 80) hx hb dX5_change_72 (by decide) ?_
        exact bX5_change_80 hC  hI (lv_sub hl [] rfl) hf
      replace hf := zif_f q hf
      refine lv_aload_n hx hb dX5_change_39 rfl (lv_at hl 0 rfl) ?_
      refine z_get hC hI hinX5_change_X50 7 (wC_e7 ad cy σ) rfl 2 (by decide) (List.mem_cons_of_mem _ zw7_5) rfl dX5_change_40 ?_
      refine lv_iload_n hx hb dX5_change_43 rfl (lv_at hl 1 rfl) ?_
      refine lv_iload_n hx hb dX5_change_44 rfl (lv_at hl 2 rfl) ?_
      refine lv_iconst (v := 1) hx hb dX5_change_45 (by decide) ?_
      refine lv_iand hx hb dX5_change_46 ?_
      obtain ⟨q, hf⟩ := zck_use hf
      obtain ⟨σ2, eσ2⟩ : ∃ z, z = zsi σ 36 (x1.toNatClampNeg) (x2 &&& 1) := ⟨_, rfl⟩
      replace hf := zbv_use eσ2 hf
      refine z_iast hC hI 36 23 (wC_e36 ad cy σ) (tC_t36 cy) q ((wC_s36 ad cy σ _ _).trans (congrArg (wC ad cy) eσ2.symm)) dX5_change_47 (fun H locs hI => ?_)
      refine lv_goto (tgt := 81) hx hb dX5_change_48 (by decide) ?_
      exact bX5_change_81 hC  hI (lv_sub hl [] rfl) hf
    replace hf := zif_t q hf
    refine lv_aload_n hx hb dX5_change_17 rfl (lv_at hl 0 rfl) ?_
    refine z_get hC hI hinX5_change_X50 7 (wC_e7 ad cy σ) rfl 2 (by decide) (List.mem_cons_of_mem _ zw7_5) rfl dX5_change_18 ?_
    refine lv_iload_n hx hb dX5_change_21 rfl (lv_at hl 1 rfl) ?_
    refine lv_iconst (v := 2) hx hb dX5_change_22 (by decide) ?_
    refine lv_iload_n hx hb dX5_change_23 rfl (lv_at hl 2 rfl) ?_
    refine lv_iconst (v := 3) hx hb dX5_change_24 (by decide) ?_
    refine lv_iand hx hb dX5_change_25 ?_
    refine z_mmin hC (List.mem_cons_of_mem _ zw85_15) (List.mem_cons_of_mem _ zw12_14) (List.mem_cons_of_mem _ zw12_15) (List.mem_cons_of_mem _ zw12_16) hl (Nat.le_of_ble_eq_true rfl) (Nat.le_of_ble_eq_true rfl) ⟨Nat.zero_le _, Nat.zero_le _⟩ dX5_change_26 ?_
    obtain ⟨q, hf⟩ := zck_use hf
    obtain ⟨σ3, eσ3⟩ : ∃ z, z = zsi σ 36 (x1.toNatClampNeg) (zmin 2 (x2 &&& 3)) := ⟨_, rfl⟩
    replace hf := zbv_use eσ3 hf
    refine z_iast hC hI 36 23 (wC_e36 ad cy σ) (tC_t36 cy) q ((wC_s36 ad cy σ _ _).trans (congrArg (wC ad cy) eσ3.symm)) dX5_change_29 (fun H locs hI => ?_)
    refine lv_goto (tgt := 81) hx hb dX5_change_30 (by decide) ?_
    exact bX5_change_81 hC  hI (lv_sub hl [] rfl) hf
  replace hf := zif_f q hf
  exact bX5_change_10 hC  hI (lv_sub hl [] rfl) hf
set_option maxRecDepth 20000 in
theorem cX5_change_met (st : Nat → Nat) (l : Launch) (D : va_G) (ad : Nat → Nat) (cy : Nat → ClassId) (σ : zSt) (x1 : Int32) (x2 : Int32) (res : zSt) (hf : fX5_change σ x1 x2 = some res) (sz : Nat) : zMu st l yX5_change wzX5_change rmX5_change [.ref (ad 7), .int x1, .int x2] D (tC cy) (wC ad cy) sz σ res :=
  zMu.of (cc := cX5_change) (maxL := 3) (ret := none) (by decide) rfl (Nat.le_of_ble_eq_true rfl) (fun p e s m args below meth c hC A hI ls hl => bX5_change hC hI hl hf)
theorem hdX5_change : yX5_change.cls = RX5 ∧ yX5_change.cls ≠ "java/lang/invoke/MethodHandle" ∧ yX5_change.cls ≠ "java/lang/invoke/VarHandle" ∧ (parseMethodDescriptor yX5_change.desc).map (fun d => d.parameters.length) = some 2 := by decide +kernel
noncomputable def rmX5_askForPause : Room := { frames := 0, cells := 0, slots := 0, locals := 0 }
noncomputable def wzX5_askForPause : List Cond := .code yX5_askForPause cX5_askForPause 1 none :: wsL_law
theorem hinX5_askForPause_X50 : ∀ w ∈ wsX50, w ∈ wzX5_askForPause := fun w h => List.mem_cons_of_mem _ (inlX5 w h)
noncomputable def fX5_askForPause  (σ : zSt)  : Option (zSt) :=
  zck (zin 27 29) (zbv (zsi σ 36 ((27 : Int32).toNatClampNeg) 1) (fun σ1 =>
  some σ1))
set_option maxRecDepth 20000 in
set_option maxHeartbeats 4000000 in
theorem bX5_askForPause {st : Nat → Nat} {p : Program} {l : Launch} {e : Env} {s : State} {m : MethodId} {args : Array Value} {below : List Frame} {meth : Method} {c : Code} {D : va_G} {A : Nat → Prop} {ad : Nat → Nat} {cy : Nat → ClassId} (hC : zC p m c cX5_askForPause 1 s args wzX5_askForPause RX5 meth none)  {res : zSt} {H : Heap} {locs : List Loc} {σ : zSt} {ls : Array Slot}  (hI : zI st D (tC cy) (wC ad cy σ) A s H locs) (hl : lv_has ls 1 [(0, .ref (ad 7))]) (hf : fX5_askForPause  σ  = some res) : W p l e rmX5_askForPause s m args below meth c H locs 0 0 (zQu below args s D (tC cy) (wC ad cy) A res) (F0 m 0 ls []) := by
  have hx := hC.1
  have hb := hC.2.1
  unfold fX5_askForPause at hf
  refine lv_aload_n hx hb dX5_askForPause_0 rfl (lv_at hl 0 rfl) ?_
  refine z_get hC hI hinX5_askForPause_X50 7 (wC_e7 ad cy σ) rfl 2 (by decide) (List.mem_cons_of_mem _ zw7_5) rfl dX5_askForPause_1 ?_
  refine lv_bipush (v := 27) hx hb dX5_askForPause_4 (by decide) ?_
  refine lv_iconst (v := 1) hx hb dX5_askForPause_6 (by decide) ?_
  obtain ⟨q, hf⟩ := zck_use hf
  obtain ⟨σ1, eσ1⟩ : ∃ z, z = zsi σ 36 ((27 : Int32).toNatClampNeg) 1 := ⟨_, rfl⟩
  replace hf := zbv_use eσ1 hf
  refine z_iast hC hI 36 23 (wC_e36 ad cy σ) (tC_t36 cy) q ((wC_s36 ad cy σ _ _).trans (congrArg (wC ad cy) eσ1.symm)) dX5_askForPause_7 (fun H locs hI => ?_)
  exact z_return hC hI hf dX5_askForPause_8
set_option maxRecDepth 20000 in
theorem cX5_askForPause_met (st : Nat → Nat) (l : Launch) (D : va_G) (ad : Nat → Nat) (cy : Nat → ClassId) (σ : zSt)  (res : zSt) (hf : fX5_askForPause σ  = some res) (sz : Nat) : zMu st l yX5_askForPause wzX5_askForPause rmX5_askForPause [.ref (ad 7)] D (tC cy) (wC ad cy) sz σ res :=
  zMu.of (cc := cX5_askForPause) (maxL := 1) (ret := none) (by decide) rfl (Nat.le_of_ble_eq_true rfl) (fun p e s m args below meth c hC A hI ls hl => bX5_askForPause hC hI hl hf)
theorem hdX5_askForPause : yX5_askForPause.cls = RX5 ∧ yX5_askForPause.cls ≠ "java/lang/invoke/MethodHandle" ∧ yX5_askForPause.cls ≠ "java/lang/invoke/VarHandle" ∧ (parseMethodDescriptor yX5_askForPause.desc).map (fun d => d.parameters.length) = some 0 := by decide +kernel
noncomputable def rmX5_growR : Room := { frames := 0, cells := 0, slots := 0, locals := 0 }
noncomputable def wzX5_growR : List Cond := .code yX5_growR cX5_growR 1 none :: wsL_law
theorem hinX5_growR_X50 : ∀ w ∈ wsX50, w ∈ wzX5_growR := fun w h => List.mem_cons_of_mem _ (inlX5 w h)
noncomputable def fX5_growR  (σ : zSt)  : Option (zSt) :=
  zck (zin 22 29) (
  zck (zin 22 29) (
  zck (zin 22 29) (zbv (zsi σ 36 ((22 : Int32).toNatClampNeg) (((zgi σ 36 (22 : Int32).toNatClampNeg) &&& 128) ||| (((zgi σ 36 (22 : Int32).toNatClampNeg) + 1) &&& 127))) (fun σ1 =>
  some σ1))))
set_option maxRecDepth 20000 in
set_option maxHeartbeats 4000000 in
theorem bX5_growR {st : Nat → Nat} {p : Program} {l : Launch} {e : Env} {s : State} {m : MethodId} {args : Array Value} {below : List Frame} {meth : Method} {c : Code} {D : va_G} {A : Nat → Prop} {ad : Nat → Nat} {cy : Nat → ClassId} (hC : zC p m c cX5_growR 1 s args wzX5_growR RX5 meth none)  {res : zSt} {H : Heap} {locs : List Loc} {σ : zSt} {ls : Array Slot}  (hI : zI st D (tC cy) (wC ad cy σ) A s H locs) (hl : lv_has ls 1 [(0, .ref (ad 7))]) (hf : fX5_growR  σ  = some res) : W p l e rmX5_growR s m args below meth c H locs 0 0 (zQu below args s D (tC cy) (wC ad cy) A res) (F0 m 0 ls []) := by
  have hx := hC.1
  have hb := hC.2.1
  unfold fX5_growR at hf
  refine lv_aload_n hx hb dX5_growR_0 rfl (lv_at hl 0 rfl) ?_
  refine z_get hC hI hinX5_growR_X50 7 (wC_e7 ad cy σ) rfl 2 (by decide) (List.mem_cons_of_mem _ zw7_5) rfl dX5_growR_1 ?_
  refine lv_bipush (v := 22) hx hb dX5_growR_4 (by decide) ?_
  refine lv_aload_n hx hb dX5_growR_6 rfl (lv_at hl 0 rfl) ?_
  refine z_get hC hI hinX5_growR_X50 7 (wC_e7 ad cy σ) rfl 2 (by decide) (List.mem_cons_of_mem _ zw7_5) rfl dX5_growR_7 ?_
  refine lv_bipush (v := 22) hx hb dX5_growR_10 (by decide) ?_
  obtain ⟨q, hf⟩ := zck_use hf
  refine z_iald hC hI 36 23 (wC_e36 ad cy σ) (tC_t36 cy) q dX5_growR_12 ?_
  refine lv_sipush (v := 128) hx hb dX5_growR_13 (by decide) ?_
  refine lv_iand hx hb dX5_growR_16 ?_
  refine lv_aload_n hx hb dX5_growR_17 rfl (lv_at hl 0 rfl) ?_
  refine z_get hC hI hinX5_growR_X50 7 (wC_e7 ad cy σ) rfl 2 (by decide) (List.mem_cons_of_mem _ zw7_5) rfl dX5_growR_18 ?_
  refine lv_bipush (v := 22) hx hb dX5_growR_21 (by decide) ?_
  obtain ⟨q, hf⟩ := zck_use hf
  refine z_iald hC hI 36 23 (wC_e36 ad cy σ) (tC_t36 cy) q dX5_growR_23 ?_
  refine lv_iconst (v := 1) hx hb dX5_growR_24 (by decide) ?_
  refine lv_iadd hx hb dX5_growR_25 ?_
  refine lv_bipush (v := 127) hx hb dX5_growR_26 (by decide) ?_
  refine lv_iand hx hb dX5_growR_28 ?_
  refine lv_ior hx hb dX5_growR_29 ?_
  obtain ⟨q, hf⟩ := zck_use hf
  obtain ⟨σ1, eσ1⟩ : ∃ z, z = zsi σ 36 ((22 : Int32).toNatClampNeg) (((zgi σ 36 (22 : Int32).toNatClampNeg) &&& 128) ||| (((zgi σ 36 (22 : Int32).toNatClampNeg) + 1) &&& 127)) := ⟨_, rfl⟩
  replace hf := zbv_use eσ1 hf
  refine z_iast hC hI 36 23 (wC_e36 ad cy σ) (tC_t36 cy) q ((wC_s36 ad cy σ _ _).trans (congrArg (wC ad cy) eσ1.symm)) dX5_growR_30 (fun H locs hI => ?_)
  exact z_return hC hI hf dX5_growR_31
set_option maxRecDepth 20000 in
theorem cX5_growR_met (st : Nat → Nat) (l : Launch) (D : va_G) (ad : Nat → Nat) (cy : Nat → ClassId) (σ : zSt)  (res : zSt) (hf : fX5_growR σ  = some res) (sz : Nat) : zMu st l yX5_growR wzX5_growR rmX5_growR [.ref (ad 7)] D (tC cy) (wC ad cy) sz σ res :=
  zMu.of (cc := cX5_growR) (maxL := 1) (ret := none) (by decide) rfl (Nat.le_of_ble_eq_true rfl) (fun p e s m args below meth c hC A hI ls hl => bX5_growR hC hI hl hf)
theorem hdX5_growR : yX5_growR.cls = RX5 ∧ yX5_growR.cls ≠ "java/lang/invoke/MethodHandle" ∧ yX5_growR.cls ≠ "java/lang/invoke/VarHandle" ∧ (parseMethodDescriptor yX5_growR.desc).map (fun d => d.parameters.length) = some 0 := by decide +kernel
noncomputable def rmX5_push : Room := { frames := 2, cells := 0, slots := 0, locals := 44 }
noncomputable def wzX5_push : List Cond := .code yX5_push cX5_push 2 none :: wsL_law
theorem hinX5_push_X50 : ∀ w ∈ wsX50, w ∈ wzX5_push := fun w h => List.mem_cons_of_mem _ (inlX5 w h)
noncomputable def fX5_push  (σ : zSt) (x1 : Int32) : Option (zSt) :=
  zck (zin 18 29) (
  zbu (fX2_write σ ((zgi σ 36 (18 : Int32).toNatClampNeg) - 1) (x1 >>> ((8 : Int32) &&& 31))) (fun σ1 =>
  zck (zin 18 29) (
  zbu (fX2_write σ1 ((zgi σ1 36 (18 : Int32).toNatClampNeg) - 2) (x1 &&& 255)) (fun σ2 =>
  zck (zin 18 29) (
  zck (zin 18 29) (zbv (zsi σ2 36 ((18 : Int32).toNatClampNeg) (((zgi σ2 36 (18 : Int32).toNatClampNeg) - 2) &&& 65535)) (fun σ3 =>
  some σ3)))))))
set_option maxRecDepth 20000 in
set_option maxHeartbeats 4000000 in
theorem bX5_push {st : Nat → Nat} {p : Program} {l : Launch} {e : Env} {s : State} {m : MethodId} {args : Array Value} {below : List Frame} {meth : Method} {c : Code} {D : va_G} {A : Nat → Prop} {ad : Nat → Nat} {cy : Nat → ClassId} (hC : zC p m c cX5_push 2 s args wzX5_push RX5 meth none)  {res : zSt} {H : Heap} {locs : List Loc} {σ : zSt} {ls : Array Slot} {x1 : Int32} (hI : zI st D (tC cy) (wC ad cy σ) A s H locs) (hl : lv_has ls 2 [(0, .ref (ad 7)), (1, .int x1)]) (hf : fX5_push  σ x1 = some res) : W p l e rmX5_push s m args below meth c H locs 0 0 (zQu below args s D (tC cy) (wC ad cy) A res) (F0 m 0 ls []) := by
  have hx := hC.1
  have hb := hC.2.1
  unfold fX5_push at hf
  refine lv_aload_n hx hb dX5_push_0 rfl (lv_at hl 0 rfl) ?_
  refine z_get hC hI hinX5_push_X50 7 (wC_e7 ad cy σ) rfl 0 (by decide) (List.mem_cons_of_mem _ zw7_8) rfl dX5_push_1 ?_
  refine lv_aload_n hx hb dX5_push_4 rfl (lv_at hl 0 rfl) ?_
  refine z_get hC hI hinX5_push_X50 7 (wC_e7 ad cy σ) rfl 2 (by decide) (List.mem_cons_of_mem _ zw7_5) rfl dX5_push_5 ?_
  refine lv_bipush (v := 18) hx hb dX5_push_8 (by decide) ?_
  obtain ⟨q, hf⟩ := zck_use hf
  refine z_iald hC hI 36 23 (wC_e36 ad cy σ) (tC_t36 cy) q dX5_push_10 ?_
  refine lv_iconst (v := 1) hx hb dX5_push_11 (by decide) ?_
  refine lv_isub hx hb dX5_push_12 ?_
  refine lv_iload_n hx hb dX5_push_13 rfl (lv_at hl 1 rfl) ?_
  refine lv_bipush (v := 8) hx hb dX5_push_14 (by decide) ?_
  refine lv_ishr hx hb dX5_push_16 ?_
  obtain ⟨σ1, g1, hf⟩ := zbu_use hf
  refine z_callVu (As := [.int ((zgi σ 36 (18 : Int32).toNatClampNeg) - 1), .int (x1 >>> ((8 : Int32) &&& 31))]) (rest := []) hC hI (cX2_write_met st l D ad cy σ ((zgi σ 36 (18 : Int32).toNatClampNeg) - 1) (x1 >>> ((8 : Int32) &&& 31)) _ g1) (zgV zw20_7 zw20_8 zw20_9 zw1_21 zw20_10) rfl ⟨rfl, rfl⟩ 2 hdX2_write ⟨Nat.le_of_ble_eq_true rfl, Nat.le_of_ble_eq_true rfl⟩ rfl rfl (wC_e1 ad cy σ) rfl hl rfl (Nat.le_of_ble_eq_true rfl) dX5_push_17 ⟨Nat.zero_le _, Nat.zero_le _⟩ (fun H locs hI => ?_)
  refine lv_aload_n hx hb dX5_push_20 rfl (lv_at hl 0 rfl) ?_
  refine z_get hC hI hinX5_push_X50 7 (wC_e7 ad cy σ1) rfl 0 (by decide) (List.mem_cons_of_mem _ zw7_8) rfl dX5_push_21 ?_
  refine lv_aload_n hx hb dX5_push_24 rfl (lv_at hl 0 rfl) ?_
  refine z_get hC hI hinX5_push_X50 7 (wC_e7 ad cy σ1) rfl 2 (by decide) (List.mem_cons_of_mem _ zw7_5) rfl dX5_push_25 ?_
  refine lv_bipush (v := 18) hx hb dX5_push_28 (by decide) ?_
  obtain ⟨q, hf⟩ := zck_use hf
  refine z_iald hC hI 36 23 (wC_e36 ad cy σ1) (tC_t36 cy) q dX5_push_30 ?_
  refine lv_iconst (v := 2) hx hb dX5_push_31 (by decide) ?_
  refine lv_isub hx hb dX5_push_32 ?_
  refine lv_iload_n hx hb dX5_push_33 rfl (lv_at hl 1 rfl) ?_
  refine lv_sipush (v := 255) hx hb dX5_push_34 (by decide) ?_
  refine lv_iand hx hb dX5_push_37 ?_
  obtain ⟨σ2, g2, hf⟩ := zbu_use hf
  refine z_callVu (As := [.int ((zgi σ1 36 (18 : Int32).toNatClampNeg) - 2), .int (x1 &&& 255)]) (rest := []) hC hI (cX2_write_met st l D ad cy σ1 ((zgi σ1 36 (18 : Int32).toNatClampNeg) - 2) (x1 &&& 255) _ g2) (zgV zw20_7 zw20_8 zw20_9 zw1_21 zw20_10) rfl ⟨rfl, rfl⟩ 2 hdX2_write ⟨Nat.le_of_ble_eq_true rfl, Nat.le_of_ble_eq_true rfl⟩ rfl rfl (wC_e1 ad cy σ1) rfl hl rfl (Nat.le_of_ble_eq_true rfl) dX5_push_38 ⟨Nat.zero_le _, Nat.zero_le _⟩ (fun H locs hI => ?_)
  refine lv_aload_n hx hb dX5_push_41 rfl (lv_at hl 0 rfl) ?_
  refine z_get hC hI hinX5_push_X50 7 (wC_e7 ad cy σ2) rfl 2 (by decide) (List.mem_cons_of_mem _ zw7_5) rfl dX5_push_42 ?_
  refine lv_bipush (v := 18) hx hb dX5_push_45 (by decide) ?_
  refine lv_aload_n hx hb dX5_push_47 rfl (lv_at hl 0 rfl) ?_
  refine z_get hC hI hinX5_push_X50 7 (wC_e7 ad cy σ2) rfl 2 (by decide) (List.mem_cons_of_mem _ zw7_5) rfl dX5_push_48 ?_
  refine lv_bipush (v := 18) hx hb dX5_push_51 (by decide) ?_
  obtain ⟨q, hf⟩ := zck_use hf
  refine z_iald hC hI 36 23 (wC_e36 ad cy σ2) (tC_t36 cy) q dX5_push_53 ?_
  refine lv_iconst (v := 2) hx hb dX5_push_54 (by decide) ?_
  refine lv_isub hx hb dX5_push_55 ?_
  refine lv_ldc (v := 65535) hx hb hC.2.2.2.1 (hC.2.2.2.2.1 _ (List.mem_cons_of_mem _ zw20_6)) dX5_push_56 ?_
  refine lv_iand hx hb dX5_push_58 ?_
  obtain ⟨q, hf⟩ := zck_use hf
  obtain ⟨σ3, eσ3⟩ : ∃ z, z = zsi σ2 36 ((18 : Int32).toNatClampNeg) (((zgi σ2 36 (18 : Int32).toNatClampNeg) - 2) &&& 65535) := ⟨_, rfl⟩
  replace hf := zbv_use eσ3 hf
  refine z_iast hC hI 36 23 (wC_e36 ad cy σ2) (tC_t36 cy) q ((wC_s36 ad cy σ2 _ _).trans (congrArg (wC ad cy) eσ3.symm)) dX5_push_59 (fun H locs hI => ?_)
  exact z_return hC hI hf dX5_push_60
set_option maxRecDepth 20000 in
theorem cX5_push_met (st : Nat → Nat) (l : Launch) (D : va_G) (ad : Nat → Nat) (cy : Nat → ClassId) (σ : zSt) (x1 : Int32) (res : zSt) (hf : fX5_push σ x1 = some res) (sz : Nat) : zMu st l yX5_push wzX5_push rmX5_push [.ref (ad 7), .int x1] D (tC cy) (wC ad cy) sz σ res :=
  zMu.of (cc := cX5_push) (maxL := 2) (ret := none) (by decide) rfl (Nat.le_of_ble_eq_true rfl) (fun p e s m args below meth c hC A hI ls hl => bX5_push hC hI hl hf)
theorem hdX5_push : yX5_push.cls = RX5 ∧ yX5_push.cls ≠ "java/lang/invoke/MethodHandle" ∧ yX5_push.cls ≠ "java/lang/invoke/VarHandle" ∧ (parseMethodDescriptor yX5_push.desc).map (fun d => d.parameters.length) = some 1 := by decide +kernel
noncomputable def rmX5_goTo : Room := { frames := 0, cells := 0, slots := 0, locals := 0 }
noncomputable def wzX5_goTo : List Cond := .code yX5_goTo cX5_goTo 2 none :: wsL_law
theorem hinX5_goTo_X50 : ∀ w ∈ wsX50, w ∈ wzX5_goTo := fun w h => List.mem_cons_of_mem _ (inlX5 w h)
noncomputable def fX5_goTo  (σ : zSt) (x1 : Int32) : Option (zSt) :=
  zck (zin 19 29) (zbv (zsi σ 36 ((19 : Int32).toNatClampNeg) x1) (fun σ1 =>
  zck (zin 20 29) (zbv (zsi σ1 36 ((20 : Int32).toNatClampNeg) x1) (fun σ2 =>
  some σ2))))
set_option maxRecDepth 20000 in
set_option maxHeartbeats 4000000 in
theorem bX5_goTo {st : Nat → Nat} {p : Program} {l : Launch} {e : Env} {s : State} {m : MethodId} {args : Array Value} {below : List Frame} {meth : Method} {c : Code} {D : va_G} {A : Nat → Prop} {ad : Nat → Nat} {cy : Nat → ClassId} (hC : zC p m c cX5_goTo 2 s args wzX5_goTo RX5 meth none)  {res : zSt} {H : Heap} {locs : List Loc} {σ : zSt} {ls : Array Slot} {x1 : Int32} (hI : zI st D (tC cy) (wC ad cy σ) A s H locs) (hl : lv_has ls 2 [(0, .ref (ad 7)), (1, .int x1)]) (hf : fX5_goTo  σ x1 = some res) : W p l e rmX5_goTo s m args below meth c H locs 0 0 (zQu below args s D (tC cy) (wC ad cy) A res) (F0 m 0 ls []) := by
  have hx := hC.1
  have hb := hC.2.1
  unfold fX5_goTo at hf
  refine lv_aload_n hx hb dX5_goTo_0 rfl (lv_at hl 0 rfl) ?_
  refine z_get hC hI hinX5_goTo_X50 7 (wC_e7 ad cy σ) rfl 2 (by decide) (List.mem_cons_of_mem _ zw7_5) rfl dX5_goTo_1 ?_
  refine lv_bipush (v := 19) hx hb dX5_goTo_4 (by decide) ?_
  refine lv_iload_n hx hb dX5_goTo_6 rfl (lv_at hl 1 rfl) ?_
  obtain ⟨q, hf⟩ := zck_use hf
  obtain ⟨σ1, eσ1⟩ : ∃ z, z = zsi σ 36 ((19 : Int32).toNatClampNeg) x1 := ⟨_, rfl⟩
  replace hf := zbv_use eσ1 hf
  refine z_iast hC hI 36 23 (wC_e36 ad cy σ) (tC_t36 cy) q ((wC_s36 ad cy σ _ _).trans (congrArg (wC ad cy) eσ1.symm)) dX5_goTo_7 (fun H locs hI => ?_)
  refine lv_aload_n hx hb dX5_goTo_8 rfl (lv_at hl 0 rfl) ?_
  refine z_get hC hI hinX5_goTo_X50 7 (wC_e7 ad cy σ1) rfl 2 (by decide) (List.mem_cons_of_mem _ zw7_5) rfl dX5_goTo_9 ?_
  refine lv_bipush (v := 20) hx hb dX5_goTo_12 (by decide) ?_
  refine lv_iload_n hx hb dX5_goTo_14 rfl (lv_at hl 1 rfl) ?_
  obtain ⟨q, hf⟩ := zck_use hf
  obtain ⟨σ2, eσ2⟩ : ∃ z, z = zsi σ1 36 ((20 : Int32).toNatClampNeg) x1 := ⟨_, rfl⟩
  replace hf := zbv_use eσ2 hf
  refine z_iast hC hI 36 23 (wC_e36 ad cy σ1) (tC_t36 cy) q ((wC_s36 ad cy σ1 _ _).trans (congrArg (wC ad cy) eσ2.symm)) dX5_goTo_15 (fun H locs hI => ?_)
  exact z_return hC hI hf dX5_goTo_16
set_option maxRecDepth 20000 in
theorem cX5_goTo_met (st : Nat → Nat) (l : Launch) (D : va_G) (ad : Nat → Nat) (cy : Nat → ClassId) (σ : zSt) (x1 : Int32) (res : zSt) (hf : fX5_goTo σ x1 = some res) (sz : Nat) : zMu st l yX5_goTo wzX5_goTo rmX5_goTo [.ref (ad 7), .int x1] D (tC cy) (wC ad cy) sz σ res :=
  zMu.of (cc := cX5_goTo) (maxL := 2) (ret := none) (by decide) rfl (Nat.le_of_ble_eq_true rfl) (fun p e s m args below meth c hC A hI ls hl => bX5_goTo hC hI hl hf)
theorem hdX5_goTo : yX5_goTo.cls = RX5 ∧ yX5_goTo.cls ≠ "java/lang/invoke/MethodHandle" ∧ yX5_goTo.cls ≠ "java/lang/invoke/VarHandle" ∧ (parseMethodDescriptor yX5_goTo.desc).map (fun d => d.parameters.length) = some 1 := by decide +kernel
noncomputable def rmX5_breakOff : Room := { frames := 3, cells := 0, slots := 0, locals := 65 }
noncomputable def wzX5_breakOff : List Cond := .code yX5_breakOff cX5_breakOff 2 none :: wsL_law
theorem hinX5_breakOff_X50 : ∀ w ∈ wsX50, w ∈ wzX5_breakOff := fun w h => List.mem_cons_of_mem _ (inlX5 w h)
noncomputable def fX5_breakOff  (σ : zSt) (x1 : Int32) : Option (zSt) :=
  zbu (fX5_growR σ ) (fun σ1 =>
  zck (zin 26 29) (zbv (zsi σ1 36 ((26 : Int32).toNatClampNeg) 0) (fun σ2 =>
  zck (zin 19 29) (
  zbu (fX5_push σ2 (zgi σ2 36 (19 : Int32).toNatClampNeg)) (fun σ3 =>
  zbu (fX5_goTo σ3 x1) (fun σ4 =>
  some σ4))))))
set_option maxRecDepth 20000 in
set_option maxHeartbeats 4000000 in
theorem bX5_breakOff {st : Nat → Nat} {p : Program} {l : Launch} {e : Env} {s : State} {m : MethodId} {args : Array Value} {below : List Frame} {meth : Method} {c : Code} {D : va_G} {A : Nat → Prop} {ad : Nat → Nat} {cy : Nat → ClassId} (hC : zC p m c cX5_breakOff 2 s args wzX5_breakOff RX5 meth none)  {res : zSt} {H : Heap} {locs : List Loc} {σ : zSt} {ls : Array Slot} {x1 : Int32} (hI : zI st D (tC cy) (wC ad cy σ) A s H locs) (hl : lv_has ls 2 [(0, .ref (ad 7)), (1, .int x1)]) (hf : fX5_breakOff  σ x1 = some res) : W p l e rmX5_breakOff s m args below meth c H locs 0 0 (zQu below args s D (tC cy) (wC ad cy) A res) (F0 m 0 ls []) := by
  have hx := hC.1
  have hb := hC.2.1
  unfold fX5_breakOff at hf
  refine lv_aload_n hx hb dX5_breakOff_0 rfl (lv_at hl 0 rfl) ?_
  obtain ⟨σ1, g1, hf⟩ := zbu_use hf
  refine z_callVu (As := []) (rest := []) hC hI (cX5_growR_met st l D ad cy σ  _ g1) (zgV zw19_22 zw19_23 zw20_0 zw2_21 zw20_1) rfl ⟨rfl, rfl⟩ 0 hdX5_growR ⟨Nat.le_of_ble_eq_true rfl, Nat.le_of_ble_eq_true rfl⟩ rfl rfl (wC_e7 ad cy σ) rfl hl rfl (Nat.le_of_ble_eq_true rfl) dX5_breakOff_1 ⟨Nat.zero_le _, Nat.zero_le _⟩ (fun H locs hI => ?_)
  refine lv_aload_n hx hb dX5_breakOff_4 rfl (lv_at hl 0 rfl) ?_
  refine z_get hC hI hinX5_breakOff_X50 7 (wC_e7 ad cy σ1) rfl 2 (by decide) (List.mem_cons_of_mem _ zw7_5) rfl dX5_breakOff_5 ?_
  refine lv_bipush (v := 26) hx hb dX5_breakOff_8 (by decide) ?_
  refine lv_iconst (v := 0) hx hb dX5_breakOff_10 (by decide) ?_
  obtain ⟨q, hf⟩ := zck_use hf
  obtain ⟨σ2, eσ2⟩ : ∃ z, z = zsi σ1 36 ((26 : Int32).toNatClampNeg) 0 := ⟨_, rfl⟩
  replace hf := zbv_use eσ2 hf
  refine z_iast hC hI 36 23 (wC_e36 ad cy σ1) (tC_t36 cy) q ((wC_s36 ad cy σ1 _ _).trans (congrArg (wC ad cy) eσ2.symm)) dX5_breakOff_11 (fun H locs hI => ?_)
  refine lv_aload_n hx hb dX5_breakOff_12 rfl (lv_at hl 0 rfl) ?_
  refine lv_aload_n hx hb dX5_breakOff_13 rfl (lv_at hl 0 rfl) ?_
  refine z_get hC hI hinX5_breakOff_X50 7 (wC_e7 ad cy σ2) rfl 2 (by decide) (List.mem_cons_of_mem _ zw7_5) rfl dX5_breakOff_14 ?_
  refine lv_bipush (v := 19) hx hb dX5_breakOff_17 (by decide) ?_
  obtain ⟨q, hf⟩ := zck_use hf
  refine z_iald hC hI 36 23 (wC_e36 ad cy σ2) (tC_t36 cy) q dX5_breakOff_19 ?_
  obtain ⟨σ3, g3, hf⟩ := zbu_use hf
  refine z_callVu (As := [.int (zgi σ2 36 (19 : Int32).toNatClampNeg)]) (rest := []) hC hI (cX5_push_met st l D ad cy σ2 (zgi σ2 36 (19 : Int32).toNatClampNeg) _ g3) (zgV zw20_2 zw20_3 zw20_4 zw2_21 zw20_5) rfl ⟨rfl, rfl⟩ 1 hdX5_push ⟨Nat.le_of_ble_eq_true rfl, Nat.le_of_ble_eq_true rfl⟩ rfl rfl (wC_e7 ad cy σ2) rfl hl rfl (Nat.le_of_ble_eq_true rfl) dX5_breakOff_20 ⟨Nat.zero_le _, Nat.zero_le _⟩ (fun H locs hI => ?_)
  refine lv_aload_n hx hb dX5_breakOff_23 rfl (lv_at hl 0 rfl) ?_
  refine lv_iload_n hx hb dX5_breakOff_24 rfl (lv_at hl 1 rfl) ?_
  obtain ⟨σ4, g4, hf⟩ := zbu_use hf
  refine z_callVu (As := [.int x1]) (rest := []) hC hI (cX5_goTo_met st l D ad cy σ3 x1 _ g4) (zgV zw20_22 zw20_23 zw21_0 zw2_21 zw21_1) rfl ⟨rfl, rfl⟩ 1 hdX5_goTo ⟨Nat.le_of_ble_eq_true rfl, Nat.le_of_ble_eq_true rfl⟩ rfl rfl (wC_e7 ad cy σ3) rfl hl rfl (Nat.le_of_ble_eq_true rfl) dX5_breakOff_25 ⟨Nat.zero_le _, Nat.zero_le _⟩ (fun H locs hI => ?_)
  exact z_return hC hI hf dX5_breakOff_28
set_option maxRecDepth 20000 in
theorem cX5_breakOff_met (st : Nat → Nat) (l : Launch) (D : va_G) (ad : Nat → Nat) (cy : Nat → ClassId) (σ : zSt) (x1 : Int32) (res : zSt) (hf : fX5_breakOff σ x1 = some res) (sz : Nat) : zMu st l yX5_breakOff wzX5_breakOff rmX5_breakOff [.ref (ad 7), .int x1] D (tC cy) (wC ad cy) sz σ res :=
  zMu.of (cc := cX5_breakOff) (maxL := 2) (ret := none) (by decide) rfl (Nat.le_of_ble_eq_true rfl) (fun p e s m args below meth c hC A hI ls hl => bX5_breakOff hC hI hl hf)
theorem hdX5_breakOff : yX5_breakOff.cls = RX5 ∧ yX5_breakOff.cls ≠ "java/lang/invoke/MethodHandle" ∧ yX5_breakOff.cls ≠ "java/lang/invoke/VarHandle" ∧ (parseMethodDescriptor yX5_breakOff.desc).map (fun d => d.parameters.length) = some 1 := by decide +kernel
noncomputable def rmX5_readWord : Room := { frames := 2, cells := 0, slots := 0, locals := 47 }
noncomputable def wzX5_readWord : List Cond := .code yX5_readWord cX5_readWord 2 (some .int) :: wsL_law
theorem hinX5_readWord_X50 : ∀ w ∈ wsX50, w ∈ wzX5_readWord := fun w h => List.mem_cons_of_mem _ (inlX5 w h)
noncomputable def fX5_readWord  (σ : zSt) (x1 : Int32) : Option (zSt × Int32) :=
  zbi (fX2_read σ x1) (fun σ1 v2 =>
  zbi (fX2_read σ1 (x1 + 1)) (fun σ3 v4 =>
  some (σ3, v2 ||| (v4 <<< ((8 : Int32) &&& 31)))))
set_option maxRecDepth 20000 in
set_option maxHeartbeats 4000000 in
theorem bX5_readWord {st : Nat → Nat} {p : Program} {l : Launch} {e : Env} {s : State} {m : MethodId} {args : Array Value} {below : List Frame} {meth : Method} {c : Code} {D : va_G} {A : Nat → Prop} {ad : Nat → Nat} {cy : Nat → ClassId} (hC : zC p m c cX5_readWord 2 s args wzX5_readWord RX5 meth (some .int))  {res : zSt × Int32} {H : Heap} {locs : List Loc} {σ : zSt} {ls : Array Slot} {x1 : Int32} (hI : zI st D (tC cy) (wC ad cy σ) A s H locs) (hl : lv_has ls 2 [(0, .ref (ad 7)), (1, .int x1)]) (hf : fX5_readWord  σ x1 = some res) : W p l e rmX5_readWord s m args below meth c H locs 0 0 (zQi below args s D (tC cy) (wC ad cy) A res) (F0 m 0 ls []) := by
  have hx := hC.1
  have hb := hC.2.1
  unfold fX5_readWord at hf
  refine lv_aload_n hx hb dX5_readWord_0 rfl (lv_at hl 0 rfl) ?_
  refine z_get hC hI hinX5_readWord_X50 7 (wC_e7 ad cy σ) rfl 0 (by decide) (List.mem_cons_of_mem _ zw7_8) rfl dX5_readWord_1 ?_
  refine lv_iload_n hx hb dX5_readWord_4 rfl (lv_at hl 1 rfl) ?_
  obtain ⟨σ1, v2, g1, hf⟩ := zbi_use hf
  refine z_callVi (As := [.int x1]) (rest := []) hC hI (cX2_read_met st l D ad cy σ x1 _ g1) (zgV zw21_6 zw21_7 zw21_8 zw1_21 zw21_9) rfl ⟨rfl, rfl⟩ 1 hdX2_read ⟨Nat.le_of_ble_eq_true rfl, Nat.le_of_ble_eq_true rfl⟩ rfl rfl (wC_e1 ad cy σ) rfl hl rfl (Nat.le_of_ble_eq_true rfl) dX5_readWord_5 ⟨Nat.zero_le _, Nat.zero_le _⟩ (fun H locs hI => ?_)
  refine lv_aload_n hx hb dX5_readWord_8 rfl (lv_at hl 0 rfl) ?_
  refine z_get hC hI hinX5_readWord_X50 7 (wC_e7 ad cy σ1) rfl 0 (by decide) (List.mem_cons_of_mem _ zw7_8) rfl dX5_readWord_9 ?_
  refine lv_iload_n hx hb dX5_readWord_12 rfl (lv_at hl 1 rfl) ?_
  refine lv_iconst (v := 1) hx hb dX5_readWord_13 (by decide) ?_
  refine lv_iadd hx hb dX5_readWord_14 ?_
  obtain ⟨σ3, v4, g3, hf⟩ := zbi_use hf
  refine z_callVi (As := [.int (x1 + 1)]) (rest := [.int v2]) hC hI (cX2_read_met st l D ad cy σ1 (x1 + 1) _ g3) (zgV zw21_6 zw21_7 zw21_8 zw1_21 zw21_9) rfl ⟨rfl, rfl⟩ 1 hdX2_read ⟨Nat.le_of_ble_eq_true rfl, Nat.le_of_ble_eq_true rfl⟩ rfl rfl (wC_e1 ad cy σ1) rfl hl rfl (Nat.le_of_ble_eq_true rfl) dX5_readWord_15 ⟨Nat.zero_le _, Nat.zero_le _⟩ (fun H locs hI => ?_)
  refine lv_bipush (v := 8) hx hb dX5_readWord_18 (by decide) ?_
  refine lv_ishl hx hb dX5_readWord_20 ?_
  refine lv_ior hx hb dX5_readWord_21 ?_
  exact z_ireturn hC hI hf dX5_readWord_22
set_option maxRecDepth 20000 in
theorem cX5_readWord_met (st : Nat → Nat) (l : Launch) (D : va_G) (ad : Nat → Nat) (cy : Nat → ClassId) (σ : zSt) (x1 : Int32) (res : zSt × Int32) (hf : fX5_readWord σ x1 = some res) (sz : Nat) : zMi st l yX5_readWord wzX5_readWord rmX5_readWord [.ref (ad 7), .int x1] D (tC cy) (wC ad cy) sz σ res :=
  zMi.of (cc := cX5_readWord) (maxL := 2) (ret := (some .int)) (by decide) rfl (Nat.le_of_ble_eq_true rfl) (fun p e s m args below meth c hC A hI ls hl => bX5_readWord hC hI hl hf)
theorem hdX5_readWord : yX5_readWord.cls = RX5 ∧ yX5_readWord.cls ≠ "java/lang/invoke/MethodHandle" ∧ yX5_readWord.cls ≠ "java/lang/invoke/VarHandle" ∧ (parseMethodDescriptor yX5_readWord.desc).map (fun d => d.parameters.length) = some 1 := by decide +kernel
noncomputable def rmX5_answerCalls : Room := { frames := 4, cells := 0, slots := 0, locals := 86 }
noncomputable def wzX5_answerCalls : List Cond := .code yX5_answerCalls cX5_answerCalls 3 (some .int) :: wsL_law
theorem hinX5_answerCalls_X50 : ∀ w ∈ wsX50, w ∈ wzX5_answerCalls := fun w h => List.mem_cons_of_mem _ (inlX5 w h)
noncomputable def fX5_answerCalls_82  (σ : zSt)  : Option (zSt × Int32) :=
  some (σ, 0)
noncomputable def fX5_answerCalls_64  (σ : zSt) (x1 : Int32) (x2 : Int32) : Option (zSt × Int32) :=
  if x2 = 0 then fX5_answerCalls_82 σ else
  if x1 = 0 then fX5_answerCalls_82 σ else
  zck (zin 23 29) (
  if (zgi σ 36 (23 : Int32).toNatClampNeg) = 0 then fX5_answerCalls_82 σ else
  zck (zin 23 29) (zbv (zsi σ 36 ((23 : Int32).toNatClampNeg) 0) (fun σ1 =>
  zck (zin 24 29) (zbv (zsi σ1 36 ((24 : Int32).toNatClampNeg) 0) (fun σ2 =>
  zck (zin 25 29) (
  if (zgi σ2 36 (25 : Int32).toNatClampNeg) = 2 then zck (zin 21 29) (
  zbi (fX5_readWord σ2 (((zgi σ2 36 (21 : Int32).toNatClampNeg) <<< ((8 : Int32) &&& 31)) ||| 255)) (fun σ4 v5 =>
  zbu (fX5_breakOff σ4 v5) (fun σ6 =>
  some (σ6, 19)))) else
  zbu (fX5_breakOff σ2 56) (fun σ3 =>
  some (σ3, 13))))))))
noncomputable def fX5_answerCalls_15  (σ : zSt) (x1 : Int32) (s0 : Int32) : Option (zSt × Int32) :=
  zck (zin 28 29) (zbv (zsi σ 36 ((28 : Int32).toNatClampNeg) 0) (fun σ7 =>
  if s0 = 0 then fX5_answerCalls_64 σ7 x1 s0 else
  zck (zin 27 29) (
  if (zgi σ7 36 (27 : Int32).toNatClampNeg) = 1 then zck (zin 27 29) (zbv (zsi σ7 36 ((27 : Int32).toNatClampNeg) 0) (fun σ8 =>
  zck (zin 23 29) (zbv (zsi σ8 36 ((23 : Int32).toNatClampNeg) 0) (fun σ9 =>
  zbu (fX5_breakOff σ9 102) (fun σ10 =>
  some (σ10, 11)))))) else
  fX5_answerCalls_64 σ7 x1 s0)))
noncomputable def fX5_answerCalls  (σ : zSt) (x1 : Int32) : Option (zSt × Int32) :=
  zck (zin 28 29) (
  if (zgi σ 36 (28 : Int32).toNatClampNeg) = 0 then fX5_answerCalls_15 σ x1 1 else
  fX5_answerCalls_15 σ x1 0)
set_option maxRecDepth 20000 in
set_option maxHeartbeats 4000000 in
theorem bX5_answerCalls_82 {st : Nat → Nat} {p : Program} {l : Launch} {e : Env} {s : State} {m : MethodId} {args : Array Value} {below : List Frame} {meth : Method} {c : Code} {D : va_G} {A : Nat → Prop} {ad : Nat → Nat} {cy : Nat → ClassId} (hC : zC p m c cX5_answerCalls 3 s args wzX5_answerCalls RX5 meth (some .int))  {res : zSt × Int32} {H : Heap} {locs : List Loc} {σ : zSt} {ls : Array Slot}  (hI : zI st D (tC cy) (wC ad cy σ) A s H locs) (hl : lv_has ls 3 []) (hf : fX5_answerCalls_82  σ  = some res) : W p l e rmX5_answerCalls s m args below meth c H locs 0 0 (zQi below args s D (tC cy) (wC ad cy) A res) (F0 m 82 ls []) := by
  have hx := hC.1
  have hb := hC.2.1
  unfold fX5_answerCalls_82 at hf
  refine lv_iconst (v := 0) hx hb dX5_answerCalls_82 (by decide) ?_
  exact z_ireturn hC hI hf dX5_answerCalls_83
set_option maxRecDepth 20000 in
set_option maxHeartbeats 4000000 in
theorem bX5_answerCalls_64 {st : Nat → Nat} {p : Program} {l : Launch} {e : Env} {s : State} {m : MethodId} {args : Array Value} {below : List Frame} {meth : Method} {c : Code} {D : va_G} {A : Nat → Prop} {ad : Nat → Nat} {cy : Nat → ClassId} (hC : zC p m c cX5_answerCalls 3 s args wzX5_answerCalls RX5 meth (some .int))  {res : zSt × Int32} {H : Heap} {locs : List Loc} {σ : zSt} {ls : Array Slot} {x1 : Int32} {x2 : Int32} (hI : zI st D (tC cy) (wC ad cy σ) A s H locs) (hl : lv_has ls 3 [(0, .ref (ad 7)), (1, .int x1), (2, .int x2)]) (hf : fX5_answerCalls_64  σ x1 x2 = some res) : W p l e rmX5_answerCalls s m args below meth c H locs 0 0 (zQi below args s D (tC cy) (wC ad cy) A res) (F0 m 64 ls []) := by
  have hx := hC.1
  have hb := hC.2.1
  unfold fX5_answerCalls_64 at hf
  refine lv_iload_n hx hb dX5_answerCalls_64 rfl (lv_at hl 2 rfl) ?_
  refine lv_if_eq (tgt := 82) hx hb dX5_answerCalls_65 (by decide) (fun q => ?_) (fun q => ?_)
  · replace hf := zif_t q hf
    exact bX5_answerCalls_82 hC  hI (lv_sub hl [] rfl) hf
  replace hf := zif_f q hf
  refine lv_iload_n hx hb dX5_answerCalls_68 rfl (lv_at hl 1 rfl) ?_
  refine lv_if_eq (tgt := 82) hx hb dX5_answerCalls_69 (by decide) (fun q => ?_) (fun q => ?_)
  · replace hf := zif_t q hf
    exact bX5_answerCalls_82 hC  hI (lv_sub hl [] rfl) hf
  replace hf := zif_f q hf
  refine lv_aload_n hx hb dX5_answerCalls_72 rfl (lv_at hl 0 rfl) ?_
  refine z_get hC hI hinX5_answerCalls_X50 7 (wC_e7 ad cy σ) rfl 2 (by decide) (List.mem_cons_of_mem _ zw7_5) rfl dX5_answerCalls_73 ?_
  refine lv_bipush (v := 23) hx hb dX5_answerCalls_76 (by decide) ?_
  obtain ⟨q, hf⟩ := zck_use hf
  refine z_iald hC hI 36 23 (wC_e36 ad cy σ) (tC_t36 cy) q dX5_answerCalls_78 ?_
  refine lv_if_ne (tgt := 84) hx hb dX5_answerCalls_79 (by decide) (fun q => ?_) (fun q => ?_)
  · replace hf := zif_f q hf
    refine lv_aload_n hx hb dX5_answerCalls_84 rfl (lv_at hl 0 rfl) ?_
    refine z_get hC hI hinX5_answerCalls_X50 7 (wC_e7 ad cy σ) rfl 2 (by decide) (List.mem_cons_of_mem _ zw7_5) rfl dX5_answerCalls_85 ?_
    refine lv_bipush (v := 23) hx hb dX5_answerCalls_88 (by decide) ?_
    refine lv_iconst (v := 0) hx hb dX5_answerCalls_90 (by decide) ?_
    obtain ⟨q, hf⟩ := zck_use hf
    obtain ⟨σ1, eσ1⟩ : ∃ z, z = zsi σ 36 ((23 : Int32).toNatClampNeg) 0 := ⟨_, rfl⟩
    replace hf := zbv_use eσ1 hf
    refine z_iast hC hI 36 23 (wC_e36 ad cy σ) (tC_t36 cy) q ((wC_s36 ad cy σ _ _).trans (congrArg (wC ad cy) eσ1.symm)) dX5_answerCalls_91 (fun H locs hI => ?_)
    refine lv_aload_n hx hb dX5_answerCalls_92 rfl (lv_at hl 0 rfl) ?_
    refine z_get hC hI hinX5_answerCalls_X50 7 (wC_e7 ad cy σ1) rfl 2 (by decide) (List.mem_cons_of_mem _ zw7_5) rfl dX5_answerCalls_93 ?_
    refine lv_bipush (v := 24) hx hb dX5_answerCalls_96 (by decide) ?_
    refine lv_iconst (v := 0) hx hb dX5_answerCalls_98 (by decide) ?_
    obtain ⟨q, hf⟩ := zck_use hf
    obtain ⟨σ2, eσ2⟩ : ∃ z, z = zsi σ1 36 ((24 : Int32).toNatClampNeg) 0 := ⟨_, rfl⟩
    replace hf := zbv_use eσ2 hf
    refine z_iast hC hI 36 23 (wC_e36 ad cy σ1) (tC_t36 cy) q ((wC_s36 ad cy σ1 _ _).trans (congrArg (wC ad cy) eσ2.symm)) dX5_answerCalls_99 (fun H locs hI => ?_)
    refine lv_aload_n hx hb dX5_answerCalls_100 rfl (lv_at hl 0 rfl) ?_
    refine z_get hC hI hinX5_answerCalls_X50 7 (wC_e7 ad cy σ2) rfl 2 (by decide) (List.mem_cons_of_mem _ zw7_5) rfl dX5_answerCalls_101 ?_
    refine lv_bipush (v := 25) hx hb dX5_answerCalls_104 (by decide) ?_
    obtain ⟨q, hf⟩ := zck_use hf
    refine z_iald hC hI 36 23 (wC_e36 ad cy σ2) (tC_t36 cy) q dX5_answerCalls_106 ?_
    refine lv_iconst (v := 2) hx hb dX5_answerCalls_107 (by decide) ?_
    refine lv_icmp_ne (tgt := 136) hx hb dX5_answerCalls_108 (by decide) (fun q => ?_) (fun q => ?_)
    · replace hf := zif_f q hf
      refine lv_aload_n hx hb dX5_answerCalls_136 rfl (lv_at hl 0 rfl) ?_
      refine lv_bipush (v := 56) hx hb dX5_answerCalls_137 (by decide) ?_
      obtain ⟨σ3, g3, hf⟩ := zbu_use hf
      refine z_callVu (As := [.int 56]) (rest := []) hC hI (cX5_breakOff_met st l D ad cy σ2 56 _ g3) (zgV zw19_18 zw19_19 zw19_20 zw2_21 zw19_21) rfl ⟨rfl, rfl⟩ 1 hdX5_breakOff ⟨Nat.le_of_ble_eq_true rfl, Nat.le_of_ble_eq_true rfl⟩ rfl rfl (wC_e7 ad cy σ2) rfl hl rfl (Nat.le_of_ble_eq_true rfl) dX5_answerCalls_139 ⟨Nat.zero_le _, Nat.zero_le _⟩ (fun H locs hI => ?_)
      refine lv_bipush (v := 13) hx hb dX5_answerCalls_142 (by decide) ?_
      exact z_ireturn hC hI hf dX5_answerCalls_144
    replace hf := zif_t q hf
    refine lv_aload_n hx hb dX5_answerCalls_111 rfl (lv_at hl 0 rfl) ?_
    refine lv_aload_n hx hb dX5_answerCalls_112 rfl (lv_at hl 0 rfl) ?_
    refine lv_aload_n hx hb dX5_answerCalls_113 rfl (lv_at hl 0 rfl) ?_
    refine z_get hC hI hinX5_answerCalls_X50 7 (wC_e7 ad cy σ2) rfl 2 (by decide) (List.mem_cons_of_mem _ zw7_5) rfl dX5_answerCalls_114 ?_
    refine lv_bipush (v := 21) hx hb dX5_answerCalls_117 (by decide) ?_
    obtain ⟨q, hf⟩ := zck_use hf
    refine z_iald hC hI 36 23 (wC_e36 ad cy σ2) (tC_t36 cy) q dX5_answerCalls_119 ?_
    refine lv_bipush (v := 8) hx hb dX5_answerCalls_120 (by decide) ?_
    refine lv_ishl hx hb dX5_answerCalls_122 ?_
    refine lv_sipush (v := 255) hx hb dX5_answerCalls_123 (by decide) ?_
    refine lv_ior hx hb dX5_answerCalls_126 ?_
    obtain ⟨σ4, v5, g4, hf⟩ := zbi_use hf
    refine z_callVi (As := [.int (((zgi σ2 36 (21 : Int32).toNatClampNeg) <<< ((8 : Int32) &&& 31)) ||| 255)]) (rest := [.ref (ad 7)]) hC hI (cX5_readWord_met st l D ad cy σ2 (((zgi σ2 36 (21 : Int32).toNatClampNeg) <<< ((8 : Int32) &&& 31)) ||| 255) _ g4) (zgV zw21_2 zw21_3 zw21_4 zw2_21 zw21_5) rfl ⟨rfl, rfl⟩ 1 hdX5_readWord ⟨Nat.le_of_ble_eq_true rfl, Nat.le_of_ble_eq_true rfl⟩ rfl rfl (wC_e7 ad cy σ2) rfl hl rfl (Nat.le_of_ble_eq_true rfl) dX5_answerCalls_127 ⟨Nat.zero_le _, Nat.zero_le _⟩ (fun H locs hI => ?_)
    obtain ⟨σ6, g6, hf⟩ := zbu_use hf
    refine z_callVu (As := [.int v5]) (rest := []) hC hI (cX5_breakOff_met st l D ad cy σ4 v5 _ g6) (zgV zw19_18 zw19_19 zw19_20 zw2_21 zw19_21) rfl ⟨rfl, rfl⟩ 1 hdX5_breakOff ⟨Nat.le_of_ble_eq_true rfl, Nat.le_of_ble_eq_true rfl⟩ rfl rfl (wC_e7 ad cy σ4) rfl hl rfl (Nat.le_of_ble_eq_true rfl) dX5_answerCalls_130 ⟨Nat.zero_le _, Nat.zero_le _⟩ (fun H locs hI => ?_)
    refine lv_bipush (v := 19) hx hb dX5_answerCalls_133 (by decide) ?_
    exact z_ireturn hC hI hf dX5_answerCalls_135
  replace hf := zif_t q hf
  exact bX5_answerCalls_82 hC  hI (lv_sub hl [] rfl) hf
set_option maxRecDepth 20000 in
set_option maxHeartbeats 4000000 in
theorem bX5_answerCalls_15 {st : Nat → Nat} {p : Program} {l : Launch} {e : Env} {s : State} {m : MethodId} {args : Array Value} {below : List Frame} {meth : Method} {c : Code} {D : va_G} {A : Nat → Prop} {ad : Nat → Nat} {cy : Nat → ClassId} (hC : zC p m c cX5_answerCalls 3 s args wzX5_answerCalls RX5 meth (some .int))  {res : zSt × Int32} {H : Heap} {locs : List Loc} {σ : zSt} {ls : Array Slot} {x1 : Int32} {s0 : Int32} (hI : zI st D (tC cy) (wC ad cy σ) A s H locs) (hl : lv_has ls 3 [(0, .ref (ad 7)), (1, .int x1)]) (hf : fX5_answerCalls_15  σ x1 s0 = some res) : W p l e rmX5_answerCalls s m args below meth c H locs 0 0 (zQi below args s D (tC cy) (wC ad cy) A res) (F0 m 15 ls [.int s0]) := by
  have hx := hC.1
  have hb := hC.2.1
  unfold fX5_answerCalls_15 at hf
  refine lv_istore_n (lv' := [(2, .int s0), (0, .ref (ad 7)), (1, .int x1)]) hx hb dX5_answerCalls_15 rfl hl (by decide) rfl (fun ls hl => ?_)
  refine lv_aload_n hx hb dX5_answerCalls_16 rfl (lv_at hl 1 rfl) ?_
  refine z_get hC hI hinX5_answerCalls_X50 7 (wC_e7 ad cy σ) rfl 2 (by decide) (List.mem_cons_of_mem _ zw7_5) rfl dX5_answerCalls_17 ?_
  refine lv_bipush (v := 28) hx hb dX5_answerCalls_20 (by decide) ?_
  refine lv_iconst (v := 0) hx hb dX5_answerCalls_22 (by decide) ?_
  obtain ⟨q, hf⟩ := zck_use hf
  obtain ⟨σ7, eσ7⟩ : ∃ z, z = zsi σ 36 ((28 : Int32).toNatClampNeg) 0 := ⟨_, rfl⟩
  replace hf := zbv_use eσ7 hf
  refine z_iast hC hI 36 23 (wC_e36 ad cy σ) (tC_t36 cy) q ((wC_s36 ad cy σ _ _).trans (congrArg (wC ad cy) eσ7.symm)) dX5_answerCalls_23 (fun H locs hI => ?_)
  refine lv_iload_n hx hb dX5_answerCalls_24 rfl (lv_at hl 0 rfl) ?_
  refine lv_if_eq (tgt := 64) hx hb dX5_answerCalls_25 (by decide) (fun q => ?_) (fun q => ?_)
  · replace hf := zif_t q hf
    exact bX5_answerCalls_64 hC  hI (lv_sub hl [1, 2, 0] rfl) hf
  replace hf := zif_f q hf
  refine lv_aload_n hx hb dX5_answerCalls_28 rfl (lv_at hl 1 rfl) ?_
  refine z_get hC hI hinX5_answerCalls_X50 7 (wC_e7 ad cy σ7) rfl 2 (by decide) (List.mem_cons_of_mem _ zw7_5) rfl dX5_answerCalls_29 ?_
  refine lv_bipush (v := 27) hx hb dX5_answerCalls_32 (by decide) ?_
  obtain ⟨q, hf⟩ := zck_use hf
  refine z_iald hC hI 36 23 (wC_e36 ad cy σ7) (tC_t36 cy) q dX5_answerCalls_34 ?_
  refine lv_iconst (v := 1) hx hb dX5_answerCalls_35 (by decide) ?_
  refine lv_icmp_ne (tgt := 64) hx hb dX5_answerCalls_36 (by decide) (fun q => ?_) (fun q => ?_)
  · replace hf := zif_f q hf
    exact bX5_answerCalls_64 hC  hI (lv_sub hl [1, 2, 0] rfl) hf
  replace hf := zif_t q hf
  refine lv_aload_n hx hb dX5_answerCalls_39 rfl (lv_at hl 1 rfl) ?_
  refine z_get hC hI hinX5_answerCalls_X50 7 (wC_e7 ad cy σ7) rfl 2 (by decide) (List.mem_cons_of_mem _ zw7_5) rfl dX5_answerCalls_40 ?_
  refine lv_bipush (v := 27) hx hb dX5_answerCalls_43 (by decide) ?_
  refine lv_iconst (v := 0) hx hb dX5_answerCalls_45 (by decide) ?_
  obtain ⟨q, hf⟩ := zck_use hf
  obtain ⟨σ8, eσ8⟩ : ∃ z, z = zsi σ7 36 ((27 : Int32).toNatClampNeg) 0 := ⟨_, rfl⟩
  replace hf := zbv_use eσ8 hf
  refine z_iast hC hI 36 23 (wC_e36 ad cy σ7) (tC_t36 cy) q ((wC_s36 ad cy σ7 _ _).trans (congrArg (wC ad cy) eσ8.symm)) dX5_answerCalls_46 (fun H locs hI => ?_)
  refine lv_aload_n hx hb dX5_answerCalls_47 rfl (lv_at hl 1 rfl) ?_
  refine z_get hC hI hinX5_answerCalls_X50 7 (wC_e7 ad cy σ8) rfl 2 (by decide) (List.mem_cons_of_mem _ zw7_5) rfl dX5_answerCalls_48 ?_
  refine lv_bipush (v := 23) hx hb dX5_answerCalls_51 (by decide) ?_
  refine lv_iconst (v := 0) hx hb dX5_answerCalls_53 (by decide) ?_
  obtain ⟨q, hf⟩ := zck_use hf
  obtain ⟨σ9, eσ9⟩ : ∃ z, z = zsi σ8 36 ((23 : Int32).toNatClampNeg) 0 := ⟨_, rfl⟩
  replace hf := zbv_use eσ9 hf
  refine z_iast hC hI 36 23 (wC_e36 ad cy σ8) (tC_t36 cy) q ((wC_s36 ad cy σ8 _ _).trans (congrArg (wC ad cy) eσ9.symm)) dX5_answerCalls_54 (fun H locs hI => ?_)
  refine lv_aload_n hx hb dX5_answerCalls_55 rfl (lv_at hl 1 rfl) ?_
  refine lv_bipush (v := 102) hx hb dX5_answerCalls_56 (by decide) ?_
  obtain ⟨σ10, g10, hf⟩ := zbu_use hf
  refine z_callVu (As := [.int 102]) (rest := []) hC hI (cX5_breakOff_met st l D ad cy σ9 102 _ g10) (zgV zw19_18 zw19_19 zw19_20 zw2_21 zw19_21) rfl ⟨rfl, rfl⟩ 1 hdX5_breakOff ⟨Nat.le_of_ble_eq_true rfl, Nat.le_of_ble_eq_true rfl⟩ rfl rfl (wC_e7 ad cy σ9) rfl hl rfl (Nat.le_of_ble_eq_true rfl) dX5_answerCalls_58 ⟨Nat.zero_le _, Nat.zero_le _⟩ (fun H locs hI => ?_)
  refine lv_bipush (v := 11) hx hb dX5_answerCalls_61 (by decide) ?_
  exact z_ireturn hC hI hf dX5_answerCalls_63
set_option maxRecDepth 20000 in
set_option maxHeartbeats 4000000 in
theorem bX5_answerCalls {st : Nat → Nat} {p : Program} {l : Launch} {e : Env} {s : State} {m : MethodId} {args : Array Value} {below : List Frame} {meth : Method} {c : Code} {D : va_G} {A : Nat → Prop} {ad : Nat → Nat} {cy : Nat → ClassId} (hC : zC p m c cX5_answerCalls 3 s args wzX5_answerCalls RX5 meth (some .int))  {res : zSt × Int32} {H : Heap} {locs : List Loc} {σ : zSt} {ls : Array Slot} {x1 : Int32} (hI : zI st D (tC cy) (wC ad cy σ) A s H locs) (hl : lv_has ls 3 [(0, .ref (ad 7)), (1, .int x1)]) (hf : fX5_answerCalls  σ x1 = some res) : W p l e rmX5_answerCalls s m args below meth c H locs 0 0 (zQi below args s D (tC cy) (wC ad cy) A res) (F0 m 0 ls []) := by
  have hx := hC.1
  have hb := hC.2.1
  unfold fX5_answerCalls at hf
  refine lv_aload_n hx hb dX5_answerCalls_0 rfl (lv_at hl 0 rfl) ?_
  refine z_get hC hI hinX5_answerCalls_X50 7 (wC_e7 ad cy σ) rfl 2 (by decide) (List.mem_cons_of_mem _ zw7_5) rfl dX5_answerCalls_1 ?_
  refine lv_bipush (v := 28) hx hb dX5_answerCalls_4 (by decide) ?_
  obtain ⟨q, hf⟩ := zck_use hf
  refine z_iald hC hI 36 23 (wC_e36 ad cy σ) (tC_t36 cy) q dX5_answerCalls_6 ?_
  refine lv_if_ne (tgt := 14) hx hb dX5_answerCalls_7 (by decide) (fun q => ?_) (fun q => ?_)
  · replace hf := zif_f q hf
    refine lv_iconst (v := 0) hx hb dX5_answerCalls_14 (by decide) ?_
    exact bX5_answerCalls_15 hC  hI hl hf
  replace hf := zif_t q hf
  refine lv_iconst (v := 1) hx hb dX5_answerCalls_10 (by decide) ?_
  refine lv_goto (tgt := 15) hx hb dX5_answerCalls_11 (by decide) ?_
  exact bX5_answerCalls_15 hC  hI hl hf
set_option maxRecDepth 20000 in
theorem cX5_answerCalls_met (st : Nat → Nat) (l : Launch) (D : va_G) (ad : Nat → Nat) (cy : Nat → ClassId) (σ : zSt) (x1 : Int32) (res : zSt × Int32) (hf : fX5_answerCalls σ x1 = some res) (sz : Nat) : zMi st l yX5_answerCalls wzX5_answerCalls rmX5_answerCalls [.ref (ad 7), .int x1] D (tC cy) (wC ad cy) sz σ res :=
  zMi.of (cc := cX5_answerCalls) (maxL := 3) (ret := (some .int)) (by decide) rfl (Nat.le_of_ble_eq_true rfl) (fun p e s m args below meth c hC A hI ls hl => bX5_answerCalls hC hI hl hf)
theorem hdX5_answerCalls : yX5_answerCalls.cls = RX5 ∧ yX5_answerCalls.cls ≠ "java/lang/invoke/MethodHandle" ∧ yX5_answerCalls.cls ≠ "java/lang/invoke/VarHandle" ∧ (parseMethodDescriptor yX5_answerCalls.desc).map (fun d => d.parameters.length) = some 1 := by decide +kernel
noncomputable def rmX5_pairAt : Room := { frames := 0, cells := 0, slots := 0, locals := 0 }
noncomputable def wzX5_pairAt : List Cond := .code yX5_pairAt cX5_pairAt 2 (some .int) :: wsL_law
theorem hinX5_pairAt_X50 : ∀ w ∈ wsX50, w ∈ wzX5_pairAt := fun w h => List.mem_cons_of_mem _ (inlX5 w h)
noncomputable def fX5_pairAt  (σ : zSt) (x1 : Int32) : Option (zSt × Int32) :=
  zck (zin x1 29) (
  zck (zin (x1 + 1) 29) (
  some (σ, ((zgi σ 36 x1.toNatClampNeg) <<< ((8 : Int32) &&& 31)) ||| (zgi σ 36 (x1 + 1).toNatClampNeg))))
set_option maxRecDepth 20000 in
set_option maxHeartbeats 4000000 in
theorem bX5_pairAt {st : Nat → Nat} {p : Program} {l : Launch} {e : Env} {s : State} {m : MethodId} {args : Array Value} {below : List Frame} {meth : Method} {c : Code} {D : va_G} {A : Nat → Prop} {ad : Nat → Nat} {cy : Nat → ClassId} (hC : zC p m c cX5_pairAt 2 s args wzX5_pairAt RX5 meth (some .int))  {res : zSt × Int32} {H : Heap} {locs : List Loc} {σ : zSt} {ls : Array Slot} {x1 : Int32} (hI : zI st D (tC cy) (wC ad cy σ) A s H locs) (hl : lv_has ls 2 [(0, .ref (ad 7)), (1, .int x1)]) (hf : fX5_pairAt  σ x1 = some res) : W p l e rmX5_pairAt s m args below meth c H locs 0 0 (zQi below args s D (tC cy) (wC ad cy) A res) (F0 m 0 ls []) := by
  have hx := hC.1
  have hb := hC.2.1
  unfold fX5_pairAt at hf
  refine lv_aload_n hx hb dX5_pairAt_0 rfl (lv_at hl 0 rfl) ?_
  refine z_get hC hI hinX5_pairAt_X50 7 (wC_e7 ad cy σ) rfl 2 (by decide) (List.mem_cons_of_mem _ zw7_5) rfl dX5_pairAt_1 ?_
  refine lv_iload_n hx hb dX5_pairAt_4 rfl (lv_at hl 1 rfl) ?_
  obtain ⟨q, hf⟩ := zck_use hf
  refine z_iald hC hI 36 23 (wC_e36 ad cy σ) (tC_t36 cy) q dX5_pairAt_5 ?_
  refine lv_bipush (v := 8) hx hb dX5_pairAt_6 (by decide) ?_
  refine lv_ishl hx hb dX5_pairAt_8 ?_
  refine lv_aload_n hx hb dX5_pairAt_9 rfl (lv_at hl 0 rfl) ?_
  refine z_get hC hI hinX5_pairAt_X50 7 (wC_e7 ad cy σ) rfl 2 (by decide) (List.mem_cons_of_mem _ zw7_5) rfl dX5_pairAt_10 ?_
  refine lv_iload_n hx hb dX5_pairAt_13 rfl (lv_at hl 1 rfl) ?_
  refine lv_iconst (v := 1) hx hb dX5_pairAt_14 (by decide) ?_
  refine lv_iadd hx hb dX5_pairAt_15 ?_
  obtain ⟨q, hf⟩ := zck_use hf
  refine z_iald hC hI 36 23 (wC_e36 ad cy σ) (tC_t36 cy) q dX5_pairAt_16 ?_
  refine lv_ior hx hb dX5_pairAt_17 ?_
  exact z_ireturn hC hI hf dX5_pairAt_18
set_option maxRecDepth 20000 in
theorem cX5_pairAt_met (st : Nat → Nat) (l : Launch) (D : va_G) (ad : Nat → Nat) (cy : Nat → ClassId) (σ : zSt) (x1 : Int32) (res : zSt × Int32) (hf : fX5_pairAt σ x1 = some res) (sz : Nat) : zMi st l yX5_pairAt wzX5_pairAt rmX5_pairAt [.ref (ad 7), .int x1] D (tC cy) (wC ad cy) sz σ res :=
  zMi.of (cc := cX5_pairAt) (maxL := 2) (ret := (some .int)) (by decide) rfl (Nat.le_of_ble_eq_true rfl) (fun p e s m args below meth c hC A hI ls hl => bX5_pairAt hC hI hl hf)
theorem hdX5_pairAt : yX5_pairAt.cls = RX5 ∧ yX5_pairAt.cls ≠ "java/lang/invoke/MethodHandle" ∧ yX5_pairAt.cls ≠ "java/lang/invoke/VarHandle" ∧ (parseMethodDescriptor yX5_pairAt.desc).map (fun d => d.parameters.length) = some 1 := by decide +kernel
noncomputable def rmX5_fetch : Room := { frames := 2, cells := 0, slots := 0, locals := 47 }
noncomputable def wzX5_fetch : List Cond := .code yX5_fetch cX5_fetch 2 (some .int) :: wsL_law
theorem hinX5_fetch_X50 : ∀ w ∈ wsX50, w ∈ wzX5_fetch := fun w h => List.mem_cons_of_mem _ (inlX5 w h)
noncomputable def fX5_fetch  (σ : zSt)  : Option (zSt × Int32) :=
  zck (zin 19 29) (
  zbi (fX2_read σ (zgi σ 36 (19 : Int32).toNatClampNeg)) (fun σ1 v2 =>
  zck (zin 19 29) (
  zck (zin 19 29) (zbv (zsi σ1 36 ((19 : Int32).toNatClampNeg) (((zgi σ1 36 (19 : Int32).toNatClampNeg) + 1) &&& 65535)) (fun σ3 =>
  some (σ3, v2))))))
set_option maxRecDepth 20000 in
set_option maxHeartbeats 4000000 in
theorem bX5_fetch {st : Nat → Nat} {p : Program} {l : Launch} {e : Env} {s : State} {m : MethodId} {args : Array Value} {below : List Frame} {meth : Method} {c : Code} {D : va_G} {A : Nat → Prop} {ad : Nat → Nat} {cy : Nat → ClassId} (hC : zC p m c cX5_fetch 2 s args wzX5_fetch RX5 meth (some .int))  {res : zSt × Int32} {H : Heap} {locs : List Loc} {σ : zSt} {ls : Array Slot}  (hI : zI st D (tC cy) (wC ad cy σ) A s H locs) (hl : lv_has ls 2 [(0, .ref (ad 7))]) (hf : fX5_fetch  σ  = some res) : W p l e rmX5_fetch s m args below meth c H locs 0 0 (zQi below args s D (tC cy) (wC ad cy) A res) (F0 m 0 ls []) := by
  have hx := hC.1
  have hb := hC.2.1
  unfold fX5_fetch at hf
  refine lv_aload_n hx hb dX5_fetch_0 rfl (lv_at hl 0 rfl) ?_
  refine z_get hC hI hinX5_fetch_X50 7 (wC_e7 ad cy σ) rfl 0 (by decide) (List.mem_cons_of_mem _ zw7_8) rfl dX5_fetch_1 ?_
  refine lv_aload_n hx hb dX5_fetch_4 rfl (lv_at hl 0 rfl) ?_
  refine z_get hC hI hinX5_fetch_X50 7 (wC_e7 ad cy σ) rfl 2 (by decide) (List.mem_cons_of_mem _ zw7_5) rfl dX5_fetch_5 ?_
  refine lv_bipush (v := 19) hx hb dX5_fetch_8 (by decide) ?_
  obtain ⟨q, hf⟩ := zck_use hf
  refine z_iald hC hI 36 23 (wC_e36 ad cy σ) (tC_t36 cy) q dX5_fetch_10 ?_
  obtain ⟨σ1, v2, g1, hf⟩ := zbi_use hf
  refine z_callVi (As := [.int (zgi σ 36 (19 : Int32).toNatClampNeg)]) (rest := []) hC hI (cX2_read_met st l D ad cy σ (zgi σ 36 (19 : Int32).toNatClampNeg) _ g1) (zgV zw21_6 zw21_7 zw21_8 zw1_21 zw21_9) rfl ⟨rfl, rfl⟩ 1 hdX2_read ⟨Nat.le_of_ble_eq_true rfl, Nat.le_of_ble_eq_true rfl⟩ rfl rfl (wC_e1 ad cy σ) rfl hl rfl (Nat.le_of_ble_eq_true rfl) dX5_fetch_11 ⟨Nat.zero_le _, Nat.zero_le _⟩ (fun H locs hI => ?_)
  refine lv_istore_n (lv' := [(1, .int v2), (0, .ref (ad 7))]) hx hb dX5_fetch_14 rfl hl (by decide) rfl (fun ls hl => ?_)
  refine lv_aload_n hx hb dX5_fetch_15 rfl (lv_at hl 1 rfl) ?_
  refine z_get hC hI hinX5_fetch_X50 7 (wC_e7 ad cy σ1) rfl 2 (by decide) (List.mem_cons_of_mem _ zw7_5) rfl dX5_fetch_16 ?_
  refine lv_bipush (v := 19) hx hb dX5_fetch_19 (by decide) ?_
  refine lv_aload_n hx hb dX5_fetch_21 rfl (lv_at hl 1 rfl) ?_
  refine z_get hC hI hinX5_fetch_X50 7 (wC_e7 ad cy σ1) rfl 2 (by decide) (List.mem_cons_of_mem _ zw7_5) rfl dX5_fetch_22 ?_
  refine lv_bipush (v := 19) hx hb dX5_fetch_25 (by decide) ?_
  obtain ⟨q, hf⟩ := zck_use hf
  refine z_iald hC hI 36 23 (wC_e36 ad cy σ1) (tC_t36 cy) q dX5_fetch_27 ?_
  refine lv_iconst (v := 1) hx hb dX5_fetch_28 (by decide) ?_
  refine lv_iadd hx hb dX5_fetch_29 ?_
  refine lv_ldc (v := 65535) hx hb hC.2.2.2.1 (hC.2.2.2.2.1 _ (List.mem_cons_of_mem _ zw20_6)) dX5_fetch_30 ?_
  refine lv_iand hx hb dX5_fetch_32 ?_
  obtain ⟨q, hf⟩ := zck_use hf
  obtain ⟨σ3, eσ3⟩ : ∃ z, z = zsi σ1 36 ((19 : Int32).toNatClampNeg) (((zgi σ1 36 (19 : Int32).toNatClampNeg) + 1) &&& 65535) := ⟨_, rfl⟩
  replace hf := zbv_use eσ3 hf
  refine z_iast hC hI 36 23 (wC_e36 ad cy σ1) (tC_t36 cy) q ((wC_s36 ad cy σ1 _ _).trans (congrArg (wC ad cy) eσ3.symm)) dX5_fetch_33 (fun H locs hI => ?_)
  refine lv_iload_n hx hb dX5_fetch_34 rfl (lv_at hl 0 rfl) ?_
  exact z_ireturn hC hI hf dX5_fetch_35
set_option maxRecDepth 20000 in
theorem cX5_fetch_met (st : Nat → Nat) (l : Launch) (D : va_G) (ad : Nat → Nat) (cy : Nat → ClassId) (σ : zSt)  (res : zSt × Int32) (hf : fX5_fetch σ  = some res) (sz : Nat) : zMi st l yX5_fetch wzX5_fetch rmX5_fetch [.ref (ad 7)] D (tC cy) (wC ad cy) sz σ res :=
  zMi.of (cc := cX5_fetch) (maxL := 2) (ret := (some .int)) (by decide) rfl (Nat.le_of_ble_eq_true rfl) (fun p e s m args below meth c hC A hI ls hl => bX5_fetch hC hI hl hf)
theorem hdX5_fetch : yX5_fetch.cls = RX5 ∧ yX5_fetch.cls ≠ "java/lang/invoke/MethodHandle" ∧ yX5_fetch.cls ≠ "java/lang/invoke/VarHandle" ∧ (parseMethodDescriptor yX5_fetch.desc).map (fun d => d.parameters.length) = some 0 := by decide +kernel
noncomputable def rmX5_fetchOp : Room := { frames := 3, cells := 0, slots := 0, locals := 68 }
noncomputable def wzX5_fetchOp : List Cond := .code yX5_fetchOp cX5_fetchOp 1 (some .int) :: wsL_law
noncomputable def fX5_fetchOp  (σ : zSt)  : Option (zSt × Int32) :=
  zbu (fX5_growR σ ) (fun σ1 =>
  zbi (fX5_fetch σ1 ) (fun σ2 v3 =>
  some (σ2, v3)))
set_option maxRecDepth 20000 in
set_option maxHeartbeats 4000000 in
theorem bX5_fetchOp {st : Nat → Nat} {p : Program} {l : Launch} {e : Env} {s : State} {m : MethodId} {args : Array Value} {below : List Frame} {meth : Method} {c : Code} {D : va_G} {A : Nat → Prop} {ad : Nat → Nat} {cy : Nat → ClassId} (hC : zC p m c cX5_fetchOp 1 s args wzX5_fetchOp RX5 meth (some .int))  {res : zSt × Int32} {H : Heap} {locs : List Loc} {σ : zSt} {ls : Array Slot}  (hI : zI st D (tC cy) (wC ad cy σ) A s H locs) (hl : lv_has ls 1 [(0, .ref (ad 7))]) (hf : fX5_fetchOp  σ  = some res) : W p l e rmX5_fetchOp s m args below meth c H locs 0 0 (zQi below args s D (tC cy) (wC ad cy) A res) (F0 m 0 ls []) := by
  have hx := hC.1
  have hb := hC.2.1
  unfold fX5_fetchOp at hf
  refine lv_aload_n hx hb dX5_fetchOp_0 rfl (lv_at hl 0 rfl) ?_
  obtain ⟨σ1, g1, hf⟩ := zbu_use hf
  refine z_callVu (As := []) (rest := []) hC hI (cX5_growR_met st l D ad cy σ  _ g1) (zgV zw19_22 zw19_23 zw20_0 zw2_21 zw20_1) rfl ⟨rfl, rfl⟩ 0 hdX5_growR ⟨Nat.le_of_ble_eq_true rfl, Nat.le_of_ble_eq_true rfl⟩ rfl rfl (wC_e7 ad cy σ) rfl hl rfl (Nat.le_of_ble_eq_true rfl) dX5_fetchOp_1 ⟨Nat.zero_le _, Nat.zero_le _⟩ (fun H locs hI => ?_)
  refine lv_aload_n hx hb dX5_fetchOp_4 rfl (lv_at hl 0 rfl) ?_
  obtain ⟨σ2, v3, g2, hf⟩ := zbi_use hf
  refine z_callVi (As := []) (rest := []) hC hI (cX5_fetch_met st l D ad cy σ1  _ g2) (zgV zw21_23 zw22_0 zw22_1 zw2_21 zw22_2) rfl ⟨rfl, rfl⟩ 0 hdX5_fetch ⟨Nat.le_of_ble_eq_true rfl, Nat.le_of_ble_eq_true rfl⟩ rfl rfl (wC_e7 ad cy σ1) rfl hl rfl (Nat.le_of_ble_eq_true rfl) dX5_fetchOp_5 ⟨Nat.zero_le _, Nat.zero_le _⟩ (fun H locs hI => ?_)
  exact z_ireturn hC hI hf dX5_fetchOp_8
set_option maxRecDepth 20000 in
theorem cX5_fetchOp_met (st : Nat → Nat) (l : Launch) (D : va_G) (ad : Nat → Nat) (cy : Nat → ClassId) (σ : zSt)  (res : zSt × Int32) (hf : fX5_fetchOp σ  = some res) (sz : Nat) : zMi st l yX5_fetchOp wzX5_fetchOp rmX5_fetchOp [.ref (ad 7)] D (tC cy) (wC ad cy) sz σ res :=
  zMi.of (cc := cX5_fetchOp) (maxL := 1) (ret := (some .int)) (by decide) rfl (Nat.le_of_ble_eq_true rfl) (fun p e s m args below meth c hC A hI ls hl => bX5_fetchOp hC hI hl hf)
theorem hdX5_fetchOp : yX5_fetchOp.cls = RX5 ∧ yX5_fetchOp.cls ≠ "java/lang/invoke/MethodHandle" ∧ yX5_fetchOp.cls ≠ "java/lang/invoke/VarHandle" ∧ (parseMethodDescriptor yX5_fetchOp.desc).map (fun d => d.parameters.length) = some 0 := by decide +kernel
noncomputable def rmX5_askBit : Room := { frames := 0, cells := 0, slots := 0, locals := 0 }
noncomputable def wzX5_askBit : List Cond := .code yX5_askBit cX5_askBit 5 none :: wsL_law
theorem hinX5_askBit_X50 : ∀ w ∈ wsX50, w ∈ wzX5_askBit := fun w h => List.mem_cons_of_mem _ (inlX5 w h)
noncomputable def fX5_askBit_38  (σ : zSt) (x3 : Int32) (s0 : Int32) (s1 : Int32) (s2 : Int32) : Option (zSt) :=
  zck (zin s2 29) (zbv (zsi σ 36 (s2.toNatClampNeg) (((s1 ||| s0) ||| 16) ||| (x3 &&& 40))) (fun σ1 =>
  some σ1))
noncomputable def fX5_askBit  (σ : zSt) (x1 : Int32) (x2 : Int32) (x3 : Int32) : Option (zSt) :=
  zbv (x2 &&& (1 <<< (x1 &&& 31))) (fun v2 =>
  zck (zin 1 29) (
  if v2 = 0 then fX5_askBit_38 σ x3 68 (((zgi σ 36 (1 : Int32).toNatClampNeg) &&& 1) ||| (v2 &&& 128)) 1 else
  fX5_askBit_38 σ x3 0 (((zgi σ 36 (1 : Int32).toNatClampNeg) &&& 1) ||| (v2 &&& 128)) 1))
set_option maxRecDepth 20000 in
set_option maxHeartbeats 4000000 in
theorem bX5_askBit_38 {st : Nat → Nat} {p : Program} {l : Launch} {e : Env} {s : State} {m : MethodId} {args : Array Value} {below : List Frame} {meth : Method} {c : Code} {D : va_G} {A : Nat → Prop} {ad : Nat → Nat} {cy : Nat → ClassId} (hC : zC p m c cX5_askBit 5 s args wzX5_askBit RX5 meth none)  {res : zSt} {H : Heap} {locs : List Loc} {σ : zSt} {ls : Array Slot} {x3 : Int32} {s0 : Int32} {s1 : Int32} {s2 : Int32} (hI : zI st D (tC cy) (wC ad cy σ) A s H locs) (hl : lv_has ls 5 [(3, .int x3)]) (hf : fX5_askBit_38  σ x3 s0 s1 s2 = some res) : W p l e rmX5_askBit s m args below meth c H locs 0 0 (zQu below args s D (tC cy) (wC ad cy) A res) (F0 m 38 ls [.int s0, .int s1, .int s2, .ref (ad 36)]) := by
  have hx := hC.1
  have hb := hC.2.1
  unfold fX5_askBit_38 at hf
  refine lv_ior hx hb dX5_askBit_38 ?_
  refine lv_bipush (v := 16) hx hb dX5_askBit_39 (by decide) ?_
  refine lv_ior hx hb dX5_askBit_41 ?_
  refine lv_iload_n hx hb dX5_askBit_42 rfl (lv_at hl 0 rfl) ?_
  refine lv_bipush (v := 40) hx hb dX5_askBit_43 (by decide) ?_
  refine lv_iand hx hb dX5_askBit_45 ?_
  refine lv_ior hx hb dX5_askBit_46 ?_
  obtain ⟨q, hf⟩ := zck_use hf
  obtain ⟨σ1, eσ1⟩ : ∃ z, z = zsi σ 36 (s2.toNatClampNeg) (((s1 ||| s0) ||| 16) ||| (x3 &&& 40)) := ⟨_, rfl⟩
  replace hf := zbv_use eσ1 hf
  refine z_iast hC hI 36 23 (wC_e36 ad cy σ) (tC_t36 cy) q ((wC_s36 ad cy σ _ _).trans (congrArg (wC ad cy) eσ1.symm)) dX5_askBit_47 (fun H locs hI => ?_)
  exact z_return hC hI hf dX5_askBit_48
set_option maxRecDepth 20000 in
set_option maxHeartbeats 4000000 in
theorem bX5_askBit {st : Nat → Nat} {p : Program} {l : Launch} {e : Env} {s : State} {m : MethodId} {args : Array Value} {below : List Frame} {meth : Method} {c : Code} {D : va_G} {A : Nat → Prop} {ad : Nat → Nat} {cy : Nat → ClassId} (hC : zC p m c cX5_askBit 5 s args wzX5_askBit RX5 meth none)  {res : zSt} {H : Heap} {locs : List Loc} {σ : zSt} {ls : Array Slot} {x1 : Int32} {x2 : Int32} {x3 : Int32} (hI : zI st D (tC cy) (wC ad cy σ) A s H locs) (hl : lv_has ls 5 [(0, .ref (ad 7)), (1, .int x1), (2, .int x2), (3, .int x3)]) (hf : fX5_askBit  σ x1 x2 x3 = some res) : W p l e rmX5_askBit s m args below meth c H locs 0 0 (zQu below args s D (tC cy) (wC ad cy) A res) (F0 m 0 ls []) := by
  have hx := hC.1
  have hb := hC.2.1
  unfold fX5_askBit at hf
  refine lv_iload_n hx hb dX5_askBit_0 rfl (lv_at hl 2 rfl) ?_
  refine lv_iconst (v := 1) hx hb dX5_askBit_1 (by decide) ?_
  refine lv_iload_n hx hb dX5_askBit_2 rfl (lv_at hl 1 rfl) ?_
  refine lv_ishl hx hb dX5_askBit_3 ?_
  refine lv_iand hx hb dX5_askBit_4 ?_
  refine lv_topi (fun v2 ev2 => ?_)
  replace hf := zbv_use ev2 hf
  refine lv_istore (lv' := [(4, .int v2), (0, .ref (ad 7)), (1, .int x1), (2, .int x2), (3, .int x3)]) hx hb dX5_askBit_5 hl (by decide) rfl (fun ls hl => ?_)
  refine lv_aload_n hx hb dX5_askBit_7 rfl (lv_at hl 1 rfl) ?_
  refine z_get hC hI hinX5_askBit_X50 7 (wC_e7 ad cy σ) rfl 2 (by decide) (List.mem_cons_of_mem _ zw7_5) rfl dX5_askBit_8 ?_
  refine lv_iconst (v := 1) hx hb dX5_askBit_11 (by decide) ?_
  refine lv_aload_n hx hb dX5_askBit_12 rfl (lv_at hl 1 rfl) ?_
  refine z_get hC hI hinX5_askBit_X50 7 (wC_e7 ad cy σ) rfl 2 (by decide) (List.mem_cons_of_mem _ zw7_5) rfl dX5_askBit_13 ?_
  refine lv_iconst (v := 1) hx hb dX5_askBit_16 (by decide) ?_
  obtain ⟨q, hf⟩ := zck_use hf
  refine z_iald hC hI 36 23 (wC_e36 ad cy σ) (tC_t36 cy) q dX5_askBit_17 ?_
  refine lv_iconst (v := 1) hx hb dX5_askBit_18 (by decide) ?_
  refine lv_iand hx hb dX5_askBit_19 ?_
  refine lv_iload hx hb dX5_askBit_20 (lv_at hl 0 rfl) ?_
  refine lv_sipush (v := 128) hx hb dX5_askBit_22 (by decide) ?_
  refine lv_iand hx hb dX5_askBit_25 ?_
  refine lv_ior hx hb dX5_askBit_26 ?_
  refine lv_iload hx hb dX5_askBit_27 (lv_at hl 0 rfl) ?_
  refine lv_if_ne (tgt := 37) hx hb dX5_askBit_29 (by decide) (fun q => ?_) (fun q => ?_)
  · replace hf := zif_f q hf
    refine lv_iconst (v := 0) hx hb dX5_askBit_37 (by decide) ?_
    exact bX5_askBit_38 hC  hI (lv_sub hl [4] rfl) hf
  replace hf := zif_t q hf
  refine lv_bipush (v := 68) hx hb dX5_askBit_32 (by decide) ?_
  refine lv_goto (tgt := 38) hx hb dX5_askBit_34 (by decide) ?_
  exact bX5_askBit_38 hC  hI (lv_sub hl [4] rfl) hf
set_option maxRecDepth 20000 in
theorem cX5_askBit_met (st : Nat → Nat) (l : Launch) (D : va_G) (ad : Nat → Nat) (cy : Nat → ClassId) (σ : zSt) (x1 : Int32) (x2 : Int32) (x3 : Int32) (res : zSt) (hf : fX5_askBit σ x1 x2 x3 = some res) (sz : Nat) : zMu st l yX5_askBit wzX5_askBit rmX5_askBit [.ref (ad 7), .int x1, .int x2, .int x3] D (tC cy) (wC ad cy) sz σ res :=
  zMu.of (cc := cX5_askBit) (maxL := 5) (ret := none) (by decide) rfl (Nat.le_of_ble_eq_true rfl) (fun p e s m args below meth c hC A hI ls hl => bX5_askBit hC hI hl hf)
theorem hdX5_askBit : yX5_askBit.cls = RX5 ∧ yX5_askBit.cls ≠ "java/lang/invoke/MethodHandle" ∧ yX5_askBit.cls ≠ "java/lang/invoke/VarHandle" ∧ (parseMethodDescriptor yX5_askBit.desc).map (fun d => d.parameters.length) = some 3 := by decide +kernel
noncomputable def rmX5_by : Room := { frames := 0, cells := 0, slots := 0, locals := 0 }
noncomputable def wzX5_by : List Cond := .code yX5_by cX5_by 1 (some .int) :: wsL_law
noncomputable def fX5_by_15  (σ : zSt) (s0 : Int32) (s1 : Int32) : Option (zSt × Int32) :=
  some (σ, s1 ||| s0)
noncomputable def fX5_by  (σ : zSt) (x0 : Int32) : Option (zSt × Int32) :=
  if x0 = 0 then fX5_by_15 σ 64 (x0 &&& 168) else
  fX5_by_15 σ 0 (x0 &&& 168)
set_option maxRecDepth 20000 in
set_option maxHeartbeats 4000000 in
theorem bX5_by_15 {st : Nat → Nat} {p : Program} {l : Launch} {e : Env} {s : State} {m : MethodId} {args : Array Value} {below : List Frame} {meth : Method} {c : Code} {D : va_G} {A : Nat → Prop} {ad : Nat → Nat} {cy : Nat → ClassId} (hC : zC p m c cX5_by 1 s args wzX5_by RX5 meth (some .int))  {res : zSt × Int32} {H : Heap} {locs : List Loc} {σ : zSt} {ls : Array Slot} {s0 : Int32} {s1 : Int32} (hI : zI st D (tC cy) (wC ad cy σ) A s H locs) (hl : lv_has ls 1 []) (hf : fX5_by_15  σ s0 s1 = some res) : W p l e rmX5_by s m args below meth c H locs 0 0 (zQi below args s D (tC cy) (wC ad cy) A res) (F0 m 15 ls [.int s0, .int s1]) := by
  have hx := hC.1
  have hb := hC.2.1
  unfold fX5_by_15 at hf
  refine lv_ior hx hb dX5_by_15 ?_
  exact z_ireturn hC hI hf dX5_by_16
set_option maxRecDepth 20000 in
set_option maxHeartbeats 4000000 in
theorem bX5_by {st : Nat → Nat} {p : Program} {l : Launch} {e : Env} {s : State} {m : MethodId} {args : Array Value} {below : List Frame} {meth : Method} {c : Code} {D : va_G} {A : Nat → Prop} {ad : Nat → Nat} {cy : Nat → ClassId} (hC : zC p m c cX5_by 1 s args wzX5_by RX5 meth (some .int))  {res : zSt × Int32} {H : Heap} {locs : List Loc} {σ : zSt} {ls : Array Slot} {x0 : Int32} (hI : zI st D (tC cy) (wC ad cy σ) A s H locs) (hl : lv_has ls 1 [(0, .int x0)]) (hf : fX5_by  σ x0 = some res) : W p l e rmX5_by s m args below meth c H locs 0 0 (zQi below args s D (tC cy) (wC ad cy) A res) (F0 m 0 ls []) := by
  have hx := hC.1
  have hb := hC.2.1
  unfold fX5_by at hf
  refine lv_iload_n hx hb dX5_by_0 rfl (lv_at hl 0 rfl) ?_
  refine lv_sipush (v := 168) hx hb dX5_by_1 (by decide) ?_
  refine lv_iand hx hb dX5_by_4 ?_
  refine lv_iload_n hx hb dX5_by_5 rfl (lv_at hl 0 rfl) ?_
  refine lv_if_ne (tgt := 14) hx hb dX5_by_6 (by decide) (fun q => ?_) (fun q => ?_)
  · replace hf := zif_f q hf
    refine lv_iconst (v := 0) hx hb dX5_by_14 (by decide) ?_
    exact bX5_by_15 hC  hI (lv_sub hl [] rfl) hf
  replace hf := zif_t q hf
  refine lv_bipush (v := 64) hx hb dX5_by_9 (by decide) ?_
  refine lv_goto (tgt := 15) hx hb dX5_by_11 (by decide) ?_
  exact bX5_by_15 hC  hI (lv_sub hl [] rfl) hf
set_option maxRecDepth 20000 in
theorem cX5_by_met (st : Nat → Nat) (l : Launch) (D : va_G) (ad : Nat → Nat) (cy : Nat → ClassId) (σ : zSt) (x0 : Int32) (res : zSt × Int32) (hf : fX5_by σ x0 = some res) (sz : Nat) : zMi st l yX5_by wzX5_by rmX5_by [.int x0] D (tC cy) (wC ad cy) sz σ res :=
  zMi.of (cc := cX5_by) (maxL := 1) (ret := (some .int)) (by decide) rfl (Nat.le_of_ble_eq_true rfl) (fun p e s m args below meth c hC A hI ls hl => bX5_by hC hI hl hf)
theorem hdX5_by : yX5_by.cls ≠ "java/lang/invoke/MethodHandle" ∧ yX5_by.cls ≠ "java/lang/invoke/VarHandle" ∧ (parseMethodDescriptor yX5_by.desc).map (fun d => d.parameters.length) = some 1 := by decide +kernel
noncomputable def rmJ6_bitCount_0f7a4 : Room := { frames := 0, cells := 0, slots := 0, locals := 0 }
noncomputable def wzJ6_bitCount_0f7a4 : List Cond := .code yJ6_bitCount_0f7a4 cJ6_bitCount_0f7a4 1 (some .int) :: wsL_law
noncomputable def fJ6_bitCount_0f7a4  (σ : zSt) (x0 : Int32) : Option (zSt × Int32) :=
  zbv (x0 - ((zush x0 1) &&& 1431655765)) (fun v1 =>
  zbv ((v1 &&& 858993459) + ((zush v1 2) &&& 858993459)) (fun v2 =>
  zbv ((v2 + (zush v2 4)) &&& 252645135) (fun v3 =>
  zbv (v3 + (zush v3 8)) (fun v4 =>
  zbv (v4 + (zush v4 16)) (fun v5 =>
  some (σ, v5 &&& 63))))))
set_option maxRecDepth 20000 in
set_option maxHeartbeats 4000000 in
theorem bJ6_bitCount_0f7a4 {st : Nat → Nat} {p : Program} {l : Launch} {e : Env} {s : State} {m : MethodId} {args : Array Value} {below : List Frame} {meth : Method} {c : Code} {D : va_G} {A : Nat → Prop} {ad : Nat → Nat} {cy : Nat → ClassId} (hC : zC p m c cJ6_bitCount_0f7a4 1 s args wzJ6_bitCount_0f7a4 RJ6 meth (some .int))  {res : zSt × Int32} {H : Heap} {locs : List Loc} {σ : zSt} {ls : Array Slot} {x0 : Int32} (hI : zI st D (tC cy) (wC ad cy σ) A s H locs) (hl : lv_has ls 1 [(0, .int x0)]) (hf : fJ6_bitCount_0f7a4  σ x0 = some res) : W p l e rmJ6_bitCount_0f7a4 s m args below meth c H locs 0 0 (zQi below args s D (tC cy) (wC ad cy) A res) (F0 m 0 ls []) := by
  have hx := hC.1
  have hb := hC.2.1
  unfold fJ6_bitCount_0f7a4 at hf
  refine lv_iload_n hx hb dJ6_bitCount_0f7a4_0 rfl (lv_at hl 0 rfl) ?_
  refine lv_iload_n hx hb dJ6_bitCount_0f7a4_1 rfl (lv_at hl 0 rfl) ?_
  refine lv_iconst (v := 1) hx hb dJ6_bitCount_0f7a4_2 (by decide) ?_
  refine lv_iushr (v := zush x0 1) hx hb dJ6_bitCount_0f7a4_3 rfl ?_
  refine lv_ldcw (v := 1431655765) hx hb hC.2.2.2.1 (hC.2.2.2.2.1 _ (List.mem_cons_of_mem _ zw23_5)) dJ6_bitCount_0f7a4_4 ?_
  refine lv_iand hx hb dJ6_bitCount_0f7a4_7 ?_
  refine lv_isub hx hb dJ6_bitCount_0f7a4_8 ?_
  refine lv_topi (fun v1 ev1 => ?_)
  replace hf := zbv_use ev1 hf
  refine lv_istore_n (lv' := [(0, .int v1)]) hx hb dJ6_bitCount_0f7a4_9 rfl hl (by decide) rfl (fun ls hl => ?_)
  refine lv_iload_n hx hb dJ6_bitCount_0f7a4_10 rfl (lv_at hl 0 rfl) ?_
  refine lv_ldcw (v := 858993459) hx hb hC.2.2.2.1 (hC.2.2.2.2.1 _ (List.mem_cons_of_mem _ zw23_6)) dJ6_bitCount_0f7a4_11 ?_
  refine lv_iand hx hb dJ6_bitCount_0f7a4_14 ?_
  refine lv_iload_n hx hb dJ6_bitCount_0f7a4_15 rfl (lv_at hl 0 rfl) ?_
  refine lv_iconst (v := 2) hx hb dJ6_bitCount_0f7a4_16 (by decide) ?_
  refine lv_iushr (v := zush v1 2) hx hb dJ6_bitCount_0f7a4_17 rfl ?_
  refine lv_ldcw (v := 858993459) hx hb hC.2.2.2.1 (hC.2.2.2.2.1 _ (List.mem_cons_of_mem _ zw23_6)) dJ6_bitCount_0f7a4_18 ?_
  refine lv_iand hx hb dJ6_bitCount_0f7a4_21 ?_
  refine lv_iadd hx hb dJ6_bitCount_0f7a4_22 ?_
  refine lv_topi (fun v2 ev2 => ?_)
  replace hf := zbv_use ev2 hf
  refine lv_istore_n (lv' := [(0, .int v2)]) hx hb dJ6_bitCount_0f7a4_23 rfl hl (by decide) rfl (fun ls hl => ?_)
  refine lv_iload_n hx hb dJ6_bitCount_0f7a4_24 rfl (lv_at hl 0 rfl) ?_
  refine lv_iload_n hx hb dJ6_bitCount_0f7a4_25 rfl (lv_at hl 0 rfl) ?_
  refine lv_iconst (v := 4) hx hb dJ6_bitCount_0f7a4_26 (by decide) ?_
  refine lv_iushr (v := zush v2 4) hx hb dJ6_bitCount_0f7a4_27 rfl ?_
  refine lv_iadd hx hb dJ6_bitCount_0f7a4_28 ?_
  refine lv_ldcw (v := 252645135) hx hb hC.2.2.2.1 (hC.2.2.2.2.1 _ (List.mem_cons_of_mem _ zw23_7)) dJ6_bitCount_0f7a4_29 ?_
  refine lv_iand hx hb dJ6_bitCount_0f7a4_32 ?_
  refine lv_topi (fun v3 ev3 => ?_)
  replace hf := zbv_use ev3 hf
  refine lv_istore_n (lv' := [(0, .int v3)]) hx hb dJ6_bitCount_0f7a4_33 rfl hl (by decide) rfl (fun ls hl => ?_)
  refine lv_iload_n hx hb dJ6_bitCount_0f7a4_34 rfl (lv_at hl 0 rfl) ?_
  refine lv_iload_n hx hb dJ6_bitCount_0f7a4_35 rfl (lv_at hl 0 rfl) ?_
  refine lv_bipush (v := 8) hx hb dJ6_bitCount_0f7a4_36 (by decide) ?_
  refine lv_iushr (v := zush v3 8) hx hb dJ6_bitCount_0f7a4_38 rfl ?_
  refine lv_iadd hx hb dJ6_bitCount_0f7a4_39 ?_
  refine lv_topi (fun v4 ev4 => ?_)
  replace hf := zbv_use ev4 hf
  refine lv_istore_n (lv' := [(0, .int v4)]) hx hb dJ6_bitCount_0f7a4_40 rfl hl (by decide) rfl (fun ls hl => ?_)
  refine lv_iload_n hx hb dJ6_bitCount_0f7a4_41 rfl (lv_at hl 0 rfl) ?_
  refine lv_iload_n hx hb dJ6_bitCount_0f7a4_42 rfl (lv_at hl 0 rfl) ?_
  refine lv_bipush (v := 16) hx hb dJ6_bitCount_0f7a4_43 (by decide) ?_
  refine lv_iushr (v := zush v4 16) hx hb dJ6_bitCount_0f7a4_45 rfl ?_
  refine lv_iadd hx hb dJ6_bitCount_0f7a4_46 ?_
  refine lv_topi (fun v5 ev5 => ?_)
  replace hf := zbv_use ev5 hf
  refine lv_istore_n (lv' := [(0, .int v5)]) hx hb dJ6_bitCount_0f7a4_47 rfl hl (by decide) rfl (fun ls hl => ?_)
  refine lv_iload_n hx hb dJ6_bitCount_0f7a4_48 rfl (lv_at hl 0 rfl) ?_
  refine lv_bipush (v := 63) hx hb dJ6_bitCount_0f7a4_49 (by decide) ?_
  refine lv_iand hx hb dJ6_bitCount_0f7a4_51 ?_
  exact z_ireturn hC hI hf dJ6_bitCount_0f7a4_52
set_option maxRecDepth 20000 in
theorem cJ6_bitCount_0f7a4_met (st : Nat → Nat) (l : Launch) (D : va_G) (ad : Nat → Nat) (cy : Nat → ClassId) (σ : zSt) (x0 : Int32) (res : zSt × Int32) (hf : fJ6_bitCount_0f7a4 σ x0 = some res) (sz : Nat) : zMi st l yJ6_bitCount_0f7a4 wzJ6_bitCount_0f7a4 rmJ6_bitCount_0f7a4 [.int x0] D (tC cy) (wC ad cy) sz σ res :=
  zMi.of (cc := cJ6_bitCount_0f7a4) (maxL := 1) (ret := (some .int)) (by decide) rfl (Nat.le_of_ble_eq_true rfl) (fun p e s m args below meth c hC A hI ls hl => bJ6_bitCount_0f7a4 hC hI hl hf)
theorem hdJ6_bitCount_0f7a4 : yJ6_bitCount_0f7a4.cls ≠ "java/lang/invoke/MethodHandle" ∧ yJ6_bitCount_0f7a4.cls ≠ "java/lang/invoke/VarHandle" ∧ (parseMethodDescriptor yJ6_bitCount_0f7a4.desc).map (fun d => d.parameters.length) = some 1 := by decide +kernel
noncomputable def rmX5_parity : Room := { frames := 1, cells := 0, slots := 0, locals := 20 }
noncomputable def wzX5_parity : List Cond := .code yX5_parity cX5_parity 1 (some .int) :: wsL_law
noncomputable def fX5_parity_14  (σ : zSt) (s0 : Int32) : Option (zSt × Int32) :=
  some (σ, s0)
noncomputable def fX5_parity  (σ : zSt) (x0 : Int32) : Option (zSt × Int32) :=
  zbi (fJ6_bitCount_0f7a4 σ x0) (fun σ1 v2 =>
  if (v2 &&& 1) = 0 then fX5_parity_14 σ1 4 else
  fX5_parity_14 σ1 0)
set_option maxRecDepth 20000 in
set_option maxHeartbeats 4000000 in
theorem bX5_parity_14 {st : Nat → Nat} {p : Program} {l : Launch} {e : Env} {s : State} {m : MethodId} {args : Array Value} {below : List Frame} {meth : Method} {c : Code} {D : va_G} {A : Nat → Prop} {ad : Nat → Nat} {cy : Nat → ClassId} (hC : zC p m c cX5_parity 1 s args wzX5_parity RX5 meth (some .int))  {res : zSt × Int32} {H : Heap} {locs : List Loc} {σ : zSt} {ls : Array Slot} {s0 : Int32} (hI : zI st D (tC cy) (wC ad cy σ) A s H locs) (hl : lv_has ls 1 []) (hf : fX5_parity_14  σ s0 = some res) : W p l e rmX5_parity s m args below meth c H locs 0 0 (zQi below args s D (tC cy) (wC ad cy) A res) (F0 m 14 ls [.int s0]) := by
  have hx := hC.1
  have hb := hC.2.1
  unfold fX5_parity_14 at hf
  exact z_ireturn hC hI hf dX5_parity_14
set_option maxRecDepth 20000 in
set_option maxHeartbeats 4000000 in
theorem bX5_parity {st : Nat → Nat} {p : Program} {l : Launch} {e : Env} {s : State} {m : MethodId} {args : Array Value} {below : List Frame} {meth : Method} {c : Code} {D : va_G} {A : Nat → Prop} {ad : Nat → Nat} {cy : Nat → ClassId} (hC : zC p m c cX5_parity 1 s args wzX5_parity RX5 meth (some .int))  {res : zSt × Int32} {H : Heap} {locs : List Loc} {σ : zSt} {ls : Array Slot} {x0 : Int32} (hI : zI st D (tC cy) (wC ad cy σ) A s H locs) (hl : lv_has ls 1 [(0, .int x0)]) (hf : fX5_parity  σ x0 = some res) : W p l e rmX5_parity s m args below meth c H locs 0 0 (zQi below args s D (tC cy) (wC ad cy) A res) (F0 m 0 ls []) := by
  have hx := hC.1
  have hb := hC.2.1
  unfold fX5_parity at hf
  refine lv_iload_n hx hb dX5_parity_0 rfl (lv_at hl 0 rfl) ?_
  obtain ⟨σ1, v2, g1, hf⟩ := zbi_use hf
  refine z_callSi (As := [.int x0]) (rest := []) hC hI (cJ6_bitCount_0f7a4_met st l D ad cy σ x0 _ g1) (zgS zw23_1 zw23_2 zw23_3 zw23_4) rfl ⟨rfl, rfl⟩ 1 hdJ6_bitCount_0f7a4 ⟨Nat.le_of_ble_eq_true rfl, Nat.le_of_ble_eq_true rfl⟩ rfl hl rfl (Nat.le_of_ble_eq_true rfl) dX5_parity_1 ⟨Nat.zero_le _, Nat.zero_le _⟩ (fun H locs hI => ?_)
  refine lv_iconst (v := 1) hx hb dX5_parity_4 (by decide) ?_
  refine lv_iand hx hb dX5_parity_5 ?_
  refine lv_if_ne (tgt := 13) hx hb dX5_parity_6 (by decide) (fun q => ?_) (fun q => ?_)
  · replace hf := zif_f q hf
    refine lv_iconst (v := 0) hx hb dX5_parity_13 (by decide) ?_
    exact bX5_parity_14 hC  hI (lv_sub hl [] rfl) hf
  replace hf := zif_t q hf
  refine lv_iconst (v := 4) hx hb dX5_parity_9 (by decide) ?_
  refine lv_goto (tgt := 14) hx hb dX5_parity_10 (by decide) ?_
  exact bX5_parity_14 hC  hI (lv_sub hl [] rfl) hf
set_option maxRecDepth 20000 in
theorem cX5_parity_met (st : Nat → Nat) (l : Launch) (D : va_G) (ad : Nat → Nat) (cy : Nat → ClassId) (σ : zSt) (x0 : Int32) (res : zSt × Int32) (hf : fX5_parity σ x0 = some res) (sz : Nat) : zMi st l yX5_parity wzX5_parity rmX5_parity [.int x0] D (tC cy) (wC ad cy) sz σ res :=
  zMi.of (cc := cX5_parity) (maxL := 1) (ret := (some .int)) (by decide) rfl (Nat.le_of_ble_eq_true rfl) (fun p e s m args below meth c hC A hI ls hl => bX5_parity hC hI hl hf)
theorem hdX5_parity : yX5_parity.cls ≠ "java/lang/invoke/MethodHandle" ∧ yX5_parity.cls ≠ "java/lang/invoke/VarHandle" ∧ (parseMethodDescriptor yX5_parity.desc).map (fun d => d.parameters.length) = some 1 := by decide +kernel
noncomputable def rmX5_turn : Room := { frames := 2, cells := 0, slots := 0, locals := 40 }
noncomputable def wzX5_turn : List Cond := .code yX5_turn cX5_turn 7 (some .int) :: wsL_law
theorem hinX5_turn_X50 : ∀ w ∈ wsX50, w ∈ wzX5_turn := fun w h => List.mem_cons_of_mem _ (inlX5 w h)
noncomputable def fX5_turn_136  (σ : zSt) (x4 : Int32) (s0 : Int32) : Option (zSt × Int32) :=
  zbi (fX5_by σ s0) (fun σ1 v2 =>
  zbi (fX5_parity σ1 s0) (fun σ3 v4 =>
  zck (zin 1 29) (zbv (zsi σ3 36 ((1 : Int32).toNatClampNeg) ((v2 ||| v4) ||| x4)) (fun σ5 =>
  some (σ5, s0)))))
noncomputable def fX5_turn_110  (σ : zSt) (x2 : Int32) (x3 : Int32) (x4 : Int32) (x5 : Int32) : Option (zSt × Int32) :=
  if x3 = 0 then fX5_turn_136 σ x4 ((x2 >>> ((1 : Int32) &&& 31)) ||| (x5 <<< ((7 : Int32) &&& 31))) else
  fX5_turn_136 σ x4 (((x2 <<< ((1 : Int32) &&& 31)) &&& 255) ||| x5)
noncomputable def fX5_turn_72  (σ : zSt) (x2 : Int32) (x3 : Int32) (x4 : Int32) : Option (zSt × Int32) :=
  fX5_turn_110 σ x2 x3 x4 x4
noncomputable def fX5_turn_79  (σ : zSt) (x2 : Int32) (x3 : Int32) (x4 : Int32) : Option (zSt × Int32) :=
  zck (zin 1 29) (
  zbv ((zgi σ 36 (1 : Int32).toNatClampNeg) &&& 1) (fun v6 =>
  fX5_turn_110 σ x2 x3 x4 v6))
noncomputable def fX5_turn_107  (σ : zSt) (x2 : Int32) (x3 : Int32) (x4 : Int32) : Option (zSt × Int32) :=
  fX5_turn_110 σ x2 x3 x4 0
noncomputable def fX5_turn_26  (σ : zSt) (x1 : Int32) (x2 : Int32) (x3 : Int32) (s0 : Int32) : Option (zSt × Int32) :=
  if x1 = 0 then fX5_turn_72 σ x2 x3 s0 else
  if x1 = 1 then fX5_turn_72 σ x2 x3 s0 else
  if x1 = 2 then fX5_turn_79 σ x2 x3 s0 else
  if x1 = 3 then fX5_turn_79 σ x2 x3 s0 else
  if x1 = 4 then fX5_turn_107 σ x2 x3 s0 else
  if x1 = 5 then zbv (x2 >>> ((7 : Int32) &&& 31)) (fun v7 =>
  fX5_turn_110 σ x2 x3 s0 v7) else
  if x1 = 6 then fX5_turn_110 σ x2 x3 s0 1 else
  fX5_turn_107 σ x2 x3 s0
noncomputable def fX5_turn_11  (σ : zSt) (x1 : Int32) (x2 : Int32) (s0 : Int32) : Option (zSt × Int32) :=
  if s0 = 0 then fX5_turn_26 σ x1 x2 s0 (x2 &&& 1) else
  fX5_turn_26 σ x1 x2 s0 (x2 >>> ((7 : Int32) &&& 31))
noncomputable def fX5_turn  (σ : zSt) (x1 : Int32) (x2 : Int32) : Option (zSt × Int32) :=
  if (x1 &&& 1) = 0 then fX5_turn_11 σ x1 x2 1 else
  fX5_turn_11 σ x1 x2 0
set_option maxRecDepth 20000 in
set_option maxHeartbeats 4000000 in
theorem bX5_turn_136 {st : Nat → Nat} {p : Program} {l : Launch} {e : Env} {s : State} {m : MethodId} {args : Array Value} {below : List Frame} {meth : Method} {c : Code} {D : va_G} {A : Nat → Prop} {ad : Nat → Nat} {cy : Nat → ClassId} (hC : zC p m c cX5_turn 7 s args wzX5_turn RX5 meth (some .int))  {res : zSt × Int32} {H : Heap} {locs : List Loc} {σ : zSt} {ls : Array Slot} {x4 : Int32} {s0 : Int32} (hI : zI st D (tC cy) (wC ad cy σ) A s H locs) (hl : lv_has ls 7 [(0, .ref (ad 7)), (4, .int x4)]) (hf : fX5_turn_136  σ x4 s0 = some res) : W p l e rmX5_turn s m args below meth c H locs 0 0 (zQi below args s D (tC cy) (wC ad cy) A res) (F0 m 136 ls [.int s0]) := by
  have hx := hC.1
  have hb := hC.2.1
  unfold fX5_turn_136 at hf
  refine lv_istore (lv' := [(6, .int s0), (0, .ref (ad 7)), (4, .int x4)]) hx hb dX5_turn_136 hl (by decide) rfl (fun ls hl => ?_)
  refine lv_aload_n hx hb dX5_turn_138 rfl (lv_at hl 1 rfl) ?_
  refine z_get hC hI hinX5_turn_X50 7 (wC_e7 ad cy σ) rfl 2 (by decide) (List.mem_cons_of_mem _ zw7_5) rfl dX5_turn_139 ?_
  refine lv_iconst (v := 1) hx hb dX5_turn_142 (by decide) ?_
  refine lv_iload hx hb dX5_turn_143 (lv_at hl 0 rfl) ?_
  obtain ⟨σ1, v2, g1, hf⟩ := zbi_use hf
  refine z_callSi (As := [.int s0]) (rest := [.int 1, .ref (ad 36)]) hC hI (cX5_by_met st l D ad cy σ s0 _ g1) (zgS zw22_19 zw22_20 zw2_21 zw22_21) rfl ⟨rfl, rfl⟩ 1 hdX5_by ⟨Nat.le_of_ble_eq_true rfl, Nat.le_of_ble_eq_true rfl⟩ rfl hl rfl (Nat.le_of_ble_eq_true rfl) dX5_turn_145 ⟨Nat.zero_le _, Nat.zero_le _⟩ (fun H locs hI => ?_)
  refine lv_iload hx hb dX5_turn_148 (lv_at hl 0 rfl) ?_
  obtain ⟨σ3, v4, g3, hf⟩ := zbi_use hf
  refine z_callSi (As := [.int s0]) (rest := [.int v2, .int 1, .ref (ad 36)]) hC hI (cX5_parity_met st l D ad cy σ1 s0 _ g3) (zgS zw22_22 zw22_23 zw2_21 zw23_0) rfl ⟨rfl, rfl⟩ 1 hdX5_parity ⟨Nat.le_of_ble_eq_true rfl, Nat.le_of_ble_eq_true rfl⟩ rfl hl rfl (Nat.le_of_ble_eq_true rfl) dX5_turn_150 ⟨Nat.zero_le _, Nat.zero_le _⟩ (fun H locs hI => ?_)
  refine lv_ior hx hb dX5_turn_153 ?_
  refine lv_iload hx hb dX5_turn_154 (lv_at hl 2 rfl) ?_
  refine lv_ior hx hb dX5_turn_156 ?_
  obtain ⟨q, hf⟩ := zck_use hf
  obtain ⟨σ5, eσ5⟩ : ∃ z, z = zsi σ3 36 ((1 : Int32).toNatClampNeg) ((v2 ||| v4) ||| x4) := ⟨_, rfl⟩
  replace hf := zbv_use eσ5 hf
  refine z_iast hC hI 36 23 (wC_e36 ad cy σ3) (tC_t36 cy) q ((wC_s36 ad cy σ3 _ _).trans (congrArg (wC ad cy) eσ5.symm)) dX5_turn_157 (fun H locs hI => ?_)
  refine lv_iload hx hb dX5_turn_158 (lv_at hl 0 rfl) ?_
  exact z_ireturn hC hI hf dX5_turn_160
set_option maxRecDepth 20000 in
set_option maxHeartbeats 4000000 in
theorem bX5_turn_110 {st : Nat → Nat} {p : Program} {l : Launch} {e : Env} {s : State} {m : MethodId} {args : Array Value} {below : List Frame} {meth : Method} {c : Code} {D : va_G} {A : Nat → Prop} {ad : Nat → Nat} {cy : Nat → ClassId} (hC : zC p m c cX5_turn 7 s args wzX5_turn RX5 meth (some .int))  {res : zSt × Int32} {H : Heap} {locs : List Loc} {σ : zSt} {ls : Array Slot} {x2 : Int32} {x3 : Int32} {x4 : Int32} {x5 : Int32} (hI : zI st D (tC cy) (wC ad cy σ) A s H locs) (hl : lv_has ls 7 [(0, .ref (ad 7)), (2, .int x2), (3, .int x3), (4, .int x4), (5, .int x5)]) (hf : fX5_turn_110  σ x2 x3 x4 x5 = some res) : W p l e rmX5_turn s m args below meth c H locs 0 0 (zQi below args s D (tC cy) (wC ad cy) A res) (F0 m 110 ls []) := by
  have hx := hC.1
  have hb := hC.2.1
  unfold fX5_turn_110 at hf
  refine lv_iload_n hx hb dX5_turn_110 rfl (lv_at hl 2 rfl) ?_
  refine lv_if_eq (tgt := 127) hx hb dX5_turn_111 (by decide) (fun q => ?_) (fun q => ?_)
  · replace hf := zif_t q hf
    refine lv_iload_n hx hb dX5_turn_127 rfl (lv_at hl 1 rfl) ?_
    refine lv_iconst (v := 1) hx hb dX5_turn_128 (by decide) ?_
    refine lv_ishr hx hb dX5_turn_129 ?_
    refine lv_iload hx hb dX5_turn_130 (lv_at hl 4 rfl) ?_
    refine lv_bipush (v := 7) hx hb dX5_turn_132 (by decide) ?_
    refine lv_ishl hx hb dX5_turn_134 ?_
    refine lv_ior hx hb dX5_turn_135 ?_
    exact bX5_turn_136 hC  hI (lv_sub hl [0, 3] rfl) hf
  replace hf := zif_f q hf
  refine lv_iload_n hx hb dX5_turn_114 rfl (lv_at hl 1 rfl) ?_
  refine lv_iconst (v := 1) hx hb dX5_turn_115 (by decide) ?_
  refine lv_ishl hx hb dX5_turn_116 ?_
  refine lv_sipush (v := 255) hx hb dX5_turn_117 (by decide) ?_
  refine lv_iand hx hb dX5_turn_120 ?_
  refine lv_iload hx hb dX5_turn_121 (lv_at hl 4 rfl) ?_
  refine lv_ior hx hb dX5_turn_123 ?_
  refine lv_goto (tgt := 136) hx hb dX5_turn_124 (by decide) ?_
  exact bX5_turn_136 hC  hI (lv_sub hl [0, 3] rfl) hf
set_option maxRecDepth 20000 in
set_option maxHeartbeats 4000000 in
theorem bX5_turn_72 {st : Nat → Nat} {p : Program} {l : Launch} {e : Env} {s : State} {m : MethodId} {args : Array Value} {below : List Frame} {meth : Method} {c : Code} {D : va_G} {A : Nat → Prop} {ad : Nat → Nat} {cy : Nat → ClassId} (hC : zC p m c cX5_turn 7 s args wzX5_turn RX5 meth (some .int))  {res : zSt × Int32} {H : Heap} {locs : List Loc} {σ : zSt} {ls : Array Slot} {x2 : Int32} {x3 : Int32} {x4 : Int32} (hI : zI st D (tC cy) (wC ad cy σ) A s H locs) (hl : lv_has ls 7 [(0, .ref (ad 7)), (2, .int x2), (3, .int x3), (4, .int x4)]) (hf : fX5_turn_72  σ x2 x3 x4 = some res) : W p l e rmX5_turn s m args below meth c H locs 0 0 (zQi below args s D (tC cy) (wC ad cy) A res) (F0 m 72 ls []) := by
  have hx := hC.1
  have hb := hC.2.1
  unfold fX5_turn_72 at hf
  refine lv_iload hx hb dX5_turn_72 (lv_at hl 3 rfl) ?_
  refine lv_istore (lv' := [(5, .int x4), (0, .ref (ad 7)), (2, .int x2), (3, .int x3), (4, .int x4)]) hx hb dX5_turn_74 hl (by decide) rfl (fun ls hl => ?_)
  refine lv_goto (tgt := 110) hx hb dX5_turn_76 (by decide) ?_
  exact bX5_turn_110 hC  hI (lv_sub hl [1, 2, 3, 4, 0] rfl) hf
set_option maxRecDepth 20000 in
set_option maxHeartbeats 4000000 in
theorem bX5_turn_79 {st : Nat → Nat} {p : Program} {l : Launch} {e : Env} {s : State} {m : MethodId} {args : Array Value} {below : List Frame} {meth : Method} {c : Code} {D : va_G} {A : Nat → Prop} {ad : Nat → Nat} {cy : Nat → ClassId} (hC : zC p m c cX5_turn 7 s args wzX5_turn RX5 meth (some .int))  {res : zSt × Int32} {H : Heap} {locs : List Loc} {σ : zSt} {ls : Array Slot} {x2 : Int32} {x3 : Int32} {x4 : Int32} (hI : zI st D (tC cy) (wC ad cy σ) A s H locs) (hl : lv_has ls 7 [(0, .ref (ad 7)), (2, .int x2), (3, .int x3), (4, .int x4)]) (hf : fX5_turn_79  σ x2 x3 x4 = some res) : W p l e rmX5_turn s m args below meth c H locs 0 0 (zQi below args s D (tC cy) (wC ad cy) A res) (F0 m 79 ls []) := by
  have hx := hC.1
  have hb := hC.2.1
  unfold fX5_turn_79 at hf
  refine lv_aload_n hx hb dX5_turn_79 rfl (lv_at hl 0 rfl) ?_
  refine z_get hC hI hinX5_turn_X50 7 (wC_e7 ad cy σ) rfl 2 (by decide) (List.mem_cons_of_mem _ zw7_5) rfl dX5_turn_80 ?_
  refine lv_iconst (v := 1) hx hb dX5_turn_83 (by decide) ?_
  obtain ⟨q, hf⟩ := zck_use hf
  refine z_iald hC hI 36 23 (wC_e36 ad cy σ) (tC_t36 cy) q dX5_turn_84 ?_
  refine lv_iconst (v := 1) hx hb dX5_turn_85 (by decide) ?_
  refine lv_iand hx hb dX5_turn_86 ?_
  refine lv_topi (fun v6 ev6 => ?_)
  replace hf := zbv_use ev6 hf
  refine lv_istore (lv' := [(5, .int v6), (0, .ref (ad 7)), (2, .int x2), (3, .int x3), (4, .int x4)]) hx hb dX5_turn_87 hl (by decide) rfl (fun ls hl => ?_)
  refine lv_goto (tgt := 110) hx hb dX5_turn_89 (by decide) ?_
  exact bX5_turn_110 hC  hI (lv_sub hl [1, 2, 3, 4, 0] rfl) hf
set_option maxRecDepth 20000 in
set_option maxHeartbeats 4000000 in
theorem bX5_turn_107 {st : Nat → Nat} {p : Program} {l : Launch} {e : Env} {s : State} {m : MethodId} {args : Array Value} {below : List Frame} {meth : Method} {c : Code} {D : va_G} {A : Nat → Prop} {ad : Nat → Nat} {cy : Nat → ClassId} (hC : zC p m c cX5_turn 7 s args wzX5_turn RX5 meth (some .int))  {res : zSt × Int32} {H : Heap} {locs : List Loc} {σ : zSt} {ls : Array Slot} {x2 : Int32} {x3 : Int32} {x4 : Int32} (hI : zI st D (tC cy) (wC ad cy σ) A s H locs) (hl : lv_has ls 7 [(0, .ref (ad 7)), (2, .int x2), (3, .int x3), (4, .int x4)]) (hf : fX5_turn_107  σ x2 x3 x4 = some res) : W p l e rmX5_turn s m args below meth c H locs 0 0 (zQi below args s D (tC cy) (wC ad cy) A res) (F0 m 107 ls []) := by
  have hx := hC.1
  have hb := hC.2.1
  unfold fX5_turn_107 at hf
  refine lv_iconst (v := 0) hx hb dX5_turn_107 (by decide) ?_
  refine lv_istore (lv' := [(5, .int 0), (0, .ref (ad 7)), (2, .int x2), (3, .int x3), (4, .int x4)]) hx hb dX5_turn_108 hl (by decide) rfl (fun ls hl => ?_)
  exact bX5_turn_110 hC  hI (lv_sub hl [1, 2, 3, 4, 0] rfl) hf
set_option maxRecDepth 20000 in
set_option maxHeartbeats 4000000 in
theorem bX5_turn_26 {st : Nat → Nat} {p : Program} {l : Launch} {e : Env} {s : State} {m : MethodId} {args : Array Value} {below : List Frame} {meth : Method} {c : Code} {D : va_G} {A : Nat → Prop} {ad : Nat → Nat} {cy : Nat → ClassId} (hC : zC p m c cX5_turn 7 s args wzX5_turn RX5 meth (some .int))  {res : zSt × Int32} {H : Heap} {locs : List Loc} {σ : zSt} {ls : Array Slot} {x1 : Int32} {x2 : Int32} {x3 : Int32} {s0 : Int32} (hI : zI st D (tC cy) (wC ad cy σ) A s H locs) (hl : lv_has ls 7 [(0, .ref (ad 7)), (1, .int x1), (2, .int x2), (3, .int x3)]) (hf : fX5_turn_26  σ x1 x2 x3 s0 = some res) : W p l e rmX5_turn s m args below meth c H locs 0 0 (zQi below args s D (tC cy) (wC ad cy) A res) (F0 m 26 ls [.int s0]) := by
  have hx := hC.1
  have hb := hC.2.1
  unfold fX5_turn_26 at hf
  refine lv_istore (lv' := [(4, .int s0), (0, .ref (ad 7)), (1, .int x1), (2, .int x2), (3, .int x3)]) hx hb dX5_turn_26 hl (by decide) rfl (fun ls hl => ?_)
  refine lv_iload_n hx hb dX5_turn_28 rfl (lv_at hl 2 rfl) ?_
  by_cases q0 : x1 = 0
  · replace hf := zif_t q0 hf
    refine lv_tableIn (tgt := 72) hx hb dX5_turn_29 (by rw [q0]; decide) (by rw [q0]; decide) (by rw [q0]; rfl) (by decide) ?_
    exact bX5_turn_72 hC  hI (lv_sub hl [1, 3, 4, 0] rfl) hf
  replace hf := zif_f q0 hf
  by_cases q1 : x1 = 1
  · replace hf := zif_t q1 hf
    refine lv_tableIn (tgt := 72) hx hb dX5_turn_29 (by rw [q1]; decide) (by rw [q1]; decide) (by rw [q1]; rfl) (by decide) ?_
    exact bX5_turn_72 hC  hI (lv_sub hl [1, 3, 4, 0] rfl) hf
  replace hf := zif_f q1 hf
  by_cases q2 : x1 = 2
  · replace hf := zif_t q2 hf
    refine lv_tableIn (tgt := 79) hx hb dX5_turn_29 (by rw [q2]; decide) (by rw [q2]; decide) (by rw [q2]; rfl) (by decide) ?_
    exact bX5_turn_79 hC  hI (lv_sub hl [1, 3, 4, 0] rfl) hf
  replace hf := zif_f q2 hf
  by_cases q3 : x1 = 3
  · replace hf := zif_t q3 hf
    refine lv_tableIn (tgt := 79) hx hb dX5_turn_29 (by rw [q3]; decide) (by rw [q3]; decide) (by rw [q3]; rfl) (by decide) ?_
    exact bX5_turn_79 hC  hI (lv_sub hl [1, 3, 4, 0] rfl) hf
  replace hf := zif_f q3 hf
  by_cases q4 : x1 = 4
  · replace hf := zif_t q4 hf
    refine lv_tableIn (tgt := 107) hx hb dX5_turn_29 (by rw [q4]; decide) (by rw [q4]; decide) (by rw [q4]; rfl) (by decide) ?_
    exact bX5_turn_107 hC  hI (lv_sub hl [1, 3, 4, 0] rfl) hf
  replace hf := zif_f q4 hf
  by_cases q5 : x1 = 5
  · replace hf := zif_t q5 hf
    refine lv_tableIn (tgt := 92) hx hb dX5_turn_29 (by rw [q5]; decide) (by rw [q5]; decide) (by rw [q5]; rfl) (by decide) ?_
    refine lv_iload_n hx hb dX5_turn_92 rfl (lv_at hl 3 rfl) ?_
    refine lv_bipush (v := 7) hx hb dX5_turn_93 (by decide) ?_
    refine lv_ishr hx hb dX5_turn_95 ?_
    refine lv_topi (fun v7 ev7 => ?_)
    replace hf := zbv_use ev7 hf
    refine lv_istore (lv' := [(5, .int v7), (4, .int s0), (0, .ref (ad 7)), (1, .int x1), (2, .int x2), (3, .int x3)]) hx hb dX5_turn_96 hl (by decide) rfl (fun ls hl => ?_)
    refine lv_goto (tgt := 110) hx hb dX5_turn_98 (by decide) ?_
    exact bX5_turn_110 hC  hI (lv_sub hl [2, 4, 5, 1, 0] rfl) hf
  replace hf := zif_f q5 hf
  by_cases q6 : x1 = 6
  · replace hf := zif_t q6 hf
    refine lv_tableIn (tgt := 101) hx hb dX5_turn_29 (by rw [q6]; decide) (by rw [q6]; decide) (by rw [q6]; rfl) (by decide) ?_
    refine lv_iconst (v := 1) hx hb dX5_turn_101 (by decide) ?_
    refine lv_istore (lv' := [(5, .int 1), (4, .int s0), (0, .ref (ad 7)), (1, .int x1), (2, .int x2), (3, .int x3)]) hx hb dX5_turn_102 hl (by decide) rfl (fun ls hl => ?_)
    refine lv_goto (tgt := 110) hx hb dX5_turn_104 (by decide) ?_
    exact bX5_turn_110 hC  hI (lv_sub hl [2, 4, 5, 1, 0] rfl) hf
  replace hf := zif_f q6 hf
  refine lv_tableOut (tgt := 107) hx hb dX5_turn_29 (zsw (fun k h1 h2 => by rcases (show k = 0 ∨ k = 1 ∨ k = 2 ∨ k = 3 ∨ k = 4 ∨ k = 5 ∨ k = 6 by omega) with rfl | rfl | rfl | rfl | rfl | rfl | rfl <;> assumption)) (by decide) ?_
  exact bX5_turn_107 hC  hI (lv_sub hl [1, 3, 4, 0] rfl) hf
set_option maxRecDepth 20000 in
set_option maxHeartbeats 4000000 in
theorem bX5_turn_11 {st : Nat → Nat} {p : Program} {l : Launch} {e : Env} {s : State} {m : MethodId} {args : Array Value} {below : List Frame} {meth : Method} {c : Code} {D : va_G} {A : Nat → Prop} {ad : Nat → Nat} {cy : Nat → ClassId} (hC : zC p m c cX5_turn 7 s args wzX5_turn RX5 meth (some .int))  {res : zSt × Int32} {H : Heap} {locs : List Loc} {σ : zSt} {ls : Array Slot} {x1 : Int32} {x2 : Int32} {s0 : Int32} (hI : zI st D (tC cy) (wC ad cy σ) A s H locs) (hl : lv_has ls 7 [(0, .ref (ad 7)), (1, .int x1), (2, .int x2)]) (hf : fX5_turn_11  σ x1 x2 s0 = some res) : W p l e rmX5_turn s m args below meth c H locs 0 0 (zQi below args s D (tC cy) (wC ad cy) A res) (F0 m 11 ls [.int s0]) := by
  have hx := hC.1
  have hb := hC.2.1
  unfold fX5_turn_11 at hf
  refine lv_istore_n (lv' := [(3, .int s0), (0, .ref (ad 7)), (1, .int x1), (2, .int x2)]) hx hb dX5_turn_11 rfl hl (by decide) rfl (fun ls hl => ?_)
  refine lv_iload_n hx hb dX5_turn_12 rfl (lv_at hl 0 rfl) ?_
  refine lv_if_eq (tgt := 23) hx hb dX5_turn_13 (by decide) (fun q => ?_) (fun q => ?_)
  · replace hf := zif_t q hf
    refine lv_iload_n hx hb dX5_turn_23 rfl (lv_at hl 3 rfl) ?_
    refine lv_iconst (v := 1) hx hb dX5_turn_24 (by decide) ?_
    refine lv_iand hx hb dX5_turn_25 ?_
    exact bX5_turn_26 hC  hI (lv_sub hl [1, 2, 3, 0] rfl) hf
  replace hf := zif_f q hf
  refine lv_iload_n hx hb dX5_turn_16 rfl (lv_at hl 3 rfl) ?_
  refine lv_bipush (v := 7) hx hb dX5_turn_17 (by decide) ?_
  refine lv_ishr hx hb dX5_turn_19 ?_
  refine lv_goto (tgt := 26) hx hb dX5_turn_20 (by decide) ?_
  exact bX5_turn_26 hC  hI (lv_sub hl [1, 2, 3, 0] rfl) hf
set_option maxRecDepth 20000 in
set_option maxHeartbeats 4000000 in
theorem bX5_turn {st : Nat → Nat} {p : Program} {l : Launch} {e : Env} {s : State} {m : MethodId} {args : Array Value} {below : List Frame} {meth : Method} {c : Code} {D : va_G} {A : Nat → Prop} {ad : Nat → Nat} {cy : Nat → ClassId} (hC : zC p m c cX5_turn 7 s args wzX5_turn RX5 meth (some .int))  {res : zSt × Int32} {H : Heap} {locs : List Loc} {σ : zSt} {ls : Array Slot} {x1 : Int32} {x2 : Int32} (hI : zI st D (tC cy) (wC ad cy σ) A s H locs) (hl : lv_has ls 7 [(0, .ref (ad 7)), (1, .int x1), (2, .int x2)]) (hf : fX5_turn  σ x1 x2 = some res) : W p l e rmX5_turn s m args below meth c H locs 0 0 (zQi below args s D (tC cy) (wC ad cy) A res) (F0 m 0 ls []) := by
  have hx := hC.1
  have hb := hC.2.1
  unfold fX5_turn at hf
  refine lv_iload_n hx hb dX5_turn_0 rfl (lv_at hl 1 rfl) ?_
  refine lv_iconst (v := 1) hx hb dX5_turn_1 (by decide) ?_
  refine lv_iand hx hb dX5_turn_2 ?_
  refine lv_if_ne (tgt := 10) hx hb dX5_turn_3 (by decide) (fun q => ?_) (fun q => ?_)
  · replace hf := zif_f q hf
    refine lv_iconst (v := 0) hx hb dX5_turn_10 (by decide) ?_
    exact bX5_turn_11 hC  hI hl hf
  replace hf := zif_t q hf
  refine lv_iconst (v := 1) hx hb dX5_turn_6 (by decide) ?_
  refine lv_goto (tgt := 11) hx hb dX5_turn_7 (by decide) ?_
  exact bX5_turn_11 hC  hI hl hf
set_option maxRecDepth 20000 in
theorem cX5_turn_met (st : Nat → Nat) (l : Launch) (D : va_G) (ad : Nat → Nat) (cy : Nat → ClassId) (σ : zSt) (x1 : Int32) (x2 : Int32) (res : zSt × Int32) (hf : fX5_turn σ x1 x2 = some res) (sz : Nat) : zMi st l yX5_turn wzX5_turn rmX5_turn [.ref (ad 7), .int x1, .int x2] D (tC cy) (wC ad cy) sz σ res :=
  zMi.of (cc := cX5_turn) (maxL := 7) (ret := (some .int)) (by decide) rfl (Nat.le_of_ble_eq_true rfl) (fun p e s m args below meth c hC A hI ls hl => bX5_turn hC hI hl hf)
theorem hdX5_turn : yX5_turn.cls = RX5 ∧ yX5_turn.cls ≠ "java/lang/invoke/MethodHandle" ∧ yX5_turn.cls ≠ "java/lang/invoke/VarHandle" ∧ (parseMethodDescriptor yX5_turn.desc).map (fun d => d.parameters.length) = some 2 := by decide +kernel
noncomputable def rmX5_turned : Room := { frames := 3, cells := 0, slots := 0, locals := 66 }
noncomputable def wzX5_turned : List Cond := .code yX5_turned cX5_turned 4 (some .int) :: wsL_law
noncomputable def fX5_turned  (σ : zSt) (x1 : Int32) (x2 : Int32) : Option (zSt × Int32) :=
  zbv ((x1 >>> ((3 : Int32) &&& 31)) &&& 7) (fun v1 =>
  if (x1 >>> ((6 : Int32) &&& 31)) = 0 then zbi (fX5_turn σ v1 x2) (fun σ2 v3 =>
  some (σ2, v3)) else
  if (x1 >>> ((6 : Int32) &&& 31)) = 2 then some (σ, x2 &&& ((1 <<< (v1 &&& 31)) ^^^ (-1))) else
  some (σ, x2 ||| (1 <<< (v1 &&& 31))))
set_option maxRecDepth 20000 in
set_option maxHeartbeats 4000000 in
theorem bX5_turned {st : Nat → Nat} {p : Program} {l : Launch} {e : Env} {s : State} {m : MethodId} {args : Array Value} {below : List Frame} {meth : Method} {c : Code} {D : va_G} {A : Nat → Prop} {ad : Nat → Nat} {cy : Nat → ClassId} (hC : zC p m c cX5_turned 4 s args wzX5_turned RX5 meth (some .int))  {res : zSt × Int32} {H : Heap} {locs : List Loc} {σ : zSt} {ls : Array Slot} {x1 : Int32} {x2 : Int32} (hI : zI st D (tC cy) (wC ad cy σ) A s H locs) (hl : lv_has ls 4 [(0, .ref (ad 7)), (1, .int x1), (2, .int x2)]) (hf : fX5_turned  σ x1 x2 = some res) : W p l e rmX5_turned s m args below meth c H locs 0 0 (zQi below args s D (tC cy) (wC ad cy) A res) (F0 m 0 ls []) := by
  have hx := hC.1
  have hb := hC.2.1
  unfold fX5_turned at hf
  refine lv_iload_n hx hb dX5_turned_0 rfl (lv_at hl 1 rfl) ?_
  refine lv_iconst (v := 3) hx hb dX5_turned_1 (by decide) ?_
  refine lv_ishr hx hb dX5_turned_2 ?_
  refine lv_bipush (v := 7) hx hb dX5_turned_3 (by decide) ?_
  refine lv_iand hx hb dX5_turned_5 ?_
  refine lv_topi (fun v1 ev1 => ?_)
  replace hf := zbv_use ev1 hf
  refine lv_istore_n (lv' := [(3, .int v1), (0, .ref (ad 7)), (1, .int x1), (2, .int x2)]) hx hb dX5_turned_6 rfl hl (by decide) rfl (fun ls hl => ?_)
  refine lv_iload_n hx hb dX5_turned_7 rfl (lv_at hl 2 rfl) ?_
  refine lv_bipush (v := 6) hx hb dX5_turned_8 (by decide) ?_
  refine lv_ishr hx hb dX5_turned_10 ?_
  by_cases q0 : (x1 >>> ((6 : Int32) &&& 31)) = 0
  · replace hf := zif_t q0 hf
    refine lv_lookup (off := 25) (tgt := 36) hx hb dX5_turned_11 (by decide) (by rw [q0] <;> rfl) (by decide) ?_
    refine lv_aload_n hx hb dX5_turned_36 rfl (lv_at hl 1 rfl) ?_
    refine lv_iload_n hx hb dX5_turned_37 rfl (lv_at hl 0 rfl) ?_
    refine lv_iload_n hx hb dX5_turned_38 rfl (lv_at hl 3 rfl) ?_
    obtain ⟨σ2, v3, g2, hf⟩ := zbi_use hf
    refine z_callVi (As := [.int v1, .int x2]) (rest := []) hC hI (cX5_turn_met st l D ad cy σ v1 x2 _ g2) (zgV zw22_15 zw22_16 zw22_17 zw2_21 zw22_18) rfl ⟨rfl, rfl⟩ 2 hdX5_turn ⟨Nat.le_of_ble_eq_true rfl, Nat.le_of_ble_eq_true rfl⟩ rfl rfl (wC_e7 ad cy σ) rfl hl rfl (Nat.le_of_ble_eq_true rfl) dX5_turned_39 ⟨Nat.zero_le _, Nat.zero_le _⟩ (fun H locs hI => ?_)
    exact z_ireturn hC hI hf dX5_turned_42
  replace hf := zif_f q0 hf
  by_cases q1 : (x1 >>> ((6 : Int32) &&& 31)) = 2
  · replace hf := zif_t q1 hf
    refine lv_lookup (off := 32) (tgt := 43) hx hb dX5_turned_11 (by decide) (by rw [q1] <;> rfl) (by decide) ?_
    refine lv_iload_n hx hb dX5_turned_43 rfl (lv_at hl 3 rfl) ?_
    refine lv_iconst (v := 1) hx hb dX5_turned_44 (by decide) ?_
    refine lv_iload_n hx hb dX5_turned_45 rfl (lv_at hl 0 rfl) ?_
    refine lv_ishl hx hb dX5_turned_46 ?_
    refine lv_iconst (v := (-1)) hx hb dX5_turned_47 (by decide) ?_
    refine lv_ixor hx hb dX5_turned_48 ?_
    refine lv_iand hx hb dX5_turned_49 ?_
    exact z_ireturn hC hI hf dX5_turned_50
  replace hf := zif_f q1 hf
  refine lv_lookup (off := 40) (tgt := 51) hx hb dX5_turned_11 (by decide) (by show Op.lookupswitch.offset [(0, 25), (2, 32)] _ _ = _; rw [lv_osw q0 (by decide), lv_osw q1 (by decide)] <;> rfl) (by decide) ?_
  refine lv_iload_n hx hb dX5_turned_51 rfl (lv_at hl 3 rfl) ?_
  refine lv_iconst (v := 1) hx hb dX5_turned_52 (by decide) ?_
  refine lv_iload_n hx hb dX5_turned_53 rfl (lv_at hl 0 rfl) ?_
  refine lv_ishl hx hb dX5_turned_54 ?_
  refine lv_ior hx hb dX5_turned_55 ?_
  exact z_ireturn hC hI hf dX5_turned_56
set_option maxRecDepth 20000 in
theorem cX5_turned_met (st : Nat → Nat) (l : Launch) (D : va_G) (ad : Nat → Nat) (cy : Nat → ClassId) (σ : zSt) (x1 : Int32) (x2 : Int32) (res : zSt × Int32) (hf : fX5_turned σ x1 x2 = some res) (sz : Nat) : zMi st l yX5_turned wzX5_turned rmX5_turned [.ref (ad 7), .int x1, .int x2] D (tC cy) (wC ad cy) sz σ res :=
  zMi.of (cc := cX5_turned) (maxL := 4) (ret := (some .int)) (by decide) rfl (Nat.le_of_ble_eq_true rfl) (fun p e s m args below meth c hC A hI ls hl => bX5_turned hC hI hl hf)
theorem hdX5_turned : yX5_turned.cls = RX5 ∧ yX5_turned.cls ≠ "java/lang/invoke/MethodHandle" ∧ yX5_turned.cls ≠ "java/lang/invoke/VarHandle" ∧ (parseMethodDescriptor yX5_turned.desc).map (fun d => d.parameters.length) = some 2 := by decide +kernel
end ZJN0
section ZJN1
noncomputable def kn_cX5_takePlace : Nat := 0xac0c100500a709100800a036101b1000b506102a4400b52e14100900b42a2a4f7e2f1260917200b62a2e1000b42a0900b42a14100900b42aac0705009a6e00b81b
theorem zk_cX5_takePlace : zkd cX5_takePlace.data.toList kn_cX5_takePlace = true := by decide +kernel
theorem zn_cX5_takePlace : cX5_takePlace.data.toList.length = 65 := by decide +kernel
theorem dX5_takePlace_0 : decode cX5_takePlace 0 = .ok (.iload_n 1, 1) := zo_27 (zkb zk_cX5_takePlace zn_cX5_takePlace rfl)
theorem dX5_takePlace_1 : decode cX5_takePlace 1 = .ok (.invokestatic 110, 3) := zo_184 (b1 := 0) (b2 := 110) (zkb3 zk_cX5_takePlace zn_cX5_takePlace rfl) rfl
theorem dX5_takePlace_4 : decode cX5_takePlace 4 = .ok (.ifCond .ne 5, 3) := zo_154 (b1 := 0) (b2 := 5) (zkb3 zk_cX5_takePlace zn_cX5_takePlace rfl) rfl
theorem dX5_takePlace_7 : decode cX5_takePlace 7 = .ok (.iconst 4, 1) := zo_7 (zkb zk_cX5_takePlace zn_cX5_takePlace rfl)
theorem dX5_takePlace_8 : decode cX5_takePlace 8 = .ok (.ireturn, 1) := zo_172 (zkb zk_cX5_takePlace zn_cX5_takePlace rfl)
theorem dX5_takePlace_9 : decode cX5_takePlace 9 = .ok (.aload_n 0, 1) := zo_42 (zkb zk_cX5_takePlace zn_cX5_takePlace rfl)
theorem dX5_takePlace_10 : decode cX5_takePlace 10 = .ok (.getfield 9, 3) := zo_180 (b1 := 0) (b2 := 9) (zkb3 zk_cX5_takePlace zn_cX5_takePlace rfl) rfl
theorem dX5_takePlace_13 : decode cX5_takePlace 13 = .ok (.bipush 20, 2) := zo_16 (b1 := 20) (zkb2 zk_cX5_takePlace zn_cX5_takePlace rfl) rfl
theorem dX5_takePlace_15 : decode cX5_takePlace 15 = .ok (.aload_n 0, 1) := zo_42 (zkb zk_cX5_takePlace zn_cX5_takePlace rfl)
theorem dX5_takePlace_16 : decode cX5_takePlace 16 = .ok (.getfield 9, 3) := zo_180 (b1 := 0) (b2 := 9) (zkb3 zk_cX5_takePlace zn_cX5_takePlace rfl) rfl
theorem dX5_takePlace_19 : decode cX5_takePlace 19 = .ok (.aload_n 0, 1) := zo_42 (zkb zk_cX5_takePlace zn_cX5_takePlace rfl)
theorem dX5_takePlace_20 : decode cX5_takePlace 20 = .ok (.getfield 16, 3) := zo_180 (b1 := 0) (b2 := 16) (zkb3 zk_cX5_takePlace zn_cX5_takePlace rfl) rfl
theorem dX5_takePlace_23 : decode cX5_takePlace 23 = .ok (.iaload, 1) := zo_46 (zkb zk_cX5_takePlace zn_cX5_takePlace rfl)
theorem dX5_takePlace_24 : decode cX5_takePlace 24 = .ok (.aload_n 0, 1) := zo_42 (zkb zk_cX5_takePlace zn_cX5_takePlace rfl)
theorem dX5_takePlace_25 : decode cX5_takePlace 25 = .ok (.invokevirtual 114, 3) := zo_182 (b1 := 0) (b2 := 114) (zkb3 zk_cX5_takePlace zn_cX5_takePlace rfl) rfl
theorem dX5_takePlace_28 : decode cX5_takePlace 28 = .ok (.i2b, 1) := zo_145 (zkb zk_cX5_takePlace zn_cX5_takePlace rfl)
theorem dX5_takePlace_29 : decode cX5_takePlace 29 = .ok (.iadd, 1) := zo_96 (zkb zk_cX5_takePlace zn_cX5_takePlace rfl)
theorem dX5_takePlace_30 : decode cX5_takePlace 30 = .ok (.ldc 47, 2) := zo_18 (b1 := 47) (zkb2 zk_cX5_takePlace zn_cX5_takePlace rfl)
theorem dX5_takePlace_32 : decode cX5_takePlace 32 = .ok (.iand, 1) := zo_126 (zkb zk_cX5_takePlace zn_cX5_takePlace rfl)
theorem dX5_takePlace_33 : decode cX5_takePlace 33 = .ok (.iastore, 1) := zo_79 (zkb zk_cX5_takePlace zn_cX5_takePlace rfl)
theorem dX5_takePlace_34 : decode cX5_takePlace 34 = .ok (.aload_n 0, 1) := zo_42 (zkb zk_cX5_takePlace zn_cX5_takePlace rfl)
theorem dX5_takePlace_35 : decode cX5_takePlace 35 = .ok (.aload_n 0, 1) := zo_42 (zkb zk_cX5_takePlace zn_cX5_takePlace rfl)
theorem dX5_takePlace_36 : decode cX5_takePlace 36 = .ok (.getfield 9, 3) := zo_180 (b1 := 0) (b2 := 9) (zkb3 zk_cX5_takePlace zn_cX5_takePlace rfl) rfl
theorem dX5_takePlace_39 : decode cX5_takePlace 39 = .ok (.bipush 20, 2) := zo_16 (b1 := 20) (zkb2 zk_cX5_takePlace zn_cX5_takePlace rfl) rfl
theorem dX5_takePlace_41 : decode cX5_takePlace 41 = .ok (.iaload, 1) := zo_46 (zkb zk_cX5_takePlace zn_cX5_takePlace rfl)
theorem dX5_takePlace_42 : decode cX5_takePlace 42 = .ok (.putfield 68, 3) := zo_181 (b1 := 0) (b2 := 68) (zkb3 zk_cX5_takePlace zn_cX5_takePlace rfl) rfl
theorem dX5_takePlace_45 : decode cX5_takePlace 45 = .ok (.aload_n 0, 1) := zo_42 (zkb zk_cX5_takePlace zn_cX5_takePlace rfl)
theorem dX5_takePlace_46 : decode cX5_takePlace 46 = .ok (.bipush 6, 2) := zo_16 (b1 := 6) (zkb2 zk_cX5_takePlace zn_cX5_takePlace rfl) rfl
theorem dX5_takePlace_48 : decode cX5_takePlace 48 = .ok (.putfield 16, 3) := zo_181 (b1 := 0) (b2 := 16) (zkb3 zk_cX5_takePlace zn_cX5_takePlace rfl) rfl
theorem dX5_takePlace_51 : decode cX5_takePlace 51 = .ok (.iload_n 1, 1) := zo_27 (zkb zk_cX5_takePlace zn_cX5_takePlace rfl)
theorem dX5_takePlace_52 : decode cX5_takePlace 52 = .ok (.bipush 54, 2) := zo_16 (b1 := 54) (zkb2 zk_cX5_takePlace zn_cX5_takePlace rfl) rfl
theorem dX5_takePlace_54 : decode cX5_takePlace 54 = .ok (.if_icmp .ne 8, 3) := zo_160 (b1 := 0) (b2 := 8) (zkb3 zk_cX5_takePlace zn_cX5_takePlace rfl) rfl
theorem dX5_takePlace_57 : decode cX5_takePlace 57 = .ok (.bipush 9, 2) := zo_16 (b1 := 9) (zkb2 zk_cX5_takePlace zn_cX5_takePlace rfl) rfl
theorem dX5_takePlace_59 : decode cX5_takePlace 59 = .ok (.goto 5, 3) := zo_167 (b1 := 0) (b2 := 5) (zkb3 zk_cX5_takePlace zn_cX5_takePlace rfl) rfl
theorem dX5_takePlace_62 : decode cX5_takePlace 62 = .ok (.bipush 12, 2) := zo_16 (b1 := 12) (zkb2 zk_cX5_takePlace zn_cX5_takePlace rfl) rfl
theorem dX5_takePlace_64 : decode cX5_takePlace 64 = .ok (.ireturn, 1) := zo_172 (zkb zk_cX5_takePlace zn_cX5_takePlace rfl)
noncomputable def kn_cX5_meansPlace : Nat := 0xac03ac1cac030400a70407009f1c1bac030400a7040700a306107e07101a1000a1077e07101a1800991b40000000350000001a00000002000000000000004200000000aa7a06101a3d030400a7040700a006107e07101a3c030400a7040700a030107e38101a
theorem zk_cX5_meansPlace : zkd cX5_meansPlace.data.toList kn_cX5_meansPlace = true := by decide +kernel
theorem zn_cX5_meansPlace : cX5_meansPlace.data.toList.length = 102 := by decide +kernel
theorem dX5_meansPlace_0 : decode cX5_meansPlace 0 = .ok (.iload_n 0, 1) := zo_26 (zkb zk_cX5_meansPlace zn_cX5_meansPlace rfl)
theorem dX5_meansPlace_1 : decode cX5_meansPlace 1 = .ok (.bipush 56, 2) := zo_16 (b1 := 56) (zkb2 zk_cX5_meansPlace zn_cX5_meansPlace rfl) rfl
theorem dX5_meansPlace_3 : decode cX5_meansPlace 3 = .ok (.iand, 1) := zo_126 (zkb zk_cX5_meansPlace zn_cX5_meansPlace rfl)
theorem dX5_meansPlace_4 : decode cX5_meansPlace 4 = .ok (.bipush 48, 2) := zo_16 (b1 := 48) (zkb2 zk_cX5_meansPlace zn_cX5_meansPlace rfl) rfl
theorem dX5_meansPlace_6 : decode cX5_meansPlace 6 = .ok (.if_icmp .ne 7, 3) := zo_160 (b1 := 0) (b2 := 7) (zkb3 zk_cX5_meansPlace zn_cX5_meansPlace rfl) rfl
theorem dX5_meansPlace_9 : decode cX5_meansPlace 9 = .ok (.iconst 1, 1) := zo_4 (zkb zk_cX5_meansPlace zn_cX5_meansPlace rfl)
theorem dX5_meansPlace_10 : decode cX5_meansPlace 10 = .ok (.goto 4, 3) := zo_167 (b1 := 0) (b2 := 4) (zkb3 zk_cX5_meansPlace zn_cX5_meansPlace rfl) rfl
theorem dX5_meansPlace_13 : decode cX5_meansPlace 13 = .ok (.iconst 0, 1) := zo_3 (zkb zk_cX5_meansPlace zn_cX5_meansPlace rfl)
theorem dX5_meansPlace_14 : decode cX5_meansPlace 14 = .ok (.istore_n 1, 1) := zo_60 (zkb zk_cX5_meansPlace zn_cX5_meansPlace rfl)
theorem dX5_meansPlace_15 : decode cX5_meansPlace 15 = .ok (.iload_n 0, 1) := zo_26 (zkb zk_cX5_meansPlace zn_cX5_meansPlace rfl)
theorem dX5_meansPlace_16 : decode cX5_meansPlace 16 = .ok (.bipush 7, 2) := zo_16 (b1 := 7) (zkb2 zk_cX5_meansPlace zn_cX5_meansPlace rfl) rfl
theorem dX5_meansPlace_18 : decode cX5_meansPlace 18 = .ok (.iand, 1) := zo_126 (zkb zk_cX5_meansPlace zn_cX5_meansPlace rfl)
theorem dX5_meansPlace_19 : decode cX5_meansPlace 19 = .ok (.bipush 6, 2) := zo_16 (b1 := 6) (zkb2 zk_cX5_meansPlace zn_cX5_meansPlace rfl) rfl
theorem dX5_meansPlace_21 : decode cX5_meansPlace 21 = .ok (.if_icmp .ne 7, 3) := zo_160 (b1 := 0) (b2 := 7) (zkb3 zk_cX5_meansPlace zn_cX5_meansPlace rfl) rfl
theorem dX5_meansPlace_24 : decode cX5_meansPlace 24 = .ok (.iconst 1, 1) := zo_4 (zkb zk_cX5_meansPlace zn_cX5_meansPlace rfl)
theorem dX5_meansPlace_25 : decode cX5_meansPlace 25 = .ok (.goto 4, 3) := zo_167 (b1 := 0) (b2 := 4) (zkb3 zk_cX5_meansPlace zn_cX5_meansPlace rfl) rfl
theorem dX5_meansPlace_28 : decode cX5_meansPlace 28 = .ok (.iconst 0, 1) := zo_3 (zkb zk_cX5_meansPlace zn_cX5_meansPlace rfl)
theorem dX5_meansPlace_29 : decode cX5_meansPlace 29 = .ok (.istore_n 2, 1) := zo_61 (zkb zk_cX5_meansPlace zn_cX5_meansPlace rfl)
theorem dX5_meansPlace_30 : decode cX5_meansPlace 30 = .ok (.iload_n 0, 1) := zo_26 (zkb zk_cX5_meansPlace zn_cX5_meansPlace rfl)
theorem dX5_meansPlace_31 : decode cX5_meansPlace 31 = .ok (.bipush 6, 2) := zo_16 (b1 := 6) (zkb2 zk_cX5_meansPlace zn_cX5_meansPlace rfl) rfl
theorem dX5_meansPlace_33 : decode cX5_meansPlace 33 = .ok (.ishr, 1) := zo_122 (zkb zk_cX5_meansPlace zn_cX5_meansPlace rfl)
theorem dX5_meansPlace_34 : decode cX5_meansPlace 34 = .ok (.tableswitch 66 0 2 #[26, 53, 64], 26) := by decide +kernel
theorem dX5_meansPlace_60 : decode cX5_meansPlace 60 = .ok (.iload_n 1, 1) := zo_27 (zkb zk_cX5_meansPlace zn_cX5_meansPlace rfl)
theorem dX5_meansPlace_61 : decode cX5_meansPlace 61 = .ok (.ifCond .eq 24, 3) := zo_153 (b1 := 0) (b2 := 24) (zkb3 zk_cX5_meansPlace zn_cX5_meansPlace rfl) rfl
theorem dX5_meansPlace_64 : decode cX5_meansPlace 64 = .ok (.iload_n 0, 1) := zo_26 (zkb zk_cX5_meansPlace zn_cX5_meansPlace rfl)
theorem dX5_meansPlace_65 : decode cX5_meansPlace 65 = .ok (.bipush 7, 2) := zo_16 (b1 := 7) (zkb2 zk_cX5_meansPlace zn_cX5_meansPlace rfl) rfl
theorem dX5_meansPlace_67 : decode cX5_meansPlace 67 = .ok (.iand, 1) := zo_126 (zkb zk_cX5_meansPlace zn_cX5_meansPlace rfl)
theorem dX5_meansPlace_68 : decode cX5_meansPlace 68 = .ok (.iconst 4, 1) := zo_7 (zkb zk_cX5_meansPlace zn_cX5_meansPlace rfl)
theorem dX5_meansPlace_69 : decode cX5_meansPlace 69 = .ok (.if_icmp .lt 16, 3) := zo_161 (b1 := 0) (b2 := 16) (zkb3 zk_cX5_meansPlace zn_cX5_meansPlace rfl) rfl
theorem dX5_meansPlace_72 : decode cX5_meansPlace 72 = .ok (.iload_n 0, 1) := zo_26 (zkb zk_cX5_meansPlace zn_cX5_meansPlace rfl)
theorem dX5_meansPlace_73 : decode cX5_meansPlace 73 = .ok (.bipush 7, 2) := zo_16 (b1 := 7) (zkb2 zk_cX5_meansPlace zn_cX5_meansPlace rfl) rfl
theorem dX5_meansPlace_75 : decode cX5_meansPlace 75 = .ok (.iand, 1) := zo_126 (zkb zk_cX5_meansPlace zn_cX5_meansPlace rfl)
theorem dX5_meansPlace_76 : decode cX5_meansPlace 76 = .ok (.bipush 6, 2) := zo_16 (b1 := 6) (zkb2 zk_cX5_meansPlace zn_cX5_meansPlace rfl) rfl
theorem dX5_meansPlace_78 : decode cX5_meansPlace 78 = .ok (.if_icmp .gt 7, 3) := zo_163 (b1 := 0) (b2 := 7) (zkb3 zk_cX5_meansPlace zn_cX5_meansPlace rfl) rfl
theorem dX5_meansPlace_81 : decode cX5_meansPlace 81 = .ok (.iconst 1, 1) := zo_4 (zkb zk_cX5_meansPlace zn_cX5_meansPlace rfl)
theorem dX5_meansPlace_82 : decode cX5_meansPlace 82 = .ok (.goto 4, 3) := zo_167 (b1 := 0) (b2 := 4) (zkb3 zk_cX5_meansPlace zn_cX5_meansPlace rfl) rfl
theorem dX5_meansPlace_85 : decode cX5_meansPlace 85 = .ok (.iconst 0, 1) := zo_3 (zkb zk_cX5_meansPlace zn_cX5_meansPlace rfl)
theorem dX5_meansPlace_86 : decode cX5_meansPlace 86 = .ok (.ireturn, 1) := zo_172 (zkb zk_cX5_meansPlace zn_cX5_meansPlace rfl)
theorem dX5_meansPlace_87 : decode cX5_meansPlace 87 = .ok (.iload_n 1, 1) := zo_27 (zkb zk_cX5_meansPlace zn_cX5_meansPlace rfl)
theorem dX5_meansPlace_88 : decode cX5_meansPlace 88 = .ok (.iload_n 2, 1) := zo_28 (zkb zk_cX5_meansPlace zn_cX5_meansPlace rfl)
theorem dX5_meansPlace_89 : decode cX5_meansPlace 89 = .ok (.if_icmp .eq 7, 3) := zo_159 (b1 := 0) (b2 := 7) (zkb3 zk_cX5_meansPlace zn_cX5_meansPlace rfl) rfl
theorem dX5_meansPlace_92 : decode cX5_meansPlace 92 = .ok (.iconst 1, 1) := zo_4 (zkb zk_cX5_meansPlace zn_cX5_meansPlace rfl)
theorem dX5_meansPlace_93 : decode cX5_meansPlace 93 = .ok (.goto 4, 3) := zo_167 (b1 := 0) (b2 := 4) (zkb3 zk_cX5_meansPlace zn_cX5_meansPlace rfl) rfl
theorem dX5_meansPlace_96 : decode cX5_meansPlace 96 = .ok (.iconst 0, 1) := zo_3 (zkb zk_cX5_meansPlace zn_cX5_meansPlace rfl)
theorem dX5_meansPlace_97 : decode cX5_meansPlace 97 = .ok (.ireturn, 1) := zo_172 (zkb zk_cX5_meansPlace zn_cX5_meansPlace rfl)
theorem dX5_meansPlace_98 : decode cX5_meansPlace 98 = .ok (.iload_n 2, 1) := zo_28 (zkb zk_cX5_meansPlace zn_cX5_meansPlace rfl)
theorem dX5_meansPlace_99 : decode cX5_meansPlace 99 = .ok (.ireturn, 1) := zo_172 (zkb zk_cX5_meansPlace zn_cX5_meansPlace rfl)
theorem dX5_meansPlace_100 : decode cX5_meansPlace 100 = .ok (.iconst 0, 1) := zo_3 (zkb zk_cX5_meansPlace zn_cX5_meansPlace rfl)
theorem dX5_meansPlace_101 : decode cX5_meansPlace 101 = .ok (.ireturn, 1) := zo_172 (zkb zk_cX5_meansPlace zn_cX5_meansPlace rfl)
noncomputable def kn_cX5_fetchWord : Nat := 0xac1b4f7e2f1260052e13100900b42a13100900b42a3c807808104b00b660042e13100900b42a1400b42a4b00b62e13100900b42a1400b42a
theorem zk_cX5_fetchWord : zkd cX5_fetchWord.data.toList kn_cX5_fetchWord = true := by decide +kernel
theorem zn_cX5_fetchWord : cX5_fetchWord.data.toList.length = 56 := by decide +kernel
theorem dX5_fetchWord_0 : decode cX5_fetchWord 0 = .ok (.aload_n 0, 1) := zo_42 (zkb zk_cX5_fetchWord zn_cX5_fetchWord rfl)
theorem dX5_fetchWord_1 : decode cX5_fetchWord 1 = .ok (.getfield 20, 3) := zo_180 (b1 := 0) (b2 := 20) (zkb3 zk_cX5_fetchWord zn_cX5_fetchWord rfl) rfl
theorem dX5_fetchWord_4 : decode cX5_fetchWord 4 = .ok (.aload_n 0, 1) := zo_42 (zkb zk_cX5_fetchWord zn_cX5_fetchWord rfl)
theorem dX5_fetchWord_5 : decode cX5_fetchWord 5 = .ok (.getfield 9, 3) := zo_180 (b1 := 0) (b2 := 9) (zkb3 zk_cX5_fetchWord zn_cX5_fetchWord rfl) rfl
theorem dX5_fetchWord_8 : decode cX5_fetchWord 8 = .ok (.bipush 19, 2) := zo_16 (b1 := 19) (zkb2 zk_cX5_fetchWord zn_cX5_fetchWord rfl) rfl
theorem dX5_fetchWord_10 : decode cX5_fetchWord 10 = .ok (.iaload, 1) := zo_46 (zkb zk_cX5_fetchWord zn_cX5_fetchWord rfl)
theorem dX5_fetchWord_11 : decode cX5_fetchWord 11 = .ok (.invokevirtual 75, 3) := zo_182 (b1 := 0) (b2 := 75) (zkb3 zk_cX5_fetchWord zn_cX5_fetchWord rfl) rfl
theorem dX5_fetchWord_14 : decode cX5_fetchWord 14 = .ok (.aload_n 0, 1) := zo_42 (zkb zk_cX5_fetchWord zn_cX5_fetchWord rfl)
theorem dX5_fetchWord_15 : decode cX5_fetchWord 15 = .ok (.getfield 20, 3) := zo_180 (b1 := 0) (b2 := 20) (zkb3 zk_cX5_fetchWord zn_cX5_fetchWord rfl) rfl
theorem dX5_fetchWord_18 : decode cX5_fetchWord 18 = .ok (.aload_n 0, 1) := zo_42 (zkb zk_cX5_fetchWord zn_cX5_fetchWord rfl)
theorem dX5_fetchWord_19 : decode cX5_fetchWord 19 = .ok (.getfield 9, 3) := zo_180 (b1 := 0) (b2 := 9) (zkb3 zk_cX5_fetchWord zn_cX5_fetchWord rfl) rfl
theorem dX5_fetchWord_22 : decode cX5_fetchWord 22 = .ok (.bipush 19, 2) := zo_16 (b1 := 19) (zkb2 zk_cX5_fetchWord zn_cX5_fetchWord rfl) rfl
theorem dX5_fetchWord_24 : decode cX5_fetchWord 24 = .ok (.iaload, 1) := zo_46 (zkb zk_cX5_fetchWord zn_cX5_fetchWord rfl)
theorem dX5_fetchWord_25 : decode cX5_fetchWord 25 = .ok (.iconst 1, 1) := zo_4 (zkb zk_cX5_fetchWord zn_cX5_fetchWord rfl)
theorem dX5_fetchWord_26 : decode cX5_fetchWord 26 = .ok (.iadd, 1) := zo_96 (zkb zk_cX5_fetchWord zn_cX5_fetchWord rfl)
theorem dX5_fetchWord_27 : decode cX5_fetchWord 27 = .ok (.invokevirtual 75, 3) := zo_182 (b1 := 0) (b2 := 75) (zkb3 zk_cX5_fetchWord zn_cX5_fetchWord rfl) rfl
theorem dX5_fetchWord_30 : decode cX5_fetchWord 30 = .ok (.bipush 8, 2) := zo_16 (b1 := 8) (zkb2 zk_cX5_fetchWord zn_cX5_fetchWord rfl) rfl
theorem dX5_fetchWord_32 : decode cX5_fetchWord 32 = .ok (.ishl, 1) := zo_120 (zkb zk_cX5_fetchWord zn_cX5_fetchWord rfl)
theorem dX5_fetchWord_33 : decode cX5_fetchWord 33 = .ok (.ior, 1) := zo_128 (zkb zk_cX5_fetchWord zn_cX5_fetchWord rfl)
theorem dX5_fetchWord_34 : decode cX5_fetchWord 34 = .ok (.istore_n 1, 1) := zo_60 (zkb zk_cX5_fetchWord zn_cX5_fetchWord rfl)
theorem dX5_fetchWord_35 : decode cX5_fetchWord 35 = .ok (.aload_n 0, 1) := zo_42 (zkb zk_cX5_fetchWord zn_cX5_fetchWord rfl)
theorem dX5_fetchWord_36 : decode cX5_fetchWord 36 = .ok (.getfield 9, 3) := zo_180 (b1 := 0) (b2 := 9) (zkb3 zk_cX5_fetchWord zn_cX5_fetchWord rfl) rfl
theorem dX5_fetchWord_39 : decode cX5_fetchWord 39 = .ok (.bipush 19, 2) := zo_16 (b1 := 19) (zkb2 zk_cX5_fetchWord zn_cX5_fetchWord rfl) rfl
theorem dX5_fetchWord_41 : decode cX5_fetchWord 41 = .ok (.aload_n 0, 1) := zo_42 (zkb zk_cX5_fetchWord zn_cX5_fetchWord rfl)
theorem dX5_fetchWord_42 : decode cX5_fetchWord 42 = .ok (.getfield 9, 3) := zo_180 (b1 := 0) (b2 := 9) (zkb3 zk_cX5_fetchWord zn_cX5_fetchWord rfl) rfl
theorem dX5_fetchWord_45 : decode cX5_fetchWord 45 = .ok (.bipush 19, 2) := zo_16 (b1 := 19) (zkb2 zk_cX5_fetchWord zn_cX5_fetchWord rfl) rfl
theorem dX5_fetchWord_47 : decode cX5_fetchWord 47 = .ok (.iaload, 1) := zo_46 (zkb zk_cX5_fetchWord zn_cX5_fetchWord rfl)
theorem dX5_fetchWord_48 : decode cX5_fetchWord 48 = .ok (.iconst 2, 1) := zo_5 (zkb zk_cX5_fetchWord zn_cX5_fetchWord rfl)
theorem dX5_fetchWord_49 : decode cX5_fetchWord 49 = .ok (.iadd, 1) := zo_96 (zkb zk_cX5_fetchWord zn_cX5_fetchWord rfl)
theorem dX5_fetchWord_50 : decode cX5_fetchWord 50 = .ok (.ldc 47, 2) := zo_18 (b1 := 47) (zkb2 zk_cX5_fetchWord zn_cX5_fetchWord rfl)
theorem dX5_fetchWord_52 : decode cX5_fetchWord 52 = .ok (.iand, 1) := zo_126 (zkb zk_cX5_fetchWord zn_cX5_fetchWord rfl)
theorem dX5_fetchWord_53 : decode cX5_fetchWord 53 = .ok (.iastore, 1) := zo_79 (zkb zk_cX5_fetchWord zn_cX5_fetchWord rfl)
theorem dX5_fetchWord_54 : decode cX5_fetchWord 54 = .ok (.iload_n 1, 1) := zo_27 (zkb zk_cX5_fetchWord zn_cX5_fetchWord rfl)
theorem dX5_fetchWord_55 : decode cX5_fetchWord 55 = .ok (.ireturn, 1) := zo_172 (zkb zk_cX5_fetchWord zn_cX5_fetchWord rfl)
noncomputable def kn_cX5_writeWord : Nat := 0xb17500b67a08101c60041b1400b42a7500b67eff00111c1b1400b42a
theorem zk_cX5_writeWord : zkd cX5_writeWord.data.toList kn_cX5_writeWord = true := by decide +kernel
theorem zn_cX5_writeWord : cX5_writeWord.data.toList.length = 28 := by decide +kernel
theorem dX5_writeWord_0 : decode cX5_writeWord 0 = .ok (.aload_n 0, 1) := zo_42 (zkb zk_cX5_writeWord zn_cX5_writeWord rfl)
theorem dX5_writeWord_1 : decode cX5_writeWord 1 = .ok (.getfield 20, 3) := zo_180 (b1 := 0) (b2 := 20) (zkb3 zk_cX5_writeWord zn_cX5_writeWord rfl) rfl
theorem dX5_writeWord_4 : decode cX5_writeWord 4 = .ok (.iload_n 1, 1) := zo_27 (zkb zk_cX5_writeWord zn_cX5_writeWord rfl)
theorem dX5_writeWord_5 : decode cX5_writeWord 5 = .ok (.iload_n 2, 1) := zo_28 (zkb zk_cX5_writeWord zn_cX5_writeWord rfl)
theorem dX5_writeWord_6 : decode cX5_writeWord 6 = .ok (.sipush 255, 3) := zo_17 (b1 := 0) (b2 := 255) (zkb3 zk_cX5_writeWord zn_cX5_writeWord rfl) rfl
theorem dX5_writeWord_9 : decode cX5_writeWord 9 = .ok (.iand, 1) := zo_126 (zkb zk_cX5_writeWord zn_cX5_writeWord rfl)
theorem dX5_writeWord_10 : decode cX5_writeWord 10 = .ok (.invokevirtual 117, 3) := zo_182 (b1 := 0) (b2 := 117) (zkb3 zk_cX5_writeWord zn_cX5_writeWord rfl) rfl
theorem dX5_writeWord_13 : decode cX5_writeWord 13 = .ok (.aload_n 0, 1) := zo_42 (zkb zk_cX5_writeWord zn_cX5_writeWord rfl)
theorem dX5_writeWord_14 : decode cX5_writeWord 14 = .ok (.getfield 20, 3) := zo_180 (b1 := 0) (b2 := 20) (zkb3 zk_cX5_writeWord zn_cX5_writeWord rfl) rfl
theorem dX5_writeWord_17 : decode cX5_writeWord 17 = .ok (.iload_n 1, 1) := zo_27 (zkb zk_cX5_writeWord zn_cX5_writeWord rfl)
theorem dX5_writeWord_18 : decode cX5_writeWord 18 = .ok (.iconst 1, 1) := zo_4 (zkb zk_cX5_writeWord zn_cX5_writeWord rfl)
theorem dX5_writeWord_19 : decode cX5_writeWord 19 = .ok (.iadd, 1) := zo_96 (zkb zk_cX5_writeWord zn_cX5_writeWord rfl)
theorem dX5_writeWord_20 : decode cX5_writeWord 20 = .ok (.iload_n 2, 1) := zo_28 (zkb zk_cX5_writeWord zn_cX5_writeWord rfl)
theorem dX5_writeWord_21 : decode cX5_writeWord 21 = .ok (.bipush 8, 2) := zo_16 (b1 := 8) (zkb2 zk_cX5_writeWord zn_cX5_writeWord rfl) rfl
theorem dX5_writeWord_23 : decode cX5_writeWord 23 = .ok (.ishr, 1) := zo_122 (zkb zk_cX5_writeWord zn_cX5_writeWord rfl)
theorem dX5_writeWord_24 : decode cX5_writeWord 24 = .ok (.invokevirtual 117, 3) := zo_182 (b1 := 0) (b2 := 117) (zkb3 zk_cX5_writeWord zn_cX5_writeWord rfl) rfl
theorem dX5_writeWord_27 : decode cX5_writeWord 27 = .ok (.return_, 1) := zo_177 (zkb zk_cX5_writeWord zn_cX5_writeWord rfl)
noncomputable def kn_cX5_pop : Nat := 0xac1b4f7e2f1260052e12100900b42a12100900b42a3c807808104b00b660042e12100900b42a1400b42a4b00b62e12100900b42a1400b42a
theorem zk_cX5_pop : zkd cX5_pop.data.toList kn_cX5_pop = true := by decide +kernel
theorem zn_cX5_pop : cX5_pop.data.toList.length = 56 := by decide +kernel
theorem dX5_pop_0 : decode cX5_pop 0 = .ok (.aload_n 0, 1) := zo_42 (zkb zk_cX5_pop zn_cX5_pop rfl)
theorem dX5_pop_1 : decode cX5_pop 1 = .ok (.getfield 20, 3) := zo_180 (b1 := 0) (b2 := 20) (zkb3 zk_cX5_pop zn_cX5_pop rfl) rfl
theorem dX5_pop_4 : decode cX5_pop 4 = .ok (.aload_n 0, 1) := zo_42 (zkb zk_cX5_pop zn_cX5_pop rfl)
theorem dX5_pop_5 : decode cX5_pop 5 = .ok (.getfield 9, 3) := zo_180 (b1 := 0) (b2 := 9) (zkb3 zk_cX5_pop zn_cX5_pop rfl) rfl
theorem dX5_pop_8 : decode cX5_pop 8 = .ok (.bipush 18, 2) := zo_16 (b1 := 18) (zkb2 zk_cX5_pop zn_cX5_pop rfl) rfl
theorem dX5_pop_10 : decode cX5_pop 10 = .ok (.iaload, 1) := zo_46 (zkb zk_cX5_pop zn_cX5_pop rfl)
theorem dX5_pop_11 : decode cX5_pop 11 = .ok (.invokevirtual 75, 3) := zo_182 (b1 := 0) (b2 := 75) (zkb3 zk_cX5_pop zn_cX5_pop rfl) rfl
theorem dX5_pop_14 : decode cX5_pop 14 = .ok (.aload_n 0, 1) := zo_42 (zkb zk_cX5_pop zn_cX5_pop rfl)
theorem dX5_pop_15 : decode cX5_pop 15 = .ok (.getfield 20, 3) := zo_180 (b1 := 0) (b2 := 20) (zkb3 zk_cX5_pop zn_cX5_pop rfl) rfl
theorem dX5_pop_18 : decode cX5_pop 18 = .ok (.aload_n 0, 1) := zo_42 (zkb zk_cX5_pop zn_cX5_pop rfl)
theorem dX5_pop_19 : decode cX5_pop 19 = .ok (.getfield 9, 3) := zo_180 (b1 := 0) (b2 := 9) (zkb3 zk_cX5_pop zn_cX5_pop rfl) rfl
theorem dX5_pop_22 : decode cX5_pop 22 = .ok (.bipush 18, 2) := zo_16 (b1 := 18) (zkb2 zk_cX5_pop zn_cX5_pop rfl) rfl
theorem dX5_pop_24 : decode cX5_pop 24 = .ok (.iaload, 1) := zo_46 (zkb zk_cX5_pop zn_cX5_pop rfl)
theorem dX5_pop_25 : decode cX5_pop 25 = .ok (.iconst 1, 1) := zo_4 (zkb zk_cX5_pop zn_cX5_pop rfl)
theorem dX5_pop_26 : decode cX5_pop 26 = .ok (.iadd, 1) := zo_96 (zkb zk_cX5_pop zn_cX5_pop rfl)
theorem dX5_pop_27 : decode cX5_pop 27 = .ok (.invokevirtual 75, 3) := zo_182 (b1 := 0) (b2 := 75) (zkb3 zk_cX5_pop zn_cX5_pop rfl) rfl
theorem dX5_pop_30 : decode cX5_pop 30 = .ok (.bipush 8, 2) := zo_16 (b1 := 8) (zkb2 zk_cX5_pop zn_cX5_pop rfl) rfl
theorem dX5_pop_32 : decode cX5_pop 32 = .ok (.ishl, 1) := zo_120 (zkb zk_cX5_pop zn_cX5_pop rfl)
theorem dX5_pop_33 : decode cX5_pop 33 = .ok (.ior, 1) := zo_128 (zkb zk_cX5_pop zn_cX5_pop rfl)
theorem dX5_pop_34 : decode cX5_pop 34 = .ok (.istore_n 1, 1) := zo_60 (zkb zk_cX5_pop zn_cX5_pop rfl)
theorem dX5_pop_35 : decode cX5_pop 35 = .ok (.aload_n 0, 1) := zo_42 (zkb zk_cX5_pop zn_cX5_pop rfl)
theorem dX5_pop_36 : decode cX5_pop 36 = .ok (.getfield 9, 3) := zo_180 (b1 := 0) (b2 := 9) (zkb3 zk_cX5_pop zn_cX5_pop rfl) rfl
theorem dX5_pop_39 : decode cX5_pop 39 = .ok (.bipush 18, 2) := zo_16 (b1 := 18) (zkb2 zk_cX5_pop zn_cX5_pop rfl) rfl
theorem dX5_pop_41 : decode cX5_pop 41 = .ok (.aload_n 0, 1) := zo_42 (zkb zk_cX5_pop zn_cX5_pop rfl)
theorem dX5_pop_42 : decode cX5_pop 42 = .ok (.getfield 9, 3) := zo_180 (b1 := 0) (b2 := 9) (zkb3 zk_cX5_pop zn_cX5_pop rfl) rfl
theorem dX5_pop_45 : decode cX5_pop 45 = .ok (.bipush 18, 2) := zo_16 (b1 := 18) (zkb2 zk_cX5_pop zn_cX5_pop rfl) rfl
theorem dX5_pop_47 : decode cX5_pop 47 = .ok (.iaload, 1) := zo_46 (zkb zk_cX5_pop zn_cX5_pop rfl)
theorem dX5_pop_48 : decode cX5_pop 48 = .ok (.iconst 2, 1) := zo_5 (zkb zk_cX5_pop zn_cX5_pop rfl)
theorem dX5_pop_49 : decode cX5_pop 49 = .ok (.iadd, 1) := zo_96 (zkb zk_cX5_pop zn_cX5_pop rfl)
theorem dX5_pop_50 : decode cX5_pop 50 = .ok (.ldc 47, 2) := zo_18 (b1 := 47) (zkb2 zk_cX5_pop zn_cX5_pop rfl)
theorem dX5_pop_52 : decode cX5_pop 52 = .ok (.iand, 1) := zo_126 (zkb zk_cX5_pop zn_cX5_pop rfl)
theorem dX5_pop_53 : decode cX5_pop 53 = .ok (.iastore, 1) := zo_79 (zkb zk_cX5_pop zn_cX5_pop rfl)
theorem dX5_pop_54 : decode cX5_pop 54 = .ok (.iload_n 1, 1) := zo_27 (zkb zk_cX5_pop zn_cX5_pop rfl)
theorem dX5_pop_55 : decode cX5_pop 55 = .ok (.ireturn, 1) := zo_172 (zkb zk_cX5_pop zn_cX5_pop rfl)
noncomputable def kn_cX5_putPairAt : Nat := 0xb14f7eff00111c60041b0900b42a4f7eff00117a08101c1b0900b42a
theorem zk_cX5_putPairAt : zkd cX5_putPairAt.data.toList kn_cX5_putPairAt = true := by decide +kernel
theorem zn_cX5_putPairAt : cX5_putPairAt.data.toList.length = 28 := by decide +kernel
theorem dX5_putPairAt_0 : decode cX5_putPairAt 0 = .ok (.aload_n 0, 1) := zo_42 (zkb zk_cX5_putPairAt zn_cX5_putPairAt rfl)
theorem dX5_putPairAt_1 : decode cX5_putPairAt 1 = .ok (.getfield 9, 3) := zo_180 (b1 := 0) (b2 := 9) (zkb3 zk_cX5_putPairAt zn_cX5_putPairAt rfl) rfl
theorem dX5_putPairAt_4 : decode cX5_putPairAt 4 = .ok (.iload_n 1, 1) := zo_27 (zkb zk_cX5_putPairAt zn_cX5_putPairAt rfl)
theorem dX5_putPairAt_5 : decode cX5_putPairAt 5 = .ok (.iload_n 2, 1) := zo_28 (zkb zk_cX5_putPairAt zn_cX5_putPairAt rfl)
theorem dX5_putPairAt_6 : decode cX5_putPairAt 6 = .ok (.bipush 8, 2) := zo_16 (b1 := 8) (zkb2 zk_cX5_putPairAt zn_cX5_putPairAt rfl) rfl
theorem dX5_putPairAt_8 : decode cX5_putPairAt 8 = .ok (.ishr, 1) := zo_122 (zkb zk_cX5_putPairAt zn_cX5_putPairAt rfl)
theorem dX5_putPairAt_9 : decode cX5_putPairAt 9 = .ok (.sipush 255, 3) := zo_17 (b1 := 0) (b2 := 255) (zkb3 zk_cX5_putPairAt zn_cX5_putPairAt rfl) rfl
theorem dX5_putPairAt_12 : decode cX5_putPairAt 12 = .ok (.iand, 1) := zo_126 (zkb zk_cX5_putPairAt zn_cX5_putPairAt rfl)
theorem dX5_putPairAt_13 : decode cX5_putPairAt 13 = .ok (.iastore, 1) := zo_79 (zkb zk_cX5_putPairAt zn_cX5_putPairAt rfl)
theorem dX5_putPairAt_14 : decode cX5_putPairAt 14 = .ok (.aload_n 0, 1) := zo_42 (zkb zk_cX5_putPairAt zn_cX5_putPairAt rfl)
theorem dX5_putPairAt_15 : decode cX5_putPairAt 15 = .ok (.getfield 9, 3) := zo_180 (b1 := 0) (b2 := 9) (zkb3 zk_cX5_putPairAt zn_cX5_putPairAt rfl) rfl
theorem dX5_putPairAt_18 : decode cX5_putPairAt 18 = .ok (.iload_n 1, 1) := zo_27 (zkb zk_cX5_putPairAt zn_cX5_putPairAt rfl)
theorem dX5_putPairAt_19 : decode cX5_putPairAt 19 = .ok (.iconst 1, 1) := zo_4 (zkb zk_cX5_putPairAt zn_cX5_putPairAt rfl)
theorem dX5_putPairAt_20 : decode cX5_putPairAt 20 = .ok (.iadd, 1) := zo_96 (zkb zk_cX5_putPairAt zn_cX5_putPairAt rfl)
theorem dX5_putPairAt_21 : decode cX5_putPairAt 21 = .ok (.iload_n 2, 1) := zo_28 (zkb zk_cX5_putPairAt zn_cX5_putPairAt rfl)
theorem dX5_putPairAt_22 : decode cX5_putPairAt 22 = .ok (.sipush 255, 3) := zo_17 (b1 := 0) (b2 := 255) (zkb3 zk_cX5_putPairAt zn_cX5_putPairAt rfl) rfl
theorem dX5_putPairAt_25 : decode cX5_putPairAt 25 = .ok (.iand, 1) := zo_126 (zkb zk_cX5_putPairAt zn_cX5_putPairAt rfl)
theorem dX5_putPairAt_26 : decode cX5_putPairAt 26 = .ok (.iastore, 1) := zo_79 (zkb zk_cX5_putPairAt zn_cX5_putPairAt rfl)
theorem dX5_putPairAt_27 : decode cX5_putPairAt 27 = .ok (.return_, 1) := zo_177 (zkb zk_cX5_putPairAt zn_cX5_putPairAt rfl)
noncomputable def kn_cX5_hl : Nat := 0xac2e1000b42a0900b42a0c00a74100b606102a0c00a006101000b42a
theorem zk_cX5_hl : zkd cX5_hl.data.toList kn_cX5_hl = true := by decide +kernel
theorem zn_cX5_hl : cX5_hl.data.toList.length = 28 := by decide +kernel
theorem dX5_hl_0 : decode cX5_hl 0 = .ok (.aload_n 0, 1) := zo_42 (zkb zk_cX5_hl zn_cX5_hl rfl)
theorem dX5_hl_1 : decode cX5_hl 1 = .ok (.getfield 16, 3) := zo_180 (b1 := 0) (b2 := 16) (zkb3 zk_cX5_hl zn_cX5_hl rfl) rfl
theorem dX5_hl_4 : decode cX5_hl 4 = .ok (.bipush 6, 2) := zo_16 (b1 := 6) (zkb2 zk_cX5_hl zn_cX5_hl rfl) rfl
theorem dX5_hl_6 : decode cX5_hl 6 = .ok (.if_icmp .ne 12, 3) := zo_160 (b1 := 0) (b2 := 12) (zkb3 zk_cX5_hl zn_cX5_hl rfl) rfl
theorem dX5_hl_9 : decode cX5_hl 9 = .ok (.aload_n 0, 1) := zo_42 (zkb zk_cX5_hl zn_cX5_hl rfl)
theorem dX5_hl_10 : decode cX5_hl 10 = .ok (.bipush 6, 2) := zo_16 (b1 := 6) (zkb2 zk_cX5_hl zn_cX5_hl rfl) rfl
theorem dX5_hl_12 : decode cX5_hl 12 = .ok (.invokevirtual 65, 3) := zo_182 (b1 := 0) (b2 := 65) (zkb3 zk_cX5_hl zn_cX5_hl rfl) rfl
theorem dX5_hl_15 : decode cX5_hl 15 = .ok (.goto 12, 3) := zo_167 (b1 := 0) (b2 := 12) (zkb3 zk_cX5_hl zn_cX5_hl rfl) rfl
theorem dX5_hl_18 : decode cX5_hl 18 = .ok (.aload_n 0, 1) := zo_42 (zkb zk_cX5_hl zn_cX5_hl rfl)
theorem dX5_hl_19 : decode cX5_hl 19 = .ok (.getfield 9, 3) := zo_180 (b1 := 0) (b2 := 9) (zkb3 zk_cX5_hl zn_cX5_hl rfl) rfl
theorem dX5_hl_22 : decode cX5_hl 22 = .ok (.aload_n 0, 1) := zo_42 (zkb zk_cX5_hl zn_cX5_hl rfl)
theorem dX5_hl_23 : decode cX5_hl 23 = .ok (.getfield 16, 3) := zo_180 (b1 := 0) (b2 := 16) (zkb3 zk_cX5_hl zn_cX5_hl rfl) rfl
theorem dX5_hl_26 : decode cX5_hl 26 = .ok (.iaload, 1) := zo_46 (zkb zk_cX5_hl zn_cX5_hl rfl)
theorem dX5_hl_27 : decode cX5_hl 27 = .ok (.ireturn, 1) := zo_172 (zkb zk_cX5_hl zn_cX5_hl rfl)
noncomputable def kn_cX5_putHl : Nat := 0xb14f7e2f121b1000b42a0900b42a1000a77900b61b06102a0d00a006101000b42a
theorem zk_cX5_putHl : zkd cX5_putHl.data.toList kn_cX5_putHl = true := by decide +kernel
theorem zn_cX5_putHl : cX5_putHl.data.toList.length = 33 := by decide +kernel
theorem dX5_putHl_0 : decode cX5_putHl 0 = .ok (.aload_n 0, 1) := zo_42 (zkb zk_cX5_putHl zn_cX5_putHl rfl)
theorem dX5_putHl_1 : decode cX5_putHl 1 = .ok (.getfield 16, 3) := zo_180 (b1 := 0) (b2 := 16) (zkb3 zk_cX5_putHl zn_cX5_putHl rfl) rfl
theorem dX5_putHl_4 : decode cX5_putHl 4 = .ok (.bipush 6, 2) := zo_16 (b1 := 6) (zkb2 zk_cX5_putHl zn_cX5_putHl rfl) rfl
theorem dX5_putHl_6 : decode cX5_putHl 6 = .ok (.if_icmp .ne 13, 3) := zo_160 (b1 := 0) (b2 := 13) (zkb3 zk_cX5_putHl zn_cX5_putHl rfl) rfl
theorem dX5_putHl_9 : decode cX5_putHl 9 = .ok (.aload_n 0, 1) := zo_42 (zkb zk_cX5_putHl zn_cX5_putHl rfl)
theorem dX5_putHl_10 : decode cX5_putHl 10 = .ok (.bipush 6, 2) := zo_16 (b1 := 6) (zkb2 zk_cX5_putHl zn_cX5_putHl rfl) rfl
theorem dX5_putHl_12 : decode cX5_putHl 12 = .ok (.iload_n 1, 1) := zo_27 (zkb zk_cX5_putHl zn_cX5_putHl rfl)
theorem dX5_putHl_13 : decode cX5_putHl 13 = .ok (.invokevirtual 121, 3) := zo_182 (b1 := 0) (b2 := 121) (zkb3 zk_cX5_putHl zn_cX5_putHl rfl) rfl
theorem dX5_putHl_16 : decode cX5_putHl 16 = .ok (.goto 16, 3) := zo_167 (b1 := 0) (b2 := 16) (zkb3 zk_cX5_putHl zn_cX5_putHl rfl) rfl
theorem dX5_putHl_19 : decode cX5_putHl 19 = .ok (.aload_n 0, 1) := zo_42 (zkb zk_cX5_putHl zn_cX5_putHl rfl)
theorem dX5_putHl_20 : decode cX5_putHl 20 = .ok (.getfield 9, 3) := zo_180 (b1 := 0) (b2 := 9) (zkb3 zk_cX5_putHl zn_cX5_putHl rfl) rfl
theorem dX5_putHl_23 : decode cX5_putHl 23 = .ok (.aload_n 0, 1) := zo_42 (zkb zk_cX5_putHl zn_cX5_putHl rfl)
theorem dX5_putHl_24 : decode cX5_putHl 24 = .ok (.getfield 16, 3) := zo_180 (b1 := 0) (b2 := 16) (zkb3 zk_cX5_putHl zn_cX5_putHl rfl) rfl
theorem dX5_putHl_27 : decode cX5_putHl 27 = .ok (.iload_n 1, 1) := zo_27 (zkb zk_cX5_putHl zn_cX5_putHl rfl)
theorem dX5_putHl_28 : decode cX5_putHl 28 = .ok (.ldc 47, 2) := zo_18 (b1 := 47) (zkb2 zk_cX5_putHl zn_cX5_putHl rfl)
theorem dX5_putHl_30 : decode cX5_putHl 30 = .ok (.iand, 1) := zo_126 (zkb zk_cX5_putHl zn_cX5_putHl rfl)
theorem dX5_putHl_31 : decode cX5_putHl 31 = .ok (.iastore, 1) := zo_79 (zkb zk_cX5_putHl zn_cX5_putHl rfl)
theorem dX5_putHl_32 : decode cX5_putHl 32 = .ok (.return_, 1) := zo_177 (zkb zk_cX5_putHl zn_cX5_putHl rfl)
noncomputable def kn_cX5_pair : Nat := 0xac2e12100900b42aac7c00b62aac4100b6072aac4100b6052a27000000210000001b00000002000000000000002c0000000000aa1b
theorem zk_cX5_pair : zkd cX5_pair.data.toList kn_cX5_pair = true := by decide +kernel
theorem zn_cX5_pair : cX5_pair.data.toList.length = 53 := by decide +kernel
theorem dX5_pair_0 : decode cX5_pair 0 = .ok (.iload_n 1, 1) := zo_27 (zkb zk_cX5_pair zn_cX5_pair rfl)
theorem dX5_pair_1 : decode cX5_pair 1 = .ok (.tableswitch 44 0 2 #[27, 33, 39], 27) := by decide +kernel
theorem dX5_pair_28 : decode cX5_pair 28 = .ok (.aload_n 0, 1) := zo_42 (zkb zk_cX5_pair zn_cX5_pair rfl)
theorem dX5_pair_29 : decode cX5_pair 29 = .ok (.iconst 2, 1) := zo_5 (zkb zk_cX5_pair zn_cX5_pair rfl)
theorem dX5_pair_30 : decode cX5_pair 30 = .ok (.invokevirtual 65, 3) := zo_182 (b1 := 0) (b2 := 65) (zkb3 zk_cX5_pair zn_cX5_pair rfl) rfl
theorem dX5_pair_33 : decode cX5_pair 33 = .ok (.ireturn, 1) := zo_172 (zkb zk_cX5_pair zn_cX5_pair rfl)
theorem dX5_pair_34 : decode cX5_pair 34 = .ok (.aload_n 0, 1) := zo_42 (zkb zk_cX5_pair zn_cX5_pair rfl)
theorem dX5_pair_35 : decode cX5_pair 35 = .ok (.iconst 4, 1) := zo_7 (zkb zk_cX5_pair zn_cX5_pair rfl)
theorem dX5_pair_36 : decode cX5_pair 36 = .ok (.invokevirtual 65, 3) := zo_182 (b1 := 0) (b2 := 65) (zkb3 zk_cX5_pair zn_cX5_pair rfl) rfl
theorem dX5_pair_39 : decode cX5_pair 39 = .ok (.ireturn, 1) := zo_172 (zkb zk_cX5_pair zn_cX5_pair rfl)
theorem dX5_pair_40 : decode cX5_pair 40 = .ok (.aload_n 0, 1) := zo_42 (zkb zk_cX5_pair zn_cX5_pair rfl)
theorem dX5_pair_41 : decode cX5_pair 41 = .ok (.invokevirtual 124, 3) := zo_182 (b1 := 0) (b2 := 124) (zkb3 zk_cX5_pair zn_cX5_pair rfl) rfl
theorem dX5_pair_44 : decode cX5_pair 44 = .ok (.ireturn, 1) := zo_172 (zkb zk_cX5_pair zn_cX5_pair rfl)
theorem dX5_pair_45 : decode cX5_pair 45 = .ok (.aload_n 0, 1) := zo_42 (zkb zk_cX5_pair zn_cX5_pair rfl)
theorem dX5_pair_46 : decode cX5_pair 46 = .ok (.getfield 9, 3) := zo_180 (b1 := 0) (b2 := 9) (zkb3 zk_cX5_pair zn_cX5_pair rfl) rfl
theorem dX5_pair_49 : decode cX5_pair 49 = .ok (.bipush 18, 2) := zo_16 (b1 := 18) (zkb2 zk_cX5_pair zn_cX5_pair rfl) rfl
theorem dX5_pair_51 : decode cX5_pair 51 = .ok (.iaload, 1) := zo_46 (zkb zk_cX5_pair zn_cX5_pair rfl)
theorem dX5_pair_52 : decode cX5_pair 52 = .ok (.ireturn, 1) := zo_172 (zkb zk_cX5_pair zn_cX5_pair rfl)
noncomputable def kn_cX5_putPair : Nat := 0xb14f7e2f121c12100900b42a0e00a77f00b61c2a1600a77900b61c072a1f00a77900b61c052a2d000000240000001b0000000200000000000000350000000000aa1b
theorem zk_cX5_putPair : zkd cX5_putPair.data.toList kn_cX5_putPair = true := by decide +kernel
theorem zn_cX5_putPair : cX5_putPair.data.toList.length = 66 := by decide +kernel
theorem dX5_putPair_0 : decode cX5_putPair 0 = .ok (.iload_n 1, 1) := zo_27 (zkb zk_cX5_putPair zn_cX5_putPair rfl)
theorem dX5_putPair_1 : decode cX5_putPair 1 = .ok (.tableswitch 53 0 2 #[27, 36, 45], 27) := by decide +kernel
theorem dX5_putPair_28 : decode cX5_putPair 28 = .ok (.aload_n 0, 1) := zo_42 (zkb zk_cX5_putPair zn_cX5_putPair rfl)
theorem dX5_putPair_29 : decode cX5_putPair 29 = .ok (.iconst 2, 1) := zo_5 (zkb zk_cX5_putPair zn_cX5_putPair rfl)
theorem dX5_putPair_30 : decode cX5_putPair 30 = .ok (.iload_n 2, 1) := zo_28 (zkb zk_cX5_putPair zn_cX5_putPair rfl)
theorem dX5_putPair_31 : decode cX5_putPair 31 = .ok (.invokevirtual 121, 3) := zo_182 (b1 := 0) (b2 := 121) (zkb3 zk_cX5_putPair zn_cX5_putPair rfl) rfl
theorem dX5_putPair_34 : decode cX5_putPair 34 = .ok (.goto 31, 3) := zo_167 (b1 := 0) (b2 := 31) (zkb3 zk_cX5_putPair zn_cX5_putPair rfl) rfl
theorem dX5_putPair_37 : decode cX5_putPair 37 = .ok (.aload_n 0, 1) := zo_42 (zkb zk_cX5_putPair zn_cX5_putPair rfl)
theorem dX5_putPair_38 : decode cX5_putPair 38 = .ok (.iconst 4, 1) := zo_7 (zkb zk_cX5_putPair zn_cX5_putPair rfl)
theorem dX5_putPair_39 : decode cX5_putPair 39 = .ok (.iload_n 2, 1) := zo_28 (zkb zk_cX5_putPair zn_cX5_putPair rfl)
theorem dX5_putPair_40 : decode cX5_putPair 40 = .ok (.invokevirtual 121, 3) := zo_182 (b1 := 0) (b2 := 121) (zkb3 zk_cX5_putPair zn_cX5_putPair rfl) rfl
theorem dX5_putPair_43 : decode cX5_putPair 43 = .ok (.goto 22, 3) := zo_167 (b1 := 0) (b2 := 22) (zkb3 zk_cX5_putPair zn_cX5_putPair rfl) rfl
theorem dX5_putPair_46 : decode cX5_putPair 46 = .ok (.aload_n 0, 1) := zo_42 (zkb zk_cX5_putPair zn_cX5_putPair rfl)
theorem dX5_putPair_47 : decode cX5_putPair 47 = .ok (.iload_n 2, 1) := zo_28 (zkb zk_cX5_putPair zn_cX5_putPair rfl)
theorem dX5_putPair_48 : decode cX5_putPair 48 = .ok (.invokevirtual 127, 3) := zo_182 (b1 := 0) (b2 := 127) (zkb3 zk_cX5_putPair zn_cX5_putPair rfl) rfl
theorem dX5_putPair_51 : decode cX5_putPair 51 = .ok (.goto 14, 3) := zo_167 (b1 := 0) (b2 := 14) (zkb3 zk_cX5_putPair zn_cX5_putPair rfl) rfl
theorem dX5_putPair_54 : decode cX5_putPair 54 = .ok (.aload_n 0, 1) := zo_42 (zkb zk_cX5_putPair zn_cX5_putPair rfl)
theorem dX5_putPair_55 : decode cX5_putPair 55 = .ok (.getfield 9, 3) := zo_180 (b1 := 0) (b2 := 9) (zkb3 zk_cX5_putPair zn_cX5_putPair rfl) rfl
theorem dX5_putPair_58 : decode cX5_putPair 58 = .ok (.bipush 18, 2) := zo_16 (b1 := 18) (zkb2 zk_cX5_putPair zn_cX5_putPair rfl) rfl
theorem dX5_putPair_60 : decode cX5_putPair 60 = .ok (.iload_n 2, 1) := zo_28 (zkb zk_cX5_putPair zn_cX5_putPair rfl)
theorem dX5_putPair_61 : decode cX5_putPair 61 = .ok (.ldc 47, 2) := zo_18 (b1 := 47) (zkb2 zk_cX5_putPair zn_cX5_putPair rfl)
theorem dX5_putPair_63 : decode cX5_putPair 63 = .ok (.iand, 1) := zo_126 (zkb zk_cX5_putPair zn_cX5_putPair rfl)
theorem dX5_putPair_64 : decode cX5_putPair 64 = .ok (.iastore, 1) := zo_79 (zkb zk_cX5_putPair zn_cX5_putPair rfl)
theorem dX5_putPair_65 : decode cX5_putPair 65 = .ok (.return_, 1) := zo_177 (zkb zk_cX5_putPair zn_cX5_putPair rfl)
noncomputable def kn_cX5_one : Nat := 0xac2e607e061b050900b42aac2e030900b42aac4b00b64400b42a1400b42aac7eff00112e1000b42a0900b42a1000a72e07100900b42a0d00a006101000b42aac7a08102e1000b42a0900b42a0f00a72e06100900b42a0d00a006101000b42a6c000000600000003f0000001f0000000700000004000000730000000000aa1b
theorem zk_cX5_one : zkd cX5_one.data.toList kn_cX5_one = true := by decide +kernel
theorem zn_cX5_one : cX5_one.data.toList.length = 127 := by decide +kernel
theorem dX5_one_0 : decode cX5_one 0 = .ok (.iload_n 1, 1) := zo_27 (zkb zk_cX5_one zn_cX5_one rfl)
theorem dX5_one_1 : decode cX5_one 1 = .ok (.tableswitch 115 4 7 #[31, 63, 96, 108], 31) := by decide +kernel
theorem dX5_one_32 : decode cX5_one 32 = .ok (.aload_n 0, 1) := zo_42 (zkb zk_cX5_one zn_cX5_one rfl)
theorem dX5_one_33 : decode cX5_one 33 = .ok (.getfield 16, 3) := zo_180 (b1 := 0) (b2 := 16) (zkb3 zk_cX5_one zn_cX5_one rfl) rfl
theorem dX5_one_36 : decode cX5_one 36 = .ok (.bipush 6, 2) := zo_16 (b1 := 6) (zkb2 zk_cX5_one zn_cX5_one rfl) rfl
theorem dX5_one_38 : decode cX5_one 38 = .ok (.if_icmp .ne 13, 3) := zo_160 (b1 := 0) (b2 := 13) (zkb3 zk_cX5_one zn_cX5_one rfl) rfl
theorem dX5_one_41 : decode cX5_one 41 = .ok (.aload_n 0, 1) := zo_42 (zkb zk_cX5_one zn_cX5_one rfl)
theorem dX5_one_42 : decode cX5_one 42 = .ok (.getfield 9, 3) := zo_180 (b1 := 0) (b2 := 9) (zkb3 zk_cX5_one zn_cX5_one rfl) rfl
theorem dX5_one_45 : decode cX5_one 45 = .ok (.bipush 6, 2) := zo_16 (b1 := 6) (zkb2 zk_cX5_one zn_cX5_one rfl) rfl
theorem dX5_one_47 : decode cX5_one 47 = .ok (.iaload, 1) := zo_46 (zkb zk_cX5_one zn_cX5_one rfl)
theorem dX5_one_48 : decode cX5_one 48 = .ok (.goto 15, 3) := zo_167 (b1 := 0) (b2 := 15) (zkb3 zk_cX5_one zn_cX5_one rfl) rfl
theorem dX5_one_51 : decode cX5_one 51 = .ok (.aload_n 0, 1) := zo_42 (zkb zk_cX5_one zn_cX5_one rfl)
theorem dX5_one_52 : decode cX5_one 52 = .ok (.getfield 9, 3) := zo_180 (b1 := 0) (b2 := 9) (zkb3 zk_cX5_one zn_cX5_one rfl) rfl
theorem dX5_one_55 : decode cX5_one 55 = .ok (.aload_n 0, 1) := zo_42 (zkb zk_cX5_one zn_cX5_one rfl)
theorem dX5_one_56 : decode cX5_one 56 = .ok (.getfield 16, 3) := zo_180 (b1 := 0) (b2 := 16) (zkb3 zk_cX5_one zn_cX5_one rfl) rfl
theorem dX5_one_59 : decode cX5_one 59 = .ok (.iaload, 1) := zo_46 (zkb zk_cX5_one zn_cX5_one rfl)
theorem dX5_one_60 : decode cX5_one 60 = .ok (.bipush 8, 2) := zo_16 (b1 := 8) (zkb2 zk_cX5_one zn_cX5_one rfl) rfl
theorem dX5_one_62 : decode cX5_one 62 = .ok (.ishr, 1) := zo_122 (zkb zk_cX5_one zn_cX5_one rfl)
theorem dX5_one_63 : decode cX5_one 63 = .ok (.ireturn, 1) := zo_172 (zkb zk_cX5_one zn_cX5_one rfl)
theorem dX5_one_64 : decode cX5_one 64 = .ok (.aload_n 0, 1) := zo_42 (zkb zk_cX5_one zn_cX5_one rfl)
theorem dX5_one_65 : decode cX5_one 65 = .ok (.getfield 16, 3) := zo_180 (b1 := 0) (b2 := 16) (zkb3 zk_cX5_one zn_cX5_one rfl) rfl
theorem dX5_one_68 : decode cX5_one 68 = .ok (.bipush 6, 2) := zo_16 (b1 := 6) (zkb2 zk_cX5_one zn_cX5_one rfl) rfl
theorem dX5_one_70 : decode cX5_one 70 = .ok (.if_icmp .ne 13, 3) := zo_160 (b1 := 0) (b2 := 13) (zkb3 zk_cX5_one zn_cX5_one rfl) rfl
theorem dX5_one_73 : decode cX5_one 73 = .ok (.aload_n 0, 1) := zo_42 (zkb zk_cX5_one zn_cX5_one rfl)
theorem dX5_one_74 : decode cX5_one 74 = .ok (.getfield 9, 3) := zo_180 (b1 := 0) (b2 := 9) (zkb3 zk_cX5_one zn_cX5_one rfl) rfl
theorem dX5_one_77 : decode cX5_one 77 = .ok (.bipush 7, 2) := zo_16 (b1 := 7) (zkb2 zk_cX5_one zn_cX5_one rfl) rfl
theorem dX5_one_79 : decode cX5_one 79 = .ok (.iaload, 1) := zo_46 (zkb zk_cX5_one zn_cX5_one rfl)
theorem dX5_one_80 : decode cX5_one 80 = .ok (.goto 16, 3) := zo_167 (b1 := 0) (b2 := 16) (zkb3 zk_cX5_one zn_cX5_one rfl) rfl
theorem dX5_one_83 : decode cX5_one 83 = .ok (.aload_n 0, 1) := zo_42 (zkb zk_cX5_one zn_cX5_one rfl)
theorem dX5_one_84 : decode cX5_one 84 = .ok (.getfield 9, 3) := zo_180 (b1 := 0) (b2 := 9) (zkb3 zk_cX5_one zn_cX5_one rfl) rfl
theorem dX5_one_87 : decode cX5_one 87 = .ok (.aload_n 0, 1) := zo_42 (zkb zk_cX5_one zn_cX5_one rfl)
theorem dX5_one_88 : decode cX5_one 88 = .ok (.getfield 16, 3) := zo_180 (b1 := 0) (b2 := 16) (zkb3 zk_cX5_one zn_cX5_one rfl) rfl
theorem dX5_one_91 : decode cX5_one 91 = .ok (.iaload, 1) := zo_46 (zkb zk_cX5_one zn_cX5_one rfl)
theorem dX5_one_92 : decode cX5_one 92 = .ok (.sipush 255, 3) := zo_17 (b1 := 0) (b2 := 255) (zkb3 zk_cX5_one zn_cX5_one rfl) rfl
theorem dX5_one_95 : decode cX5_one 95 = .ok (.iand, 1) := zo_126 (zkb zk_cX5_one zn_cX5_one rfl)
theorem dX5_one_96 : decode cX5_one 96 = .ok (.ireturn, 1) := zo_172 (zkb zk_cX5_one zn_cX5_one rfl)
theorem dX5_one_97 : decode cX5_one 97 = .ok (.aload_n 0, 1) := zo_42 (zkb zk_cX5_one zn_cX5_one rfl)
theorem dX5_one_98 : decode cX5_one 98 = .ok (.getfield 20, 3) := zo_180 (b1 := 0) (b2 := 20) (zkb3 zk_cX5_one zn_cX5_one rfl) rfl
theorem dX5_one_101 : decode cX5_one 101 = .ok (.aload_n 0, 1) := zo_42 (zkb zk_cX5_one zn_cX5_one rfl)
theorem dX5_one_102 : decode cX5_one 102 = .ok (.getfield 68, 3) := zo_180 (b1 := 0) (b2 := 68) (zkb3 zk_cX5_one zn_cX5_one rfl) rfl
theorem dX5_one_105 : decode cX5_one 105 = .ok (.invokevirtual 75, 3) := zo_182 (b1 := 0) (b2 := 75) (zkb3 zk_cX5_one zn_cX5_one rfl) rfl
theorem dX5_one_108 : decode cX5_one 108 = .ok (.ireturn, 1) := zo_172 (zkb zk_cX5_one zn_cX5_one rfl)
theorem dX5_one_109 : decode cX5_one 109 = .ok (.aload_n 0, 1) := zo_42 (zkb zk_cX5_one zn_cX5_one rfl)
theorem dX5_one_110 : decode cX5_one 110 = .ok (.getfield 9, 3) := zo_180 (b1 := 0) (b2 := 9) (zkb3 zk_cX5_one zn_cX5_one rfl) rfl
theorem dX5_one_113 : decode cX5_one 113 = .ok (.iconst 0, 1) := zo_3 (zkb zk_cX5_one zn_cX5_one rfl)
theorem dX5_one_114 : decode cX5_one 114 = .ok (.iaload, 1) := zo_46 (zkb zk_cX5_one zn_cX5_one rfl)
theorem dX5_one_115 : decode cX5_one 115 = .ok (.ireturn, 1) := zo_172 (zkb zk_cX5_one zn_cX5_one rfl)
theorem dX5_one_116 : decode cX5_one 116 = .ok (.aload_n 0, 1) := zo_42 (zkb zk_cX5_one zn_cX5_one rfl)
theorem dX5_one_117 : decode cX5_one 117 = .ok (.getfield 9, 3) := zo_180 (b1 := 0) (b2 := 9) (zkb3 zk_cX5_one zn_cX5_one rfl) rfl
theorem dX5_one_120 : decode cX5_one 120 = .ok (.iconst 2, 1) := zo_5 (zkb zk_cX5_one zn_cX5_one rfl)
theorem dX5_one_121 : decode cX5_one 121 = .ok (.iload_n 1, 1) := zo_27 (zkb zk_cX5_one zn_cX5_one rfl)
theorem dX5_one_122 : decode cX5_one 122 = .ok (.iconst 3, 1) := zo_6 (zkb zk_cX5_one zn_cX5_one rfl)
theorem dX5_one_123 : decode cX5_one 123 = .ok (.iand, 1) := zo_126 (zkb zk_cX5_one zn_cX5_one rfl)
theorem dX5_one_124 : decode cX5_one 124 = .ok (.iadd, 1) := zo_96 (zkb zk_cX5_one zn_cX5_one rfl)
theorem dX5_one_125 : decode cX5_one 125 = .ok (.iaload, 1) := zo_46 (zkb zk_cX5_one zn_cX5_one rfl)
theorem dX5_one_126 : decode cX5_one 126 = .ok (.ireturn, 1) := zo_172 (zkb zk_cX5_one zn_cX5_one rfl)
noncomputable def kn_cX5_putOne : Nat := 0xb14f1c607e061b050900b42a0e00a74f1c030900b42a1800a77500b61c4400b42a1400b42a2700a78200b61c07102a3100a78200b61c06102a4200000033000000290000001f00000007000000040000004c0000000000aa1b
theorem zk_cX5_putOne : zkd cX5_putOne.data.toList kn_cX5_putOne = true := by decide +kernel
theorem zn_cX5_putOne : cX5_putOne.data.toList.length = 89 := by decide +kernel
theorem dX5_putOne_0 : decode cX5_putOne 0 = .ok (.iload_n 1, 1) := zo_27 (zkb zk_cX5_putOne zn_cX5_putOne rfl)
theorem dX5_putOne_1 : decode cX5_putOne 1 = .ok (.tableswitch 76 4 7 #[31, 41, 51, 66], 31) := by decide +kernel
theorem dX5_putOne_32 : decode cX5_putOne 32 = .ok (.aload_n 0, 1) := zo_42 (zkb zk_cX5_putOne zn_cX5_putOne rfl)
theorem dX5_putOne_33 : decode cX5_putOne 33 = .ok (.bipush 6, 2) := zo_16 (b1 := 6) (zkb2 zk_cX5_putOne zn_cX5_putOne rfl) rfl
theorem dX5_putOne_35 : decode cX5_putOne 35 = .ok (.iload_n 2, 1) := zo_28 (zkb zk_cX5_putOne zn_cX5_putOne rfl)
theorem dX5_putOne_36 : decode cX5_putOne 36 = .ok (.invokevirtual 130, 3) := zo_182 (b1 := 0) (b2 := 130) (zkb3 zk_cX5_putOne zn_cX5_putOne rfl) rfl
theorem dX5_putOne_39 : decode cX5_putOne 39 = .ok (.goto 49, 3) := zo_167 (b1 := 0) (b2 := 49) (zkb3 zk_cX5_putOne zn_cX5_putOne rfl) rfl
theorem dX5_putOne_42 : decode cX5_putOne 42 = .ok (.aload_n 0, 1) := zo_42 (zkb zk_cX5_putOne zn_cX5_putOne rfl)
theorem dX5_putOne_43 : decode cX5_putOne 43 = .ok (.bipush 7, 2) := zo_16 (b1 := 7) (zkb2 zk_cX5_putOne zn_cX5_putOne rfl) rfl
theorem dX5_putOne_45 : decode cX5_putOne 45 = .ok (.iload_n 2, 1) := zo_28 (zkb zk_cX5_putOne zn_cX5_putOne rfl)
theorem dX5_putOne_46 : decode cX5_putOne 46 = .ok (.invokevirtual 130, 3) := zo_182 (b1 := 0) (b2 := 130) (zkb3 zk_cX5_putOne zn_cX5_putOne rfl) rfl
theorem dX5_putOne_49 : decode cX5_putOne 49 = .ok (.goto 39, 3) := zo_167 (b1 := 0) (b2 := 39) (zkb3 zk_cX5_putOne zn_cX5_putOne rfl) rfl
theorem dX5_putOne_52 : decode cX5_putOne 52 = .ok (.aload_n 0, 1) := zo_42 (zkb zk_cX5_putOne zn_cX5_putOne rfl)
theorem dX5_putOne_53 : decode cX5_putOne 53 = .ok (.getfield 20, 3) := zo_180 (b1 := 0) (b2 := 20) (zkb3 zk_cX5_putOne zn_cX5_putOne rfl) rfl
theorem dX5_putOne_56 : decode cX5_putOne 56 = .ok (.aload_n 0, 1) := zo_42 (zkb zk_cX5_putOne zn_cX5_putOne rfl)
theorem dX5_putOne_57 : decode cX5_putOne 57 = .ok (.getfield 68, 3) := zo_180 (b1 := 0) (b2 := 68) (zkb3 zk_cX5_putOne zn_cX5_putOne rfl) rfl
theorem dX5_putOne_60 : decode cX5_putOne 60 = .ok (.iload_n 2, 1) := zo_28 (zkb zk_cX5_putOne zn_cX5_putOne rfl)
theorem dX5_putOne_61 : decode cX5_putOne 61 = .ok (.invokevirtual 117, 3) := zo_182 (b1 := 0) (b2 := 117) (zkb3 zk_cX5_putOne zn_cX5_putOne rfl) rfl
theorem dX5_putOne_64 : decode cX5_putOne 64 = .ok (.goto 24, 3) := zo_167 (b1 := 0) (b2 := 24) (zkb3 zk_cX5_putOne zn_cX5_putOne rfl) rfl
theorem dX5_putOne_67 : decode cX5_putOne 67 = .ok (.aload_n 0, 1) := zo_42 (zkb zk_cX5_putOne zn_cX5_putOne rfl)
theorem dX5_putOne_68 : decode cX5_putOne 68 = .ok (.getfield 9, 3) := zo_180 (b1 := 0) (b2 := 9) (zkb3 zk_cX5_putOne zn_cX5_putOne rfl) rfl
theorem dX5_putOne_71 : decode cX5_putOne 71 = .ok (.iconst 0, 1) := zo_3 (zkb zk_cX5_putOne zn_cX5_putOne rfl)
theorem dX5_putOne_72 : decode cX5_putOne 72 = .ok (.iload_n 2, 1) := zo_28 (zkb zk_cX5_putOne zn_cX5_putOne rfl)
theorem dX5_putOne_73 : decode cX5_putOne 73 = .ok (.iastore, 1) := zo_79 (zkb zk_cX5_putOne zn_cX5_putOne rfl)
theorem dX5_putOne_74 : decode cX5_putOne 74 = .ok (.goto 14, 3) := zo_167 (b1 := 0) (b2 := 14) (zkb3 zk_cX5_putOne zn_cX5_putOne rfl) rfl
theorem dX5_putOne_77 : decode cX5_putOne 77 = .ok (.aload_n 0, 1) := zo_42 (zkb zk_cX5_putOne zn_cX5_putOne rfl)
theorem dX5_putOne_78 : decode cX5_putOne 78 = .ok (.getfield 9, 3) := zo_180 (b1 := 0) (b2 := 9) (zkb3 zk_cX5_putOne zn_cX5_putOne rfl) rfl
theorem dX5_putOne_81 : decode cX5_putOne 81 = .ok (.iconst 2, 1) := zo_5 (zkb zk_cX5_putOne zn_cX5_putOne rfl)
theorem dX5_putOne_82 : decode cX5_putOne 82 = .ok (.iload_n 1, 1) := zo_27 (zkb zk_cX5_putOne zn_cX5_putOne rfl)
theorem dX5_putOne_83 : decode cX5_putOne 83 = .ok (.iconst 3, 1) := zo_6 (zkb zk_cX5_putOne zn_cX5_putOne rfl)
theorem dX5_putOne_84 : decode cX5_putOne 84 = .ok (.iand, 1) := zo_126 (zkb zk_cX5_putOne zn_cX5_putOne rfl)
theorem dX5_putOne_85 : decode cX5_putOne 85 = .ok (.iadd, 1) := zo_96 (zkb zk_cX5_putOne zn_cX5_putOne rfl)
theorem dX5_putOne_86 : decode cX5_putOne 86 = .ok (.iload_n 2, 1) := zo_28 (zkb zk_cX5_putOne zn_cX5_putOne rfl)
theorem dX5_putOne_87 : decode cX5_putOne 87 = .ok (.iastore, 1) := zo_79 (zkb zk_cX5_putOne zn_cX5_putOne rfl)
theorem dX5_putOne_88 : decode cX5_putOne 88 = .ok (.return_, 1) := zo_177 (zkb zk_cX5_putOne zn_cX5_putOne rfl)
noncomputable def kn_cX5_putPairHalf : Nat := 0xb14f801c7e85122e1000b42a0900b42a1100a7807eff00112e1000b42a0900b42a7808101c1800a006101b1000b42a0900b42a3500a74f1c1b0900b42a0d00a006101000b42a
theorem zk_cX5_putPairHalf : zkd cX5_putPairHalf.data.toList kn_cX5_putPairHalf = true := by decide +kernel
theorem zn_cX5_putPairHalf : cX5_putPairHalf.data.toList.length = 70 := by decide +kernel
theorem dX5_putPairHalf_0 : decode cX5_putPairHalf 0 = .ok (.aload_n 0, 1) := zo_42 (zkb zk_cX5_putPairHalf zn_cX5_putPairHalf rfl)
theorem dX5_putPairHalf_1 : decode cX5_putPairHalf 1 = .ok (.getfield 16, 3) := zo_180 (b1 := 0) (b2 := 16) (zkb3 zk_cX5_putPairHalf zn_cX5_putPairHalf rfl) rfl
theorem dX5_putPairHalf_4 : decode cX5_putPairHalf 4 = .ok (.bipush 6, 2) := zo_16 (b1 := 6) (zkb2 zk_cX5_putPairHalf zn_cX5_putPairHalf rfl) rfl
theorem dX5_putPairHalf_6 : decode cX5_putPairHalf 6 = .ok (.if_icmp .ne 13, 3) := zo_160 (b1 := 0) (b2 := 13) (zkb3 zk_cX5_putPairHalf zn_cX5_putPairHalf rfl) rfl
theorem dX5_putPairHalf_9 : decode cX5_putPairHalf 9 = .ok (.aload_n 0, 1) := zo_42 (zkb zk_cX5_putPairHalf zn_cX5_putPairHalf rfl)
theorem dX5_putPairHalf_10 : decode cX5_putPairHalf 10 = .ok (.getfield 9, 3) := zo_180 (b1 := 0) (b2 := 9) (zkb3 zk_cX5_putPairHalf zn_cX5_putPairHalf rfl) rfl
theorem dX5_putPairHalf_13 : decode cX5_putPairHalf 13 = .ok (.iload_n 1, 1) := zo_27 (zkb zk_cX5_putPairHalf zn_cX5_putPairHalf rfl)
theorem dX5_putPairHalf_14 : decode cX5_putPairHalf 14 = .ok (.iload_n 2, 1) := zo_28 (zkb zk_cX5_putPairHalf zn_cX5_putPairHalf rfl)
theorem dX5_putPairHalf_15 : decode cX5_putPairHalf 15 = .ok (.iastore, 1) := zo_79 (zkb zk_cX5_putPairHalf zn_cX5_putPairHalf rfl)
theorem dX5_putPairHalf_16 : decode cX5_putPairHalf 16 = .ok (.goto 53, 3) := zo_167 (b1 := 0) (b2 := 53) (zkb3 zk_cX5_putPairHalf zn_cX5_putPairHalf rfl) rfl
theorem dX5_putPairHalf_19 : decode cX5_putPairHalf 19 = .ok (.aload_n 0, 1) := zo_42 (zkb zk_cX5_putPairHalf zn_cX5_putPairHalf rfl)
theorem dX5_putPairHalf_20 : decode cX5_putPairHalf 20 = .ok (.getfield 9, 3) := zo_180 (b1 := 0) (b2 := 9) (zkb3 zk_cX5_putPairHalf zn_cX5_putPairHalf rfl) rfl
theorem dX5_putPairHalf_23 : decode cX5_putPairHalf 23 = .ok (.aload_n 0, 1) := zo_42 (zkb zk_cX5_putPairHalf zn_cX5_putPairHalf rfl)
theorem dX5_putPairHalf_24 : decode cX5_putPairHalf 24 = .ok (.getfield 16, 3) := zo_180 (b1 := 0) (b2 := 16) (zkb3 zk_cX5_putPairHalf zn_cX5_putPairHalf rfl) rfl
theorem dX5_putPairHalf_27 : decode cX5_putPairHalf 27 = .ok (.iload_n 1, 1) := zo_27 (zkb zk_cX5_putPairHalf zn_cX5_putPairHalf rfl)
theorem dX5_putPairHalf_28 : decode cX5_putPairHalf 28 = .ok (.bipush 6, 2) := zo_16 (b1 := 6) (zkb2 zk_cX5_putPairHalf zn_cX5_putPairHalf rfl) rfl
theorem dX5_putPairHalf_30 : decode cX5_putPairHalf 30 = .ok (.if_icmp .ne 24, 3) := zo_160 (b1 := 0) (b2 := 24) (zkb3 zk_cX5_putPairHalf zn_cX5_putPairHalf rfl) rfl
theorem dX5_putPairHalf_33 : decode cX5_putPairHalf 33 = .ok (.iload_n 2, 1) := zo_28 (zkb zk_cX5_putPairHalf zn_cX5_putPairHalf rfl)
theorem dX5_putPairHalf_34 : decode cX5_putPairHalf 34 = .ok (.bipush 8, 2) := zo_16 (b1 := 8) (zkb2 zk_cX5_putPairHalf zn_cX5_putPairHalf rfl) rfl
theorem dX5_putPairHalf_36 : decode cX5_putPairHalf 36 = .ok (.ishl, 1) := zo_120 (zkb zk_cX5_putPairHalf zn_cX5_putPairHalf rfl)
theorem dX5_putPairHalf_37 : decode cX5_putPairHalf 37 = .ok (.aload_n 0, 1) := zo_42 (zkb zk_cX5_putPairHalf zn_cX5_putPairHalf rfl)
theorem dX5_putPairHalf_38 : decode cX5_putPairHalf 38 = .ok (.getfield 9, 3) := zo_180 (b1 := 0) (b2 := 9) (zkb3 zk_cX5_putPairHalf zn_cX5_putPairHalf rfl) rfl
theorem dX5_putPairHalf_41 : decode cX5_putPairHalf 41 = .ok (.aload_n 0, 1) := zo_42 (zkb zk_cX5_putPairHalf zn_cX5_putPairHalf rfl)
theorem dX5_putPairHalf_42 : decode cX5_putPairHalf 42 = .ok (.getfield 16, 3) := zo_180 (b1 := 0) (b2 := 16) (zkb3 zk_cX5_putPairHalf zn_cX5_putPairHalf rfl) rfl
theorem dX5_putPairHalf_45 : decode cX5_putPairHalf 45 = .ok (.iaload, 1) := zo_46 (zkb zk_cX5_putPairHalf zn_cX5_putPairHalf rfl)
theorem dX5_putPairHalf_46 : decode cX5_putPairHalf 46 = .ok (.sipush 255, 3) := zo_17 (b1 := 0) (b2 := 255) (zkb3 zk_cX5_putPairHalf zn_cX5_putPairHalf rfl) rfl
theorem dX5_putPairHalf_49 : decode cX5_putPairHalf 49 = .ok (.iand, 1) := zo_126 (zkb zk_cX5_putPairHalf zn_cX5_putPairHalf rfl)
theorem dX5_putPairHalf_50 : decode cX5_putPairHalf 50 = .ok (.ior, 1) := zo_128 (zkb zk_cX5_putPairHalf zn_cX5_putPairHalf rfl)
theorem dX5_putPairHalf_51 : decode cX5_putPairHalf 51 = .ok (.goto 17, 3) := zo_167 (b1 := 0) (b2 := 17) (zkb3 zk_cX5_putPairHalf zn_cX5_putPairHalf rfl) rfl
theorem dX5_putPairHalf_54 : decode cX5_putPairHalf 54 = .ok (.aload_n 0, 1) := zo_42 (zkb zk_cX5_putPairHalf zn_cX5_putPairHalf rfl)
theorem dX5_putPairHalf_55 : decode cX5_putPairHalf 55 = .ok (.getfield 9, 3) := zo_180 (b1 := 0) (b2 := 9) (zkb3 zk_cX5_putPairHalf zn_cX5_putPairHalf rfl) rfl
theorem dX5_putPairHalf_58 : decode cX5_putPairHalf 58 = .ok (.aload_n 0, 1) := zo_42 (zkb zk_cX5_putPairHalf zn_cX5_putPairHalf rfl)
theorem dX5_putPairHalf_59 : decode cX5_putPairHalf 59 = .ok (.getfield 16, 3) := zo_180 (b1 := 0) (b2 := 16) (zkb3 zk_cX5_putPairHalf zn_cX5_putPairHalf rfl) rfl
theorem dX5_putPairHalf_62 : decode cX5_putPairHalf 62 = .ok (.iaload, 1) := zo_46 (zkb zk_cX5_putPairHalf zn_cX5_putPairHalf rfl)
theorem dX5_putPairHalf_63 : decode cX5_putPairHalf 63 = .ok (.ldc 133, 2) := zo_18 (b1 := 133) (zkb2 zk_cX5_putPairHalf zn_cX5_putPairHalf rfl)
theorem dX5_putPairHalf_65 : decode cX5_putPairHalf 65 = .ok (.iand, 1) := zo_126 (zkb zk_cX5_putPairHalf zn_cX5_putPairHalf rfl)
theorem dX5_putPairHalf_66 : decode cX5_putPairHalf 66 = .ok (.iload_n 2, 1) := zo_28 (zkb zk_cX5_putPairHalf zn_cX5_putPairHalf rfl)
theorem dX5_putPairHalf_67 : decode cX5_putPairHalf 67 = .ok (.ior, 1) := zo_128 (zkb zk_cX5_putPairHalf zn_cX5_putPairHalf rfl)
theorem dX5_putPairHalf_68 : decode cX5_putPairHalf 68 = .ok (.iastore, 1) := zo_79 (zkb zk_cX5_putPairHalf zn_cX5_putPairHalf rfl)
theorem dX5_putPairHalf_69 : decode cX5_putPairHalf 69 = .ok (.return_, 1) := zo_177 (zkb zk_cX5_putPairHalf zn_cX5_putPairHalf rfl)
noncomputable def kn_cX5_difference : Nat := 0xac05154f80030400a70407009c0415800580030400a7070700990615807e1010820515821c1bbb00b80515040900b42a06367e8000117e8205151b821c1b05367eff001104150436641d641c1b
theorem zk_cX5_difference : zkd cX5_difference.data.toList kn_cX5_difference = true := by decide +kernel
theorem zn_cX5_difference : cX5_difference.data.toList.length = 77 := by decide +kernel
theorem dX5_difference_0 : decode cX5_difference 0 = .ok (.iload_n 1, 1) := zo_27 (zkb zk_cX5_difference zn_cX5_difference rfl)
theorem dX5_difference_1 : decode cX5_difference 1 = .ok (.iload_n 2, 1) := zo_28 (zkb zk_cX5_difference zn_cX5_difference rfl)
theorem dX5_difference_2 : decode cX5_difference 2 = .ok (.isub, 1) := zo_100 (zkb zk_cX5_difference zn_cX5_difference rfl)
theorem dX5_difference_3 : decode cX5_difference 3 = .ok (.iload_n 3, 1) := zo_29 (zkb zk_cX5_difference zn_cX5_difference rfl)
theorem dX5_difference_4 : decode cX5_difference 4 = .ok (.isub, 1) := zo_100 (zkb zk_cX5_difference zn_cX5_difference rfl)
theorem dX5_difference_5 : decode cX5_difference 5 = .ok (.istore 4, 2) := zo_54 (b1 := 4) (zkb2 zk_cX5_difference zn_cX5_difference rfl)
theorem dX5_difference_7 : decode cX5_difference 7 = .ok (.iload 4, 2) := zo_21 (b1 := 4) (zkb2 zk_cX5_difference zn_cX5_difference rfl)
theorem dX5_difference_9 : decode cX5_difference 9 = .ok (.sipush 255, 3) := zo_17 (b1 := 0) (b2 := 255) (zkb3 zk_cX5_difference zn_cX5_difference rfl) rfl
theorem dX5_difference_12 : decode cX5_difference 12 = .ok (.iand, 1) := zo_126 (zkb zk_cX5_difference zn_cX5_difference rfl)
theorem dX5_difference_13 : decode cX5_difference 13 = .ok (.istore 5, 2) := zo_54 (b1 := 5) (zkb2 zk_cX5_difference zn_cX5_difference rfl)
theorem dX5_difference_15 : decode cX5_difference 15 = .ok (.iload_n 1, 1) := zo_27 (zkb zk_cX5_difference zn_cX5_difference rfl)
theorem dX5_difference_16 : decode cX5_difference 16 = .ok (.iload_n 2, 1) := zo_28 (zkb zk_cX5_difference zn_cX5_difference rfl)
theorem dX5_difference_17 : decode cX5_difference 17 = .ok (.ixor, 1) := zo_130 (zkb zk_cX5_difference zn_cX5_difference rfl)
theorem dX5_difference_18 : decode cX5_difference 18 = .ok (.iload_n 1, 1) := zo_27 (zkb zk_cX5_difference zn_cX5_difference rfl)
theorem dX5_difference_19 : decode cX5_difference 19 = .ok (.iload 5, 2) := zo_21 (b1 := 5) (zkb2 zk_cX5_difference zn_cX5_difference rfl)
theorem dX5_difference_21 : decode cX5_difference 21 = .ok (.ixor, 1) := zo_130 (zkb zk_cX5_difference zn_cX5_difference rfl)
theorem dX5_difference_22 : decode cX5_difference 22 = .ok (.iand, 1) := zo_126 (zkb zk_cX5_difference zn_cX5_difference rfl)
theorem dX5_difference_23 : decode cX5_difference 23 = .ok (.sipush 128, 3) := zo_17 (b1 := 0) (b2 := 128) (zkb3 zk_cX5_difference zn_cX5_difference rfl) rfl
theorem dX5_difference_26 : decode cX5_difference 26 = .ok (.iand, 1) := zo_126 (zkb zk_cX5_difference zn_cX5_difference rfl)
theorem dX5_difference_27 : decode cX5_difference 27 = .ok (.istore 6, 2) := zo_54 (b1 := 6) (zkb2 zk_cX5_difference zn_cX5_difference rfl)
theorem dX5_difference_29 : decode cX5_difference 29 = .ok (.aload_n 0, 1) := zo_42 (zkb zk_cX5_difference zn_cX5_difference rfl)
theorem dX5_difference_30 : decode cX5_difference 30 = .ok (.getfield 9, 3) := zo_180 (b1 := 0) (b2 := 9) (zkb3 zk_cX5_difference zn_cX5_difference rfl) rfl
theorem dX5_difference_33 : decode cX5_difference 33 = .ok (.iconst 1, 1) := zo_4 (zkb zk_cX5_difference zn_cX5_difference rfl)
theorem dX5_difference_34 : decode cX5_difference 34 = .ok (.iload 5, 2) := zo_21 (b1 := 5) (zkb2 zk_cX5_difference zn_cX5_difference rfl)
theorem dX5_difference_36 : decode cX5_difference 36 = .ok (.invokestatic 187, 3) := zo_184 (b1 := 0) (b2 := 187) (zkb3 zk_cX5_difference zn_cX5_difference rfl) rfl
theorem dX5_difference_39 : decode cX5_difference 39 = .ok (.iload_n 1, 1) := zo_27 (zkb zk_cX5_difference zn_cX5_difference rfl)
theorem dX5_difference_40 : decode cX5_difference 40 = .ok (.iload_n 2, 1) := zo_28 (zkb zk_cX5_difference zn_cX5_difference rfl)
theorem dX5_difference_41 : decode cX5_difference 41 = .ok (.ixor, 1) := zo_130 (zkb zk_cX5_difference zn_cX5_difference rfl)
theorem dX5_difference_42 : decode cX5_difference 42 = .ok (.iload 5, 2) := zo_21 (b1 := 5) (zkb2 zk_cX5_difference zn_cX5_difference rfl)
theorem dX5_difference_44 : decode cX5_difference 44 = .ok (.ixor, 1) := zo_130 (zkb zk_cX5_difference zn_cX5_difference rfl)
theorem dX5_difference_45 : decode cX5_difference 45 = .ok (.bipush 16, 2) := zo_16 (b1 := 16) (zkb2 zk_cX5_difference zn_cX5_difference rfl) rfl
theorem dX5_difference_47 : decode cX5_difference 47 = .ok (.iand, 1) := zo_126 (zkb zk_cX5_difference zn_cX5_difference rfl)
theorem dX5_difference_48 : decode cX5_difference 48 = .ok (.ior, 1) := zo_128 (zkb zk_cX5_difference zn_cX5_difference rfl)
theorem dX5_difference_49 : decode cX5_difference 49 = .ok (.iload 6, 2) := zo_21 (b1 := 6) (zkb2 zk_cX5_difference zn_cX5_difference rfl)
theorem dX5_difference_51 : decode cX5_difference 51 = .ok (.ifCond .eq 7, 3) := zo_153 (b1 := 0) (b2 := 7) (zkb3 zk_cX5_difference zn_cX5_difference rfl) rfl
theorem dX5_difference_54 : decode cX5_difference 54 = .ok (.iconst 4, 1) := zo_7 (zkb zk_cX5_difference zn_cX5_difference rfl)
theorem dX5_difference_55 : decode cX5_difference 55 = .ok (.goto 4, 3) := zo_167 (b1 := 0) (b2 := 4) (zkb3 zk_cX5_difference zn_cX5_difference rfl) rfl
theorem dX5_difference_58 : decode cX5_difference 58 = .ok (.iconst 0, 1) := zo_3 (zkb zk_cX5_difference zn_cX5_difference rfl)
theorem dX5_difference_59 : decode cX5_difference 59 = .ok (.ior, 1) := zo_128 (zkb zk_cX5_difference zn_cX5_difference rfl)
theorem dX5_difference_60 : decode cX5_difference 60 = .ok (.iconst 2, 1) := zo_5 (zkb zk_cX5_difference zn_cX5_difference rfl)
theorem dX5_difference_61 : decode cX5_difference 61 = .ok (.ior, 1) := zo_128 (zkb zk_cX5_difference zn_cX5_difference rfl)
theorem dX5_difference_62 : decode cX5_difference 62 = .ok (.iload 4, 2) := zo_21 (b1 := 4) (zkb2 zk_cX5_difference zn_cX5_difference rfl)
theorem dX5_difference_64 : decode cX5_difference 64 = .ok (.ifCond .ge 7, 3) := zo_156 (b1 := 0) (b2 := 7) (zkb3 zk_cX5_difference zn_cX5_difference rfl) rfl
theorem dX5_difference_67 : decode cX5_difference 67 = .ok (.iconst 1, 1) := zo_4 (zkb zk_cX5_difference zn_cX5_difference rfl)
theorem dX5_difference_68 : decode cX5_difference 68 = .ok (.goto 4, 3) := zo_167 (b1 := 0) (b2 := 4) (zkb3 zk_cX5_difference zn_cX5_difference rfl) rfl
theorem dX5_difference_71 : decode cX5_difference 71 = .ok (.iconst 0, 1) := zo_3 (zkb zk_cX5_difference zn_cX5_difference rfl)
theorem dX5_difference_72 : decode cX5_difference 72 = .ok (.ior, 1) := zo_128 (zkb zk_cX5_difference zn_cX5_difference rfl)
theorem dX5_difference_73 : decode cX5_difference 73 = .ok (.iastore, 1) := zo_79 (zkb zk_cX5_difference zn_cX5_difference rfl)
theorem dX5_difference_74 : decode cX5_difference 74 = .ok (.iload 5, 2) := zo_21 (b1 := 5) (zkb2 zk_cX5_difference zn_cX5_difference rfl)
theorem dX5_difference_76 : decode cX5_difference 76 = .ok (.ireturn, 1) := zo_172 (zkb zk_cX5_difference zn_cX5_difference rfl)
noncomputable def kn_cX5_turns : Nat := 0xac08100500a70f100800a006101ca600b6e600b61d1b2a1c2aac08100500a70c100800a006101ce200b61d0400a77a08102e14100900b42a1000a006101c1d7e07107a061b2a3000a0047a06101b3ea000b61c2a3d7e07101b
theorem zk_cX5_turns : zkd cX5_turns.data.toList kn_cX5_turns = true := by decide +kernel
theorem zn_cX5_turns : cX5_turns.data.toList.length = 89 := by decide +kernel
theorem dX5_turns_0 : decode cX5_turns 0 = .ok (.iload_n 1, 1) := zo_27 (zkb zk_cX5_turns zn_cX5_turns rfl)
theorem dX5_turns_1 : decode cX5_turns 1 = .ok (.bipush 7, 2) := zo_16 (b1 := 7) (zkb2 zk_cX5_turns zn_cX5_turns rfl) rfl
theorem dX5_turns_3 : decode cX5_turns 3 = .ok (.iand, 1) := zo_126 (zkb zk_cX5_turns zn_cX5_turns rfl)
theorem dX5_turns_4 : decode cX5_turns 4 = .ok (.istore_n 2, 1) := zo_61 (zkb zk_cX5_turns zn_cX5_turns rfl)
theorem dX5_turns_5 : decode cX5_turns 5 = .ok (.aload_n 0, 1) := zo_42 (zkb zk_cX5_turns zn_cX5_turns rfl)
theorem dX5_turns_6 : decode cX5_turns 6 = .ok (.iload_n 2, 1) := zo_28 (zkb zk_cX5_turns zn_cX5_turns rfl)
theorem dX5_turns_7 : decode cX5_turns 7 = .ok (.invokevirtual 160, 3) := zo_182 (b1 := 0) (b2 := 160) (zkb3 zk_cX5_turns zn_cX5_turns rfl) rfl
theorem dX5_turns_10 : decode cX5_turns 10 = .ok (.istore_n 3, 1) := zo_62 (zkb zk_cX5_turns zn_cX5_turns rfl)
theorem dX5_turns_11 : decode cX5_turns 11 = .ok (.iload_n 1, 1) := zo_27 (zkb zk_cX5_turns zn_cX5_turns rfl)
theorem dX5_turns_12 : decode cX5_turns 12 = .ok (.bipush 6, 2) := zo_16 (b1 := 6) (zkb2 zk_cX5_turns zn_cX5_turns rfl) rfl
theorem dX5_turns_14 : decode cX5_turns 14 = .ok (.ishr, 1) := zo_122 (zkb zk_cX5_turns zn_cX5_turns rfl)
theorem dX5_turns_15 : decode cX5_turns 15 = .ok (.iconst 1, 1) := zo_4 (zkb zk_cX5_turns zn_cX5_turns rfl)
theorem dX5_turns_16 : decode cX5_turns 16 = .ok (.if_icmp .ne 48, 3) := zo_160 (b1 := 0) (b2 := 48) (zkb3 zk_cX5_turns zn_cX5_turns rfl) rfl
theorem dX5_turns_19 : decode cX5_turns 19 = .ok (.aload_n 0, 1) := zo_42 (zkb zk_cX5_turns zn_cX5_turns rfl)
theorem dX5_turns_20 : decode cX5_turns 20 = .ok (.iload_n 1, 1) := zo_27 (zkb zk_cX5_turns zn_cX5_turns rfl)
theorem dX5_turns_21 : decode cX5_turns 21 = .ok (.iconst 3, 1) := zo_6 (zkb zk_cX5_turns zn_cX5_turns rfl)
theorem dX5_turns_22 : decode cX5_turns 22 = .ok (.ishr, 1) := zo_122 (zkb zk_cX5_turns zn_cX5_turns rfl)
theorem dX5_turns_23 : decode cX5_turns 23 = .ok (.bipush 7, 2) := zo_16 (b1 := 7) (zkb2 zk_cX5_turns zn_cX5_turns rfl) rfl
theorem dX5_turns_25 : decode cX5_turns 25 = .ok (.iand, 1) := zo_126 (zkb zk_cX5_turns zn_cX5_turns rfl)
theorem dX5_turns_26 : decode cX5_turns 26 = .ok (.iload_n 3, 1) := zo_29 (zkb zk_cX5_turns zn_cX5_turns rfl)
theorem dX5_turns_27 : decode cX5_turns 27 = .ok (.iload_n 2, 1) := zo_28 (zkb zk_cX5_turns zn_cX5_turns rfl)
theorem dX5_turns_28 : decode cX5_turns 28 = .ok (.bipush 6, 2) := zo_16 (b1 := 6) (zkb2 zk_cX5_turns zn_cX5_turns rfl) rfl
theorem dX5_turns_30 : decode cX5_turns 30 = .ok (.if_icmp .ne 16, 3) := zo_160 (b1 := 0) (b2 := 16) (zkb3 zk_cX5_turns zn_cX5_turns rfl) rfl
theorem dX5_turns_33 : decode cX5_turns 33 = .ok (.aload_n 0, 1) := zo_42 (zkb zk_cX5_turns zn_cX5_turns rfl)
theorem dX5_turns_34 : decode cX5_turns 34 = .ok (.getfield 9, 3) := zo_180 (b1 := 0) (b2 := 9) (zkb3 zk_cX5_turns zn_cX5_turns rfl) rfl
theorem dX5_turns_37 : decode cX5_turns 37 = .ok (.bipush 20, 2) := zo_16 (b1 := 20) (zkb2 zk_cX5_turns zn_cX5_turns rfl) rfl
theorem dX5_turns_39 : decode cX5_turns 39 = .ok (.iaload, 1) := zo_46 (zkb zk_cX5_turns zn_cX5_turns rfl)
theorem dX5_turns_40 : decode cX5_turns 40 = .ok (.bipush 8, 2) := zo_16 (b1 := 8) (zkb2 zk_cX5_turns zn_cX5_turns rfl) rfl
theorem dX5_turns_42 : decode cX5_turns 42 = .ok (.ishr, 1) := zo_122 (zkb zk_cX5_turns zn_cX5_turns rfl)
theorem dX5_turns_43 : decode cX5_turns 43 = .ok (.goto 4, 3) := zo_167 (b1 := 0) (b2 := 4) (zkb3 zk_cX5_turns zn_cX5_turns rfl) rfl
theorem dX5_turns_46 : decode cX5_turns 46 = .ok (.iload_n 3, 1) := zo_29 (zkb zk_cX5_turns zn_cX5_turns rfl)
theorem dX5_turns_47 : decode cX5_turns 47 = .ok (.invokevirtual 226, 3) := zo_182 (b1 := 0) (b2 := 226) (zkb3 zk_cX5_turns zn_cX5_turns rfl) rfl
theorem dX5_turns_50 : decode cX5_turns 50 = .ok (.iload_n 2, 1) := zo_28 (zkb zk_cX5_turns zn_cX5_turns rfl)
theorem dX5_turns_51 : decode cX5_turns 51 = .ok (.bipush 6, 2) := zo_16 (b1 := 6) (zkb2 zk_cX5_turns zn_cX5_turns rfl) rfl
theorem dX5_turns_53 : decode cX5_turns 53 = .ok (.if_icmp .ne 8, 3) := zo_160 (b1 := 0) (b2 := 8) (zkb3 zk_cX5_turns zn_cX5_turns rfl) rfl
theorem dX5_turns_56 : decode cX5_turns 56 = .ok (.bipush 12, 2) := zo_16 (b1 := 12) (zkb2 zk_cX5_turns zn_cX5_turns rfl) rfl
theorem dX5_turns_58 : decode cX5_turns 58 = .ok (.goto 5, 3) := zo_167 (b1 := 0) (b2 := 5) (zkb3 zk_cX5_turns zn_cX5_turns rfl) rfl
theorem dX5_turns_61 : decode cX5_turns 61 = .ok (.bipush 8, 2) := zo_16 (b1 := 8) (zkb2 zk_cX5_turns zn_cX5_turns rfl) rfl
theorem dX5_turns_63 : decode cX5_turns 63 = .ok (.ireturn, 1) := zo_172 (zkb zk_cX5_turns zn_cX5_turns rfl)
theorem dX5_turns_64 : decode cX5_turns 64 = .ok (.aload_n 0, 1) := zo_42 (zkb zk_cX5_turns zn_cX5_turns rfl)
theorem dX5_turns_65 : decode cX5_turns 65 = .ok (.iload_n 2, 1) := zo_28 (zkb zk_cX5_turns zn_cX5_turns rfl)
theorem dX5_turns_66 : decode cX5_turns 66 = .ok (.aload_n 0, 1) := zo_42 (zkb zk_cX5_turns zn_cX5_turns rfl)
theorem dX5_turns_67 : decode cX5_turns 67 = .ok (.iload_n 1, 1) := zo_27 (zkb zk_cX5_turns zn_cX5_turns rfl)
theorem dX5_turns_68 : decode cX5_turns 68 = .ok (.iload_n 3, 1) := zo_29 (zkb zk_cX5_turns zn_cX5_turns rfl)
theorem dX5_turns_69 : decode cX5_turns 69 = .ok (.invokevirtual 230, 3) := zo_182 (b1 := 0) (b2 := 230) (zkb3 zk_cX5_turns zn_cX5_turns rfl) rfl
theorem dX5_turns_72 : decode cX5_turns 72 = .ok (.invokevirtual 166, 3) := zo_182 (b1 := 0) (b2 := 166) (zkb3 zk_cX5_turns zn_cX5_turns rfl) rfl
theorem dX5_turns_75 : decode cX5_turns 75 = .ok (.iload_n 2, 1) := zo_28 (zkb zk_cX5_turns zn_cX5_turns rfl)
theorem dX5_turns_76 : decode cX5_turns 76 = .ok (.bipush 6, 2) := zo_16 (b1 := 6) (zkb2 zk_cX5_turns zn_cX5_turns rfl) rfl
theorem dX5_turns_78 : decode cX5_turns 78 = .ok (.if_icmp .ne 8, 3) := zo_160 (b1 := 0) (b2 := 8) (zkb3 zk_cX5_turns zn_cX5_turns rfl) rfl
theorem dX5_turns_81 : decode cX5_turns 81 = .ok (.bipush 15, 2) := zo_16 (b1 := 15) (zkb2 zk_cX5_turns zn_cX5_turns rfl) rfl
theorem dX5_turns_83 : decode cX5_turns 83 = .ok (.goto 5, 3) := zo_167 (b1 := 0) (b2 := 5) (zkb3 zk_cX5_turns zn_cX5_turns rfl) rfl
theorem dX5_turns_86 : decode cX5_turns 86 = .ok (.bipush 8, 2) := zo_16 (b1 := 8) (zkb2 zk_cX5_turns zn_cX5_turns rfl) rfl
theorem dX5_turns_88 : decode cX5_turns 88 = .ok (.ireturn, 1) := zo_172 (zkb zk_cX5_turns zn_cX5_turns rfl)
noncomputable def kn_cX5_turnBeside : Nat := 0xac1710a600b61d7e07101b2a0c009f06107e07101b7500b61d4400b42a1400b42a3ee600b61c1b2aac1410e200b67a08102e14100900b42a1c7e07107a061b2a1b00a0047a06101b3d4b00b64400b42a1400b42a3c7200b62a1000b506102a4400b52e14100900b42a2a4f7e2f1260917200b62a2e1000b42a0900b42a14100900b42a
theorem zk_cX5_turnBeside : zkd cX5_turnBeside.data.toList kn_cX5_turnBeside = true := by decide +kernel
theorem zn_cX5_turnBeside : cX5_turnBeside.data.toList.length = 131 := by decide +kernel
theorem dX5_turnBeside_0 : decode cX5_turnBeside 0 = .ok (.aload_n 0, 1) := zo_42 (zkb zk_cX5_turnBeside zn_cX5_turnBeside rfl)
theorem dX5_turnBeside_1 : decode cX5_turnBeside 1 = .ok (.getfield 9, 3) := zo_180 (b1 := 0) (b2 := 9) (zkb3 zk_cX5_turnBeside zn_cX5_turnBeside rfl) rfl
theorem dX5_turnBeside_4 : decode cX5_turnBeside 4 = .ok (.bipush 20, 2) := zo_16 (b1 := 20) (zkb2 zk_cX5_turnBeside zn_cX5_turnBeside rfl) rfl
theorem dX5_turnBeside_6 : decode cX5_turnBeside 6 = .ok (.aload_n 0, 1) := zo_42 (zkb zk_cX5_turnBeside zn_cX5_turnBeside rfl)
theorem dX5_turnBeside_7 : decode cX5_turnBeside 7 = .ok (.getfield 9, 3) := zo_180 (b1 := 0) (b2 := 9) (zkb3 zk_cX5_turnBeside zn_cX5_turnBeside rfl) rfl
theorem dX5_turnBeside_10 : decode cX5_turnBeside 10 = .ok (.aload_n 0, 1) := zo_42 (zkb zk_cX5_turnBeside zn_cX5_turnBeside rfl)
theorem dX5_turnBeside_11 : decode cX5_turnBeside 11 = .ok (.getfield 16, 3) := zo_180 (b1 := 0) (b2 := 16) (zkb3 zk_cX5_turnBeside zn_cX5_turnBeside rfl) rfl
theorem dX5_turnBeside_14 : decode cX5_turnBeside 14 = .ok (.iaload, 1) := zo_46 (zkb zk_cX5_turnBeside zn_cX5_turnBeside rfl)
theorem dX5_turnBeside_15 : decode cX5_turnBeside 15 = .ok (.aload_n 0, 1) := zo_42 (zkb zk_cX5_turnBeside zn_cX5_turnBeside rfl)
theorem dX5_turnBeside_16 : decode cX5_turnBeside 16 = .ok (.invokevirtual 114, 3) := zo_182 (b1 := 0) (b2 := 114) (zkb3 zk_cX5_turnBeside zn_cX5_turnBeside rfl) rfl
theorem dX5_turnBeside_19 : decode cX5_turnBeside 19 = .ok (.i2b, 1) := zo_145 (zkb zk_cX5_turnBeside zn_cX5_turnBeside rfl)
theorem dX5_turnBeside_20 : decode cX5_turnBeside 20 = .ok (.iadd, 1) := zo_96 (zkb zk_cX5_turnBeside zn_cX5_turnBeside rfl)
theorem dX5_turnBeside_21 : decode cX5_turnBeside 21 = .ok (.ldc 47, 2) := zo_18 (b1 := 47) (zkb2 zk_cX5_turnBeside zn_cX5_turnBeside rfl)
theorem dX5_turnBeside_23 : decode cX5_turnBeside 23 = .ok (.iand, 1) := zo_126 (zkb zk_cX5_turnBeside zn_cX5_turnBeside rfl)
theorem dX5_turnBeside_24 : decode cX5_turnBeside 24 = .ok (.iastore, 1) := zo_79 (zkb zk_cX5_turnBeside zn_cX5_turnBeside rfl)
theorem dX5_turnBeside_25 : decode cX5_turnBeside 25 = .ok (.aload_n 0, 1) := zo_42 (zkb zk_cX5_turnBeside zn_cX5_turnBeside rfl)
theorem dX5_turnBeside_26 : decode cX5_turnBeside 26 = .ok (.aload_n 0, 1) := zo_42 (zkb zk_cX5_turnBeside zn_cX5_turnBeside rfl)
theorem dX5_turnBeside_27 : decode cX5_turnBeside 27 = .ok (.getfield 9, 3) := zo_180 (b1 := 0) (b2 := 9) (zkb3 zk_cX5_turnBeside zn_cX5_turnBeside rfl) rfl
theorem dX5_turnBeside_30 : decode cX5_turnBeside 30 = .ok (.bipush 20, 2) := zo_16 (b1 := 20) (zkb2 zk_cX5_turnBeside zn_cX5_turnBeside rfl) rfl
theorem dX5_turnBeside_32 : decode cX5_turnBeside 32 = .ok (.iaload, 1) := zo_46 (zkb zk_cX5_turnBeside zn_cX5_turnBeside rfl)
theorem dX5_turnBeside_33 : decode cX5_turnBeside 33 = .ok (.putfield 68, 3) := zo_181 (b1 := 0) (b2 := 68) (zkb3 zk_cX5_turnBeside zn_cX5_turnBeside rfl) rfl
theorem dX5_turnBeside_36 : decode cX5_turnBeside 36 = .ok (.aload_n 0, 1) := zo_42 (zkb zk_cX5_turnBeside zn_cX5_turnBeside rfl)
theorem dX5_turnBeside_37 : decode cX5_turnBeside 37 = .ok (.bipush 6, 2) := zo_16 (b1 := 6) (zkb2 zk_cX5_turnBeside zn_cX5_turnBeside rfl) rfl
theorem dX5_turnBeside_39 : decode cX5_turnBeside 39 = .ok (.putfield 16, 3) := zo_181 (b1 := 0) (b2 := 16) (zkb3 zk_cX5_turnBeside zn_cX5_turnBeside rfl) rfl
theorem dX5_turnBeside_42 : decode cX5_turnBeside 42 = .ok (.aload_n 0, 1) := zo_42 (zkb zk_cX5_turnBeside zn_cX5_turnBeside rfl)
theorem dX5_turnBeside_43 : decode cX5_turnBeside 43 = .ok (.invokevirtual 114, 3) := zo_182 (b1 := 0) (b2 := 114) (zkb3 zk_cX5_turnBeside zn_cX5_turnBeside rfl) rfl
theorem dX5_turnBeside_46 : decode cX5_turnBeside 46 = .ok (.istore_n 1, 1) := zo_60 (zkb zk_cX5_turnBeside zn_cX5_turnBeside rfl)
theorem dX5_turnBeside_47 : decode cX5_turnBeside 47 = .ok (.aload_n 0, 1) := zo_42 (zkb zk_cX5_turnBeside zn_cX5_turnBeside rfl)
theorem dX5_turnBeside_48 : decode cX5_turnBeside 48 = .ok (.getfield 20, 3) := zo_180 (b1 := 0) (b2 := 20) (zkb3 zk_cX5_turnBeside zn_cX5_turnBeside rfl) rfl
theorem dX5_turnBeside_51 : decode cX5_turnBeside 51 = .ok (.aload_n 0, 1) := zo_42 (zkb zk_cX5_turnBeside zn_cX5_turnBeside rfl)
theorem dX5_turnBeside_52 : decode cX5_turnBeside 52 = .ok (.getfield 68, 3) := zo_180 (b1 := 0) (b2 := 68) (zkb3 zk_cX5_turnBeside zn_cX5_turnBeside rfl) rfl
theorem dX5_turnBeside_55 : decode cX5_turnBeside 55 = .ok (.invokevirtual 75, 3) := zo_182 (b1 := 0) (b2 := 75) (zkb3 zk_cX5_turnBeside zn_cX5_turnBeside rfl) rfl
theorem dX5_turnBeside_58 : decode cX5_turnBeside 58 = .ok (.istore_n 2, 1) := zo_61 (zkb zk_cX5_turnBeside zn_cX5_turnBeside rfl)
theorem dX5_turnBeside_59 : decode cX5_turnBeside 59 = .ok (.iload_n 1, 1) := zo_27 (zkb zk_cX5_turnBeside zn_cX5_turnBeside rfl)
theorem dX5_turnBeside_60 : decode cX5_turnBeside 60 = .ok (.bipush 6, 2) := zo_16 (b1 := 6) (zkb2 zk_cX5_turnBeside zn_cX5_turnBeside rfl) rfl
theorem dX5_turnBeside_62 : decode cX5_turnBeside 62 = .ok (.ishr, 1) := zo_122 (zkb zk_cX5_turnBeside zn_cX5_turnBeside rfl)
theorem dX5_turnBeside_63 : decode cX5_turnBeside 63 = .ok (.iconst 1, 1) := zo_4 (zkb zk_cX5_turnBeside zn_cX5_turnBeside rfl)
theorem dX5_turnBeside_64 : decode cX5_turnBeside 64 = .ok (.if_icmp .ne 27, 3) := zo_160 (b1 := 0) (b2 := 27) (zkb3 zk_cX5_turnBeside zn_cX5_turnBeside rfl) rfl
theorem dX5_turnBeside_67 : decode cX5_turnBeside 67 = .ok (.aload_n 0, 1) := zo_42 (zkb zk_cX5_turnBeside zn_cX5_turnBeside rfl)
theorem dX5_turnBeside_68 : decode cX5_turnBeside 68 = .ok (.iload_n 1, 1) := zo_27 (zkb zk_cX5_turnBeside zn_cX5_turnBeside rfl)
theorem dX5_turnBeside_69 : decode cX5_turnBeside 69 = .ok (.iconst 3, 1) := zo_6 (zkb zk_cX5_turnBeside zn_cX5_turnBeside rfl)
theorem dX5_turnBeside_70 : decode cX5_turnBeside 70 = .ok (.ishr, 1) := zo_122 (zkb zk_cX5_turnBeside zn_cX5_turnBeside rfl)
theorem dX5_turnBeside_71 : decode cX5_turnBeside 71 = .ok (.bipush 7, 2) := zo_16 (b1 := 7) (zkb2 zk_cX5_turnBeside zn_cX5_turnBeside rfl) rfl
theorem dX5_turnBeside_73 : decode cX5_turnBeside 73 = .ok (.iand, 1) := zo_126 (zkb zk_cX5_turnBeside zn_cX5_turnBeside rfl)
theorem dX5_turnBeside_74 : decode cX5_turnBeside 74 = .ok (.iload_n 2, 1) := zo_28 (zkb zk_cX5_turnBeside zn_cX5_turnBeside rfl)
theorem dX5_turnBeside_75 : decode cX5_turnBeside 75 = .ok (.aload_n 0, 1) := zo_42 (zkb zk_cX5_turnBeside zn_cX5_turnBeside rfl)
theorem dX5_turnBeside_76 : decode cX5_turnBeside 76 = .ok (.getfield 9, 3) := zo_180 (b1 := 0) (b2 := 9) (zkb3 zk_cX5_turnBeside zn_cX5_turnBeside rfl) rfl
theorem dX5_turnBeside_79 : decode cX5_turnBeside 79 = .ok (.bipush 20, 2) := zo_16 (b1 := 20) (zkb2 zk_cX5_turnBeside zn_cX5_turnBeside rfl) rfl
theorem dX5_turnBeside_81 : decode cX5_turnBeside 81 = .ok (.iaload, 1) := zo_46 (zkb zk_cX5_turnBeside zn_cX5_turnBeside rfl)
theorem dX5_turnBeside_82 : decode cX5_turnBeside 82 = .ok (.bipush 8, 2) := zo_16 (b1 := 8) (zkb2 zk_cX5_turnBeside zn_cX5_turnBeside rfl) rfl
theorem dX5_turnBeside_84 : decode cX5_turnBeside 84 = .ok (.ishr, 1) := zo_122 (zkb zk_cX5_turnBeside zn_cX5_turnBeside rfl)
theorem dX5_turnBeside_85 : decode cX5_turnBeside 85 = .ok (.invokevirtual 226, 3) := zo_182 (b1 := 0) (b2 := 226) (zkb3 zk_cX5_turnBeside zn_cX5_turnBeside rfl) rfl
theorem dX5_turnBeside_88 : decode cX5_turnBeside 88 = .ok (.bipush 20, 2) := zo_16 (b1 := 20) (zkb2 zk_cX5_turnBeside zn_cX5_turnBeside rfl) rfl
theorem dX5_turnBeside_90 : decode cX5_turnBeside 90 = .ok (.ireturn, 1) := zo_172 (zkb zk_cX5_turnBeside zn_cX5_turnBeside rfl)
theorem dX5_turnBeside_91 : decode cX5_turnBeside 91 = .ok (.aload_n 0, 1) := zo_42 (zkb zk_cX5_turnBeside zn_cX5_turnBeside rfl)
theorem dX5_turnBeside_92 : decode cX5_turnBeside 92 = .ok (.iload_n 1, 1) := zo_27 (zkb zk_cX5_turnBeside zn_cX5_turnBeside rfl)
theorem dX5_turnBeside_93 : decode cX5_turnBeside 93 = .ok (.iload_n 2, 1) := zo_28 (zkb zk_cX5_turnBeside zn_cX5_turnBeside rfl)
theorem dX5_turnBeside_94 : decode cX5_turnBeside 94 = .ok (.invokevirtual 230, 3) := zo_182 (b1 := 0) (b2 := 230) (zkb3 zk_cX5_turnBeside zn_cX5_turnBeside rfl) rfl
theorem dX5_turnBeside_97 : decode cX5_turnBeside 97 = .ok (.istore_n 3, 1) := zo_62 (zkb zk_cX5_turnBeside zn_cX5_turnBeside rfl)
theorem dX5_turnBeside_98 : decode cX5_turnBeside 98 = .ok (.aload_n 0, 1) := zo_42 (zkb zk_cX5_turnBeside zn_cX5_turnBeside rfl)
theorem dX5_turnBeside_99 : decode cX5_turnBeside 99 = .ok (.getfield 20, 3) := zo_180 (b1 := 0) (b2 := 20) (zkb3 zk_cX5_turnBeside zn_cX5_turnBeside rfl) rfl
theorem dX5_turnBeside_102 : decode cX5_turnBeside 102 = .ok (.aload_n 0, 1) := zo_42 (zkb zk_cX5_turnBeside zn_cX5_turnBeside rfl)
theorem dX5_turnBeside_103 : decode cX5_turnBeside 103 = .ok (.getfield 68, 3) := zo_180 (b1 := 0) (b2 := 68) (zkb3 zk_cX5_turnBeside zn_cX5_turnBeside rfl) rfl
theorem dX5_turnBeside_106 : decode cX5_turnBeside 106 = .ok (.iload_n 3, 1) := zo_29 (zkb zk_cX5_turnBeside zn_cX5_turnBeside rfl)
theorem dX5_turnBeside_107 : decode cX5_turnBeside 107 = .ok (.invokevirtual 117, 3) := zo_182 (b1 := 0) (b2 := 117) (zkb3 zk_cX5_turnBeside zn_cX5_turnBeside rfl) rfl
theorem dX5_turnBeside_110 : decode cX5_turnBeside 110 = .ok (.iload_n 1, 1) := zo_27 (zkb zk_cX5_turnBeside zn_cX5_turnBeside rfl)
theorem dX5_turnBeside_111 : decode cX5_turnBeside 111 = .ok (.bipush 7, 2) := zo_16 (b1 := 7) (zkb2 zk_cX5_turnBeside zn_cX5_turnBeside rfl) rfl
theorem dX5_turnBeside_113 : decode cX5_turnBeside 113 = .ok (.iand, 1) := zo_126 (zkb zk_cX5_turnBeside zn_cX5_turnBeside rfl)
theorem dX5_turnBeside_114 : decode cX5_turnBeside 114 = .ok (.bipush 6, 2) := zo_16 (b1 := 6) (zkb2 zk_cX5_turnBeside zn_cX5_turnBeside rfl) rfl
theorem dX5_turnBeside_116 : decode cX5_turnBeside 116 = .ok (.if_icmp .eq 12, 3) := zo_159 (b1 := 0) (b2 := 12) (zkb3 zk_cX5_turnBeside zn_cX5_turnBeside rfl) rfl
theorem dX5_turnBeside_119 : decode cX5_turnBeside 119 = .ok (.aload_n 0, 1) := zo_42 (zkb zk_cX5_turnBeside zn_cX5_turnBeside rfl)
theorem dX5_turnBeside_120 : decode cX5_turnBeside 120 = .ok (.iload_n 1, 1) := zo_27 (zkb zk_cX5_turnBeside zn_cX5_turnBeside rfl)
theorem dX5_turnBeside_121 : decode cX5_turnBeside 121 = .ok (.bipush 7, 2) := zo_16 (b1 := 7) (zkb2 zk_cX5_turnBeside zn_cX5_turnBeside rfl) rfl
theorem dX5_turnBeside_123 : decode cX5_turnBeside 123 = .ok (.iand, 1) := zo_126 (zkb zk_cX5_turnBeside zn_cX5_turnBeside rfl)
theorem dX5_turnBeside_124 : decode cX5_turnBeside 124 = .ok (.iload_n 3, 1) := zo_29 (zkb zk_cX5_turnBeside zn_cX5_turnBeside rfl)
theorem dX5_turnBeside_125 : decode cX5_turnBeside 125 = .ok (.invokevirtual 166, 3) := zo_182 (b1 := 0) (b2 := 166) (zkb3 zk_cX5_turnBeside zn_cX5_turnBeside rfl) rfl
theorem dX5_turnBeside_128 : decode cX5_turnBeside 128 = .ok (.bipush 23, 2) := zo_16 (b1 := 23) (zkb2 zk_cX5_turnBeside zn_cX5_turnBeside rfl) rfl
theorem dX5_turnBeside_130 : decode cX5_turnBeside 130 = .ok (.ireturn, 1) := zo_172 (zkb zk_cX5_turnBeside zn_cX5_turnBeside rfl)
noncomputable def kn_cX5_moreOfA : Nat := 0xac0810ac1210ff00b6030400a7040700a0071b2aac09104f80030400a7070700a0042e18100900b42a80bb00b82e030900b42a7e042e040900b42a040900b42a4f2e16100900b42a0a00a72e15100900b42a0d00a0051b030900b42aac09104f2e030900b42a16100900b42aac09104f2e030900b42a15100900b42a8f0000008f000000470000004700000037000000270000000500000000000000a00000000000aa1b
theorem zk_cX5_moreOfA : zkd cX5_moreOfA.data.toList kn_cX5_moreOfA = true := by decide +kernel
theorem zn_cX5_moreOfA : cX5_moreOfA.data.toList.length = 164 := by decide +kernel
theorem dX5_moreOfA_0 : decode cX5_moreOfA 0 = .ok (.iload_n 1, 1) := zo_27 (zkb zk_cX5_moreOfA zn_cX5_moreOfA rfl)
theorem dX5_moreOfA_1 : decode cX5_moreOfA 1 = .ok (.tableswitch 160 0 5 #[39, 55, 71, 71, 143, 143], 39) := by decide +kernel
theorem dX5_moreOfA_40 : decode cX5_moreOfA 40 = .ok (.aload_n 0, 1) := zo_42 (zkb zk_cX5_moreOfA zn_cX5_moreOfA rfl)
theorem dX5_moreOfA_41 : decode cX5_moreOfA 41 = .ok (.getfield 9, 3) := zo_180 (b1 := 0) (b2 := 9) (zkb3 zk_cX5_moreOfA zn_cX5_moreOfA rfl) rfl
theorem dX5_moreOfA_44 : decode cX5_moreOfA 44 = .ok (.bipush 21, 2) := zo_16 (b1 := 21) (zkb2 zk_cX5_moreOfA zn_cX5_moreOfA rfl) rfl
theorem dX5_moreOfA_46 : decode cX5_moreOfA 46 = .ok (.aload_n 0, 1) := zo_42 (zkb zk_cX5_moreOfA zn_cX5_moreOfA rfl)
theorem dX5_moreOfA_47 : decode cX5_moreOfA 47 = .ok (.getfield 9, 3) := zo_180 (b1 := 0) (b2 := 9) (zkb3 zk_cX5_moreOfA zn_cX5_moreOfA rfl) rfl
theorem dX5_moreOfA_50 : decode cX5_moreOfA 50 = .ok (.iconst 0, 1) := zo_3 (zkb zk_cX5_moreOfA zn_cX5_moreOfA rfl)
theorem dX5_moreOfA_51 : decode cX5_moreOfA 51 = .ok (.iaload, 1) := zo_46 (zkb zk_cX5_moreOfA zn_cX5_moreOfA rfl)
theorem dX5_moreOfA_52 : decode cX5_moreOfA 52 = .ok (.iastore, 1) := zo_79 (zkb zk_cX5_moreOfA zn_cX5_moreOfA rfl)
theorem dX5_moreOfA_53 : decode cX5_moreOfA 53 = .ok (.bipush 9, 2) := zo_16 (b1 := 9) (zkb2 zk_cX5_moreOfA zn_cX5_moreOfA rfl) rfl
theorem dX5_moreOfA_55 : decode cX5_moreOfA 55 = .ok (.ireturn, 1) := zo_172 (zkb zk_cX5_moreOfA zn_cX5_moreOfA rfl)
theorem dX5_moreOfA_56 : decode cX5_moreOfA 56 = .ok (.aload_n 0, 1) := zo_42 (zkb zk_cX5_moreOfA zn_cX5_moreOfA rfl)
theorem dX5_moreOfA_57 : decode cX5_moreOfA 57 = .ok (.getfield 9, 3) := zo_180 (b1 := 0) (b2 := 9) (zkb3 zk_cX5_moreOfA zn_cX5_moreOfA rfl) rfl
theorem dX5_moreOfA_60 : decode cX5_moreOfA 60 = .ok (.bipush 22, 2) := zo_16 (b1 := 22) (zkb2 zk_cX5_moreOfA zn_cX5_moreOfA rfl) rfl
theorem dX5_moreOfA_62 : decode cX5_moreOfA 62 = .ok (.aload_n 0, 1) := zo_42 (zkb zk_cX5_moreOfA zn_cX5_moreOfA rfl)
theorem dX5_moreOfA_63 : decode cX5_moreOfA 63 = .ok (.getfield 9, 3) := zo_180 (b1 := 0) (b2 := 9) (zkb3 zk_cX5_moreOfA zn_cX5_moreOfA rfl) rfl
theorem dX5_moreOfA_66 : decode cX5_moreOfA 66 = .ok (.iconst 0, 1) := zo_3 (zkb zk_cX5_moreOfA zn_cX5_moreOfA rfl)
theorem dX5_moreOfA_67 : decode cX5_moreOfA 67 = .ok (.iaload, 1) := zo_46 (zkb zk_cX5_moreOfA zn_cX5_moreOfA rfl)
theorem dX5_moreOfA_68 : decode cX5_moreOfA 68 = .ok (.iastore, 1) := zo_79 (zkb zk_cX5_moreOfA zn_cX5_moreOfA rfl)
theorem dX5_moreOfA_69 : decode cX5_moreOfA 69 = .ok (.bipush 9, 2) := zo_16 (b1 := 9) (zkb2 zk_cX5_moreOfA zn_cX5_moreOfA rfl) rfl
theorem dX5_moreOfA_71 : decode cX5_moreOfA 71 = .ok (.ireturn, 1) := zo_172 (zkb zk_cX5_moreOfA zn_cX5_moreOfA rfl)
theorem dX5_moreOfA_72 : decode cX5_moreOfA 72 = .ok (.aload_n 0, 1) := zo_42 (zkb zk_cX5_moreOfA zn_cX5_moreOfA rfl)
theorem dX5_moreOfA_73 : decode cX5_moreOfA 73 = .ok (.getfield 9, 3) := zo_180 (b1 := 0) (b2 := 9) (zkb3 zk_cX5_moreOfA zn_cX5_moreOfA rfl) rfl
theorem dX5_moreOfA_76 : decode cX5_moreOfA 76 = .ok (.iconst 0, 1) := zo_3 (zkb zk_cX5_moreOfA zn_cX5_moreOfA rfl)
theorem dX5_moreOfA_77 : decode cX5_moreOfA 77 = .ok (.iload_n 1, 1) := zo_27 (zkb zk_cX5_moreOfA zn_cX5_moreOfA rfl)
theorem dX5_moreOfA_78 : decode cX5_moreOfA 78 = .ok (.iconst 2, 1) := zo_5 (zkb zk_cX5_moreOfA zn_cX5_moreOfA rfl)
theorem dX5_moreOfA_79 : decode cX5_moreOfA 79 = .ok (.if_icmp .ne 13, 3) := zo_160 (b1 := 0) (b2 := 13) (zkb3 zk_cX5_moreOfA zn_cX5_moreOfA rfl) rfl
theorem dX5_moreOfA_82 : decode cX5_moreOfA 82 = .ok (.aload_n 0, 1) := zo_42 (zkb zk_cX5_moreOfA zn_cX5_moreOfA rfl)
theorem dX5_moreOfA_83 : decode cX5_moreOfA 83 = .ok (.getfield 9, 3) := zo_180 (b1 := 0) (b2 := 9) (zkb3 zk_cX5_moreOfA zn_cX5_moreOfA rfl) rfl
theorem dX5_moreOfA_86 : decode cX5_moreOfA 86 = .ok (.bipush 21, 2) := zo_16 (b1 := 21) (zkb2 zk_cX5_moreOfA zn_cX5_moreOfA rfl) rfl
theorem dX5_moreOfA_88 : decode cX5_moreOfA 88 = .ok (.iaload, 1) := zo_46 (zkb zk_cX5_moreOfA zn_cX5_moreOfA rfl)
theorem dX5_moreOfA_89 : decode cX5_moreOfA 89 = .ok (.goto 10, 3) := zo_167 (b1 := 0) (b2 := 10) (zkb3 zk_cX5_moreOfA zn_cX5_moreOfA rfl) rfl
theorem dX5_moreOfA_92 : decode cX5_moreOfA 92 = .ok (.aload_n 0, 1) := zo_42 (zkb zk_cX5_moreOfA zn_cX5_moreOfA rfl)
theorem dX5_moreOfA_93 : decode cX5_moreOfA 93 = .ok (.getfield 9, 3) := zo_180 (b1 := 0) (b2 := 9) (zkb3 zk_cX5_moreOfA zn_cX5_moreOfA rfl) rfl
theorem dX5_moreOfA_96 : decode cX5_moreOfA 96 = .ok (.bipush 22, 2) := zo_16 (b1 := 22) (zkb2 zk_cX5_moreOfA zn_cX5_moreOfA rfl) rfl
theorem dX5_moreOfA_98 : decode cX5_moreOfA 98 = .ok (.iaload, 1) := zo_46 (zkb zk_cX5_moreOfA zn_cX5_moreOfA rfl)
theorem dX5_moreOfA_99 : decode cX5_moreOfA 99 = .ok (.iastore, 1) := zo_79 (zkb zk_cX5_moreOfA zn_cX5_moreOfA rfl)
theorem dX5_moreOfA_100 : decode cX5_moreOfA 100 = .ok (.aload_n 0, 1) := zo_42 (zkb zk_cX5_moreOfA zn_cX5_moreOfA rfl)
theorem dX5_moreOfA_101 : decode cX5_moreOfA 101 = .ok (.getfield 9, 3) := zo_180 (b1 := 0) (b2 := 9) (zkb3 zk_cX5_moreOfA zn_cX5_moreOfA rfl) rfl
theorem dX5_moreOfA_104 : decode cX5_moreOfA 104 = .ok (.iconst 1, 1) := zo_4 (zkb zk_cX5_moreOfA zn_cX5_moreOfA rfl)
theorem dX5_moreOfA_105 : decode cX5_moreOfA 105 = .ok (.aload_n 0, 1) := zo_42 (zkb zk_cX5_moreOfA zn_cX5_moreOfA rfl)
theorem dX5_moreOfA_106 : decode cX5_moreOfA 106 = .ok (.getfield 9, 3) := zo_180 (b1 := 0) (b2 := 9) (zkb3 zk_cX5_moreOfA zn_cX5_moreOfA rfl) rfl
theorem dX5_moreOfA_109 : decode cX5_moreOfA 109 = .ok (.iconst 1, 1) := zo_4 (zkb zk_cX5_moreOfA zn_cX5_moreOfA rfl)
theorem dX5_moreOfA_110 : decode cX5_moreOfA 110 = .ok (.iaload, 1) := zo_46 (zkb zk_cX5_moreOfA zn_cX5_moreOfA rfl)
theorem dX5_moreOfA_111 : decode cX5_moreOfA 111 = .ok (.iconst 1, 1) := zo_4 (zkb zk_cX5_moreOfA zn_cX5_moreOfA rfl)
theorem dX5_moreOfA_112 : decode cX5_moreOfA 112 = .ok (.iand, 1) := zo_126 (zkb zk_cX5_moreOfA zn_cX5_moreOfA rfl)
theorem dX5_moreOfA_113 : decode cX5_moreOfA 113 = .ok (.aload_n 0, 1) := zo_42 (zkb zk_cX5_moreOfA zn_cX5_moreOfA rfl)
theorem dX5_moreOfA_114 : decode cX5_moreOfA 114 = .ok (.getfield 9, 3) := zo_180 (b1 := 0) (b2 := 9) (zkb3 zk_cX5_moreOfA zn_cX5_moreOfA rfl) rfl
theorem dX5_moreOfA_117 : decode cX5_moreOfA 117 = .ok (.iconst 0, 1) := zo_3 (zkb zk_cX5_moreOfA zn_cX5_moreOfA rfl)
theorem dX5_moreOfA_118 : decode cX5_moreOfA 118 = .ok (.iaload, 1) := zo_46 (zkb zk_cX5_moreOfA zn_cX5_moreOfA rfl)
theorem dX5_moreOfA_119 : decode cX5_moreOfA 119 = .ok (.invokestatic 187, 3) := zo_184 (b1 := 0) (b2 := 187) (zkb3 zk_cX5_moreOfA zn_cX5_moreOfA rfl) rfl
theorem dX5_moreOfA_122 : decode cX5_moreOfA 122 = .ok (.ior, 1) := zo_128 (zkb zk_cX5_moreOfA zn_cX5_moreOfA rfl)
theorem dX5_moreOfA_123 : decode cX5_moreOfA 123 = .ok (.aload_n 0, 1) := zo_42 (zkb zk_cX5_moreOfA zn_cX5_moreOfA rfl)
theorem dX5_moreOfA_124 : decode cX5_moreOfA 124 = .ok (.getfield 9, 3) := zo_180 (b1 := 0) (b2 := 9) (zkb3 zk_cX5_moreOfA zn_cX5_moreOfA rfl) rfl
theorem dX5_moreOfA_127 : decode cX5_moreOfA 127 = .ok (.bipush 24, 2) := zo_16 (b1 := 24) (zkb2 zk_cX5_moreOfA zn_cX5_moreOfA rfl) rfl
theorem dX5_moreOfA_129 : decode cX5_moreOfA 129 = .ok (.iaload, 1) := zo_46 (zkb zk_cX5_moreOfA zn_cX5_moreOfA rfl)
theorem dX5_moreOfA_130 : decode cX5_moreOfA 130 = .ok (.iconst 1, 1) := zo_4 (zkb zk_cX5_moreOfA zn_cX5_moreOfA rfl)
theorem dX5_moreOfA_131 : decode cX5_moreOfA 131 = .ok (.if_icmp .ne 7, 3) := zo_160 (b1 := 0) (b2 := 7) (zkb3 zk_cX5_moreOfA zn_cX5_moreOfA rfl) rfl
theorem dX5_moreOfA_134 : decode cX5_moreOfA 134 = .ok (.iconst 4, 1) := zo_7 (zkb zk_cX5_moreOfA zn_cX5_moreOfA rfl)
theorem dX5_moreOfA_135 : decode cX5_moreOfA 135 = .ok (.goto 4, 3) := zo_167 (b1 := 0) (b2 := 4) (zkb3 zk_cX5_moreOfA zn_cX5_moreOfA rfl) rfl
theorem dX5_moreOfA_138 : decode cX5_moreOfA 138 = .ok (.iconst 0, 1) := zo_3 (zkb zk_cX5_moreOfA zn_cX5_moreOfA rfl)
theorem dX5_moreOfA_139 : decode cX5_moreOfA 139 = .ok (.ior, 1) := zo_128 (zkb zk_cX5_moreOfA zn_cX5_moreOfA rfl)
theorem dX5_moreOfA_140 : decode cX5_moreOfA 140 = .ok (.iastore, 1) := zo_79 (zkb zk_cX5_moreOfA zn_cX5_moreOfA rfl)
theorem dX5_moreOfA_141 : decode cX5_moreOfA 141 = .ok (.bipush 9, 2) := zo_16 (b1 := 9) (zkb2 zk_cX5_moreOfA zn_cX5_moreOfA rfl) rfl
theorem dX5_moreOfA_143 : decode cX5_moreOfA 143 = .ok (.ireturn, 1) := zo_172 (zkb zk_cX5_moreOfA zn_cX5_moreOfA rfl)
theorem dX5_moreOfA_144 : decode cX5_moreOfA 144 = .ok (.aload_n 0, 1) := zo_42 (zkb zk_cX5_moreOfA zn_cX5_moreOfA rfl)
theorem dX5_moreOfA_145 : decode cX5_moreOfA 145 = .ok (.iload_n 1, 1) := zo_27 (zkb zk_cX5_moreOfA zn_cX5_moreOfA rfl)
theorem dX5_moreOfA_146 : decode cX5_moreOfA 146 = .ok (.iconst 4, 1) := zo_7 (zkb zk_cX5_moreOfA zn_cX5_moreOfA rfl)
theorem dX5_moreOfA_147 : decode cX5_moreOfA 147 = .ok (.if_icmp .ne 7, 3) := zo_160 (b1 := 0) (b2 := 7) (zkb3 zk_cX5_moreOfA zn_cX5_moreOfA rfl) rfl
theorem dX5_moreOfA_150 : decode cX5_moreOfA 150 = .ok (.iconst 1, 1) := zo_4 (zkb zk_cX5_moreOfA zn_cX5_moreOfA rfl)
theorem dX5_moreOfA_151 : decode cX5_moreOfA 151 = .ok (.goto 4, 3) := zo_167 (b1 := 0) (b2 := 4) (zkb3 zk_cX5_moreOfA zn_cX5_moreOfA rfl) rfl
theorem dX5_moreOfA_154 : decode cX5_moreOfA 154 = .ok (.iconst 0, 1) := zo_3 (zkb zk_cX5_moreOfA zn_cX5_moreOfA rfl)
theorem dX5_moreOfA_155 : decode cX5_moreOfA 155 = .ok (.invokevirtual 255, 3) := zo_182 (b1 := 0) (b2 := 255) (zkb3 zk_cX5_moreOfA zn_cX5_moreOfA rfl) rfl
theorem dX5_moreOfA_158 : decode cX5_moreOfA 158 = .ok (.bipush 18, 2) := zo_16 (b1 := 18) (zkb2 zk_cX5_moreOfA zn_cX5_moreOfA rfl) rfl
theorem dX5_moreOfA_160 : decode cX5_moreOfA 160 = .ok (.ireturn, 1) := zo_172 (zkb zk_cX5_moreOfA zn_cX5_moreOfA rfl)
theorem dX5_moreOfA_161 : decode cX5_moreOfA 161 = .ok (.bipush 8, 2) := zo_16 (b1 := 8) (zkb2 zk_cX5_moreOfA zn_cX5_moreOfA rfl) rfl
theorem dX5_moreOfA_163 : decode cX5_moreOfA 163 = .ok (.ireturn, 1) := zo_172 (zkb zk_cX5_moreOfA zn_cX5_moreOfA rfl)
noncomputable def kn_cX5_turnDigits : Nat := 0xb14f80c400b82e030900b42a80bb00b82e030900b42a7e042e040900b42a040900b42a4f807a071d0600a77e0f101d0a00991b7ef000112e030900b42a030900b42a7500b68004157eff001178071d0d00a7807a071d780704150e00991b1c1400b42a4f7e2f1260041c14100900b42a04367e0f102e030900b42a3e4b00b61c1400b42a3d4100b606102a
theorem zk_cX5_turnDigits : zkd cX5_turnDigits.data.toList kn_cX5_turnDigits = true := by decide +kernel
theorem zn_cX5_turnDigits : cX5_turnDigits.data.toList.length = 139 := by decide +kernel
theorem dX5_turnDigits_0 : decode cX5_turnDigits 0 = .ok (.aload_n 0, 1) := zo_42 (zkb zk_cX5_turnDigits zn_cX5_turnDigits rfl)
theorem dX5_turnDigits_1 : decode cX5_turnDigits 1 = .ok (.bipush 6, 2) := zo_16 (b1 := 6) (zkb2 zk_cX5_turnDigits zn_cX5_turnDigits rfl) rfl
theorem dX5_turnDigits_3 : decode cX5_turnDigits 3 = .ok (.invokevirtual 65, 3) := zo_182 (b1 := 0) (b2 := 65) (zkb3 zk_cX5_turnDigits zn_cX5_turnDigits rfl) rfl
theorem dX5_turnDigits_6 : decode cX5_turnDigits 6 = .ok (.istore_n 2, 1) := zo_61 (zkb zk_cX5_turnDigits zn_cX5_turnDigits rfl)
theorem dX5_turnDigits_7 : decode cX5_turnDigits 7 = .ok (.aload_n 0, 1) := zo_42 (zkb zk_cX5_turnDigits zn_cX5_turnDigits rfl)
theorem dX5_turnDigits_8 : decode cX5_turnDigits 8 = .ok (.getfield 20, 3) := zo_180 (b1 := 0) (b2 := 20) (zkb3 zk_cX5_turnDigits zn_cX5_turnDigits rfl) rfl
theorem dX5_turnDigits_11 : decode cX5_turnDigits 11 = .ok (.iload_n 2, 1) := zo_28 (zkb zk_cX5_turnDigits zn_cX5_turnDigits rfl)
theorem dX5_turnDigits_12 : decode cX5_turnDigits 12 = .ok (.invokevirtual 75, 3) := zo_182 (b1 := 0) (b2 := 75) (zkb3 zk_cX5_turnDigits zn_cX5_turnDigits rfl) rfl
theorem dX5_turnDigits_15 : decode cX5_turnDigits 15 = .ok (.istore_n 3, 1) := zo_62 (zkb zk_cX5_turnDigits zn_cX5_turnDigits rfl)
theorem dX5_turnDigits_16 : decode cX5_turnDigits 16 = .ok (.aload_n 0, 1) := zo_42 (zkb zk_cX5_turnDigits zn_cX5_turnDigits rfl)
theorem dX5_turnDigits_17 : decode cX5_turnDigits 17 = .ok (.getfield 9, 3) := zo_180 (b1 := 0) (b2 := 9) (zkb3 zk_cX5_turnDigits zn_cX5_turnDigits rfl) rfl
theorem dX5_turnDigits_20 : decode cX5_turnDigits 20 = .ok (.iconst 0, 1) := zo_3 (zkb zk_cX5_turnDigits zn_cX5_turnDigits rfl)
theorem dX5_turnDigits_21 : decode cX5_turnDigits 21 = .ok (.iaload, 1) := zo_46 (zkb zk_cX5_turnDigits zn_cX5_turnDigits rfl)
theorem dX5_turnDigits_22 : decode cX5_turnDigits 22 = .ok (.bipush 15, 2) := zo_16 (b1 := 15) (zkb2 zk_cX5_turnDigits zn_cX5_turnDigits rfl) rfl
theorem dX5_turnDigits_24 : decode cX5_turnDigits 24 = .ok (.iand, 1) := zo_126 (zkb zk_cX5_turnDigits zn_cX5_turnDigits rfl)
theorem dX5_turnDigits_25 : decode cX5_turnDigits 25 = .ok (.istore 4, 2) := zo_54 (b1 := 4) (zkb2 zk_cX5_turnDigits zn_cX5_turnDigits rfl)
theorem dX5_turnDigits_27 : decode cX5_turnDigits 27 = .ok (.aload_n 0, 1) := zo_42 (zkb zk_cX5_turnDigits zn_cX5_turnDigits rfl)
theorem dX5_turnDigits_28 : decode cX5_turnDigits 28 = .ok (.getfield 9, 3) := zo_180 (b1 := 0) (b2 := 9) (zkb3 zk_cX5_turnDigits zn_cX5_turnDigits rfl) rfl
theorem dX5_turnDigits_31 : decode cX5_turnDigits 31 = .ok (.bipush 20, 2) := zo_16 (b1 := 20) (zkb2 zk_cX5_turnDigits zn_cX5_turnDigits rfl) rfl
theorem dX5_turnDigits_33 : decode cX5_turnDigits 33 = .ok (.iload_n 2, 1) := zo_28 (zkb zk_cX5_turnDigits zn_cX5_turnDigits rfl)
theorem dX5_turnDigits_34 : decode cX5_turnDigits 34 = .ok (.iconst 1, 1) := zo_4 (zkb zk_cX5_turnDigits zn_cX5_turnDigits rfl)
theorem dX5_turnDigits_35 : decode cX5_turnDigits 35 = .ok (.iadd, 1) := zo_96 (zkb zk_cX5_turnDigits zn_cX5_turnDigits rfl)
theorem dX5_turnDigits_36 : decode cX5_turnDigits 36 = .ok (.ldc 47, 2) := zo_18 (b1 := 47) (zkb2 zk_cX5_turnDigits zn_cX5_turnDigits rfl)
theorem dX5_turnDigits_38 : decode cX5_turnDigits 38 = .ok (.iand, 1) := zo_126 (zkb zk_cX5_turnDigits zn_cX5_turnDigits rfl)
theorem dX5_turnDigits_39 : decode cX5_turnDigits 39 = .ok (.iastore, 1) := zo_79 (zkb zk_cX5_turnDigits zn_cX5_turnDigits rfl)
theorem dX5_turnDigits_40 : decode cX5_turnDigits 40 = .ok (.aload_n 0, 1) := zo_42 (zkb zk_cX5_turnDigits zn_cX5_turnDigits rfl)
theorem dX5_turnDigits_41 : decode cX5_turnDigits 41 = .ok (.getfield 20, 3) := zo_180 (b1 := 0) (b2 := 20) (zkb3 zk_cX5_turnDigits zn_cX5_turnDigits rfl) rfl
theorem dX5_turnDigits_44 : decode cX5_turnDigits 44 = .ok (.iload_n 2, 1) := zo_28 (zkb zk_cX5_turnDigits zn_cX5_turnDigits rfl)
theorem dX5_turnDigits_45 : decode cX5_turnDigits 45 = .ok (.iload_n 1, 1) := zo_27 (zkb zk_cX5_turnDigits zn_cX5_turnDigits rfl)
theorem dX5_turnDigits_46 : decode cX5_turnDigits 46 = .ok (.ifCond .eq 14, 3) := zo_153 (b1 := 0) (b2 := 14) (zkb3 zk_cX5_turnDigits zn_cX5_turnDigits rfl) rfl
theorem dX5_turnDigits_49 : decode cX5_turnDigits 49 = .ok (.iload 4, 2) := zo_21 (b1 := 4) (zkb2 zk_cX5_turnDigits zn_cX5_turnDigits rfl)
theorem dX5_turnDigits_51 : decode cX5_turnDigits 51 = .ok (.iconst 4, 1) := zo_7 (zkb zk_cX5_turnDigits zn_cX5_turnDigits rfl)
theorem dX5_turnDigits_52 : decode cX5_turnDigits 52 = .ok (.ishl, 1) := zo_120 (zkb zk_cX5_turnDigits zn_cX5_turnDigits rfl)
theorem dX5_turnDigits_53 : decode cX5_turnDigits 53 = .ok (.iload_n 3, 1) := zo_29 (zkb zk_cX5_turnDigits zn_cX5_turnDigits rfl)
theorem dX5_turnDigits_54 : decode cX5_turnDigits 54 = .ok (.iconst 4, 1) := zo_7 (zkb zk_cX5_turnDigits zn_cX5_turnDigits rfl)
theorem dX5_turnDigits_55 : decode cX5_turnDigits 55 = .ok (.ishr, 1) := zo_122 (zkb zk_cX5_turnDigits zn_cX5_turnDigits rfl)
theorem dX5_turnDigits_56 : decode cX5_turnDigits 56 = .ok (.ior, 1) := zo_128 (zkb zk_cX5_turnDigits zn_cX5_turnDigits rfl)
theorem dX5_turnDigits_57 : decode cX5_turnDigits 57 = .ok (.goto 13, 3) := zo_167 (b1 := 0) (b2 := 13) (zkb3 zk_cX5_turnDigits zn_cX5_turnDigits rfl) rfl
theorem dX5_turnDigits_60 : decode cX5_turnDigits 60 = .ok (.iload_n 3, 1) := zo_29 (zkb zk_cX5_turnDigits zn_cX5_turnDigits rfl)
theorem dX5_turnDigits_61 : decode cX5_turnDigits 61 = .ok (.iconst 4, 1) := zo_7 (zkb zk_cX5_turnDigits zn_cX5_turnDigits rfl)
theorem dX5_turnDigits_62 : decode cX5_turnDigits 62 = .ok (.ishl, 1) := zo_120 (zkb zk_cX5_turnDigits zn_cX5_turnDigits rfl)
theorem dX5_turnDigits_63 : decode cX5_turnDigits 63 = .ok (.sipush 255, 3) := zo_17 (b1 := 0) (b2 := 255) (zkb3 zk_cX5_turnDigits zn_cX5_turnDigits rfl) rfl
theorem dX5_turnDigits_66 : decode cX5_turnDigits 66 = .ok (.iand, 1) := zo_126 (zkb zk_cX5_turnDigits zn_cX5_turnDigits rfl)
theorem dX5_turnDigits_67 : decode cX5_turnDigits 67 = .ok (.iload 4, 2) := zo_21 (b1 := 4) (zkb2 zk_cX5_turnDigits zn_cX5_turnDigits rfl)
theorem dX5_turnDigits_69 : decode cX5_turnDigits 69 = .ok (.ior, 1) := zo_128 (zkb zk_cX5_turnDigits zn_cX5_turnDigits rfl)
theorem dX5_turnDigits_70 : decode cX5_turnDigits 70 = .ok (.invokevirtual 117, 3) := zo_182 (b1 := 0) (b2 := 117) (zkb3 zk_cX5_turnDigits zn_cX5_turnDigits rfl) rfl
theorem dX5_turnDigits_73 : decode cX5_turnDigits 73 = .ok (.aload_n 0, 1) := zo_42 (zkb zk_cX5_turnDigits zn_cX5_turnDigits rfl)
theorem dX5_turnDigits_74 : decode cX5_turnDigits 74 = .ok (.getfield 9, 3) := zo_180 (b1 := 0) (b2 := 9) (zkb3 zk_cX5_turnDigits zn_cX5_turnDigits rfl) rfl
theorem dX5_turnDigits_77 : decode cX5_turnDigits 77 = .ok (.iconst 0, 1) := zo_3 (zkb zk_cX5_turnDigits zn_cX5_turnDigits rfl)
theorem dX5_turnDigits_78 : decode cX5_turnDigits 78 = .ok (.aload_n 0, 1) := zo_42 (zkb zk_cX5_turnDigits zn_cX5_turnDigits rfl)
theorem dX5_turnDigits_79 : decode cX5_turnDigits 79 = .ok (.getfield 9, 3) := zo_180 (b1 := 0) (b2 := 9) (zkb3 zk_cX5_turnDigits zn_cX5_turnDigits rfl) rfl
theorem dX5_turnDigits_82 : decode cX5_turnDigits 82 = .ok (.iconst 0, 1) := zo_3 (zkb zk_cX5_turnDigits zn_cX5_turnDigits rfl)
theorem dX5_turnDigits_83 : decode cX5_turnDigits 83 = .ok (.iaload, 1) := zo_46 (zkb zk_cX5_turnDigits zn_cX5_turnDigits rfl)
theorem dX5_turnDigits_84 : decode cX5_turnDigits 84 = .ok (.sipush 240, 3) := zo_17 (b1 := 0) (b2 := 240) (zkb3 zk_cX5_turnDigits zn_cX5_turnDigits rfl) rfl
theorem dX5_turnDigits_87 : decode cX5_turnDigits 87 = .ok (.iand, 1) := zo_126 (zkb zk_cX5_turnDigits zn_cX5_turnDigits rfl)
theorem dX5_turnDigits_88 : decode cX5_turnDigits 88 = .ok (.iload_n 1, 1) := zo_27 (zkb zk_cX5_turnDigits zn_cX5_turnDigits rfl)
theorem dX5_turnDigits_89 : decode cX5_turnDigits 89 = .ok (.ifCond .eq 10, 3) := zo_153 (b1 := 0) (b2 := 10) (zkb3 zk_cX5_turnDigits zn_cX5_turnDigits rfl) rfl
theorem dX5_turnDigits_92 : decode cX5_turnDigits 92 = .ok (.iload_n 3, 1) := zo_29 (zkb zk_cX5_turnDigits zn_cX5_turnDigits rfl)
theorem dX5_turnDigits_93 : decode cX5_turnDigits 93 = .ok (.bipush 15, 2) := zo_16 (b1 := 15) (zkb2 zk_cX5_turnDigits zn_cX5_turnDigits rfl) rfl
theorem dX5_turnDigits_95 : decode cX5_turnDigits 95 = .ok (.iand, 1) := zo_126 (zkb zk_cX5_turnDigits zn_cX5_turnDigits rfl)
theorem dX5_turnDigits_96 : decode cX5_turnDigits 96 = .ok (.goto 6, 3) := zo_167 (b1 := 0) (b2 := 6) (zkb3 zk_cX5_turnDigits zn_cX5_turnDigits rfl) rfl
theorem dX5_turnDigits_99 : decode cX5_turnDigits 99 = .ok (.iload_n 3, 1) := zo_29 (zkb zk_cX5_turnDigits zn_cX5_turnDigits rfl)
theorem dX5_turnDigits_100 : decode cX5_turnDigits 100 = .ok (.iconst 4, 1) := zo_7 (zkb zk_cX5_turnDigits zn_cX5_turnDigits rfl)
theorem dX5_turnDigits_101 : decode cX5_turnDigits 101 = .ok (.ishr, 1) := zo_122 (zkb zk_cX5_turnDigits zn_cX5_turnDigits rfl)
theorem dX5_turnDigits_102 : decode cX5_turnDigits 102 = .ok (.ior, 1) := zo_128 (zkb zk_cX5_turnDigits zn_cX5_turnDigits rfl)
theorem dX5_turnDigits_103 : decode cX5_turnDigits 103 = .ok (.iastore, 1) := zo_79 (zkb zk_cX5_turnDigits zn_cX5_turnDigits rfl)
theorem dX5_turnDigits_104 : decode cX5_turnDigits 104 = .ok (.aload_n 0, 1) := zo_42 (zkb zk_cX5_turnDigits zn_cX5_turnDigits rfl)
theorem dX5_turnDigits_105 : decode cX5_turnDigits 105 = .ok (.getfield 9, 3) := zo_180 (b1 := 0) (b2 := 9) (zkb3 zk_cX5_turnDigits zn_cX5_turnDigits rfl) rfl
theorem dX5_turnDigits_108 : decode cX5_turnDigits 108 = .ok (.iconst 1, 1) := zo_4 (zkb zk_cX5_turnDigits zn_cX5_turnDigits rfl)
theorem dX5_turnDigits_109 : decode cX5_turnDigits 109 = .ok (.aload_n 0, 1) := zo_42 (zkb zk_cX5_turnDigits zn_cX5_turnDigits rfl)
theorem dX5_turnDigits_110 : decode cX5_turnDigits 110 = .ok (.getfield 9, 3) := zo_180 (b1 := 0) (b2 := 9) (zkb3 zk_cX5_turnDigits zn_cX5_turnDigits rfl) rfl
theorem dX5_turnDigits_113 : decode cX5_turnDigits 113 = .ok (.iconst 1, 1) := zo_4 (zkb zk_cX5_turnDigits zn_cX5_turnDigits rfl)
theorem dX5_turnDigits_114 : decode cX5_turnDigits 114 = .ok (.iaload, 1) := zo_46 (zkb zk_cX5_turnDigits zn_cX5_turnDigits rfl)
theorem dX5_turnDigits_115 : decode cX5_turnDigits 115 = .ok (.iconst 1, 1) := zo_4 (zkb zk_cX5_turnDigits zn_cX5_turnDigits rfl)
theorem dX5_turnDigits_116 : decode cX5_turnDigits 116 = .ok (.iand, 1) := zo_126 (zkb zk_cX5_turnDigits zn_cX5_turnDigits rfl)
theorem dX5_turnDigits_117 : decode cX5_turnDigits 117 = .ok (.aload_n 0, 1) := zo_42 (zkb zk_cX5_turnDigits zn_cX5_turnDigits rfl)
theorem dX5_turnDigits_118 : decode cX5_turnDigits 118 = .ok (.getfield 9, 3) := zo_180 (b1 := 0) (b2 := 9) (zkb3 zk_cX5_turnDigits zn_cX5_turnDigits rfl) rfl
theorem dX5_turnDigits_121 : decode cX5_turnDigits 121 = .ok (.iconst 0, 1) := zo_3 (zkb zk_cX5_turnDigits zn_cX5_turnDigits rfl)
theorem dX5_turnDigits_122 : decode cX5_turnDigits 122 = .ok (.iaload, 1) := zo_46 (zkb zk_cX5_turnDigits zn_cX5_turnDigits rfl)
theorem dX5_turnDigits_123 : decode cX5_turnDigits 123 = .ok (.invokestatic 187, 3) := zo_184 (b1 := 0) (b2 := 187) (zkb3 zk_cX5_turnDigits zn_cX5_turnDigits rfl) rfl
theorem dX5_turnDigits_126 : decode cX5_turnDigits 126 = .ok (.ior, 1) := zo_128 (zkb zk_cX5_turnDigits zn_cX5_turnDigits rfl)
theorem dX5_turnDigits_127 : decode cX5_turnDigits 127 = .ok (.aload_n 0, 1) := zo_42 (zkb zk_cX5_turnDigits zn_cX5_turnDigits rfl)
theorem dX5_turnDigits_128 : decode cX5_turnDigits 128 = .ok (.getfield 9, 3) := zo_180 (b1 := 0) (b2 := 9) (zkb3 zk_cX5_turnDigits zn_cX5_turnDigits rfl) rfl
theorem dX5_turnDigits_131 : decode cX5_turnDigits 131 = .ok (.iconst 0, 1) := zo_3 (zkb zk_cX5_turnDigits zn_cX5_turnDigits rfl)
theorem dX5_turnDigits_132 : decode cX5_turnDigits 132 = .ok (.iaload, 1) := zo_46 (zkb zk_cX5_turnDigits zn_cX5_turnDigits rfl)
theorem dX5_turnDigits_133 : decode cX5_turnDigits 133 = .ok (.invokestatic 196, 3) := zo_184 (b1 := 0) (b2 := 196) (zkb3 zk_cX5_turnDigits zn_cX5_turnDigits rfl) rfl
theorem dX5_turnDigits_136 : decode cX5_turnDigits 136 = .ok (.ior, 1) := zo_128 (zkb zk_cX5_turnDigits zn_cX5_turnDigits rfl)
theorem dX5_turnDigits_137 : decode cX5_turnDigits 137 = .ok (.iastore, 1) := zo_79 (zkb zk_cX5_turnDigits zn_cX5_turnDigits rfl)
theorem dX5_turnDigits_138 : decode cX5_turnDigits 138 = .ok (.return_, 1) := zo_177 (zkb zk_cX5_turnDigits zn_cX5_turnDigits rfl)
noncomputable def kn_cX5_block : Nat := 0xac15104f7e2f1260042e13100900b42a14100900b42a16009a7e051b4f7e2f1264052e13100900b42a13100900b42aac101006009a7e10101b0a00991d3e0c01b61c2a0900a73e0901b61c2a1200a73e0601b61c2a1b00a73e0301b61c2a2e000000250000001c000000020000000000000037000000000000aa7e061b3d020400a70407009a7e08101b
theorem zk_cX5_block : zkd cX5_block.data.toList kn_cX5_block = true := by decide +kernel
theorem zn_cX5_block : cX5_block.data.toList.length = 138 := by decide +kernel
theorem dX5_block_0 : decode cX5_block 0 = .ok (.iload_n 1, 1) := zo_27 (zkb zk_cX5_block zn_cX5_block rfl)
theorem dX5_block_1 : decode cX5_block 1 = .ok (.bipush 8, 2) := zo_16 (b1 := 8) (zkb2 zk_cX5_block zn_cX5_block rfl) rfl
theorem dX5_block_3 : decode cX5_block 3 = .ok (.iand, 1) := zo_126 (zkb zk_cX5_block zn_cX5_block rfl)
theorem dX5_block_4 : decode cX5_block 4 = .ok (.ifCond .ne 7, 3) := zo_154 (b1 := 0) (b2 := 7) (zkb3 zk_cX5_block zn_cX5_block rfl) rfl
theorem dX5_block_7 : decode cX5_block 7 = .ok (.iconst 1, 1) := zo_4 (zkb zk_cX5_block zn_cX5_block rfl)
theorem dX5_block_8 : decode cX5_block 8 = .ok (.goto 4, 3) := zo_167 (b1 := 0) (b2 := 4) (zkb3 zk_cX5_block zn_cX5_block rfl) rfl
theorem dX5_block_11 : decode cX5_block 11 = .ok (.iconst (-1), 1) := zo_2 (zkb zk_cX5_block zn_cX5_block rfl)
theorem dX5_block_12 : decode cX5_block 12 = .ok (.istore_n 2, 1) := zo_61 (zkb zk_cX5_block zn_cX5_block rfl)
theorem dX5_block_13 : decode cX5_block 13 = .ok (.iload_n 1, 1) := zo_27 (zkb zk_cX5_block zn_cX5_block rfl)
theorem dX5_block_14 : decode cX5_block 14 = .ok (.iconst 3, 1) := zo_6 (zkb zk_cX5_block zn_cX5_block rfl)
theorem dX5_block_15 : decode cX5_block 15 = .ok (.iand, 1) := zo_126 (zkb zk_cX5_block zn_cX5_block rfl)
theorem dX5_block_16 : decode cX5_block 16 = .ok (.tableswitch 55 0 2 #[28, 37, 46], 28) := by decide +kernel
theorem dX5_block_44 : decode cX5_block 44 = .ok (.aload_n 0, 1) := zo_42 (zkb zk_cX5_block zn_cX5_block rfl)
theorem dX5_block_45 : decode cX5_block 45 = .ok (.iload_n 2, 1) := zo_28 (zkb zk_cX5_block zn_cX5_block rfl)
theorem dX5_block_46 : decode cX5_block 46 = .ok (.invokevirtual 259, 3) := zo_182 (b1 := 1) (b2 := 3) (zkb3 zk_cX5_block zn_cX5_block rfl) rfl
theorem dX5_block_49 : decode cX5_block 49 = .ok (.istore_n 3, 1) := zo_62 (zkb zk_cX5_block zn_cX5_block rfl)
theorem dX5_block_50 : decode cX5_block 50 = .ok (.goto 27, 3) := zo_167 (b1 := 0) (b2 := 27) (zkb3 zk_cX5_block zn_cX5_block rfl) rfl
theorem dX5_block_53 : decode cX5_block 53 = .ok (.aload_n 0, 1) := zo_42 (zkb zk_cX5_block zn_cX5_block rfl)
theorem dX5_block_54 : decode cX5_block 54 = .ok (.iload_n 2, 1) := zo_28 (zkb zk_cX5_block zn_cX5_block rfl)
theorem dX5_block_55 : decode cX5_block 55 = .ok (.invokevirtual 262, 3) := zo_182 (b1 := 1) (b2 := 6) (zkb3 zk_cX5_block zn_cX5_block rfl) rfl
theorem dX5_block_58 : decode cX5_block 58 = .ok (.istore_n 3, 1) := zo_62 (zkb zk_cX5_block zn_cX5_block rfl)
theorem dX5_block_59 : decode cX5_block 59 = .ok (.goto 18, 3) := zo_167 (b1 := 0) (b2 := 18) (zkb3 zk_cX5_block zn_cX5_block rfl) rfl
theorem dX5_block_62 : decode cX5_block 62 = .ok (.aload_n 0, 1) := zo_42 (zkb zk_cX5_block zn_cX5_block rfl)
theorem dX5_block_63 : decode cX5_block 63 = .ok (.iload_n 2, 1) := zo_28 (zkb zk_cX5_block zn_cX5_block rfl)
theorem dX5_block_64 : decode cX5_block 64 = .ok (.invokevirtual 265, 3) := zo_182 (b1 := 1) (b2 := 9) (zkb3 zk_cX5_block zn_cX5_block rfl) rfl
theorem dX5_block_67 : decode cX5_block 67 = .ok (.istore_n 3, 1) := zo_62 (zkb zk_cX5_block zn_cX5_block rfl)
theorem dX5_block_68 : decode cX5_block 68 = .ok (.goto 9, 3) := zo_167 (b1 := 0) (b2 := 9) (zkb3 zk_cX5_block zn_cX5_block rfl) rfl
theorem dX5_block_71 : decode cX5_block 71 = .ok (.aload_n 0, 1) := zo_42 (zkb zk_cX5_block zn_cX5_block rfl)
theorem dX5_block_72 : decode cX5_block 72 = .ok (.iload_n 2, 1) := zo_28 (zkb zk_cX5_block zn_cX5_block rfl)
theorem dX5_block_73 : decode cX5_block 73 = .ok (.invokevirtual 268, 3) := zo_182 (b1 := 1) (b2 := 12) (zkb3 zk_cX5_block zn_cX5_block rfl) rfl
theorem dX5_block_76 : decode cX5_block 76 = .ok (.istore_n 3, 1) := zo_62 (zkb zk_cX5_block zn_cX5_block rfl)
theorem dX5_block_77 : decode cX5_block 77 = .ok (.iload_n 3, 1) := zo_29 (zkb zk_cX5_block zn_cX5_block rfl)
theorem dX5_block_78 : decode cX5_block 78 = .ok (.ifCond .eq 10, 3) := zo_153 (b1 := 0) (b2 := 10) (zkb3 zk_cX5_block zn_cX5_block rfl) rfl
theorem dX5_block_81 : decode cX5_block 81 = .ok (.iload_n 1, 1) := zo_27 (zkb zk_cX5_block zn_cX5_block rfl)
theorem dX5_block_82 : decode cX5_block 82 = .ok (.bipush 16, 2) := zo_16 (b1 := 16) (zkb2 zk_cX5_block zn_cX5_block rfl) rfl
theorem dX5_block_84 : decode cX5_block 84 = .ok (.iand, 1) := zo_126 (zkb zk_cX5_block zn_cX5_block rfl)
theorem dX5_block_85 : decode cX5_block 85 = .ok (.ifCond .ne 6, 3) := zo_154 (b1 := 0) (b2 := 6) (zkb3 zk_cX5_block zn_cX5_block rfl) rfl
theorem dX5_block_88 : decode cX5_block 88 = .ok (.bipush 16, 2) := zo_16 (b1 := 16) (zkb2 zk_cX5_block zn_cX5_block rfl) rfl
theorem dX5_block_90 : decode cX5_block 90 = .ok (.ireturn, 1) := zo_172 (zkb zk_cX5_block zn_cX5_block rfl)
theorem dX5_block_91 : decode cX5_block 91 = .ok (.aload_n 0, 1) := zo_42 (zkb zk_cX5_block zn_cX5_block rfl)
theorem dX5_block_92 : decode cX5_block 92 = .ok (.getfield 9, 3) := zo_180 (b1 := 0) (b2 := 9) (zkb3 zk_cX5_block zn_cX5_block rfl) rfl
theorem dX5_block_95 : decode cX5_block 95 = .ok (.bipush 19, 2) := zo_16 (b1 := 19) (zkb2 zk_cX5_block zn_cX5_block rfl) rfl
theorem dX5_block_97 : decode cX5_block 97 = .ok (.aload_n 0, 1) := zo_42 (zkb zk_cX5_block zn_cX5_block rfl)
theorem dX5_block_98 : decode cX5_block 98 = .ok (.getfield 9, 3) := zo_180 (b1 := 0) (b2 := 9) (zkb3 zk_cX5_block zn_cX5_block rfl) rfl
theorem dX5_block_101 : decode cX5_block 101 = .ok (.bipush 19, 2) := zo_16 (b1 := 19) (zkb2 zk_cX5_block zn_cX5_block rfl) rfl
theorem dX5_block_103 : decode cX5_block 103 = .ok (.iaload, 1) := zo_46 (zkb zk_cX5_block zn_cX5_block rfl)
theorem dX5_block_104 : decode cX5_block 104 = .ok (.iconst 2, 1) := zo_5 (zkb zk_cX5_block zn_cX5_block rfl)
theorem dX5_block_105 : decode cX5_block 105 = .ok (.isub, 1) := zo_100 (zkb zk_cX5_block zn_cX5_block rfl)
theorem dX5_block_106 : decode cX5_block 106 = .ok (.ldc 47, 2) := zo_18 (b1 := 47) (zkb2 zk_cX5_block zn_cX5_block rfl)
theorem dX5_block_108 : decode cX5_block 108 = .ok (.iand, 1) := zo_126 (zkb zk_cX5_block zn_cX5_block rfl)
theorem dX5_block_109 : decode cX5_block 109 = .ok (.iastore, 1) := zo_79 (zkb zk_cX5_block zn_cX5_block rfl)
theorem dX5_block_110 : decode cX5_block 110 = .ok (.iload_n 1, 1) := zo_27 (zkb zk_cX5_block zn_cX5_block rfl)
theorem dX5_block_111 : decode cX5_block 111 = .ok (.iconst 2, 1) := zo_5 (zkb zk_cX5_block zn_cX5_block rfl)
theorem dX5_block_112 : decode cX5_block 112 = .ok (.iand, 1) := zo_126 (zkb zk_cX5_block zn_cX5_block rfl)
theorem dX5_block_113 : decode cX5_block 113 = .ok (.ifCond .ne 22, 3) := zo_154 (b1 := 0) (b2 := 22) (zkb3 zk_cX5_block zn_cX5_block rfl) rfl
theorem dX5_block_116 : decode cX5_block 116 = .ok (.aload_n 0, 1) := zo_42 (zkb zk_cX5_block zn_cX5_block rfl)
theorem dX5_block_117 : decode cX5_block 117 = .ok (.getfield 9, 3) := zo_180 (b1 := 0) (b2 := 9) (zkb3 zk_cX5_block zn_cX5_block rfl) rfl
theorem dX5_block_120 : decode cX5_block 120 = .ok (.bipush 20, 2) := zo_16 (b1 := 20) (zkb2 zk_cX5_block zn_cX5_block rfl) rfl
theorem dX5_block_122 : decode cX5_block 122 = .ok (.aload_n 0, 1) := zo_42 (zkb zk_cX5_block zn_cX5_block rfl)
theorem dX5_block_123 : decode cX5_block 123 = .ok (.getfield 9, 3) := zo_180 (b1 := 0) (b2 := 9) (zkb3 zk_cX5_block zn_cX5_block rfl) rfl
theorem dX5_block_126 : decode cX5_block 126 = .ok (.bipush 19, 2) := zo_16 (b1 := 19) (zkb2 zk_cX5_block zn_cX5_block rfl) rfl
theorem dX5_block_128 : decode cX5_block 128 = .ok (.iaload, 1) := zo_46 (zkb zk_cX5_block zn_cX5_block rfl)
theorem dX5_block_129 : decode cX5_block 129 = .ok (.iconst 1, 1) := zo_4 (zkb zk_cX5_block zn_cX5_block rfl)
theorem dX5_block_130 : decode cX5_block 130 = .ok (.iadd, 1) := zo_96 (zkb zk_cX5_block zn_cX5_block rfl)
theorem dX5_block_131 : decode cX5_block 131 = .ok (.ldc 47, 2) := zo_18 (b1 := 47) (zkb2 zk_cX5_block zn_cX5_block rfl)
theorem dX5_block_133 : decode cX5_block 133 = .ok (.iand, 1) := zo_126 (zkb zk_cX5_block zn_cX5_block rfl)
theorem dX5_block_134 : decode cX5_block 134 = .ok (.iastore, 1) := zo_79 (zkb zk_cX5_block zn_cX5_block rfl)
theorem dX5_block_135 : decode cX5_block 135 = .ok (.bipush 21, 2) := zo_16 (b1 := 21) (zkb2 zk_cX5_block zn_cX5_block rfl) rfl
theorem dX5_block_137 : decode cX5_block 137 = .ok (.ireturn, 1) := zo_172 (zkb zk_cX5_block zn_cX5_block rfl)
noncomputable def kn_cX5_copyOne : Nat := 0xac1d4f80030400a7070700991d807e081004158078077e0504157ec100112e040900b42a040900b42a0436601c2e030900b42a3e030400a7040700994100b6052a7900b664044100b6052a052a7900b6601b4100b6072a072a7900b6601b4100b606102a06102a7500b61c4100b6072a1400b42a3d4b00b64100b606102a1400b42a
theorem zk_cX5_copyOne : zkd cX5_copyOne.data.toList kn_cX5_copyOne = true := by decide +kernel
theorem zn_cX5_copyOne : cX5_copyOne.data.toList.length = 130 := by decide +kernel
theorem dX5_copyOne_0 : decode cX5_copyOne 0 = .ok (.aload_n 0, 1) := zo_42 (zkb zk_cX5_copyOne zn_cX5_copyOne rfl)
theorem dX5_copyOne_1 : decode cX5_copyOne 1 = .ok (.getfield 20, 3) := zo_180 (b1 := 0) (b2 := 20) (zkb3 zk_cX5_copyOne zn_cX5_copyOne rfl) rfl
theorem dX5_copyOne_4 : decode cX5_copyOne 4 = .ok (.aload_n 0, 1) := zo_42 (zkb zk_cX5_copyOne zn_cX5_copyOne rfl)
theorem dX5_copyOne_5 : decode cX5_copyOne 5 = .ok (.bipush 6, 2) := zo_16 (b1 := 6) (zkb2 zk_cX5_copyOne zn_cX5_copyOne rfl) rfl
theorem dX5_copyOne_7 : decode cX5_copyOne 7 = .ok (.invokevirtual 65, 3) := zo_182 (b1 := 0) (b2 := 65) (zkb3 zk_cX5_copyOne zn_cX5_copyOne rfl) rfl
theorem dX5_copyOne_10 : decode cX5_copyOne 10 = .ok (.invokevirtual 75, 3) := zo_182 (b1 := 0) (b2 := 75) (zkb3 zk_cX5_copyOne zn_cX5_copyOne rfl) rfl
theorem dX5_copyOne_13 : decode cX5_copyOne 13 = .ok (.istore_n 2, 1) := zo_61 (zkb zk_cX5_copyOne zn_cX5_copyOne rfl)
theorem dX5_copyOne_14 : decode cX5_copyOne 14 = .ok (.aload_n 0, 1) := zo_42 (zkb zk_cX5_copyOne zn_cX5_copyOne rfl)
theorem dX5_copyOne_15 : decode cX5_copyOne 15 = .ok (.getfield 20, 3) := zo_180 (b1 := 0) (b2 := 20) (zkb3 zk_cX5_copyOne zn_cX5_copyOne rfl) rfl
theorem dX5_copyOne_18 : decode cX5_copyOne 18 = .ok (.aload_n 0, 1) := zo_42 (zkb zk_cX5_copyOne zn_cX5_copyOne rfl)
theorem dX5_copyOne_19 : decode cX5_copyOne 19 = .ok (.iconst 4, 1) := zo_7 (zkb zk_cX5_copyOne zn_cX5_copyOne rfl)
theorem dX5_copyOne_20 : decode cX5_copyOne 20 = .ok (.invokevirtual 65, 3) := zo_182 (b1 := 0) (b2 := 65) (zkb3 zk_cX5_copyOne zn_cX5_copyOne rfl) rfl
theorem dX5_copyOne_23 : decode cX5_copyOne 23 = .ok (.iload_n 2, 1) := zo_28 (zkb zk_cX5_copyOne zn_cX5_copyOne rfl)
theorem dX5_copyOne_24 : decode cX5_copyOne 24 = .ok (.invokevirtual 117, 3) := zo_182 (b1 := 0) (b2 := 117) (zkb3 zk_cX5_copyOne zn_cX5_copyOne rfl) rfl
theorem dX5_copyOne_27 : decode cX5_copyOne 27 = .ok (.aload_n 0, 1) := zo_42 (zkb zk_cX5_copyOne zn_cX5_copyOne rfl)
theorem dX5_copyOne_28 : decode cX5_copyOne 28 = .ok (.bipush 6, 2) := zo_16 (b1 := 6) (zkb2 zk_cX5_copyOne zn_cX5_copyOne rfl) rfl
theorem dX5_copyOne_30 : decode cX5_copyOne 30 = .ok (.aload_n 0, 1) := zo_42 (zkb zk_cX5_copyOne zn_cX5_copyOne rfl)
theorem dX5_copyOne_31 : decode cX5_copyOne 31 = .ok (.bipush 6, 2) := zo_16 (b1 := 6) (zkb2 zk_cX5_copyOne zn_cX5_copyOne rfl) rfl
theorem dX5_copyOne_33 : decode cX5_copyOne 33 = .ok (.invokevirtual 65, 3) := zo_182 (b1 := 0) (b2 := 65) (zkb3 zk_cX5_copyOne zn_cX5_copyOne rfl) rfl
theorem dX5_copyOne_36 : decode cX5_copyOne 36 = .ok (.iload_n 1, 1) := zo_27 (zkb zk_cX5_copyOne zn_cX5_copyOne rfl)
theorem dX5_copyOne_37 : decode cX5_copyOne 37 = .ok (.iadd, 1) := zo_96 (zkb zk_cX5_copyOne zn_cX5_copyOne rfl)
theorem dX5_copyOne_38 : decode cX5_copyOne 38 = .ok (.invokevirtual 121, 3) := zo_182 (b1 := 0) (b2 := 121) (zkb3 zk_cX5_copyOne zn_cX5_copyOne rfl) rfl
theorem dX5_copyOne_41 : decode cX5_copyOne 41 = .ok (.aload_n 0, 1) := zo_42 (zkb zk_cX5_copyOne zn_cX5_copyOne rfl)
theorem dX5_copyOne_42 : decode cX5_copyOne 42 = .ok (.iconst 4, 1) := zo_7 (zkb zk_cX5_copyOne zn_cX5_copyOne rfl)
theorem dX5_copyOne_43 : decode cX5_copyOne 43 = .ok (.aload_n 0, 1) := zo_42 (zkb zk_cX5_copyOne zn_cX5_copyOne rfl)
theorem dX5_copyOne_44 : decode cX5_copyOne 44 = .ok (.iconst 4, 1) := zo_7 (zkb zk_cX5_copyOne zn_cX5_copyOne rfl)
theorem dX5_copyOne_45 : decode cX5_copyOne 45 = .ok (.invokevirtual 65, 3) := zo_182 (b1 := 0) (b2 := 65) (zkb3 zk_cX5_copyOne zn_cX5_copyOne rfl) rfl
theorem dX5_copyOne_48 : decode cX5_copyOne 48 = .ok (.iload_n 1, 1) := zo_27 (zkb zk_cX5_copyOne zn_cX5_copyOne rfl)
theorem dX5_copyOne_49 : decode cX5_copyOne 49 = .ok (.iadd, 1) := zo_96 (zkb zk_cX5_copyOne zn_cX5_copyOne rfl)
theorem dX5_copyOne_50 : decode cX5_copyOne 50 = .ok (.invokevirtual 121, 3) := zo_182 (b1 := 0) (b2 := 121) (zkb3 zk_cX5_copyOne zn_cX5_copyOne rfl) rfl
theorem dX5_copyOne_53 : decode cX5_copyOne 53 = .ok (.aload_n 0, 1) := zo_42 (zkb zk_cX5_copyOne zn_cX5_copyOne rfl)
theorem dX5_copyOne_54 : decode cX5_copyOne 54 = .ok (.iconst 2, 1) := zo_5 (zkb zk_cX5_copyOne zn_cX5_copyOne rfl)
theorem dX5_copyOne_55 : decode cX5_copyOne 55 = .ok (.aload_n 0, 1) := zo_42 (zkb zk_cX5_copyOne zn_cX5_copyOne rfl)
theorem dX5_copyOne_56 : decode cX5_copyOne 56 = .ok (.iconst 2, 1) := zo_5 (zkb zk_cX5_copyOne zn_cX5_copyOne rfl)
theorem dX5_copyOne_57 : decode cX5_copyOne 57 = .ok (.invokevirtual 65, 3) := zo_182 (b1 := 0) (b2 := 65) (zkb3 zk_cX5_copyOne zn_cX5_copyOne rfl) rfl
theorem dX5_copyOne_60 : decode cX5_copyOne 60 = .ok (.iconst 1, 1) := zo_4 (zkb zk_cX5_copyOne zn_cX5_copyOne rfl)
theorem dX5_copyOne_61 : decode cX5_copyOne 61 = .ok (.isub, 1) := zo_100 (zkb zk_cX5_copyOne zn_cX5_copyOne rfl)
theorem dX5_copyOne_62 : decode cX5_copyOne 62 = .ok (.invokevirtual 121, 3) := zo_182 (b1 := 0) (b2 := 121) (zkb3 zk_cX5_copyOne zn_cX5_copyOne rfl) rfl
theorem dX5_copyOne_65 : decode cX5_copyOne 65 = .ok (.aload_n 0, 1) := zo_42 (zkb zk_cX5_copyOne zn_cX5_copyOne rfl)
theorem dX5_copyOne_66 : decode cX5_copyOne 66 = .ok (.iconst 2, 1) := zo_5 (zkb zk_cX5_copyOne zn_cX5_copyOne rfl)
theorem dX5_copyOne_67 : decode cX5_copyOne 67 = .ok (.invokevirtual 65, 3) := zo_182 (b1 := 0) (b2 := 65) (zkb3 zk_cX5_copyOne zn_cX5_copyOne rfl) rfl
theorem dX5_copyOne_70 : decode cX5_copyOne 70 = .ok (.ifCond .eq 7, 3) := zo_153 (b1 := 0) (b2 := 7) (zkb3 zk_cX5_copyOne zn_cX5_copyOne rfl) rfl
theorem dX5_copyOne_73 : decode cX5_copyOne 73 = .ok (.iconst 1, 1) := zo_4 (zkb zk_cX5_copyOne zn_cX5_copyOne rfl)
theorem dX5_copyOne_74 : decode cX5_copyOne 74 = .ok (.goto 4, 3) := zo_167 (b1 := 0) (b2 := 4) (zkb3 zk_cX5_copyOne zn_cX5_copyOne rfl) rfl
theorem dX5_copyOne_77 : decode cX5_copyOne 77 = .ok (.iconst 0, 1) := zo_3 (zkb zk_cX5_copyOne zn_cX5_copyOne rfl)
theorem dX5_copyOne_78 : decode cX5_copyOne 78 = .ok (.istore_n 3, 1) := zo_62 (zkb zk_cX5_copyOne zn_cX5_copyOne rfl)
theorem dX5_copyOne_79 : decode cX5_copyOne 79 = .ok (.aload_n 0, 1) := zo_42 (zkb zk_cX5_copyOne zn_cX5_copyOne rfl)
theorem dX5_copyOne_80 : decode cX5_copyOne 80 = .ok (.getfield 9, 3) := zo_180 (b1 := 0) (b2 := 9) (zkb3 zk_cX5_copyOne zn_cX5_copyOne rfl) rfl
theorem dX5_copyOne_83 : decode cX5_copyOne 83 = .ok (.iconst 0, 1) := zo_3 (zkb zk_cX5_copyOne zn_cX5_copyOne rfl)
theorem dX5_copyOne_84 : decode cX5_copyOne 84 = .ok (.iaload, 1) := zo_46 (zkb zk_cX5_copyOne zn_cX5_copyOne rfl)
theorem dX5_copyOne_85 : decode cX5_copyOne 85 = .ok (.iload_n 2, 1) := zo_28 (zkb zk_cX5_copyOne zn_cX5_copyOne rfl)
theorem dX5_copyOne_86 : decode cX5_copyOne 86 = .ok (.iadd, 1) := zo_96 (zkb zk_cX5_copyOne zn_cX5_copyOne rfl)
theorem dX5_copyOne_87 : decode cX5_copyOne 87 = .ok (.istore 4, 2) := zo_54 (b1 := 4) (zkb2 zk_cX5_copyOne zn_cX5_copyOne rfl)
theorem dX5_copyOne_89 : decode cX5_copyOne 89 = .ok (.aload_n 0, 1) := zo_42 (zkb zk_cX5_copyOne zn_cX5_copyOne rfl)
theorem dX5_copyOne_90 : decode cX5_copyOne 90 = .ok (.getfield 9, 3) := zo_180 (b1 := 0) (b2 := 9) (zkb3 zk_cX5_copyOne zn_cX5_copyOne rfl) rfl
theorem dX5_copyOne_93 : decode cX5_copyOne 93 = .ok (.iconst 1, 1) := zo_4 (zkb zk_cX5_copyOne zn_cX5_copyOne rfl)
theorem dX5_copyOne_94 : decode cX5_copyOne 94 = .ok (.aload_n 0, 1) := zo_42 (zkb zk_cX5_copyOne zn_cX5_copyOne rfl)
theorem dX5_copyOne_95 : decode cX5_copyOne 95 = .ok (.getfield 9, 3) := zo_180 (b1 := 0) (b2 := 9) (zkb3 zk_cX5_copyOne zn_cX5_copyOne rfl) rfl
theorem dX5_copyOne_98 : decode cX5_copyOne 98 = .ok (.iconst 1, 1) := zo_4 (zkb zk_cX5_copyOne zn_cX5_copyOne rfl)
theorem dX5_copyOne_99 : decode cX5_copyOne 99 = .ok (.iaload, 1) := zo_46 (zkb zk_cX5_copyOne zn_cX5_copyOne rfl)
theorem dX5_copyOne_100 : decode cX5_copyOne 100 = .ok (.sipush 193, 3) := zo_17 (b1 := 0) (b2 := 193) (zkb3 zk_cX5_copyOne zn_cX5_copyOne rfl) rfl
theorem dX5_copyOne_103 : decode cX5_copyOne 103 = .ok (.iand, 1) := zo_126 (zkb zk_cX5_copyOne zn_cX5_copyOne rfl)
theorem dX5_copyOne_104 : decode cX5_copyOne 104 = .ok (.iload 4, 2) := zo_21 (b1 := 4) (zkb2 zk_cX5_copyOne zn_cX5_copyOne rfl)
theorem dX5_copyOne_106 : decode cX5_copyOne 106 = .ok (.iconst 2, 1) := zo_5 (zkb zk_cX5_copyOne zn_cX5_copyOne rfl)
theorem dX5_copyOne_107 : decode cX5_copyOne 107 = .ok (.iand, 1) := zo_126 (zkb zk_cX5_copyOne zn_cX5_copyOne rfl)
theorem dX5_copyOne_108 : decode cX5_copyOne 108 = .ok (.iconst 4, 1) := zo_7 (zkb zk_cX5_copyOne zn_cX5_copyOne rfl)
theorem dX5_copyOne_109 : decode cX5_copyOne 109 = .ok (.ishl, 1) := zo_120 (zkb zk_cX5_copyOne zn_cX5_copyOne rfl)
theorem dX5_copyOne_110 : decode cX5_copyOne 110 = .ok (.ior, 1) := zo_128 (zkb zk_cX5_copyOne zn_cX5_copyOne rfl)
theorem dX5_copyOne_111 : decode cX5_copyOne 111 = .ok (.iload 4, 2) := zo_21 (b1 := 4) (zkb2 zk_cX5_copyOne zn_cX5_copyOne rfl)
theorem dX5_copyOne_113 : decode cX5_copyOne 113 = .ok (.bipush 8, 2) := zo_16 (b1 := 8) (zkb2 zk_cX5_copyOne zn_cX5_copyOne rfl) rfl
theorem dX5_copyOne_115 : decode cX5_copyOne 115 = .ok (.iand, 1) := zo_126 (zkb zk_cX5_copyOne zn_cX5_copyOne rfl)
theorem dX5_copyOne_116 : decode cX5_copyOne 116 = .ok (.ior, 1) := zo_128 (zkb zk_cX5_copyOne zn_cX5_copyOne rfl)
theorem dX5_copyOne_117 : decode cX5_copyOne 117 = .ok (.iload_n 3, 1) := zo_29 (zkb zk_cX5_copyOne zn_cX5_copyOne rfl)
theorem dX5_copyOne_118 : decode cX5_copyOne 118 = .ok (.ifCond .eq 7, 3) := zo_153 (b1 := 0) (b2 := 7) (zkb3 zk_cX5_copyOne zn_cX5_copyOne rfl) rfl
theorem dX5_copyOne_121 : decode cX5_copyOne 121 = .ok (.iconst 4, 1) := zo_7 (zkb zk_cX5_copyOne zn_cX5_copyOne rfl)
theorem dX5_copyOne_122 : decode cX5_copyOne 122 = .ok (.goto 4, 3) := zo_167 (b1 := 0) (b2 := 4) (zkb3 zk_cX5_copyOne zn_cX5_copyOne rfl) rfl
theorem dX5_copyOne_125 : decode cX5_copyOne 125 = .ok (.iconst 0, 1) := zo_3 (zkb zk_cX5_copyOne zn_cX5_copyOne rfl)
theorem dX5_copyOne_126 : decode cX5_copyOne 126 = .ok (.ior, 1) := zo_128 (zkb zk_cX5_copyOne zn_cX5_copyOne rfl)
theorem dX5_copyOne_127 : decode cX5_copyOne 127 = .ok (.iastore, 1) := zo_79 (zkb zk_cX5_copyOne zn_cX5_copyOne rfl)
theorem dX5_copyOne_128 : decode cX5_copyOne 128 = .ok (.iload_n 3, 1) := zo_29 (zkb zk_cX5_copyOne zn_cX5_copyOne rfl)
theorem dX5_copyOne_129 : decode cX5_copyOne 129 = .ok (.ireturn, 1) := zo_172 (zkb zk_cX5_copyOne zn_cX5_copyOne rfl)
noncomputable def kn_cX5_compareOne : Nat := 0xac030400a7040700991d0b009905154f800580030400a7070700990515807e081006158078077e05061580041580030400a7401008009a1d807e8000111d7e042e040900b42a040900b42a0636647a0704151d0536030400a7040700994100b6052a4f7e2f12601b2e14100900b42a14100900b42a7900b664044100b6052a052a7900b6601b4100b606102a06102a04367e1010821d821c2e030900b42a3e7eff0011641c2e030900b42a3d4b00b64100b606102a1400b42a
theorem zk_cX5_compareOne : zkd cX5_compareOne.data.toList kn_cX5_compareOne = true := by decide +kernel
theorem zn_cX5_compareOne : cX5_compareOne.data.toList.length = 185 := by decide +kernel
theorem dX5_compareOne_0 : decode cX5_compareOne 0 = .ok (.aload_n 0, 1) := zo_42 (zkb zk_cX5_compareOne zn_cX5_compareOne rfl)
theorem dX5_compareOne_1 : decode cX5_compareOne 1 = .ok (.getfield 20, 3) := zo_180 (b1 := 0) (b2 := 20) (zkb3 zk_cX5_compareOne zn_cX5_compareOne rfl) rfl
theorem dX5_compareOne_4 : decode cX5_compareOne 4 = .ok (.aload_n 0, 1) := zo_42 (zkb zk_cX5_compareOne zn_cX5_compareOne rfl)
theorem dX5_compareOne_5 : decode cX5_compareOne 5 = .ok (.bipush 6, 2) := zo_16 (b1 := 6) (zkb2 zk_cX5_compareOne zn_cX5_compareOne rfl) rfl
theorem dX5_compareOne_7 : decode cX5_compareOne 7 = .ok (.invokevirtual 65, 3) := zo_182 (b1 := 0) (b2 := 65) (zkb3 zk_cX5_compareOne zn_cX5_compareOne rfl) rfl
theorem dX5_compareOne_10 : decode cX5_compareOne 10 = .ok (.invokevirtual 75, 3) := zo_182 (b1 := 0) (b2 := 75) (zkb3 zk_cX5_compareOne zn_cX5_compareOne rfl) rfl
theorem dX5_compareOne_13 : decode cX5_compareOne 13 = .ok (.istore_n 2, 1) := zo_61 (zkb zk_cX5_compareOne zn_cX5_compareOne rfl)
theorem dX5_compareOne_14 : decode cX5_compareOne 14 = .ok (.aload_n 0, 1) := zo_42 (zkb zk_cX5_compareOne zn_cX5_compareOne rfl)
theorem dX5_compareOne_15 : decode cX5_compareOne 15 = .ok (.getfield 9, 3) := zo_180 (b1 := 0) (b2 := 9) (zkb3 zk_cX5_compareOne zn_cX5_compareOne rfl) rfl
theorem dX5_compareOne_18 : decode cX5_compareOne 18 = .ok (.iconst 0, 1) := zo_3 (zkb zk_cX5_compareOne zn_cX5_compareOne rfl)
theorem dX5_compareOne_19 : decode cX5_compareOne 19 = .ok (.iaload, 1) := zo_46 (zkb zk_cX5_compareOne zn_cX5_compareOne rfl)
theorem dX5_compareOne_20 : decode cX5_compareOne 20 = .ok (.iload_n 2, 1) := zo_28 (zkb zk_cX5_compareOne zn_cX5_compareOne rfl)
theorem dX5_compareOne_21 : decode cX5_compareOne 21 = .ok (.isub, 1) := zo_100 (zkb zk_cX5_compareOne zn_cX5_compareOne rfl)
theorem dX5_compareOne_22 : decode cX5_compareOne 22 = .ok (.sipush 255, 3) := zo_17 (b1 := 0) (b2 := 255) (zkb3 zk_cX5_compareOne zn_cX5_compareOne rfl) rfl
theorem dX5_compareOne_25 : decode cX5_compareOne 25 = .ok (.iand, 1) := zo_126 (zkb zk_cX5_compareOne zn_cX5_compareOne rfl)
theorem dX5_compareOne_26 : decode cX5_compareOne 26 = .ok (.istore_n 3, 1) := zo_62 (zkb zk_cX5_compareOne zn_cX5_compareOne rfl)
theorem dX5_compareOne_27 : decode cX5_compareOne 27 = .ok (.aload_n 0, 1) := zo_42 (zkb zk_cX5_compareOne zn_cX5_compareOne rfl)
theorem dX5_compareOne_28 : decode cX5_compareOne 28 = .ok (.getfield 9, 3) := zo_180 (b1 := 0) (b2 := 9) (zkb3 zk_cX5_compareOne zn_cX5_compareOne rfl) rfl
theorem dX5_compareOne_31 : decode cX5_compareOne 31 = .ok (.iconst 0, 1) := zo_3 (zkb zk_cX5_compareOne zn_cX5_compareOne rfl)
theorem dX5_compareOne_32 : decode cX5_compareOne 32 = .ok (.iaload, 1) := zo_46 (zkb zk_cX5_compareOne zn_cX5_compareOne rfl)
theorem dX5_compareOne_33 : decode cX5_compareOne 33 = .ok (.iload_n 2, 1) := zo_28 (zkb zk_cX5_compareOne zn_cX5_compareOne rfl)
theorem dX5_compareOne_34 : decode cX5_compareOne 34 = .ok (.ixor, 1) := zo_130 (zkb zk_cX5_compareOne zn_cX5_compareOne rfl)
theorem dX5_compareOne_35 : decode cX5_compareOne 35 = .ok (.iload_n 3, 1) := zo_29 (zkb zk_cX5_compareOne zn_cX5_compareOne rfl)
theorem dX5_compareOne_36 : decode cX5_compareOne 36 = .ok (.ixor, 1) := zo_130 (zkb zk_cX5_compareOne zn_cX5_compareOne rfl)
theorem dX5_compareOne_37 : decode cX5_compareOne 37 = .ok (.bipush 16, 2) := zo_16 (b1 := 16) (zkb2 zk_cX5_compareOne zn_cX5_compareOne rfl) rfl
theorem dX5_compareOne_39 : decode cX5_compareOne 39 = .ok (.iand, 1) := zo_126 (zkb zk_cX5_compareOne zn_cX5_compareOne rfl)
theorem dX5_compareOne_40 : decode cX5_compareOne 40 = .ok (.istore 4, 2) := zo_54 (b1 := 4) (zkb2 zk_cX5_compareOne zn_cX5_compareOne rfl)
theorem dX5_compareOne_42 : decode cX5_compareOne 42 = .ok (.aload_n 0, 1) := zo_42 (zkb zk_cX5_compareOne zn_cX5_compareOne rfl)
theorem dX5_compareOne_43 : decode cX5_compareOne 43 = .ok (.bipush 6, 2) := zo_16 (b1 := 6) (zkb2 zk_cX5_compareOne zn_cX5_compareOne rfl) rfl
theorem dX5_compareOne_45 : decode cX5_compareOne 45 = .ok (.aload_n 0, 1) := zo_42 (zkb zk_cX5_compareOne zn_cX5_compareOne rfl)
theorem dX5_compareOne_46 : decode cX5_compareOne 46 = .ok (.bipush 6, 2) := zo_16 (b1 := 6) (zkb2 zk_cX5_compareOne zn_cX5_compareOne rfl) rfl
theorem dX5_compareOne_48 : decode cX5_compareOne 48 = .ok (.invokevirtual 65, 3) := zo_182 (b1 := 0) (b2 := 65) (zkb3 zk_cX5_compareOne zn_cX5_compareOne rfl) rfl
theorem dX5_compareOne_51 : decode cX5_compareOne 51 = .ok (.iload_n 1, 1) := zo_27 (zkb zk_cX5_compareOne zn_cX5_compareOne rfl)
theorem dX5_compareOne_52 : decode cX5_compareOne 52 = .ok (.iadd, 1) := zo_96 (zkb zk_cX5_compareOne zn_cX5_compareOne rfl)
theorem dX5_compareOne_53 : decode cX5_compareOne 53 = .ok (.invokevirtual 121, 3) := zo_182 (b1 := 0) (b2 := 121) (zkb3 zk_cX5_compareOne zn_cX5_compareOne rfl) rfl
theorem dX5_compareOne_56 : decode cX5_compareOne 56 = .ok (.aload_n 0, 1) := zo_42 (zkb zk_cX5_compareOne zn_cX5_compareOne rfl)
theorem dX5_compareOne_57 : decode cX5_compareOne 57 = .ok (.iconst 2, 1) := zo_5 (zkb zk_cX5_compareOne zn_cX5_compareOne rfl)
theorem dX5_compareOne_58 : decode cX5_compareOne 58 = .ok (.aload_n 0, 1) := zo_42 (zkb zk_cX5_compareOne zn_cX5_compareOne rfl)
theorem dX5_compareOne_59 : decode cX5_compareOne 59 = .ok (.iconst 2, 1) := zo_5 (zkb zk_cX5_compareOne zn_cX5_compareOne rfl)
theorem dX5_compareOne_60 : decode cX5_compareOne 60 = .ok (.invokevirtual 65, 3) := zo_182 (b1 := 0) (b2 := 65) (zkb3 zk_cX5_compareOne zn_cX5_compareOne rfl) rfl
theorem dX5_compareOne_63 : decode cX5_compareOne 63 = .ok (.iconst 1, 1) := zo_4 (zkb zk_cX5_compareOne zn_cX5_compareOne rfl)
theorem dX5_compareOne_64 : decode cX5_compareOne 64 = .ok (.isub, 1) := zo_100 (zkb zk_cX5_compareOne zn_cX5_compareOne rfl)
theorem dX5_compareOne_65 : decode cX5_compareOne 65 = .ok (.invokevirtual 121, 3) := zo_182 (b1 := 0) (b2 := 121) (zkb3 zk_cX5_compareOne zn_cX5_compareOne rfl) rfl
theorem dX5_compareOne_68 : decode cX5_compareOne 68 = .ok (.aload_n 0, 1) := zo_42 (zkb zk_cX5_compareOne zn_cX5_compareOne rfl)
theorem dX5_compareOne_69 : decode cX5_compareOne 69 = .ok (.getfield 9, 3) := zo_180 (b1 := 0) (b2 := 9) (zkb3 zk_cX5_compareOne zn_cX5_compareOne rfl) rfl
theorem dX5_compareOne_72 : decode cX5_compareOne 72 = .ok (.bipush 20, 2) := zo_16 (b1 := 20) (zkb2 zk_cX5_compareOne zn_cX5_compareOne rfl) rfl
theorem dX5_compareOne_74 : decode cX5_compareOne 74 = .ok (.aload_n 0, 1) := zo_42 (zkb zk_cX5_compareOne zn_cX5_compareOne rfl)
theorem dX5_compareOne_75 : decode cX5_compareOne 75 = .ok (.getfield 9, 3) := zo_180 (b1 := 0) (b2 := 9) (zkb3 zk_cX5_compareOne zn_cX5_compareOne rfl) rfl
theorem dX5_compareOne_78 : decode cX5_compareOne 78 = .ok (.bipush 20, 2) := zo_16 (b1 := 20) (zkb2 zk_cX5_compareOne zn_cX5_compareOne rfl) rfl
theorem dX5_compareOne_80 : decode cX5_compareOne 80 = .ok (.iaload, 1) := zo_46 (zkb zk_cX5_compareOne zn_cX5_compareOne rfl)
theorem dX5_compareOne_81 : decode cX5_compareOne 81 = .ok (.iload_n 1, 1) := zo_27 (zkb zk_cX5_compareOne zn_cX5_compareOne rfl)
theorem dX5_compareOne_82 : decode cX5_compareOne 82 = .ok (.iadd, 1) := zo_96 (zkb zk_cX5_compareOne zn_cX5_compareOne rfl)
theorem dX5_compareOne_83 : decode cX5_compareOne 83 = .ok (.ldc 47, 2) := zo_18 (b1 := 47) (zkb2 zk_cX5_compareOne zn_cX5_compareOne rfl)
theorem dX5_compareOne_85 : decode cX5_compareOne 85 = .ok (.iand, 1) := zo_126 (zkb zk_cX5_compareOne zn_cX5_compareOne rfl)
theorem dX5_compareOne_86 : decode cX5_compareOne 86 = .ok (.iastore, 1) := zo_79 (zkb zk_cX5_compareOne zn_cX5_compareOne rfl)
theorem dX5_compareOne_87 : decode cX5_compareOne 87 = .ok (.aload_n 0, 1) := zo_42 (zkb zk_cX5_compareOne zn_cX5_compareOne rfl)
theorem dX5_compareOne_88 : decode cX5_compareOne 88 = .ok (.iconst 2, 1) := zo_5 (zkb zk_cX5_compareOne zn_cX5_compareOne rfl)
theorem dX5_compareOne_89 : decode cX5_compareOne 89 = .ok (.invokevirtual 65, 3) := zo_182 (b1 := 0) (b2 := 65) (zkb3 zk_cX5_compareOne zn_cX5_compareOne rfl) rfl
theorem dX5_compareOne_92 : decode cX5_compareOne 92 = .ok (.ifCond .eq 7, 3) := zo_153 (b1 := 0) (b2 := 7) (zkb3 zk_cX5_compareOne zn_cX5_compareOne rfl) rfl
theorem dX5_compareOne_95 : decode cX5_compareOne 95 = .ok (.iconst 1, 1) := zo_4 (zkb zk_cX5_compareOne zn_cX5_compareOne rfl)
theorem dX5_compareOne_96 : decode cX5_compareOne 96 = .ok (.goto 4, 3) := zo_167 (b1 := 0) (b2 := 4) (zkb3 zk_cX5_compareOne zn_cX5_compareOne rfl) rfl
theorem dX5_compareOne_99 : decode cX5_compareOne 99 = .ok (.iconst 0, 1) := zo_3 (zkb zk_cX5_compareOne zn_cX5_compareOne rfl)
theorem dX5_compareOne_100 : decode cX5_compareOne 100 = .ok (.istore 5, 2) := zo_54 (b1 := 5) (zkb2 zk_cX5_compareOne zn_cX5_compareOne rfl)
theorem dX5_compareOne_102 : decode cX5_compareOne 102 = .ok (.iload_n 3, 1) := zo_29 (zkb zk_cX5_compareOne zn_cX5_compareOne rfl)
theorem dX5_compareOne_103 : decode cX5_compareOne 103 = .ok (.iload 4, 2) := zo_21 (b1 := 4) (zkb2 zk_cX5_compareOne zn_cX5_compareOne rfl)
theorem dX5_compareOne_105 : decode cX5_compareOne 105 = .ok (.iconst 4, 1) := zo_7 (zkb zk_cX5_compareOne zn_cX5_compareOne rfl)
theorem dX5_compareOne_106 : decode cX5_compareOne 106 = .ok (.ishr, 1) := zo_122 (zkb zk_cX5_compareOne zn_cX5_compareOne rfl)
theorem dX5_compareOne_107 : decode cX5_compareOne 107 = .ok (.isub, 1) := zo_100 (zkb zk_cX5_compareOne zn_cX5_compareOne rfl)
theorem dX5_compareOne_108 : decode cX5_compareOne 108 = .ok (.istore 6, 2) := zo_54 (b1 := 6) (zkb2 zk_cX5_compareOne zn_cX5_compareOne rfl)
theorem dX5_compareOne_110 : decode cX5_compareOne 110 = .ok (.aload_n 0, 1) := zo_42 (zkb zk_cX5_compareOne zn_cX5_compareOne rfl)
theorem dX5_compareOne_111 : decode cX5_compareOne 111 = .ok (.getfield 9, 3) := zo_180 (b1 := 0) (b2 := 9) (zkb3 zk_cX5_compareOne zn_cX5_compareOne rfl) rfl
theorem dX5_compareOne_114 : decode cX5_compareOne 114 = .ok (.iconst 1, 1) := zo_4 (zkb zk_cX5_compareOne zn_cX5_compareOne rfl)
theorem dX5_compareOne_115 : decode cX5_compareOne 115 = .ok (.aload_n 0, 1) := zo_42 (zkb zk_cX5_compareOne zn_cX5_compareOne rfl)
theorem dX5_compareOne_116 : decode cX5_compareOne 116 = .ok (.getfield 9, 3) := zo_180 (b1 := 0) (b2 := 9) (zkb3 zk_cX5_compareOne zn_cX5_compareOne rfl) rfl
theorem dX5_compareOne_119 : decode cX5_compareOne 119 = .ok (.iconst 1, 1) := zo_4 (zkb zk_cX5_compareOne zn_cX5_compareOne rfl)
theorem dX5_compareOne_120 : decode cX5_compareOne 120 = .ok (.iaload, 1) := zo_46 (zkb zk_cX5_compareOne zn_cX5_compareOne rfl)
theorem dX5_compareOne_121 : decode cX5_compareOne 121 = .ok (.iconst 1, 1) := zo_4 (zkb zk_cX5_compareOne zn_cX5_compareOne rfl)
theorem dX5_compareOne_122 : decode cX5_compareOne 122 = .ok (.iand, 1) := zo_126 (zkb zk_cX5_compareOne zn_cX5_compareOne rfl)
theorem dX5_compareOne_123 : decode cX5_compareOne 123 = .ok (.iload_n 3, 1) := zo_29 (zkb zk_cX5_compareOne zn_cX5_compareOne rfl)
theorem dX5_compareOne_124 : decode cX5_compareOne 124 = .ok (.sipush 128, 3) := zo_17 (b1 := 0) (b2 := 128) (zkb3 zk_cX5_compareOne zn_cX5_compareOne rfl) rfl
theorem dX5_compareOne_127 : decode cX5_compareOne 127 = .ok (.iand, 1) := zo_126 (zkb zk_cX5_compareOne zn_cX5_compareOne rfl)
theorem dX5_compareOne_128 : decode cX5_compareOne 128 = .ok (.ior, 1) := zo_128 (zkb zk_cX5_compareOne zn_cX5_compareOne rfl)
theorem dX5_compareOne_129 : decode cX5_compareOne 129 = .ok (.iload_n 3, 1) := zo_29 (zkb zk_cX5_compareOne zn_cX5_compareOne rfl)
theorem dX5_compareOne_130 : decode cX5_compareOne 130 = .ok (.ifCond .ne 8, 3) := zo_154 (b1 := 0) (b2 := 8) (zkb3 zk_cX5_compareOne zn_cX5_compareOne rfl) rfl
theorem dX5_compareOne_133 : decode cX5_compareOne 133 = .ok (.bipush 64, 2) := zo_16 (b1 := 64) (zkb2 zk_cX5_compareOne zn_cX5_compareOne rfl) rfl
theorem dX5_compareOne_135 : decode cX5_compareOne 135 = .ok (.goto 4, 3) := zo_167 (b1 := 0) (b2 := 4) (zkb3 zk_cX5_compareOne zn_cX5_compareOne rfl) rfl
theorem dX5_compareOne_138 : decode cX5_compareOne 138 = .ok (.iconst 0, 1) := zo_3 (zkb zk_cX5_compareOne zn_cX5_compareOne rfl)
theorem dX5_compareOne_139 : decode cX5_compareOne 139 = .ok (.ior, 1) := zo_128 (zkb zk_cX5_compareOne zn_cX5_compareOne rfl)
theorem dX5_compareOne_140 : decode cX5_compareOne 140 = .ok (.iload 4, 2) := zo_21 (b1 := 4) (zkb2 zk_cX5_compareOne zn_cX5_compareOne rfl)
theorem dX5_compareOne_142 : decode cX5_compareOne 142 = .ok (.ior, 1) := zo_128 (zkb zk_cX5_compareOne zn_cX5_compareOne rfl)
theorem dX5_compareOne_143 : decode cX5_compareOne 143 = .ok (.iload 6, 2) := zo_21 (b1 := 6) (zkb2 zk_cX5_compareOne zn_cX5_compareOne rfl)
theorem dX5_compareOne_145 : decode cX5_compareOne 145 = .ok (.iconst 2, 1) := zo_5 (zkb zk_cX5_compareOne zn_cX5_compareOne rfl)
theorem dX5_compareOne_146 : decode cX5_compareOne 146 = .ok (.iand, 1) := zo_126 (zkb zk_cX5_compareOne zn_cX5_compareOne rfl)
theorem dX5_compareOne_147 : decode cX5_compareOne 147 = .ok (.iconst 4, 1) := zo_7 (zkb zk_cX5_compareOne zn_cX5_compareOne rfl)
theorem dX5_compareOne_148 : decode cX5_compareOne 148 = .ok (.ishl, 1) := zo_120 (zkb zk_cX5_compareOne zn_cX5_compareOne rfl)
theorem dX5_compareOne_149 : decode cX5_compareOne 149 = .ok (.ior, 1) := zo_128 (zkb zk_cX5_compareOne zn_cX5_compareOne rfl)
theorem dX5_compareOne_150 : decode cX5_compareOne 150 = .ok (.iload 6, 2) := zo_21 (b1 := 6) (zkb2 zk_cX5_compareOne zn_cX5_compareOne rfl)
theorem dX5_compareOne_152 : decode cX5_compareOne 152 = .ok (.bipush 8, 2) := zo_16 (b1 := 8) (zkb2 zk_cX5_compareOne zn_cX5_compareOne rfl) rfl
theorem dX5_compareOne_154 : decode cX5_compareOne 154 = .ok (.iand, 1) := zo_126 (zkb zk_cX5_compareOne zn_cX5_compareOne rfl)
theorem dX5_compareOne_155 : decode cX5_compareOne 155 = .ok (.ior, 1) := zo_128 (zkb zk_cX5_compareOne zn_cX5_compareOne rfl)
theorem dX5_compareOne_156 : decode cX5_compareOne 156 = .ok (.iload 5, 2) := zo_21 (b1 := 5) (zkb2 zk_cX5_compareOne zn_cX5_compareOne rfl)
theorem dX5_compareOne_158 : decode cX5_compareOne 158 = .ok (.ifCond .eq 7, 3) := zo_153 (b1 := 0) (b2 := 7) (zkb3 zk_cX5_compareOne zn_cX5_compareOne rfl) rfl
theorem dX5_compareOne_161 : decode cX5_compareOne 161 = .ok (.iconst 4, 1) := zo_7 (zkb zk_cX5_compareOne zn_cX5_compareOne rfl)
theorem dX5_compareOne_162 : decode cX5_compareOne 162 = .ok (.goto 4, 3) := zo_167 (b1 := 0) (b2 := 4) (zkb3 zk_cX5_compareOne zn_cX5_compareOne rfl) rfl
theorem dX5_compareOne_165 : decode cX5_compareOne 165 = .ok (.iconst 0, 1) := zo_3 (zkb zk_cX5_compareOne zn_cX5_compareOne rfl)
theorem dX5_compareOne_166 : decode cX5_compareOne 166 = .ok (.ior, 1) := zo_128 (zkb zk_cX5_compareOne zn_cX5_compareOne rfl)
theorem dX5_compareOne_167 : decode cX5_compareOne 167 = .ok (.iconst 2, 1) := zo_5 (zkb zk_cX5_compareOne zn_cX5_compareOne rfl)
theorem dX5_compareOne_168 : decode cX5_compareOne 168 = .ok (.ior, 1) := zo_128 (zkb zk_cX5_compareOne zn_cX5_compareOne rfl)
theorem dX5_compareOne_169 : decode cX5_compareOne 169 = .ok (.iastore, 1) := zo_79 (zkb zk_cX5_compareOne zn_cX5_compareOne rfl)
theorem dX5_compareOne_170 : decode cX5_compareOne 170 = .ok (.iload 5, 2) := zo_21 (b1 := 5) (zkb2 zk_cX5_compareOne zn_cX5_compareOne rfl)
theorem dX5_compareOne_172 : decode cX5_compareOne 172 = .ok (.ifCond .eq 11, 3) := zo_153 (b1 := 0) (b2 := 11) (zkb3 zk_cX5_compareOne zn_cX5_compareOne rfl) rfl
theorem dX5_compareOne_175 : decode cX5_compareOne 175 = .ok (.iload_n 3, 1) := zo_29 (zkb zk_cX5_compareOne zn_cX5_compareOne rfl)
theorem dX5_compareOne_176 : decode cX5_compareOne 176 = .ok (.ifCond .eq 7, 3) := zo_153 (b1 := 0) (b2 := 7) (zkb3 zk_cX5_compareOne zn_cX5_compareOne rfl) rfl
theorem dX5_compareOne_179 : decode cX5_compareOne 179 = .ok (.iconst 1, 1) := zo_4 (zkb zk_cX5_compareOne zn_cX5_compareOne rfl)
theorem dX5_compareOne_180 : decode cX5_compareOne 180 = .ok (.goto 4, 3) := zo_167 (b1 := 0) (b2 := 4) (zkb3 zk_cX5_compareOne zn_cX5_compareOne rfl) rfl
theorem dX5_compareOne_183 : decode cX5_compareOne 183 = .ok (.iconst 0, 1) := zo_3 (zkb zk_cX5_compareOne zn_cX5_compareOne rfl)
theorem dX5_compareOne_184 : decode cX5_compareOne 184 = .ok (.ireturn, 1) := zo_172 (zkb zk_cX5_compareOne zn_cX5_compareOne rfl)
noncomputable def kn_cX5_takeOne : Nat := 0xac030400a7040700992e050900b42a0f01b6607eff0011601b2e060900b42a1c1c2a7900b6601b4100b606102a06102a7500b61c4100b606102a1400b42a4f7eff001164042e050900b42a050900b42a3de100b62e060900b42a1800b42a4f7e2f12601b4100b6052a14100900b42a
theorem zk_cX5_takeOne : zkd cX5_takeOne.data.toList kn_cX5_takeOne = true := by decide +kernel
theorem zn_cX5_takeOne : cX5_takeOne.data.toList.length = 111 := by decide +kernel
theorem dX5_takeOne_0 : decode cX5_takeOne 0 = .ok (.aload_n 0, 1) := zo_42 (zkb zk_cX5_takeOne zn_cX5_takeOne rfl)
theorem dX5_takeOne_1 : decode cX5_takeOne 1 = .ok (.getfield 9, 3) := zo_180 (b1 := 0) (b2 := 9) (zkb3 zk_cX5_takeOne zn_cX5_takeOne rfl) rfl
theorem dX5_takeOne_4 : decode cX5_takeOne 4 = .ok (.bipush 20, 2) := zo_16 (b1 := 20) (zkb2 zk_cX5_takeOne zn_cX5_takeOne rfl) rfl
theorem dX5_takeOne_6 : decode cX5_takeOne 6 = .ok (.aload_n 0, 1) := zo_42 (zkb zk_cX5_takeOne zn_cX5_takeOne rfl)
theorem dX5_takeOne_7 : decode cX5_takeOne 7 = .ok (.iconst 2, 1) := zo_5 (zkb zk_cX5_takeOne zn_cX5_takeOne rfl)
theorem dX5_takeOne_8 : decode cX5_takeOne 8 = .ok (.invokevirtual 65, 3) := zo_182 (b1 := 0) (b2 := 65) (zkb3 zk_cX5_takeOne zn_cX5_takeOne rfl) rfl
theorem dX5_takeOne_11 : decode cX5_takeOne 11 = .ok (.iload_n 1, 1) := zo_27 (zkb zk_cX5_takeOne zn_cX5_takeOne rfl)
theorem dX5_takeOne_12 : decode cX5_takeOne 12 = .ok (.iadd, 1) := zo_96 (zkb zk_cX5_takeOne zn_cX5_takeOne rfl)
theorem dX5_takeOne_13 : decode cX5_takeOne 13 = .ok (.ldc 47, 2) := zo_18 (b1 := 47) (zkb2 zk_cX5_takeOne zn_cX5_takeOne rfl)
theorem dX5_takeOne_15 : decode cX5_takeOne 15 = .ok (.iand, 1) := zo_126 (zkb zk_cX5_takeOne zn_cX5_takeOne rfl)
theorem dX5_takeOne_16 : decode cX5_takeOne 16 = .ok (.iastore, 1) := zo_79 (zkb zk_cX5_takeOne zn_cX5_takeOne rfl)
theorem dX5_takeOne_17 : decode cX5_takeOne 17 = .ok (.aload_n 0, 1) := zo_42 (zkb zk_cX5_takeOne zn_cX5_takeOne rfl)
theorem dX5_takeOne_18 : decode cX5_takeOne 18 = .ok (.getfield 24, 3) := zo_180 (b1 := 0) (b2 := 24) (zkb3 zk_cX5_takeOne zn_cX5_takeOne rfl) rfl
theorem dX5_takeOne_21 : decode cX5_takeOne 21 = .ok (.aload_n 0, 1) := zo_42 (zkb zk_cX5_takeOne zn_cX5_takeOne rfl)
theorem dX5_takeOne_22 : decode cX5_takeOne 22 = .ok (.getfield 9, 3) := zo_180 (b1 := 0) (b2 := 9) (zkb3 zk_cX5_takeOne zn_cX5_takeOne rfl) rfl
theorem dX5_takeOne_25 : decode cX5_takeOne 25 = .ok (.iconst 3, 1) := zo_6 (zkb zk_cX5_takeOne zn_cX5_takeOne rfl)
theorem dX5_takeOne_26 : decode cX5_takeOne 26 = .ok (.iaload, 1) := zo_46 (zkb zk_cX5_takeOne zn_cX5_takeOne rfl)
theorem dX5_takeOne_27 : decode cX5_takeOne 27 = .ok (.invokevirtual 225, 3) := zo_182 (b1 := 0) (b2 := 225) (zkb3 zk_cX5_takeOne zn_cX5_takeOne rfl) rfl
theorem dX5_takeOne_30 : decode cX5_takeOne 30 = .ok (.istore_n 2, 1) := zo_61 (zkb zk_cX5_takeOne zn_cX5_takeOne rfl)
theorem dX5_takeOne_31 : decode cX5_takeOne 31 = .ok (.aload_n 0, 1) := zo_42 (zkb zk_cX5_takeOne zn_cX5_takeOne rfl)
theorem dX5_takeOne_32 : decode cX5_takeOne 32 = .ok (.getfield 9, 3) := zo_180 (b1 := 0) (b2 := 9) (zkb3 zk_cX5_takeOne zn_cX5_takeOne rfl) rfl
theorem dX5_takeOne_35 : decode cX5_takeOne 35 = .ok (.iconst 2, 1) := zo_5 (zkb zk_cX5_takeOne zn_cX5_takeOne rfl)
theorem dX5_takeOne_36 : decode cX5_takeOne 36 = .ok (.aload_n 0, 1) := zo_42 (zkb zk_cX5_takeOne zn_cX5_takeOne rfl)
theorem dX5_takeOne_37 : decode cX5_takeOne 37 = .ok (.getfield 9, 3) := zo_180 (b1 := 0) (b2 := 9) (zkb3 zk_cX5_takeOne zn_cX5_takeOne rfl) rfl
theorem dX5_takeOne_40 : decode cX5_takeOne 40 = .ok (.iconst 2, 1) := zo_5 (zkb zk_cX5_takeOne zn_cX5_takeOne rfl)
theorem dX5_takeOne_41 : decode cX5_takeOne 41 = .ok (.iaload, 1) := zo_46 (zkb zk_cX5_takeOne zn_cX5_takeOne rfl)
theorem dX5_takeOne_42 : decode cX5_takeOne 42 = .ok (.iconst 1, 1) := zo_4 (zkb zk_cX5_takeOne zn_cX5_takeOne rfl)
theorem dX5_takeOne_43 : decode cX5_takeOne 43 = .ok (.isub, 1) := zo_100 (zkb zk_cX5_takeOne zn_cX5_takeOne rfl)
theorem dX5_takeOne_44 : decode cX5_takeOne 44 = .ok (.sipush 255, 3) := zo_17 (b1 := 0) (b2 := 255) (zkb3 zk_cX5_takeOne zn_cX5_takeOne rfl) rfl
theorem dX5_takeOne_47 : decode cX5_takeOne 47 = .ok (.iand, 1) := zo_126 (zkb zk_cX5_takeOne zn_cX5_takeOne rfl)
theorem dX5_takeOne_48 : decode cX5_takeOne 48 = .ok (.iastore, 1) := zo_79 (zkb zk_cX5_takeOne zn_cX5_takeOne rfl)
theorem dX5_takeOne_49 : decode cX5_takeOne 49 = .ok (.aload_n 0, 1) := zo_42 (zkb zk_cX5_takeOne zn_cX5_takeOne rfl)
theorem dX5_takeOne_50 : decode cX5_takeOne 50 = .ok (.getfield 20, 3) := zo_180 (b1 := 0) (b2 := 20) (zkb3 zk_cX5_takeOne zn_cX5_takeOne rfl) rfl
theorem dX5_takeOne_53 : decode cX5_takeOne 53 = .ok (.aload_n 0, 1) := zo_42 (zkb zk_cX5_takeOne zn_cX5_takeOne rfl)
theorem dX5_takeOne_54 : decode cX5_takeOne 54 = .ok (.bipush 6, 2) := zo_16 (b1 := 6) (zkb2 zk_cX5_takeOne zn_cX5_takeOne rfl) rfl
theorem dX5_takeOne_56 : decode cX5_takeOne 56 = .ok (.invokevirtual 65, 3) := zo_182 (b1 := 0) (b2 := 65) (zkb3 zk_cX5_takeOne zn_cX5_takeOne rfl) rfl
theorem dX5_takeOne_59 : decode cX5_takeOne 59 = .ok (.iload_n 2, 1) := zo_28 (zkb zk_cX5_takeOne zn_cX5_takeOne rfl)
theorem dX5_takeOne_60 : decode cX5_takeOne 60 = .ok (.invokevirtual 117, 3) := zo_182 (b1 := 0) (b2 := 117) (zkb3 zk_cX5_takeOne zn_cX5_takeOne rfl) rfl
theorem dX5_takeOne_63 : decode cX5_takeOne 63 = .ok (.aload_n 0, 1) := zo_42 (zkb zk_cX5_takeOne zn_cX5_takeOne rfl)
theorem dX5_takeOne_64 : decode cX5_takeOne 64 = .ok (.bipush 6, 2) := zo_16 (b1 := 6) (zkb2 zk_cX5_takeOne zn_cX5_takeOne rfl) rfl
theorem dX5_takeOne_66 : decode cX5_takeOne 66 = .ok (.aload_n 0, 1) := zo_42 (zkb zk_cX5_takeOne zn_cX5_takeOne rfl)
theorem dX5_takeOne_67 : decode cX5_takeOne 67 = .ok (.bipush 6, 2) := zo_16 (b1 := 6) (zkb2 zk_cX5_takeOne zn_cX5_takeOne rfl) rfl
theorem dX5_takeOne_69 : decode cX5_takeOne 69 = .ok (.invokevirtual 65, 3) := zo_182 (b1 := 0) (b2 := 65) (zkb3 zk_cX5_takeOne zn_cX5_takeOne rfl) rfl
theorem dX5_takeOne_72 : decode cX5_takeOne 72 = .ok (.iload_n 1, 1) := zo_27 (zkb zk_cX5_takeOne zn_cX5_takeOne rfl)
theorem dX5_takeOne_73 : decode cX5_takeOne 73 = .ok (.iadd, 1) := zo_96 (zkb zk_cX5_takeOne zn_cX5_takeOne rfl)
theorem dX5_takeOne_74 : decode cX5_takeOne 74 = .ok (.invokevirtual 121, 3) := zo_182 (b1 := 0) (b2 := 121) (zkb3 zk_cX5_takeOne zn_cX5_takeOne rfl) rfl
theorem dX5_takeOne_77 : decode cX5_takeOne 77 = .ok (.aload_n 0, 1) := zo_42 (zkb zk_cX5_takeOne zn_cX5_takeOne rfl)
theorem dX5_takeOne_78 : decode cX5_takeOne 78 = .ok (.iload_n 2, 1) := zo_28 (zkb zk_cX5_takeOne zn_cX5_takeOne rfl)
theorem dX5_takeOne_79 : decode cX5_takeOne 79 = .ok (.iload_n 2, 1) := zo_28 (zkb zk_cX5_takeOne zn_cX5_takeOne rfl)
theorem dX5_takeOne_80 : decode cX5_takeOne 80 = .ok (.aload_n 0, 1) := zo_42 (zkb zk_cX5_takeOne zn_cX5_takeOne rfl)
theorem dX5_takeOne_81 : decode cX5_takeOne 81 = .ok (.getfield 9, 3) := zo_180 (b1 := 0) (b2 := 9) (zkb3 zk_cX5_takeOne zn_cX5_takeOne rfl) rfl
theorem dX5_takeOne_84 : decode cX5_takeOne 84 = .ok (.iconst 3, 1) := zo_6 (zkb zk_cX5_takeOne zn_cX5_takeOne rfl)
theorem dX5_takeOne_85 : decode cX5_takeOne 85 = .ok (.iaload, 1) := zo_46 (zkb zk_cX5_takeOne zn_cX5_takeOne rfl)
theorem dX5_takeOne_86 : decode cX5_takeOne 86 = .ok (.iload_n 1, 1) := zo_27 (zkb zk_cX5_takeOne zn_cX5_takeOne rfl)
theorem dX5_takeOne_87 : decode cX5_takeOne 87 = .ok (.iadd, 1) := zo_96 (zkb zk_cX5_takeOne zn_cX5_takeOne rfl)
theorem dX5_takeOne_88 : decode cX5_takeOne 88 = .ok (.sipush 255, 3) := zo_17 (b1 := 0) (b2 := 255) (zkb3 zk_cX5_takeOne zn_cX5_takeOne rfl) rfl
theorem dX5_takeOne_91 : decode cX5_takeOne 91 = .ok (.iand, 1) := zo_126 (zkb zk_cX5_takeOne zn_cX5_takeOne rfl)
theorem dX5_takeOne_92 : decode cX5_takeOne 92 = .ok (.iadd, 1) := zo_96 (zkb zk_cX5_takeOne zn_cX5_takeOne rfl)
theorem dX5_takeOne_93 : decode cX5_takeOne 93 = .ok (.invokevirtual 271, 3) := zo_182 (b1 := 1) (b2 := 15) (zkb3 zk_cX5_takeOne zn_cX5_takeOne rfl) rfl
theorem dX5_takeOne_96 : decode cX5_takeOne 96 = .ok (.aload_n 0, 1) := zo_42 (zkb zk_cX5_takeOne zn_cX5_takeOne rfl)
theorem dX5_takeOne_97 : decode cX5_takeOne 97 = .ok (.getfield 9, 3) := zo_180 (b1 := 0) (b2 := 9) (zkb3 zk_cX5_takeOne zn_cX5_takeOne rfl) rfl
theorem dX5_takeOne_100 : decode cX5_takeOne 100 = .ok (.iconst 2, 1) := zo_5 (zkb zk_cX5_takeOne zn_cX5_takeOne rfl)
theorem dX5_takeOne_101 : decode cX5_takeOne 101 = .ok (.iaload, 1) := zo_46 (zkb zk_cX5_takeOne zn_cX5_takeOne rfl)
theorem dX5_takeOne_102 : decode cX5_takeOne 102 = .ok (.ifCond .eq 7, 3) := zo_153 (b1 := 0) (b2 := 7) (zkb3 zk_cX5_takeOne zn_cX5_takeOne rfl) rfl
theorem dX5_takeOne_105 : decode cX5_takeOne 105 = .ok (.iconst 1, 1) := zo_4 (zkb zk_cX5_takeOne zn_cX5_takeOne rfl)
theorem dX5_takeOne_106 : decode cX5_takeOne 106 = .ok (.goto 4, 3) := zo_167 (b1 := 0) (b2 := 4) (zkb3 zk_cX5_takeOne zn_cX5_takeOne rfl) rfl
theorem dX5_takeOne_109 : decode cX5_takeOne 109 = .ok (.iconst 0, 1) := zo_3 (zkb zk_cX5_takeOne zn_cX5_takeOne rfl)
theorem dX5_takeOne_110 : decode cX5_takeOne 110 = .ok (.ireturn, 1) := zo_172 (zkb zk_cX5_takeOne zn_cX5_takeOne rfl)
noncomputable def kn_cX5_giveOne : Nat := 0xac030400a7040700992e050900b42a0f01b6602e07100900b42a1c1c2a4f7e2f12601b4100b6052a14100900b42a7900b6601b4100b606102a06102ade00b61c2e060900b42a1800b42a4f7eff001164042e050900b42a050900b42a3d4b00b64100b606102a1400b42a
theorem zk_cX5_giveOne : zkd cX5_giveOne.data.toList kn_cX5_giveOne = true := by decide +kernel
theorem zn_cX5_giveOne : cX5_giveOne.data.toList.length = 106 := by decide +kernel
theorem dX5_giveOne_0 : decode cX5_giveOne 0 = .ok (.aload_n 0, 1) := zo_42 (zkb zk_cX5_giveOne zn_cX5_giveOne rfl)
theorem dX5_giveOne_1 : decode cX5_giveOne 1 = .ok (.getfield 20, 3) := zo_180 (b1 := 0) (b2 := 20) (zkb3 zk_cX5_giveOne zn_cX5_giveOne rfl) rfl
theorem dX5_giveOne_4 : decode cX5_giveOne 4 = .ok (.aload_n 0, 1) := zo_42 (zkb zk_cX5_giveOne zn_cX5_giveOne rfl)
theorem dX5_giveOne_5 : decode cX5_giveOne 5 = .ok (.bipush 6, 2) := zo_16 (b1 := 6) (zkb2 zk_cX5_giveOne zn_cX5_giveOne rfl) rfl
theorem dX5_giveOne_7 : decode cX5_giveOne 7 = .ok (.invokevirtual 65, 3) := zo_182 (b1 := 0) (b2 := 65) (zkb3 zk_cX5_giveOne zn_cX5_giveOne rfl) rfl
theorem dX5_giveOne_10 : decode cX5_giveOne 10 = .ok (.invokevirtual 75, 3) := zo_182 (b1 := 0) (b2 := 75) (zkb3 zk_cX5_giveOne zn_cX5_giveOne rfl) rfl
theorem dX5_giveOne_13 : decode cX5_giveOne 13 = .ok (.istore_n 2, 1) := zo_61 (zkb zk_cX5_giveOne zn_cX5_giveOne rfl)
theorem dX5_giveOne_14 : decode cX5_giveOne 14 = .ok (.aload_n 0, 1) := zo_42 (zkb zk_cX5_giveOne zn_cX5_giveOne rfl)
theorem dX5_giveOne_15 : decode cX5_giveOne 15 = .ok (.getfield 9, 3) := zo_180 (b1 := 0) (b2 := 9) (zkb3 zk_cX5_giveOne zn_cX5_giveOne rfl) rfl
theorem dX5_giveOne_18 : decode cX5_giveOne 18 = .ok (.iconst 2, 1) := zo_5 (zkb zk_cX5_giveOne zn_cX5_giveOne rfl)
theorem dX5_giveOne_19 : decode cX5_giveOne 19 = .ok (.aload_n 0, 1) := zo_42 (zkb zk_cX5_giveOne zn_cX5_giveOne rfl)
theorem dX5_giveOne_20 : decode cX5_giveOne 20 = .ok (.getfield 9, 3) := zo_180 (b1 := 0) (b2 := 9) (zkb3 zk_cX5_giveOne zn_cX5_giveOne rfl) rfl
theorem dX5_giveOne_23 : decode cX5_giveOne 23 = .ok (.iconst 2, 1) := zo_5 (zkb zk_cX5_giveOne zn_cX5_giveOne rfl)
theorem dX5_giveOne_24 : decode cX5_giveOne 24 = .ok (.iaload, 1) := zo_46 (zkb zk_cX5_giveOne zn_cX5_giveOne rfl)
theorem dX5_giveOne_25 : decode cX5_giveOne 25 = .ok (.iconst 1, 1) := zo_4 (zkb zk_cX5_giveOne zn_cX5_giveOne rfl)
theorem dX5_giveOne_26 : decode cX5_giveOne 26 = .ok (.isub, 1) := zo_100 (zkb zk_cX5_giveOne zn_cX5_giveOne rfl)
theorem dX5_giveOne_27 : decode cX5_giveOne 27 = .ok (.sipush 255, 3) := zo_17 (b1 := 0) (b2 := 255) (zkb3 zk_cX5_giveOne zn_cX5_giveOne rfl) rfl
theorem dX5_giveOne_30 : decode cX5_giveOne 30 = .ok (.iand, 1) := zo_126 (zkb zk_cX5_giveOne zn_cX5_giveOne rfl)
theorem dX5_giveOne_31 : decode cX5_giveOne 31 = .ok (.iastore, 1) := zo_79 (zkb zk_cX5_giveOne zn_cX5_giveOne rfl)
theorem dX5_giveOne_32 : decode cX5_giveOne 32 = .ok (.aload_n 0, 1) := zo_42 (zkb zk_cX5_giveOne zn_cX5_giveOne rfl)
theorem dX5_giveOne_33 : decode cX5_giveOne 33 = .ok (.getfield 24, 3) := zo_180 (b1 := 0) (b2 := 24) (zkb3 zk_cX5_giveOne zn_cX5_giveOne rfl) rfl
theorem dX5_giveOne_36 : decode cX5_giveOne 36 = .ok (.aload_n 0, 1) := zo_42 (zkb zk_cX5_giveOne zn_cX5_giveOne rfl)
theorem dX5_giveOne_37 : decode cX5_giveOne 37 = .ok (.getfield 9, 3) := zo_180 (b1 := 0) (b2 := 9) (zkb3 zk_cX5_giveOne zn_cX5_giveOne rfl) rfl
theorem dX5_giveOne_40 : decode cX5_giveOne 40 = .ok (.iconst 3, 1) := zo_6 (zkb zk_cX5_giveOne zn_cX5_giveOne rfl)
theorem dX5_giveOne_41 : decode cX5_giveOne 41 = .ok (.iaload, 1) := zo_46 (zkb zk_cX5_giveOne zn_cX5_giveOne rfl)
theorem dX5_giveOne_42 : decode cX5_giveOne 42 = .ok (.iload_n 2, 1) := zo_28 (zkb zk_cX5_giveOne zn_cX5_giveOne rfl)
theorem dX5_giveOne_43 : decode cX5_giveOne 43 = .ok (.invokevirtual 222, 3) := zo_182 (b1 := 0) (b2 := 222) (zkb3 zk_cX5_giveOne zn_cX5_giveOne rfl) rfl
theorem dX5_giveOne_46 : decode cX5_giveOne 46 = .ok (.aload_n 0, 1) := zo_42 (zkb zk_cX5_giveOne zn_cX5_giveOne rfl)
theorem dX5_giveOne_47 : decode cX5_giveOne 47 = .ok (.bipush 6, 2) := zo_16 (b1 := 6) (zkb2 zk_cX5_giveOne zn_cX5_giveOne rfl) rfl
theorem dX5_giveOne_49 : decode cX5_giveOne 49 = .ok (.aload_n 0, 1) := zo_42 (zkb zk_cX5_giveOne zn_cX5_giveOne rfl)
theorem dX5_giveOne_50 : decode cX5_giveOne 50 = .ok (.bipush 6, 2) := zo_16 (b1 := 6) (zkb2 zk_cX5_giveOne zn_cX5_giveOne rfl) rfl
theorem dX5_giveOne_52 : decode cX5_giveOne 52 = .ok (.invokevirtual 65, 3) := zo_182 (b1 := 0) (b2 := 65) (zkb3 zk_cX5_giveOne zn_cX5_giveOne rfl) rfl
theorem dX5_giveOne_55 : decode cX5_giveOne 55 = .ok (.iload_n 1, 1) := zo_27 (zkb zk_cX5_giveOne zn_cX5_giveOne rfl)
theorem dX5_giveOne_56 : decode cX5_giveOne 56 = .ok (.iadd, 1) := zo_96 (zkb zk_cX5_giveOne zn_cX5_giveOne rfl)
theorem dX5_giveOne_57 : decode cX5_giveOne 57 = .ok (.invokevirtual 121, 3) := zo_182 (b1 := 0) (b2 := 121) (zkb3 zk_cX5_giveOne zn_cX5_giveOne rfl) rfl
theorem dX5_giveOne_60 : decode cX5_giveOne 60 = .ok (.aload_n 0, 1) := zo_42 (zkb zk_cX5_giveOne zn_cX5_giveOne rfl)
theorem dX5_giveOne_61 : decode cX5_giveOne 61 = .ok (.getfield 9, 3) := zo_180 (b1 := 0) (b2 := 9) (zkb3 zk_cX5_giveOne zn_cX5_giveOne rfl) rfl
theorem dX5_giveOne_64 : decode cX5_giveOne 64 = .ok (.bipush 20, 2) := zo_16 (b1 := 20) (zkb2 zk_cX5_giveOne zn_cX5_giveOne rfl) rfl
theorem dX5_giveOne_66 : decode cX5_giveOne 66 = .ok (.aload_n 0, 1) := zo_42 (zkb zk_cX5_giveOne zn_cX5_giveOne rfl)
theorem dX5_giveOne_67 : decode cX5_giveOne 67 = .ok (.iconst 2, 1) := zo_5 (zkb zk_cX5_giveOne zn_cX5_giveOne rfl)
theorem dX5_giveOne_68 : decode cX5_giveOne 68 = .ok (.invokevirtual 65, 3) := zo_182 (b1 := 0) (b2 := 65) (zkb3 zk_cX5_giveOne zn_cX5_giveOne rfl) rfl
theorem dX5_giveOne_71 : decode cX5_giveOne 71 = .ok (.iload_n 1, 1) := zo_27 (zkb zk_cX5_giveOne zn_cX5_giveOne rfl)
theorem dX5_giveOne_72 : decode cX5_giveOne 72 = .ok (.iadd, 1) := zo_96 (zkb zk_cX5_giveOne zn_cX5_giveOne rfl)
theorem dX5_giveOne_73 : decode cX5_giveOne 73 = .ok (.ldc 47, 2) := zo_18 (b1 := 47) (zkb2 zk_cX5_giveOne zn_cX5_giveOne rfl)
theorem dX5_giveOne_75 : decode cX5_giveOne 75 = .ok (.iand, 1) := zo_126 (zkb zk_cX5_giveOne zn_cX5_giveOne rfl)
theorem dX5_giveOne_76 : decode cX5_giveOne 76 = .ok (.iastore, 1) := zo_79 (zkb zk_cX5_giveOne zn_cX5_giveOne rfl)
theorem dX5_giveOne_77 : decode cX5_giveOne 77 = .ok (.aload_n 0, 1) := zo_42 (zkb zk_cX5_giveOne zn_cX5_giveOne rfl)
theorem dX5_giveOne_78 : decode cX5_giveOne 78 = .ok (.iload_n 2, 1) := zo_28 (zkb zk_cX5_giveOne zn_cX5_giveOne rfl)
theorem dX5_giveOne_79 : decode cX5_giveOne 79 = .ok (.iload_n 2, 1) := zo_28 (zkb zk_cX5_giveOne zn_cX5_giveOne rfl)
theorem dX5_giveOne_80 : decode cX5_giveOne 80 = .ok (.aload_n 0, 1) := zo_42 (zkb zk_cX5_giveOne zn_cX5_giveOne rfl)
theorem dX5_giveOne_81 : decode cX5_giveOne 81 = .ok (.getfield 9, 3) := zo_180 (b1 := 0) (b2 := 9) (zkb3 zk_cX5_giveOne zn_cX5_giveOne rfl) rfl
theorem dX5_giveOne_84 : decode cX5_giveOne 84 = .ok (.bipush 7, 2) := zo_16 (b1 := 7) (zkb2 zk_cX5_giveOne zn_cX5_giveOne rfl) rfl
theorem dX5_giveOne_86 : decode cX5_giveOne 86 = .ok (.iaload, 1) := zo_46 (zkb zk_cX5_giveOne zn_cX5_giveOne rfl)
theorem dX5_giveOne_87 : decode cX5_giveOne 87 = .ok (.iadd, 1) := zo_96 (zkb zk_cX5_giveOne zn_cX5_giveOne rfl)
theorem dX5_giveOne_88 : decode cX5_giveOne 88 = .ok (.invokevirtual 271, 3) := zo_182 (b1 := 1) (b2 := 15) (zkb3 zk_cX5_giveOne zn_cX5_giveOne rfl) rfl
theorem dX5_giveOne_91 : decode cX5_giveOne 91 = .ok (.aload_n 0, 1) := zo_42 (zkb zk_cX5_giveOne zn_cX5_giveOne rfl)
theorem dX5_giveOne_92 : decode cX5_giveOne 92 = .ok (.getfield 9, 3) := zo_180 (b1 := 0) (b2 := 9) (zkb3 zk_cX5_giveOne zn_cX5_giveOne rfl) rfl
theorem dX5_giveOne_95 : decode cX5_giveOne 95 = .ok (.iconst 2, 1) := zo_5 (zkb zk_cX5_giveOne zn_cX5_giveOne rfl)
theorem dX5_giveOne_96 : decode cX5_giveOne 96 = .ok (.iaload, 1) := zo_46 (zkb zk_cX5_giveOne zn_cX5_giveOne rfl)
theorem dX5_giveOne_97 : decode cX5_giveOne 97 = .ok (.ifCond .eq 7, 3) := zo_153 (b1 := 0) (b2 := 7) (zkb3 zk_cX5_giveOne zn_cX5_giveOne rfl) rfl
theorem dX5_giveOne_100 : decode cX5_giveOne 100 = .ok (.iconst 1, 1) := zo_4 (zkb zk_cX5_giveOne zn_cX5_giveOne rfl)
theorem dX5_giveOne_101 : decode cX5_giveOne 101 = .ok (.goto 4, 3) := zo_167 (b1 := 0) (b2 := 4) (zkb3 zk_cX5_giveOne zn_cX5_giveOne rfl) rfl
theorem dX5_giveOne_104 : decode cX5_giveOne 104 = .ok (.iconst 0, 1) := zo_3 (zkb zk_cX5_giveOne zn_cX5_giveOne rfl)
theorem dX5_giveOne_105 : decode cX5_giveOne 105 = .ok (.ireturn, 1) := zo_172 (zkb zk_cX5_giveOne zn_cX5_giveOne rfl)
noncomputable def kn_cX5_tellOfPort : Nat := 0xb14f80c400b8822e050900b42a7e07101c80030400a711100800a4ff00111c807e057a06101bbb00b82e050900b42a040900b42a
theorem zk_cX5_tellOfPort : zkd cX5_tellOfPort.data.toList kn_cX5_tellOfPort = true := by decide +kernel
theorem zn_cX5_tellOfPort : cX5_tellOfPort.data.toList.length = 52 := by decide +kernel
theorem dX5_tellOfPort_0 : decode cX5_tellOfPort 0 = .ok (.aload_n 0, 1) := zo_42 (zkb zk_cX5_tellOfPort zn_cX5_tellOfPort rfl)
theorem dX5_tellOfPort_1 : decode cX5_tellOfPort 1 = .ok (.getfield 9, 3) := zo_180 (b1 := 0) (b2 := 9) (zkb3 zk_cX5_tellOfPort zn_cX5_tellOfPort rfl) rfl
theorem dX5_tellOfPort_4 : decode cX5_tellOfPort 4 = .ok (.iconst 1, 1) := zo_4 (zkb zk_cX5_tellOfPort zn_cX5_tellOfPort rfl)
theorem dX5_tellOfPort_5 : decode cX5_tellOfPort 5 = .ok (.aload_n 0, 1) := zo_42 (zkb zk_cX5_tellOfPort zn_cX5_tellOfPort rfl)
theorem dX5_tellOfPort_6 : decode cX5_tellOfPort 6 = .ok (.getfield 9, 3) := zo_180 (b1 := 0) (b2 := 9) (zkb3 zk_cX5_tellOfPort zn_cX5_tellOfPort rfl) rfl
theorem dX5_tellOfPort_9 : decode cX5_tellOfPort 9 = .ok (.iconst 2, 1) := zo_5 (zkb zk_cX5_tellOfPort zn_cX5_tellOfPort rfl)
theorem dX5_tellOfPort_10 : decode cX5_tellOfPort 10 = .ok (.iaload, 1) := zo_46 (zkb zk_cX5_tellOfPort zn_cX5_tellOfPort rfl)
theorem dX5_tellOfPort_11 : decode cX5_tellOfPort 11 = .ok (.invokestatic 187, 3) := zo_184 (b1 := 0) (b2 := 187) (zkb3 zk_cX5_tellOfPort zn_cX5_tellOfPort rfl) rfl
theorem dX5_tellOfPort_14 : decode cX5_tellOfPort 14 = .ok (.iload_n 1, 1) := zo_27 (zkb zk_cX5_tellOfPort zn_cX5_tellOfPort rfl)
theorem dX5_tellOfPort_15 : decode cX5_tellOfPort 15 = .ok (.bipush 6, 2) := zo_16 (b1 := 6) (zkb2 zk_cX5_tellOfPort zn_cX5_tellOfPort rfl) rfl
theorem dX5_tellOfPort_17 : decode cX5_tellOfPort 17 = .ok (.ishr, 1) := zo_122 (zkb zk_cX5_tellOfPort zn_cX5_tellOfPort rfl)
theorem dX5_tellOfPort_18 : decode cX5_tellOfPort 18 = .ok (.iconst 2, 1) := zo_5 (zkb zk_cX5_tellOfPort zn_cX5_tellOfPort rfl)
theorem dX5_tellOfPort_19 : decode cX5_tellOfPort 19 = .ok (.iand, 1) := zo_126 (zkb zk_cX5_tellOfPort zn_cX5_tellOfPort rfl)
theorem dX5_tellOfPort_20 : decode cX5_tellOfPort 20 = .ok (.ior, 1) := zo_128 (zkb zk_cX5_tellOfPort zn_cX5_tellOfPort rfl)
theorem dX5_tellOfPort_21 : decode cX5_tellOfPort 21 = .ok (.iload_n 2, 1) := zo_28 (zkb zk_cX5_tellOfPort zn_cX5_tellOfPort rfl)
theorem dX5_tellOfPort_22 : decode cX5_tellOfPort 22 = .ok (.sipush 255, 3) := zo_17 (b1 := 0) (b2 := 255) (zkb3 zk_cX5_tellOfPort zn_cX5_tellOfPort rfl) rfl
theorem dX5_tellOfPort_25 : decode cX5_tellOfPort 25 = .ok (.if_icmp .le 8, 3) := zo_164 (b1 := 0) (b2 := 8) (zkb3 zk_cX5_tellOfPort zn_cX5_tellOfPort rfl) rfl
theorem dX5_tellOfPort_28 : decode cX5_tellOfPort 28 = .ok (.bipush 17, 2) := zo_16 (b1 := 17) (zkb2 zk_cX5_tellOfPort zn_cX5_tellOfPort rfl) rfl
theorem dX5_tellOfPort_30 : decode cX5_tellOfPort 30 = .ok (.goto 4, 3) := zo_167 (b1 := 0) (b2 := 4) (zkb3 zk_cX5_tellOfPort zn_cX5_tellOfPort rfl) rfl
theorem dX5_tellOfPort_33 : decode cX5_tellOfPort 33 = .ok (.iconst 0, 1) := zo_3 (zkb zk_cX5_tellOfPort zn_cX5_tellOfPort rfl)
theorem dX5_tellOfPort_34 : decode cX5_tellOfPort 34 = .ok (.ior, 1) := zo_128 (zkb zk_cX5_tellOfPort zn_cX5_tellOfPort rfl)
theorem dX5_tellOfPort_35 : decode cX5_tellOfPort 35 = .ok (.iload_n 2, 1) := zo_28 (zkb zk_cX5_tellOfPort zn_cX5_tellOfPort rfl)
theorem dX5_tellOfPort_36 : decode cX5_tellOfPort 36 = .ok (.bipush 7, 2) := zo_16 (b1 := 7) (zkb2 zk_cX5_tellOfPort zn_cX5_tellOfPort rfl) rfl
theorem dX5_tellOfPort_38 : decode cX5_tellOfPort 38 = .ok (.iand, 1) := zo_126 (zkb zk_cX5_tellOfPort zn_cX5_tellOfPort rfl)
theorem dX5_tellOfPort_39 : decode cX5_tellOfPort 39 = .ok (.aload_n 0, 1) := zo_42 (zkb zk_cX5_tellOfPort zn_cX5_tellOfPort rfl)
theorem dX5_tellOfPort_40 : decode cX5_tellOfPort 40 = .ok (.getfield 9, 3) := zo_180 (b1 := 0) (b2 := 9) (zkb3 zk_cX5_tellOfPort zn_cX5_tellOfPort rfl) rfl
theorem dX5_tellOfPort_43 : decode cX5_tellOfPort 43 = .ok (.iconst 2, 1) := zo_5 (zkb zk_cX5_tellOfPort zn_cX5_tellOfPort rfl)
theorem dX5_tellOfPort_44 : decode cX5_tellOfPort 44 = .ok (.iaload, 1) := zo_46 (zkb zk_cX5_tellOfPort zn_cX5_tellOfPort rfl)
theorem dX5_tellOfPort_45 : decode cX5_tellOfPort 45 = .ok (.ixor, 1) := zo_130 (zkb zk_cX5_tellOfPort zn_cX5_tellOfPort rfl)
theorem dX5_tellOfPort_46 : decode cX5_tellOfPort 46 = .ok (.invokestatic 196, 3) := zo_184 (b1 := 0) (b2 := 196) (zkb3 zk_cX5_tellOfPort zn_cX5_tellOfPort rfl) rfl
theorem dX5_tellOfPort_49 : decode cX5_tellOfPort 49 = .ok (.ior, 1) := zo_128 (zkb zk_cX5_tellOfPort zn_cX5_tellOfPort rfl)
theorem dX5_tellOfPort_50 : decode cX5_tellOfPort 50 = .ok (.iastore, 1) := zo_79 (zkb zk_cX5_tellOfPort zn_cX5_tellOfPort rfl)
theorem dX5_tellOfPort_51 : decode cX5_tellOfPort 51 = .ok (.return_, 1) := zo_177 (zkb zk_cX5_tellOfPort zn_cX5_tellOfPort rfl)
noncomputable def rmX5_putPairHalf : Room := { frames := 0, cells := 0, slots := 0, locals := 0 }
noncomputable def wzX5_putPairHalf : List Cond := .code yX5_putPairHalf cX5_putPairHalf 3 none :: wsL_law
theorem hinX5_putPairHalf_X50 : ∀ w ∈ wsX50, w ∈ wzX5_putPairHalf := fun w h => List.mem_cons_of_mem _ (inlX5 w h)
noncomputable def fX5_putPairHalf_69  (σ : zSt)  : Option (zSt) :=
  some σ
noncomputable def fX5_putPairHalf_68  (σ : zSt) (s0 : Int32) (s1 : Int32) : Option (zSt) :=
  zck (zin s1 29) (zbv (zsi σ 36 (s1.toNatClampNeg) s0) (fun σ1 =>
  fX5_putPairHalf_69 σ1))
noncomputable def fX5_putPairHalf  (σ : zSt) (x1 : Int32) (x2 : Int32) : Option (zSt) :=
  if (zgi σ 7 4) = 6 then zck (zin x1 29) (zbv (zsi σ 36 (x1.toNatClampNeg) x2) (fun σ2 =>
  fX5_putPairHalf_69 σ2)) else
  if x1 = 6 then zck (zin (zgi σ 7 4) 29) (
  fX5_putPairHalf_68 σ ((x2 <<< ((8 : Int32) &&& 31)) ||| ((zgi σ 36 (zgi σ 7 4).toNatClampNeg) &&& 255)) (zgi σ 7 4)) else
  zck (zin (zgi σ 7 4) 29) (
  fX5_putPairHalf_68 σ (((zgi σ 36 (zgi σ 7 4).toNatClampNeg) &&& 65280) ||| x2) (zgi σ 7 4))
set_option maxRecDepth 20000 in
set_option maxHeartbeats 4000000 in
theorem bX5_putPairHalf_69 {st : Nat → Nat} {p : Program} {l : Launch} {e : Env} {s : State} {m : MethodId} {args : Array Value} {below : List Frame} {meth : Method} {c : Code} {D : va_G} {A : Nat → Prop} {ad : Nat → Nat} {cy : Nat → ClassId} (hC : zC p m c cX5_putPairHalf 3 s args wzX5_putPairHalf RX5 meth none)  {res : zSt} {H : Heap} {locs : List Loc} {σ : zSt} {ls : Array Slot}  (hI : zI st D (tC cy) (wC ad cy σ) A s H locs) (hl : lv_has ls 3 []) (hf : fX5_putPairHalf_69  σ  = some res) : W p l e rmX5_putPairHalf s m args below meth c H locs 0 0 (zQu below args s D (tC cy) (wC ad cy) A res) (F0 m 69 ls []) := by
  have hx := hC.1
  have hb := hC.2.1
  unfold fX5_putPairHalf_69 at hf
  exact z_return hC hI hf dX5_putPairHalf_69
set_option maxRecDepth 20000 in
set_option maxHeartbeats 4000000 in
theorem bX5_putPairHalf_68 {st : Nat → Nat} {p : Program} {l : Launch} {e : Env} {s : State} {m : MethodId} {args : Array Value} {below : List Frame} {meth : Method} {c : Code} {D : va_G} {A : Nat → Prop} {ad : Nat → Nat} {cy : Nat → ClassId} (hC : zC p m c cX5_putPairHalf 3 s args wzX5_putPairHalf RX5 meth none)  {res : zSt} {H : Heap} {locs : List Loc} {σ : zSt} {ls : Array Slot} {s0 : Int32} {s1 : Int32} (hI : zI st D (tC cy) (wC ad cy σ) A s H locs) (hl : lv_has ls 3 []) (hf : fX5_putPairHalf_68  σ s0 s1 = some res) : W p l e rmX5_putPairHalf s m args below meth c H locs 0 0 (zQu below args s D (tC cy) (wC ad cy) A res) (F0 m 68 ls [.int s0, .int s1, .ref (ad 36)]) := by
  have hx := hC.1
  have hb := hC.2.1
  unfold fX5_putPairHalf_68 at hf
  obtain ⟨q, hf⟩ := zck_use hf
  obtain ⟨σ1, eσ1⟩ : ∃ z, z = zsi σ 36 (s1.toNatClampNeg) s0 := ⟨_, rfl⟩
  replace hf := zbv_use eσ1 hf
  refine z_iast hC hI 36 23 (wC_e36 ad cy σ) (tC_t36 cy) q ((wC_s36 ad cy σ _ _).trans (congrArg (wC ad cy) eσ1.symm)) dX5_putPairHalf_68 (fun H locs hI => ?_)
  exact bX5_putPairHalf_69 hC  hI hl hf
set_option maxRecDepth 20000 in
set_option maxHeartbeats 4000000 in
theorem bX5_putPairHalf {st : Nat → Nat} {p : Program} {l : Launch} {e : Env} {s : State} {m : MethodId} {args : Array Value} {below : List Frame} {meth : Method} {c : Code} {D : va_G} {A : Nat → Prop} {ad : Nat → Nat} {cy : Nat → ClassId} (hC : zC p m c cX5_putPairHalf 3 s args wzX5_putPairHalf RX5 meth none)  {res : zSt} {H : Heap} {locs : List Loc} {σ : zSt} {ls : Array Slot} {x1 : Int32} {x2 : Int32} (hI : zI st D (tC cy) (wC ad cy σ) A s H locs) (hl : lv_has ls 3 [(0, .ref (ad 7)), (1, .int x1), (2, .int x2)]) (hf : fX5_putPairHalf  σ x1 x2 = some res) : W p l e rmX5_putPairHalf s m args below meth c H locs 0 0 (zQu below args s D (tC cy) (wC ad cy) A res) (F0 m 0 ls []) := by
  have hx := hC.1
  have hb := hC.2.1
  unfold fX5_putPairHalf at hf
  refine lv_aload_n hx hb dX5_putPairHalf_0 rfl (lv_at hl 0 rfl) ?_
  refine z_get hC hI hinX5_putPairHalf_X50 7 (wC_e7 ad cy σ) rfl 4 (by decide) (List.mem_cons_of_mem _ zw7_7) rfl dX5_putPairHalf_1 ?_
  refine lv_bipush (v := 6) hx hb dX5_putPairHalf_4 (by decide) ?_
  refine lv_icmp_ne (tgt := 19) hx hb dX5_putPairHalf_6 (by decide) (fun q => ?_) (fun q => ?_)
  · replace hf := zif_f q hf
    refine lv_aload_n hx hb dX5_putPairHalf_19 rfl (lv_at hl 0 rfl) ?_
    refine z_get hC hI hinX5_putPairHalf_X50 7 (wC_e7 ad cy σ) rfl 2 (by decide) (List.mem_cons_of_mem _ zw7_5) rfl dX5_putPairHalf_20 ?_
    refine lv_aload_n hx hb dX5_putPairHalf_23 rfl (lv_at hl 0 rfl) ?_
    refine z_get hC hI hinX5_putPairHalf_X50 7 (wC_e7 ad cy σ) rfl 4 (by decide) (List.mem_cons_of_mem _ zw7_7) rfl dX5_putPairHalf_24 ?_
    refine lv_iload_n hx hb dX5_putPairHalf_27 rfl (lv_at hl 1 rfl) ?_
    refine lv_bipush (v := 6) hx hb dX5_putPairHalf_28 (by decide) ?_
    refine lv_icmp_ne (tgt := 54) hx hb dX5_putPairHalf_30 (by decide) (fun q => ?_) (fun q => ?_)
    · replace hf := zif_f q hf
      refine lv_aload_n hx hb dX5_putPairHalf_54 rfl (lv_at hl 0 rfl) ?_
      refine z_get hC hI hinX5_putPairHalf_X50 7 (wC_e7 ad cy σ) rfl 2 (by decide) (List.mem_cons_of_mem _ zw7_5) rfl dX5_putPairHalf_55 ?_
      refine lv_aload_n hx hb dX5_putPairHalf_58 rfl (lv_at hl 0 rfl) ?_
      refine z_get hC hI hinX5_putPairHalf_X50 7 (wC_e7 ad cy σ) rfl 4 (by decide) (List.mem_cons_of_mem _ zw7_7) rfl dX5_putPairHalf_59 ?_
      obtain ⟨q, hf⟩ := zck_use hf
      refine z_iald hC hI 36 23 (wC_e36 ad cy σ) (tC_t36 cy) q dX5_putPairHalf_62 ?_
      refine lv_ldc (v := 65280) hx hb hC.2.2.2.1 (hC.2.2.2.2.1 _ (List.mem_cons_of_mem _ zw23_16)) dX5_putPairHalf_63 ?_
      refine lv_iand hx hb dX5_putPairHalf_65 ?_
      refine lv_iload_n hx hb dX5_putPairHalf_66 rfl (lv_at hl 2 rfl) ?_
      refine lv_ior hx hb dX5_putPairHalf_67 ?_
      exact bX5_putPairHalf_68 hC  hI (lv_sub hl [] rfl) hf
    replace hf := zif_t q hf
    refine lv_iload_n hx hb dX5_putPairHalf_33 rfl (lv_at hl 2 rfl) ?_
    refine lv_bipush (v := 8) hx hb dX5_putPairHalf_34 (by decide) ?_
    refine lv_ishl hx hb dX5_putPairHalf_36 ?_
    refine lv_aload_n hx hb dX5_putPairHalf_37 rfl (lv_at hl 0 rfl) ?_
    refine z_get hC hI hinX5_putPairHalf_X50 7 (wC_e7 ad cy σ) rfl 2 (by decide) (List.mem_cons_of_mem _ zw7_5) rfl dX5_putPairHalf_38 ?_
    refine lv_aload_n hx hb dX5_putPairHalf_41 rfl (lv_at hl 0 rfl) ?_
    refine z_get hC hI hinX5_putPairHalf_X50 7 (wC_e7 ad cy σ) rfl 4 (by decide) (List.mem_cons_of_mem _ zw7_7) rfl dX5_putPairHalf_42 ?_
    obtain ⟨q, hf⟩ := zck_use hf
    refine z_iald hC hI 36 23 (wC_e36 ad cy σ) (tC_t36 cy) q dX5_putPairHalf_45 ?_
    refine lv_sipush (v := 255) hx hb dX5_putPairHalf_46 (by decide) ?_
    refine lv_iand hx hb dX5_putPairHalf_49 ?_
    refine lv_ior hx hb dX5_putPairHalf_50 ?_
    refine lv_goto (tgt := 68) hx hb dX5_putPairHalf_51 (by decide) ?_
    exact bX5_putPairHalf_68 hC  hI (lv_sub hl [] rfl) hf
  replace hf := zif_t q hf
  refine lv_aload_n hx hb dX5_putPairHalf_9 rfl (lv_at hl 0 rfl) ?_
  refine z_get hC hI hinX5_putPairHalf_X50 7 (wC_e7 ad cy σ) rfl 2 (by decide) (List.mem_cons_of_mem _ zw7_5) rfl dX5_putPairHalf_10 ?_
  refine lv_iload_n hx hb dX5_putPairHalf_13 rfl (lv_at hl 1 rfl) ?_
  refine lv_iload_n hx hb dX5_putPairHalf_14 rfl (lv_at hl 2 rfl) ?_
  obtain ⟨q, hf⟩ := zck_use hf
  obtain ⟨σ2, eσ2⟩ : ∃ z, z = zsi σ 36 (x1.toNatClampNeg) x2 := ⟨_, rfl⟩
  replace hf := zbv_use eσ2 hf
  refine z_iast hC hI 36 23 (wC_e36 ad cy σ) (tC_t36 cy) q ((wC_s36 ad cy σ _ _).trans (congrArg (wC ad cy) eσ2.symm)) dX5_putPairHalf_15 (fun H locs hI => ?_)
  refine lv_goto (tgt := 69) hx hb dX5_putPairHalf_16 (by decide) ?_
  exact bX5_putPairHalf_69 hC  hI (lv_sub hl [] rfl) hf
set_option maxRecDepth 20000 in
theorem cX5_putPairHalf_met (st : Nat → Nat) (l : Launch) (D : va_G) (ad : Nat → Nat) (cy : Nat → ClassId) (σ : zSt) (x1 : Int32) (x2 : Int32) (res : zSt) (hf : fX5_putPairHalf σ x1 x2 = some res) (sz : Nat) : zMu st l yX5_putPairHalf wzX5_putPairHalf rmX5_putPairHalf [.ref (ad 7), .int x1, .int x2] D (tC cy) (wC ad cy) sz σ res :=
  zMu.of (cc := cX5_putPairHalf) (maxL := 3) (ret := none) (by decide) rfl (Nat.le_of_ble_eq_true rfl) (fun p e s m args below meth c hC A hI ls hl => bX5_putPairHalf hC hI hl hf)
theorem hdX5_putPairHalf : yX5_putPairHalf.cls = RX5 ∧ yX5_putPairHalf.cls ≠ "java/lang/invoke/MethodHandle" ∧ yX5_putPairHalf.cls ≠ "java/lang/invoke/VarHandle" ∧ (parseMethodDescriptor yX5_putPairHalf.desc).map (fun d => d.parameters.length) = some 2 := by decide +kernel
noncomputable def rmX5_putOne : Room := { frames := 2, cells := 0, slots := 0, locals := 44 }
noncomputable def wzX5_putOne : List Cond := .code yX5_putOne cX5_putOne 3 none :: wsL_law
theorem hinX5_putOne_X50 : ∀ w ∈ wsX50, w ∈ wzX5_putOne := fun w h => List.mem_cons_of_mem _ (inlX5 w h)
noncomputable def fX5_putOne_88  (σ : zSt)  : Option (zSt) :=
  some σ
noncomputable def fX5_putOne  (σ : zSt) (x1 : Int32) (x2 : Int32) : Option (zSt) :=
  if x1 = 4 then zbu (fX5_putPairHalf σ 6 x2) (fun σ1 =>
  fX5_putOne_88 σ1) else
  if x1 = 5 then zbu (fX5_putPairHalf σ 7 x2) (fun σ2 =>
  fX5_putOne_88 σ2) else
  if x1 = 6 then zbu (fX2_write σ (zgi σ 7 5) x2) (fun σ3 =>
  fX5_putOne_88 σ3) else
  if x1 = 7 then zck (zin 0 29) (zbv (zsi σ 36 ((0 : Int32).toNatClampNeg) x2) (fun σ4 =>
  fX5_putOne_88 σ4)) else
  zck (zin (2 + (x1 &&& 3)) 29) (zbv (zsi σ 36 ((2 + (x1 &&& 3)).toNatClampNeg) x2) (fun σ5 =>
  fX5_putOne_88 σ5))
set_option maxRecDepth 20000 in
set_option maxHeartbeats 4000000 in
theorem bX5_putOne_88 {st : Nat → Nat} {p : Program} {l : Launch} {e : Env} {s : State} {m : MethodId} {args : Array Value} {below : List Frame} {meth : Method} {c : Code} {D : va_G} {A : Nat → Prop} {ad : Nat → Nat} {cy : Nat → ClassId} (hC : zC p m c cX5_putOne 3 s args wzX5_putOne RX5 meth none)  {res : zSt} {H : Heap} {locs : List Loc} {σ : zSt} {ls : Array Slot}  (hI : zI st D (tC cy) (wC ad cy σ) A s H locs) (hl : lv_has ls 3 []) (hf : fX5_putOne_88  σ  = some res) : W p l e rmX5_putOne s m args below meth c H locs 0 0 (zQu below args s D (tC cy) (wC ad cy) A res) (F0 m 88 ls []) := by
  have hx := hC.1
  have hb := hC.2.1
  unfold fX5_putOne_88 at hf
  exact z_return hC hI hf dX5_putOne_88
set_option maxRecDepth 20000 in
set_option maxHeartbeats 4000000 in
theorem bX5_putOne {st : Nat → Nat} {p : Program} {l : Launch} {e : Env} {s : State} {m : MethodId} {args : Array Value} {below : List Frame} {meth : Method} {c : Code} {D : va_G} {A : Nat → Prop} {ad : Nat → Nat} {cy : Nat → ClassId} (hC : zC p m c cX5_putOne 3 s args wzX5_putOne RX5 meth none)  {res : zSt} {H : Heap} {locs : List Loc} {σ : zSt} {ls : Array Slot} {x1 : Int32} {x2 : Int32} (hI : zI st D (tC cy) (wC ad cy σ) A s H locs) (hl : lv_has ls 3 [(0, .ref (ad 7)), (1, .int x1), (2, .int x2)]) (hf : fX5_putOne  σ x1 x2 = some res) : W p l e rmX5_putOne s m args below meth c H locs 0 0 (zQu below args s D (tC cy) (wC ad cy) A res) (F0 m 0 ls []) := by
  have hx := hC.1
  have hb := hC.2.1
  unfold fX5_putOne at hf
  refine lv_iload_n hx hb dX5_putOne_0 rfl (lv_at hl 1 rfl) ?_
  by_cases q0 : x1 = 4
  · replace hf := zif_t q0 hf
    refine lv_tableIn (tgt := 32) hx hb dX5_putOne_1 (by rw [q0]; decide) (by rw [q0]; decide) (by rw [q0]; rfl) (by decide) ?_
    refine lv_aload_n hx hb dX5_putOne_32 rfl (lv_at hl 0 rfl) ?_
    refine lv_bipush (v := 6) hx hb dX5_putOne_33 (by decide) ?_
    refine lv_iload_n hx hb dX5_putOne_35 rfl (lv_at hl 2 rfl) ?_
    obtain ⟨σ1, g1, hf⟩ := zbu_use hf
    refine z_callVu (As := [.int 6, .int x2]) (rest := []) hC hI (cX5_putPairHalf_met st l D ad cy σ 6 x2 _ g1) (zgV zw23_12 zw23_13 zw23_14 zw2_21 zw23_15) rfl ⟨rfl, rfl⟩ 2 hdX5_putPairHalf ⟨Nat.le_of_ble_eq_true rfl, Nat.le_of_ble_eq_true rfl⟩ rfl rfl (wC_e7 ad cy σ) rfl hl rfl (Nat.le_of_ble_eq_true rfl) dX5_putOne_36 ⟨Nat.zero_le _, Nat.zero_le _⟩ (fun H locs hI => ?_)
    refine lv_goto (tgt := 88) hx hb dX5_putOne_39 (by decide) ?_
    exact bX5_putOne_88 hC  hI (lv_sub hl [] rfl) hf
  replace hf := zif_f q0 hf
  by_cases q1 : x1 = 5
  · replace hf := zif_t q1 hf
    refine lv_tableIn (tgt := 42) hx hb dX5_putOne_1 (by rw [q1]; decide) (by rw [q1]; decide) (by rw [q1]; rfl) (by decide) ?_
    refine lv_aload_n hx hb dX5_putOne_42 rfl (lv_at hl 0 rfl) ?_
    refine lv_bipush (v := 7) hx hb dX5_putOne_43 (by decide) ?_
    refine lv_iload_n hx hb dX5_putOne_45 rfl (lv_at hl 2 rfl) ?_
    obtain ⟨σ2, g2, hf⟩ := zbu_use hf
    refine z_callVu (As := [.int 7, .int x2]) (rest := []) hC hI (cX5_putPairHalf_met st l D ad cy σ 7 x2 _ g2) (zgV zw23_12 zw23_13 zw23_14 zw2_21 zw23_15) rfl ⟨rfl, rfl⟩ 2 hdX5_putPairHalf ⟨Nat.le_of_ble_eq_true rfl, Nat.le_of_ble_eq_true rfl⟩ rfl rfl (wC_e7 ad cy σ) rfl hl rfl (Nat.le_of_ble_eq_true rfl) dX5_putOne_46 ⟨Nat.zero_le _, Nat.zero_le _⟩ (fun H locs hI => ?_)
    refine lv_goto (tgt := 88) hx hb dX5_putOne_49 (by decide) ?_
    exact bX5_putOne_88 hC  hI (lv_sub hl [] rfl) hf
  replace hf := zif_f q1 hf
  by_cases q2 : x1 = 6
  · replace hf := zif_t q2 hf
    refine lv_tableIn (tgt := 52) hx hb dX5_putOne_1 (by rw [q2]; decide) (by rw [q2]; decide) (by rw [q2]; rfl) (by decide) ?_
    refine lv_aload_n hx hb dX5_putOne_52 rfl (lv_at hl 0 rfl) ?_
    refine z_get hC hI hinX5_putOne_X50 7 (wC_e7 ad cy σ) rfl 0 (by decide) (List.mem_cons_of_mem _ zw7_8) rfl dX5_putOne_53 ?_
    refine lv_aload_n hx hb dX5_putOne_56 rfl (lv_at hl 0 rfl) ?_
    refine z_get hC hI hinX5_putOne_X50 7 (wC_e7 ad cy σ) rfl 5 (by decide) (List.mem_cons_of_mem _ zw21_14) rfl dX5_putOne_57 ?_
    refine lv_iload_n hx hb dX5_putOne_60 rfl (lv_at hl 2 rfl) ?_
    obtain ⟨σ3, g3, hf⟩ := zbu_use hf
    refine z_callVu (As := [.int (zgi σ 7 5), .int x2]) (rest := []) hC hI (cX2_write_met st l D ad cy σ (zgi σ 7 5) x2 _ g3) (zgV zw20_7 zw20_8 zw20_9 zw1_21 zw20_10) rfl ⟨rfl, rfl⟩ 2 hdX2_write ⟨Nat.le_of_ble_eq_true rfl, Nat.le_of_ble_eq_true rfl⟩ rfl rfl (wC_e1 ad cy σ) rfl hl rfl (Nat.le_of_ble_eq_true rfl) dX5_putOne_61 ⟨Nat.zero_le _, Nat.zero_le _⟩ (fun H locs hI => ?_)
    refine lv_goto (tgt := 88) hx hb dX5_putOne_64 (by decide) ?_
    exact bX5_putOne_88 hC  hI (lv_sub hl [] rfl) hf
  replace hf := zif_f q2 hf
  by_cases q3 : x1 = 7
  · replace hf := zif_t q3 hf
    refine lv_tableIn (tgt := 67) hx hb dX5_putOne_1 (by rw [q3]; decide) (by rw [q3]; decide) (by rw [q3]; rfl) (by decide) ?_
    refine lv_aload_n hx hb dX5_putOne_67 rfl (lv_at hl 0 rfl) ?_
    refine z_get hC hI hinX5_putOne_X50 7 (wC_e7 ad cy σ) rfl 2 (by decide) (List.mem_cons_of_mem _ zw7_5) rfl dX5_putOne_68 ?_
    refine lv_iconst (v := 0) hx hb dX5_putOne_71 (by decide) ?_
    refine lv_iload_n hx hb dX5_putOne_72 rfl (lv_at hl 2 rfl) ?_
    obtain ⟨q, hf⟩ := zck_use hf
    obtain ⟨σ4, eσ4⟩ : ∃ z, z = zsi σ 36 ((0 : Int32).toNatClampNeg) x2 := ⟨_, rfl⟩
    replace hf := zbv_use eσ4 hf
    refine z_iast hC hI 36 23 (wC_e36 ad cy σ) (tC_t36 cy) q ((wC_s36 ad cy σ _ _).trans (congrArg (wC ad cy) eσ4.symm)) dX5_putOne_73 (fun H locs hI => ?_)
    refine lv_goto (tgt := 88) hx hb dX5_putOne_74 (by decide) ?_
    exact bX5_putOne_88 hC  hI (lv_sub hl [] rfl) hf
  replace hf := zif_f q3 hf
  refine lv_tableOut (tgt := 77) hx hb dX5_putOne_1 (zsw (fun k h1 h2 => by rcases (show k = 4 ∨ k = 5 ∨ k = 6 ∨ k = 7 by omega) with rfl | rfl | rfl | rfl <;> assumption)) (by decide) ?_
  refine lv_aload_n hx hb dX5_putOne_77 rfl (lv_at hl 0 rfl) ?_
  refine z_get hC hI hinX5_putOne_X50 7 (wC_e7 ad cy σ) rfl 2 (by decide) (List.mem_cons_of_mem _ zw7_5) rfl dX5_putOne_78 ?_
  refine lv_iconst (v := 2) hx hb dX5_putOne_81 (by decide) ?_
  refine lv_iload_n hx hb dX5_putOne_82 rfl (lv_at hl 1 rfl) ?_
  refine lv_iconst (v := 3) hx hb dX5_putOne_83 (by decide) ?_
  refine lv_iand hx hb dX5_putOne_84 ?_
  refine lv_iadd hx hb dX5_putOne_85 ?_
  refine lv_iload_n hx hb dX5_putOne_86 rfl (lv_at hl 2 rfl) ?_
  obtain ⟨q, hf⟩ := zck_use hf
  obtain ⟨σ5, eσ5⟩ : ∃ z, z = zsi σ 36 ((2 + (x1 &&& 3)).toNatClampNeg) x2 := ⟨_, rfl⟩
  replace hf := zbv_use eσ5 hf
  refine z_iast hC hI 36 23 (wC_e36 ad cy σ) (tC_t36 cy) q ((wC_s36 ad cy σ _ _).trans (congrArg (wC ad cy) eσ5.symm)) dX5_putOne_87 (fun H locs hI => ?_)
  exact bX5_putOne_88 hC  hI (lv_sub hl [] rfl) hf
set_option maxRecDepth 20000 in
theorem cX5_putOne_met (st : Nat → Nat) (l : Launch) (D : va_G) (ad : Nat → Nat) (cy : Nat → ClassId) (σ : zSt) (x1 : Int32) (x2 : Int32) (res : zSt) (hf : fX5_putOne σ x1 x2 = some res) (sz : Nat) : zMu st l yX5_putOne wzX5_putOne rmX5_putOne [.ref (ad 7), .int x1, .int x2] D (tC cy) (wC ad cy) sz σ res :=
  zMu.of (cc := cX5_putOne) (maxL := 3) (ret := none) (by decide) rfl (Nat.le_of_ble_eq_true rfl) (fun p e s m args below meth c hC A hI ls hl => bX5_putOne hC hI hl hf)
theorem hdX5_putOne : yX5_putOne.cls = RX5 ∧ yX5_putOne.cls ≠ "java/lang/invoke/MethodHandle" ∧ yX5_putOne.cls ≠ "java/lang/invoke/VarHandle" ∧ (parseMethodDescriptor yX5_putOne.desc).map (fun d => d.parameters.length) = some 2 := by decide +kernel
noncomputable def rmX5_turnBeside : Room := { frames := 4, cells := 0, slots := 0, locals := 89 }
noncomputable def wzX5_turnBeside : List Cond := .code yX5_turnBeside cX5_turnBeside 4 (some .int) :: wsL_law
theorem hinX5_turnBeside_X50 : ∀ w ∈ wsX50, w ∈ wzX5_turnBeside := fun w h => List.mem_cons_of_mem _ (inlX5 w h)
noncomputable def fX5_turnBeside_128  (σ : zSt)  : Option (zSt × Int32) :=
  some (σ, 23)
noncomputable def fX5_turnBeside  (σ : zSt)  : Option (zSt × Int32) :=
  zck (zin (zgi σ 7 4) 29) (
  zbi (fX5_fetch σ ) (fun σ1 v2 =>
  zck (zin 20 29) (zbv (zsi σ1 36 ((20 : Int32).toNatClampNeg) (((zgi σ 36 (zgi σ 7 4).toNatClampNeg) + (v2.toInt8.toInt32)) &&& 65535)) (fun σ3 =>
  zck (zin 20 29) (
  zbv (zsi σ3 7 5 (zgi σ3 36 (20 : Int32).toNatClampNeg)) (fun σ4 =>
  zbv (zsi σ4 7 4 6) (fun σ5 =>
  zbi (fX5_fetch σ5 ) (fun σ6 v7 =>
  zbi (fX2_read σ6 (zgi σ6 7 5)) (fun σ8 v9 =>
  if (v7 >>> ((6 : Int32) &&& 31)) = 1 then zck (zin 20 29) (
  zbu (fX5_askBit σ8 ((v7 >>> ((3 : Int32) &&& 31)) &&& 7) v9 ((zgi σ8 36 (20 : Int32).toNatClampNeg) >>> ((8 : Int32) &&& 31))) (fun σ14 =>
  some (σ14, 20))) else
  zbi (fX5_turned σ8 v7 v9) (fun σ10 v11 =>
  zbu (fX2_write σ10 (zgi σ10 7 5) v11) (fun σ12 =>
  if (v7 &&& 7) = 6 then fX5_turnBeside_128 σ12 else
  zbu (fX5_putOne σ12 (v7 &&& 7) v11) (fun σ13 =>
  fX5_turnBeside_128 σ13))))))))))))
set_option maxRecDepth 20000 in
set_option maxHeartbeats 4000000 in
theorem bX5_turnBeside_128 {st : Nat → Nat} {p : Program} {l : Launch} {e : Env} {s : State} {m : MethodId} {args : Array Value} {below : List Frame} {meth : Method} {c : Code} {D : va_G} {A : Nat → Prop} {ad : Nat → Nat} {cy : Nat → ClassId} (hC : zC p m c cX5_turnBeside 4 s args wzX5_turnBeside RX5 meth (some .int))  {res : zSt × Int32} {H : Heap} {locs : List Loc} {σ : zSt} {ls : Array Slot}  (hI : zI st D (tC cy) (wC ad cy σ) A s H locs) (hl : lv_has ls 4 []) (hf : fX5_turnBeside_128  σ  = some res) : W p l e rmX5_turnBeside s m args below meth c H locs 0 0 (zQi below args s D (tC cy) (wC ad cy) A res) (F0 m 128 ls []) := by
  have hx := hC.1
  have hb := hC.2.1
  unfold fX5_turnBeside_128 at hf
  refine lv_bipush (v := 23) hx hb dX5_turnBeside_128 (by decide) ?_
  exact z_ireturn hC hI hf dX5_turnBeside_130
set_option maxRecDepth 20000 in
set_option maxHeartbeats 4000000 in
theorem bX5_turnBeside {st : Nat → Nat} {p : Program} {l : Launch} {e : Env} {s : State} {m : MethodId} {args : Array Value} {below : List Frame} {meth : Method} {c : Code} {D : va_G} {A : Nat → Prop} {ad : Nat → Nat} {cy : Nat → ClassId} (hC : zC p m c cX5_turnBeside 4 s args wzX5_turnBeside RX5 meth (some .int))  {res : zSt × Int32} {H : Heap} {locs : List Loc} {σ : zSt} {ls : Array Slot}  (hI : zI st D (tC cy) (wC ad cy σ) A s H locs) (hl : lv_has ls 4 [(0, .ref (ad 7))]) (hf : fX5_turnBeside  σ  = some res) : W p l e rmX5_turnBeside s m args below meth c H locs 0 0 (zQi below args s D (tC cy) (wC ad cy) A res) (F0 m 0 ls []) := by
  have hx := hC.1
  have hb := hC.2.1
  unfold fX5_turnBeside at hf
  refine lv_aload_n hx hb dX5_turnBeside_0 rfl (lv_at hl 0 rfl) ?_
  refine z_get hC hI hinX5_turnBeside_X50 7 (wC_e7 ad cy σ) rfl 2 (by decide) (List.mem_cons_of_mem _ zw7_5) rfl dX5_turnBeside_1 ?_
  refine lv_bipush (v := 20) hx hb dX5_turnBeside_4 (by decide) ?_
  refine lv_aload_n hx hb dX5_turnBeside_6 rfl (lv_at hl 0 rfl) ?_
  refine z_get hC hI hinX5_turnBeside_X50 7 (wC_e7 ad cy σ) rfl 2 (by decide) (List.mem_cons_of_mem _ zw7_5) rfl dX5_turnBeside_7 ?_
  refine lv_aload_n hx hb dX5_turnBeside_10 rfl (lv_at hl 0 rfl) ?_
  refine z_get hC hI hinX5_turnBeside_X50 7 (wC_e7 ad cy σ) rfl 4 (by decide) (List.mem_cons_of_mem _ zw7_7) rfl dX5_turnBeside_11 ?_
  obtain ⟨q, hf⟩ := zck_use hf
  refine z_iald hC hI 36 23 (wC_e36 ad cy σ) (tC_t36 cy) q dX5_turnBeside_14 ?_
  refine lv_aload_n hx hb dX5_turnBeside_15 rfl (lv_at hl 0 rfl) ?_
  obtain ⟨σ1, v2, g1, hf⟩ := zbi_use hf
  refine z_callVi (As := []) (rest := [.int (zgi σ 36 (zgi σ 7 4).toNatClampNeg), .int 20, .ref (ad 36)]) hC hI (cX5_fetch_met st l D ad cy σ  _ g1) (zgV zw21_23 zw22_0 zw22_1 zw2_21 zw22_2) rfl ⟨rfl, rfl⟩ 0 hdX5_fetch ⟨Nat.le_of_ble_eq_true rfl, Nat.le_of_ble_eq_true rfl⟩ rfl rfl (wC_e7 ad cy σ) rfl hl rfl (Nat.le_of_ble_eq_true rfl) dX5_turnBeside_16 ⟨Nat.zero_le _, Nat.zero_le _⟩ (fun H locs hI => ?_)
  refine lv_i2b (v := v2.toInt8.toInt32) hx hb dX5_turnBeside_19 rfl ?_
  refine lv_iadd hx hb dX5_turnBeside_20 ?_
  refine lv_ldc (v := 65535) hx hb hC.2.2.2.1 (hC.2.2.2.2.1 _ (List.mem_cons_of_mem _ zw20_6)) dX5_turnBeside_21 ?_
  refine lv_iand hx hb dX5_turnBeside_23 ?_
  obtain ⟨q, hf⟩ := zck_use hf
  obtain ⟨σ3, eσ3⟩ : ∃ z, z = zsi σ1 36 ((20 : Int32).toNatClampNeg) (((zgi σ 36 (zgi σ 7 4).toNatClampNeg) + (v2.toInt8.toInt32)) &&& 65535) := ⟨_, rfl⟩
  replace hf := zbv_use eσ3 hf
  refine z_iast hC hI 36 23 (wC_e36 ad cy σ1) (tC_t36 cy) q ((wC_s36 ad cy σ1 _ _).trans (congrArg (wC ad cy) eσ3.symm)) dX5_turnBeside_24 (fun H locs hI => ?_)
  refine lv_aload_n hx hb dX5_turnBeside_25 rfl (lv_at hl 0 rfl) ?_
  refine lv_aload_n hx hb dX5_turnBeside_26 rfl (lv_at hl 0 rfl) ?_
  refine z_get hC hI hinX5_turnBeside_X50 7 (wC_e7 ad cy σ3) rfl 2 (by decide) (List.mem_cons_of_mem _ zw7_5) rfl dX5_turnBeside_27 ?_
  refine lv_bipush (v := 20) hx hb dX5_turnBeside_30 (by decide) ?_
  obtain ⟨q, hf⟩ := zck_use hf
  refine z_iald hC hI 36 23 (wC_e36 ad cy σ3) (tC_t36 cy) q dX5_turnBeside_32 ?_
  obtain ⟨σ4, eσ4⟩ : ∃ z, z = zsi σ3 7 5 (zgi σ3 36 (20 : Int32).toNatClampNeg) := ⟨_, rfl⟩
  replace hf := zbv_use eσ4 hf
  refine z_put hC hI hinX5_turnBeside_X50 tyX5_ok nmX5 7 (wC_e7 ad cy σ3) rfl 5 (by decide) (List.mem_cons_of_mem _ zw21_14) rfl rfl rfl (Nat.le_of_ble_eq_true rfl) ((wC_s7_5 ad cy σ3 (zgi σ3 36 (20 : Int32).toNatClampNeg)).trans (congrArg (wC ad cy) eσ4.symm)) dX5_turnBeside_33 (fun H locs hI => ?_)
  refine lv_aload_n hx hb dX5_turnBeside_36 rfl (lv_at hl 0 rfl) ?_
  refine lv_bipush (v := 6) hx hb dX5_turnBeside_37 (by decide) ?_
  obtain ⟨σ5, eσ5⟩ : ∃ z, z = zsi σ4 7 4 6 := ⟨_, rfl⟩
  replace hf := zbv_use eσ5 hf
  refine z_put hC hI hinX5_turnBeside_X50 tyX5_ok nmX5 7 (wC_e7 ad cy σ4) rfl 4 (by decide) (List.mem_cons_of_mem _ zw7_7) rfl rfl rfl (Nat.le_of_ble_eq_true rfl) ((wC_s7_4 ad cy σ4 6).trans (congrArg (wC ad cy) eσ5.symm)) dX5_turnBeside_39 (fun H locs hI => ?_)
  refine lv_aload_n hx hb dX5_turnBeside_42 rfl (lv_at hl 0 rfl) ?_
  obtain ⟨σ6, v7, g6, hf⟩ := zbi_use hf
  refine z_callVi (As := []) (rest := []) hC hI (cX5_fetch_met st l D ad cy σ5  _ g6) (zgV zw21_23 zw22_0 zw22_1 zw2_21 zw22_2) rfl ⟨rfl, rfl⟩ 0 hdX5_fetch ⟨Nat.le_of_ble_eq_true rfl, Nat.le_of_ble_eq_true rfl⟩ rfl rfl (wC_e7 ad cy σ5) rfl hl rfl (Nat.le_of_ble_eq_true rfl) dX5_turnBeside_43 ⟨Nat.zero_le _, Nat.zero_le _⟩ (fun H locs hI => ?_)
  refine lv_istore_n (lv' := [(1, .int v7), (0, .ref (ad 7))]) hx hb dX5_turnBeside_46 rfl hl (by decide) rfl (fun ls hl => ?_)
  refine lv_aload_n hx hb dX5_turnBeside_47 rfl (lv_at hl 1 rfl) ?_
  refine z_get hC hI hinX5_turnBeside_X50 7 (wC_e7 ad cy σ6) rfl 0 (by decide) (List.mem_cons_of_mem _ zw7_8) rfl dX5_turnBeside_48 ?_
  refine lv_aload_n hx hb dX5_turnBeside_51 rfl (lv_at hl 1 rfl) ?_
  refine z_get hC hI hinX5_turnBeside_X50 7 (wC_e7 ad cy σ6) rfl 5 (by decide) (List.mem_cons_of_mem _ zw21_14) rfl dX5_turnBeside_52 ?_
  obtain ⟨σ8, v9, g8, hf⟩ := zbi_use hf
  refine z_callVi (As := [.int (zgi σ6 7 5)]) (rest := []) hC hI (cX2_read_met st l D ad cy σ6 (zgi σ6 7 5) _ g8) (zgV zw21_6 zw21_7 zw21_8 zw1_21 zw21_9) rfl ⟨rfl, rfl⟩ 1 hdX2_read ⟨Nat.le_of_ble_eq_true rfl, Nat.le_of_ble_eq_true rfl⟩ rfl rfl (wC_e1 ad cy σ6) rfl hl rfl (Nat.le_of_ble_eq_true rfl) dX5_turnBeside_55 ⟨Nat.zero_le _, Nat.zero_le _⟩ (fun H locs hI => ?_)
  refine lv_istore_n (lv' := [(2, .int v9), (1, .int v7), (0, .ref (ad 7))]) hx hb dX5_turnBeside_58 rfl hl (by decide) rfl (fun ls hl => ?_)
  refine lv_iload_n hx hb dX5_turnBeside_59 rfl (lv_at hl 1 rfl) ?_
  refine lv_bipush (v := 6) hx hb dX5_turnBeside_60 (by decide) ?_
  refine lv_ishr hx hb dX5_turnBeside_62 ?_
  refine lv_iconst (v := 1) hx hb dX5_turnBeside_63 (by decide) ?_
  refine lv_icmp_ne (tgt := 91) hx hb dX5_turnBeside_64 (by decide) (fun q => ?_) (fun q => ?_)
  · replace hf := zif_f q hf
    refine lv_aload_n hx hb dX5_turnBeside_91 rfl (lv_at hl 2 rfl) ?_
    refine lv_iload_n hx hb dX5_turnBeside_92 rfl (lv_at hl 1 rfl) ?_
    refine lv_iload_n hx hb dX5_turnBeside_93 rfl (lv_at hl 0 rfl) ?_
    obtain ⟨σ10, v11, g10, hf⟩ := zbi_use hf
    refine z_callVi (As := [.int v7, .int v9]) (rest := []) hC hI (cX5_turned_met st l D ad cy σ8 v7 v9 _ g10) (zgV zw22_11 zw22_12 zw22_13 zw2_21 zw22_14) rfl ⟨rfl, rfl⟩ 2 hdX5_turned ⟨Nat.le_of_ble_eq_true rfl, Nat.le_of_ble_eq_true rfl⟩ rfl rfl (wC_e7 ad cy σ8) rfl hl rfl (Nat.le_of_ble_eq_true rfl) dX5_turnBeside_94 ⟨Nat.zero_le _, Nat.zero_le _⟩ (fun H locs hI => ?_)
    refine lv_istore_n (lv' := [(3, .int v11), (2, .int v9), (1, .int v7), (0, .ref (ad 7))]) hx hb dX5_turnBeside_97 rfl hl (by decide) rfl (fun ls hl => ?_)
    refine lv_aload_n hx hb dX5_turnBeside_98 rfl (lv_at hl 3 rfl) ?_
    refine z_get hC hI hinX5_turnBeside_X50 7 (wC_e7 ad cy σ10) rfl 0 (by decide) (List.mem_cons_of_mem _ zw7_8) rfl dX5_turnBeside_99 ?_
    refine lv_aload_n hx hb dX5_turnBeside_102 rfl (lv_at hl 3 rfl) ?_
    refine z_get hC hI hinX5_turnBeside_X50 7 (wC_e7 ad cy σ10) rfl 5 (by decide) (List.mem_cons_of_mem _ zw21_14) rfl dX5_turnBeside_103 ?_
    refine lv_iload_n hx hb dX5_turnBeside_106 rfl (lv_at hl 0 rfl) ?_
    obtain ⟨σ12, g12, hf⟩ := zbu_use hf
    refine z_callVu (As := [.int (zgi σ10 7 5), .int v11]) (rest := []) hC hI (cX2_write_met st l D ad cy σ10 (zgi σ10 7 5) v11 _ g12) (zgV zw20_7 zw20_8 zw20_9 zw1_21 zw20_10) rfl ⟨rfl, rfl⟩ 2 hdX2_write ⟨Nat.le_of_ble_eq_true rfl, Nat.le_of_ble_eq_true rfl⟩ rfl rfl (wC_e1 ad cy σ10) rfl hl rfl (Nat.le_of_ble_eq_true rfl) dX5_turnBeside_107 ⟨Nat.zero_le _, Nat.zero_le _⟩ (fun H locs hI => ?_)
    refine lv_iload_n hx hb dX5_turnBeside_110 rfl (lv_at hl 2 rfl) ?_
    refine lv_bipush (v := 7) hx hb dX5_turnBeside_111 (by decide) ?_
    refine lv_iand hx hb dX5_turnBeside_113 ?_
    refine lv_bipush (v := 6) hx hb dX5_turnBeside_114 (by decide) ?_
    refine lv_icmp_eq (tgt := 128) hx hb dX5_turnBeside_116 (by decide) (fun q => ?_) (fun q => ?_)
    · replace hf := zif_t q hf
      exact bX5_turnBeside_128 hC  hI (lv_sub hl [] rfl) hf
    replace hf := zif_f q hf
    refine lv_aload_n hx hb dX5_turnBeside_119 rfl (lv_at hl 3 rfl) ?_
    refine lv_iload_n hx hb dX5_turnBeside_120 rfl (lv_at hl 2 rfl) ?_
    refine lv_bipush (v := 7) hx hb dX5_turnBeside_121 (by decide) ?_
    refine lv_iand hx hb dX5_turnBeside_123 ?_
    refine lv_iload_n hx hb dX5_turnBeside_124 rfl (lv_at hl 0 rfl) ?_
    obtain ⟨σ13, g13, hf⟩ := zbu_use hf
    refine z_callVu (As := [.int (v7 &&& 7), .int v11]) (rest := []) hC hI (cX5_putOne_met st l D ad cy σ12 (v7 &&& 7) v11 _ g13) (zgV zw23_8 zw23_9 zw23_10 zw2_21 zw23_11) rfl ⟨rfl, rfl⟩ 2 hdX5_putOne ⟨Nat.le_of_ble_eq_true rfl, Nat.le_of_ble_eq_true rfl⟩ rfl rfl (wC_e7 ad cy σ12) rfl hl rfl (Nat.le_of_ble_eq_true rfl) dX5_turnBeside_125 ⟨Nat.zero_le _, Nat.zero_le _⟩ (fun H locs hI => ?_)
    exact bX5_turnBeside_128 hC  hI (lv_sub hl [] rfl) hf
  replace hf := zif_t q hf
  refine lv_aload_n hx hb dX5_turnBeside_67 rfl (lv_at hl 2 rfl) ?_
  refine lv_iload_n hx hb dX5_turnBeside_68 rfl (lv_at hl 1 rfl) ?_
  refine lv_iconst (v := 3) hx hb dX5_turnBeside_69 (by decide) ?_
  refine lv_ishr hx hb dX5_turnBeside_70 ?_
  refine lv_bipush (v := 7) hx hb dX5_turnBeside_71 (by decide) ?_
  refine lv_iand hx hb dX5_turnBeside_73 ?_
  refine lv_iload_n hx hb dX5_turnBeside_74 rfl (lv_at hl 0 rfl) ?_
  refine lv_aload_n hx hb dX5_turnBeside_75 rfl (lv_at hl 2 rfl) ?_
  refine z_get hC hI hinX5_turnBeside_X50 7 (wC_e7 ad cy σ8) rfl 2 (by decide) (List.mem_cons_of_mem _ zw7_5) rfl dX5_turnBeside_76 ?_
  refine lv_bipush (v := 20) hx hb dX5_turnBeside_79 (by decide) ?_
  obtain ⟨q, hf⟩ := zck_use hf
  refine z_iald hC hI 36 23 (wC_e36 ad cy σ8) (tC_t36 cy) q dX5_turnBeside_81 ?_
  refine lv_bipush (v := 8) hx hb dX5_turnBeside_82 (by decide) ?_
  refine lv_ishr hx hb dX5_turnBeside_84 ?_
  obtain ⟨σ14, g14, hf⟩ := zbu_use hf
  refine z_callVu (As := [.int ((v7 >>> ((3 : Int32) &&& 31)) &&& 7), .int v9, .int ((zgi σ8 36 (20 : Int32).toNatClampNeg) >>> ((8 : Int32) &&& 31))]) (rest := []) hC hI (cX5_askBit_met st l D ad cy σ8 ((v7 >>> ((3 : Int32) &&& 31)) &&& 7) v9 ((zgi σ8 36 (20 : Int32).toNatClampNeg) >>> ((8 : Int32) &&& 31)) _ g14) (zgV zw22_7 zw22_8 zw22_9 zw2_21 zw22_10) rfl ⟨rfl, rfl⟩ 3 hdX5_askBit ⟨Nat.le_of_ble_eq_true rfl, Nat.le_of_ble_eq_true rfl⟩ rfl rfl (wC_e7 ad cy σ8) rfl hl rfl (Nat.le_of_ble_eq_true rfl) dX5_turnBeside_85 ⟨Nat.zero_le _, Nat.zero_le _⟩ (fun H locs hI => ?_)
  refine lv_bipush (v := 20) hx hb dX5_turnBeside_88 (by decide) ?_
  exact z_ireturn hC hI hf dX5_turnBeside_90
set_option maxRecDepth 20000 in
theorem cX5_turnBeside_met (st : Nat → Nat) (l : Launch) (D : va_G) (ad : Nat → Nat) (cy : Nat → ClassId) (σ : zSt)  (res : zSt × Int32) (hf : fX5_turnBeside σ  = some res) (sz : Nat) : zMi st l yX5_turnBeside wzX5_turnBeside rmX5_turnBeside [.ref (ad 7)] D (tC cy) (wC ad cy) sz σ res :=
  zMi.of (cc := cX5_turnBeside) (maxL := 4) (ret := (some .int)) (by decide) rfl (Nat.le_of_ble_eq_true rfl) (fun p e s m args below meth c hC A hI ls hl => bX5_turnBeside hC hI hl hf)
theorem hdX5_turnBeside : yX5_turnBeside.cls = RX5 ∧ yX5_turnBeside.cls ≠ "java/lang/invoke/MethodHandle" ∧ yX5_turnBeside.cls ≠ "java/lang/invoke/VarHandle" ∧ (parseMethodDescriptor yX5_turnBeside.desc).map (fun d => d.parameters.length) = some 0 := by decide +kernel
noncomputable def rmX5_meansPlace : Room := { frames := 0, cells := 0, slots := 0, locals := 0 }
noncomputable def wzX5_meansPlace : List Cond := .code yX5_meansPlace cX5_meansPlace 3 (some .boolean) :: wsL_law
noncomputable def fX5_meansPlace_97  (σ : zSt) (s0 : Int32) : Option (zSt × Int32) :=
  zck (zbo s0) (some (σ, s0))
noncomputable def fX5_meansPlace_86  (σ : zSt) (s0 : Int32) : Option (zSt × Int32) :=
  zck (zbo s0) (some (σ, s0))
noncomputable def fX5_meansPlace_85  (σ : zSt)  : Option (zSt × Int32) :=
  fX5_meansPlace_86 σ 0
noncomputable def fX5_meansPlace_29  (σ : zSt) (x0 : Int32) (x1 : Int32) (s0 : Int32) : Option (zSt × Int32) :=
  if (x0 >>> ((6 : Int32) &&& 31)) = 0 then if x1 = 0 then fX5_meansPlace_85 σ else
  if (x0 &&& 7) < 4 then fX5_meansPlace_85 σ else
  if 6 < (x0 &&& 7) then fX5_meansPlace_85 σ else
  fX5_meansPlace_86 σ 1 else
  if (x0 >>> ((6 : Int32) &&& 31)) = 1 then if x1 = s0 then fX5_meansPlace_97 σ 0 else
  fX5_meansPlace_97 σ 1 else
  if (x0 >>> ((6 : Int32) &&& 31)) = 2 then zck (zbo s0) (some (σ, s0)) else
  zck (zbo 0) (some (σ, 0))
noncomputable def fX5_meansPlace_14  (σ : zSt) (x0 : Int32) (s0 : Int32) : Option (zSt × Int32) :=
  if (x0 &&& 7) = 6 then fX5_meansPlace_29 σ x0 s0 1 else
  fX5_meansPlace_29 σ x0 s0 0
noncomputable def fX5_meansPlace  (σ : zSt) (x0 : Int32) : Option (zSt × Int32) :=
  if (x0 &&& 56) = 48 then fX5_meansPlace_14 σ x0 1 else
  fX5_meansPlace_14 σ x0 0
set_option maxRecDepth 20000 in
set_option maxHeartbeats 4000000 in
theorem bX5_meansPlace_97 {st : Nat → Nat} {p : Program} {l : Launch} {e : Env} {s : State} {m : MethodId} {args : Array Value} {below : List Frame} {meth : Method} {c : Code} {D : va_G} {A : Nat → Prop} {ad : Nat → Nat} {cy : Nat → ClassId} (hC : zC p m c cX5_meansPlace 3 s args wzX5_meansPlace RX5 meth (some .boolean))  {res : zSt × Int32} {H : Heap} {locs : List Loc} {σ : zSt} {ls : Array Slot} {s0 : Int32} (hI : zI st D (tC cy) (wC ad cy σ) A s H locs) (hl : lv_has ls 3 []) (hf : fX5_meansPlace_97  σ s0 = some res) : W p l e rmX5_meansPlace s m args below meth c H locs 0 0 (zQi below args s D (tC cy) (wC ad cy) A res) (F0 m 97 ls [.int s0]) := by
  have hx := hC.1
  have hb := hC.2.1
  unfold fX5_meansPlace_97 at hf
  obtain ⟨q, hf⟩ := zck_use hf
  exact z_zreturn hC hI (zbo_n q) hf dX5_meansPlace_97
set_option maxRecDepth 20000 in
set_option maxHeartbeats 4000000 in
theorem bX5_meansPlace_86 {st : Nat → Nat} {p : Program} {l : Launch} {e : Env} {s : State} {m : MethodId} {args : Array Value} {below : List Frame} {meth : Method} {c : Code} {D : va_G} {A : Nat → Prop} {ad : Nat → Nat} {cy : Nat → ClassId} (hC : zC p m c cX5_meansPlace 3 s args wzX5_meansPlace RX5 meth (some .boolean))  {res : zSt × Int32} {H : Heap} {locs : List Loc} {σ : zSt} {ls : Array Slot} {s0 : Int32} (hI : zI st D (tC cy) (wC ad cy σ) A s H locs) (hl : lv_has ls 3 []) (hf : fX5_meansPlace_86  σ s0 = some res) : W p l e rmX5_meansPlace s m args below meth c H locs 0 0 (zQi below args s D (tC cy) (wC ad cy) A res) (F0 m 86 ls [.int s0]) := by
  have hx := hC.1
  have hb := hC.2.1
  unfold fX5_meansPlace_86 at hf
  obtain ⟨q, hf⟩ := zck_use hf
  exact z_zreturn hC hI (zbo_n q) hf dX5_meansPlace_86
set_option maxRecDepth 20000 in
set_option maxHeartbeats 4000000 in
theorem bX5_meansPlace_85 {st : Nat → Nat} {p : Program} {l : Launch} {e : Env} {s : State} {m : MethodId} {args : Array Value} {below : List Frame} {meth : Method} {c : Code} {D : va_G} {A : Nat → Prop} {ad : Nat → Nat} {cy : Nat → ClassId} (hC : zC p m c cX5_meansPlace 3 s args wzX5_meansPlace RX5 meth (some .boolean))  {res : zSt × Int32} {H : Heap} {locs : List Loc} {σ : zSt} {ls : Array Slot}  (hI : zI st D (tC cy) (wC ad cy σ) A s H locs) (hl : lv_has ls 3 []) (hf : fX5_meansPlace_85  σ  = some res) : W p l e rmX5_meansPlace s m args below meth c H locs 0 0 (zQi below args s D (tC cy) (wC ad cy) A res) (F0 m 85 ls []) := by
  have hx := hC.1
  have hb := hC.2.1
  unfold fX5_meansPlace_85 at hf
  refine lv_iconst (v := 0) hx hb dX5_meansPlace_85 (by decide) ?_
  exact bX5_meansPlace_86 hC  hI hl hf
set_option maxRecDepth 20000 in
set_option maxHeartbeats 4000000 in
theorem bX5_meansPlace_29 {st : Nat → Nat} {p : Program} {l : Launch} {e : Env} {s : State} {m : MethodId} {args : Array Value} {below : List Frame} {meth : Method} {c : Code} {D : va_G} {A : Nat → Prop} {ad : Nat → Nat} {cy : Nat → ClassId} (hC : zC p m c cX5_meansPlace 3 s args wzX5_meansPlace RX5 meth (some .boolean))  {res : zSt × Int32} {H : Heap} {locs : List Loc} {σ : zSt} {ls : Array Slot} {x0 : Int32} {x1 : Int32} {s0 : Int32} (hI : zI st D (tC cy) (wC ad cy σ) A s H locs) (hl : lv_has ls 3 [(0, .int x0), (1, .int x1)]) (hf : fX5_meansPlace_29  σ x0 x1 s0 = some res) : W p l e rmX5_meansPlace s m args below meth c H locs 0 0 (zQi below args s D (tC cy) (wC ad cy) A res) (F0 m 29 ls [.int s0]) := by
  have hx := hC.1
  have hb := hC.2.1
  unfold fX5_meansPlace_29 at hf
  refine lv_istore_n (lv' := [(2, .int s0), (0, .int x0), (1, .int x1)]) hx hb dX5_meansPlace_29 rfl hl (by decide) rfl (fun ls hl => ?_)
  refine lv_iload_n hx hb dX5_meansPlace_30 rfl (lv_at hl 1 rfl) ?_
  refine lv_bipush (v := 6) hx hb dX5_meansPlace_31 (by decide) ?_
  refine lv_ishr hx hb dX5_meansPlace_33 ?_
  by_cases q0 : (x0 >>> ((6 : Int32) &&& 31)) = 0
  · replace hf := zif_t q0 hf
    refine lv_tableIn (tgt := 60) hx hb dX5_meansPlace_34 (by rw [q0]; decide) (by rw [q0]; decide) (by rw [q0]; rfl) (by decide) ?_
    refine lv_iload_n hx hb dX5_meansPlace_60 rfl (lv_at hl 2 rfl) ?_
    refine lv_if_eq (tgt := 85) hx hb dX5_meansPlace_61 (by decide) (fun q => ?_) (fun q => ?_)
    · replace hf := zif_t q hf
      exact bX5_meansPlace_85 hC  hI (lv_sub hl [] rfl) hf
    replace hf := zif_f q hf
    refine lv_iload_n hx hb dX5_meansPlace_64 rfl (lv_at hl 1 rfl) ?_
    refine lv_bipush (v := 7) hx hb dX5_meansPlace_65 (by decide) ?_
    refine lv_iand hx hb dX5_meansPlace_67 ?_
    refine lv_iconst (v := 4) hx hb dX5_meansPlace_68 (by decide) ?_
    refine lv_icmp_lt (tgt := 85) hx hb dX5_meansPlace_69 (by decide) (fun q => ?_) (fun q => ?_)
    · replace hf := zif_t q hf
      exact bX5_meansPlace_85 hC  hI (lv_sub hl [] rfl) hf
    replace hf := zif_f q hf
    refine lv_iload_n hx hb dX5_meansPlace_72 rfl (lv_at hl 1 rfl) ?_
    refine lv_bipush (v := 7) hx hb dX5_meansPlace_73 (by decide) ?_
    refine lv_iand hx hb dX5_meansPlace_75 ?_
    refine lv_bipush (v := 6) hx hb dX5_meansPlace_76 (by decide) ?_
    refine lv_icmp_gt (tgt := 85) hx hb dX5_meansPlace_78 (by decide) (fun q => ?_) (fun q => ?_)
    · replace hf := zif_t q hf
      exact bX5_meansPlace_85 hC  hI (lv_sub hl [] rfl) hf
    replace hf := zif_f q hf
    refine lv_iconst (v := 1) hx hb dX5_meansPlace_81 (by decide) ?_
    refine lv_goto (tgt := 86) hx hb dX5_meansPlace_82 (by decide) ?_
    exact bX5_meansPlace_86 hC  hI (lv_sub hl [] rfl) hf
  replace hf := zif_f q0 hf
  by_cases q1 : (x0 >>> ((6 : Int32) &&& 31)) = 1
  · replace hf := zif_t q1 hf
    refine lv_tableIn (tgt := 87) hx hb dX5_meansPlace_34 (by rw [q1]; decide) (by rw [q1]; decide) (by rw [q1]; rfl) (by decide) ?_
    refine lv_iload_n hx hb dX5_meansPlace_87 rfl (lv_at hl 2 rfl) ?_
    refine lv_iload_n hx hb dX5_meansPlace_88 rfl (lv_at hl 0 rfl) ?_
    refine lv_icmp_eq (tgt := 96) hx hb dX5_meansPlace_89 (by decide) (fun q => ?_) (fun q => ?_)
    · replace hf := zif_t q hf
      refine lv_iconst (v := 0) hx hb dX5_meansPlace_96 (by decide) ?_
      exact bX5_meansPlace_97 hC  hI (lv_sub hl [] rfl) hf
    replace hf := zif_f q hf
    refine lv_iconst (v := 1) hx hb dX5_meansPlace_92 (by decide) ?_
    refine lv_goto (tgt := 97) hx hb dX5_meansPlace_93 (by decide) ?_
    exact bX5_meansPlace_97 hC  hI (lv_sub hl [] rfl) hf
  replace hf := zif_f q1 hf
  by_cases q2 : (x0 >>> ((6 : Int32) &&& 31)) = 2
  · replace hf := zif_t q2 hf
    refine lv_tableIn (tgt := 98) hx hb dX5_meansPlace_34 (by rw [q2]; decide) (by rw [q2]; decide) (by rw [q2]; rfl) (by decide) ?_
    refine lv_iload_n hx hb dX5_meansPlace_98 rfl (lv_at hl 0 rfl) ?_
    obtain ⟨q, hf⟩ := zck_use hf
    exact z_zreturn hC hI (zbo_n q) hf dX5_meansPlace_99
  replace hf := zif_f q2 hf
  refine lv_tableOut (tgt := 100) hx hb dX5_meansPlace_34 (zsw (fun k h1 h2 => by rcases (show k = 0 ∨ k = 1 ∨ k = 2 by omega) with rfl | rfl | rfl <;> assumption)) (by decide) ?_
  refine lv_iconst (v := 0) hx hb dX5_meansPlace_100 (by decide) ?_
  obtain ⟨q, hf⟩ := zck_use hf
  exact z_zreturn hC hI (zbo_n q) hf dX5_meansPlace_101
set_option maxRecDepth 20000 in
set_option maxHeartbeats 4000000 in
theorem bX5_meansPlace_14 {st : Nat → Nat} {p : Program} {l : Launch} {e : Env} {s : State} {m : MethodId} {args : Array Value} {below : List Frame} {meth : Method} {c : Code} {D : va_G} {A : Nat → Prop} {ad : Nat → Nat} {cy : Nat → ClassId} (hC : zC p m c cX5_meansPlace 3 s args wzX5_meansPlace RX5 meth (some .boolean))  {res : zSt × Int32} {H : Heap} {locs : List Loc} {σ : zSt} {ls : Array Slot} {x0 : Int32} {s0 : Int32} (hI : zI st D (tC cy) (wC ad cy σ) A s H locs) (hl : lv_has ls 3 [(0, .int x0)]) (hf : fX5_meansPlace_14  σ x0 s0 = some res) : W p l e rmX5_meansPlace s m args below meth c H locs 0 0 (zQi below args s D (tC cy) (wC ad cy) A res) (F0 m 14 ls [.int s0]) := by
  have hx := hC.1
  have hb := hC.2.1
  unfold fX5_meansPlace_14 at hf
  refine lv_istore_n (lv' := [(1, .int s0), (0, .int x0)]) hx hb dX5_meansPlace_14 rfl hl (by decide) rfl (fun ls hl => ?_)
  refine lv_iload_n hx hb dX5_meansPlace_15 rfl (lv_at hl 1 rfl) ?_
  refine lv_bipush (v := 7) hx hb dX5_meansPlace_16 (by decide) ?_
  refine lv_iand hx hb dX5_meansPlace_18 ?_
  refine lv_bipush (v := 6) hx hb dX5_meansPlace_19 (by decide) ?_
  refine lv_icmp_ne (tgt := 28) hx hb dX5_meansPlace_21 (by decide) (fun q => ?_) (fun q => ?_)
  · replace hf := zif_f q hf
    refine lv_iconst (v := 0) hx hb dX5_meansPlace_28 (by decide) ?_
    exact bX5_meansPlace_29 hC  hI (lv_sub hl [1, 0] rfl) hf
  replace hf := zif_t q hf
  refine lv_iconst (v := 1) hx hb dX5_meansPlace_24 (by decide) ?_
  refine lv_goto (tgt := 29) hx hb dX5_meansPlace_25 (by decide) ?_
  exact bX5_meansPlace_29 hC  hI (lv_sub hl [1, 0] rfl) hf
set_option maxRecDepth 20000 in
set_option maxHeartbeats 4000000 in
theorem bX5_meansPlace {st : Nat → Nat} {p : Program} {l : Launch} {e : Env} {s : State} {m : MethodId} {args : Array Value} {below : List Frame} {meth : Method} {c : Code} {D : va_G} {A : Nat → Prop} {ad : Nat → Nat} {cy : Nat → ClassId} (hC : zC p m c cX5_meansPlace 3 s args wzX5_meansPlace RX5 meth (some .boolean))  {res : zSt × Int32} {H : Heap} {locs : List Loc} {σ : zSt} {ls : Array Slot} {x0 : Int32} (hI : zI st D (tC cy) (wC ad cy σ) A s H locs) (hl : lv_has ls 3 [(0, .int x0)]) (hf : fX5_meansPlace  σ x0 = some res) : W p l e rmX5_meansPlace s m args below meth c H locs 0 0 (zQi below args s D (tC cy) (wC ad cy) A res) (F0 m 0 ls []) := by
  have hx := hC.1
  have hb := hC.2.1
  unfold fX5_meansPlace at hf
  refine lv_iload_n hx hb dX5_meansPlace_0 rfl (lv_at hl 0 rfl) ?_
  refine lv_bipush (v := 56) hx hb dX5_meansPlace_1 (by decide) ?_
  refine lv_iand hx hb dX5_meansPlace_3 ?_
  refine lv_bipush (v := 48) hx hb dX5_meansPlace_4 (by decide) ?_
  refine lv_icmp_ne (tgt := 13) hx hb dX5_meansPlace_6 (by decide) (fun q => ?_) (fun q => ?_)
  · replace hf := zif_f q hf
    refine lv_iconst (v := 0) hx hb dX5_meansPlace_13 (by decide) ?_
    exact bX5_meansPlace_14 hC  hI hl hf
  replace hf := zif_t q hf
  refine lv_iconst (v := 1) hx hb dX5_meansPlace_9 (by decide) ?_
  refine lv_goto (tgt := 14) hx hb dX5_meansPlace_10 (by decide) ?_
  exact bX5_meansPlace_14 hC  hI hl hf
set_option maxRecDepth 20000 in
theorem cX5_meansPlace_met (st : Nat → Nat) (l : Launch) (D : va_G) (ad : Nat → Nat) (cy : Nat → ClassId) (σ : zSt) (x0 : Int32) (res : zSt × Int32) (hf : fX5_meansPlace σ x0 = some res) (sz : Nat) : zMi st l yX5_meansPlace wzX5_meansPlace rmX5_meansPlace [.int x0] D (tC cy) (wC ad cy) sz σ res :=
  zMi.of (cc := cX5_meansPlace) (maxL := 3) (ret := (some .boolean)) (by decide) rfl (Nat.le_of_ble_eq_true rfl) (fun p e s m args below meth c hC A hI ls hl => bX5_meansPlace hC hI hl hf)
theorem hdX5_meansPlace : yX5_meansPlace.cls ≠ "java/lang/invoke/MethodHandle" ∧ yX5_meansPlace.cls ≠ "java/lang/invoke/VarHandle" ∧ (parseMethodDescriptor yX5_meansPlace.desc).map (fun d => d.parameters.length) = some 1 := by decide +kernel
noncomputable def rmX5_takePlace : Room := { frames := 3, cells := 0, slots := 0, locals := 68 }
noncomputable def wzX5_takePlace : List Cond := .code yX5_takePlace cX5_takePlace 2 (some .int) :: wsL_law
theorem hinX5_takePlace_X50 : ∀ w ∈ wsX50, w ∈ wzX5_takePlace := fun w h => List.mem_cons_of_mem _ (inlX5 w h)
noncomputable def fX5_takePlace_64  (σ : zSt) (s0 : Int32) : Option (zSt × Int32) :=
  some (σ, s0)
noncomputable def fX5_takePlace  (σ : zSt) (x1 : Int32) : Option (zSt × Int32) :=
  zbi (fX5_meansPlace σ x1) (fun σ1 v2 =>
  if v2 = 0 then some (σ1, 4) else
  zck (zin (zgi σ1 7 4) 29) (
  zbi (fX5_fetch σ1 ) (fun σ3 v4 =>
  zck (zin 20 29) (zbv (zsi σ3 36 ((20 : Int32).toNatClampNeg) (((zgi σ1 36 (zgi σ1 7 4).toNatClampNeg) + (v4.toInt8.toInt32)) &&& 65535)) (fun σ5 =>
  zck (zin 20 29) (
  zbv (zsi σ5 7 5 (zgi σ5 36 (20 : Int32).toNatClampNeg)) (fun σ6 =>
  zbv (zsi σ6 7 4 6) (fun σ7 =>
  if x1 = 54 then fX5_takePlace_64 σ7 9 else
  fX5_takePlace_64 σ7 12))))))))
set_option maxRecDepth 20000 in
set_option maxHeartbeats 4000000 in
theorem bX5_takePlace_64 {st : Nat → Nat} {p : Program} {l : Launch} {e : Env} {s : State} {m : MethodId} {args : Array Value} {below : List Frame} {meth : Method} {c : Code} {D : va_G} {A : Nat → Prop} {ad : Nat → Nat} {cy : Nat → ClassId} (hC : zC p m c cX5_takePlace 2 s args wzX5_takePlace RX5 meth (some .int))  {res : zSt × Int32} {H : Heap} {locs : List Loc} {σ : zSt} {ls : Array Slot} {s0 : Int32} (hI : zI st D (tC cy) (wC ad cy σ) A s H locs) (hl : lv_has ls 2 []) (hf : fX5_takePlace_64  σ s0 = some res) : W p l e rmX5_takePlace s m args below meth c H locs 0 0 (zQi below args s D (tC cy) (wC ad cy) A res) (F0 m 64 ls [.int s0]) := by
  have hx := hC.1
  have hb := hC.2.1
  unfold fX5_takePlace_64 at hf
  exact z_ireturn hC hI hf dX5_takePlace_64
set_option maxRecDepth 20000 in
set_option maxHeartbeats 4000000 in
theorem bX5_takePlace {st : Nat → Nat} {p : Program} {l : Launch} {e : Env} {s : State} {m : MethodId} {args : Array Value} {below : List Frame} {meth : Method} {c : Code} {D : va_G} {A : Nat → Prop} {ad : Nat → Nat} {cy : Nat → ClassId} (hC : zC p m c cX5_takePlace 2 s args wzX5_takePlace RX5 meth (some .int))  {res : zSt × Int32} {H : Heap} {locs : List Loc} {σ : zSt} {ls : Array Slot} {x1 : Int32} (hI : zI st D (tC cy) (wC ad cy σ) A s H locs) (hl : lv_has ls 2 [(0, .ref (ad 7)), (1, .int x1)]) (hf : fX5_takePlace  σ x1 = some res) : W p l e rmX5_takePlace s m args below meth c H locs 0 0 (zQi below args s D (tC cy) (wC ad cy) A res) (F0 m 0 ls []) := by
  have hx := hC.1
  have hb := hC.2.1
  unfold fX5_takePlace at hf
  refine lv_iload_n hx hb dX5_takePlace_0 rfl (lv_at hl 1 rfl) ?_
  obtain ⟨σ1, v2, g1, hf⟩ := zbi_use hf
  refine z_callSi (As := [.int x1]) (rest := []) hC hI (cX5_meansPlace_met st l D ad cy σ x1 _ g1) (zgS zw23_21 zw23_22 zw2_21 zw23_23) rfl ⟨rfl, rfl⟩ 1 hdX5_meansPlace ⟨Nat.le_of_ble_eq_true rfl, Nat.le_of_ble_eq_true rfl⟩ rfl hl rfl (Nat.le_of_ble_eq_true rfl) dX5_takePlace_1 ⟨Nat.zero_le _, Nat.zero_le _⟩ (fun H locs hI => ?_)
  refine lv_if_ne (tgt := 9) hx hb dX5_takePlace_4 (by decide) (fun q => ?_) (fun q => ?_)
  · replace hf := zif_f q hf
    refine lv_aload_n hx hb dX5_takePlace_9 rfl (lv_at hl 0 rfl) ?_
    refine z_get hC hI hinX5_takePlace_X50 7 (wC_e7 ad cy σ1) rfl 2 (by decide) (List.mem_cons_of_mem _ zw7_5) rfl dX5_takePlace_10 ?_
    refine lv_bipush (v := 20) hx hb dX5_takePlace_13 (by decide) ?_
    refine lv_aload_n hx hb dX5_takePlace_15 rfl (lv_at hl 0 rfl) ?_
    refine z_get hC hI hinX5_takePlace_X50 7 (wC_e7 ad cy σ1) rfl 2 (by decide) (List.mem_cons_of_mem _ zw7_5) rfl dX5_takePlace_16 ?_
    refine lv_aload_n hx hb dX5_takePlace_19 rfl (lv_at hl 0 rfl) ?_
    refine z_get hC hI hinX5_takePlace_X50 7 (wC_e7 ad cy σ1) rfl 4 (by decide) (List.mem_cons_of_mem _ zw7_7) rfl dX5_takePlace_20 ?_
    obtain ⟨q, hf⟩ := zck_use hf
    refine z_iald hC hI 36 23 (wC_e36 ad cy σ1) (tC_t36 cy) q dX5_takePlace_23 ?_
    refine lv_aload_n hx hb dX5_takePlace_24 rfl (lv_at hl 0 rfl) ?_
    obtain ⟨σ3, v4, g3, hf⟩ := zbi_use hf
    refine z_callVi (As := []) (rest := [.int (zgi σ1 36 (zgi σ1 7 4).toNatClampNeg), .int 20, .ref (ad 36)]) hC hI (cX5_fetch_met st l D ad cy σ1  _ g3) (zgV zw21_23 zw22_0 zw22_1 zw2_21 zw22_2) rfl ⟨rfl, rfl⟩ 0 hdX5_fetch ⟨Nat.le_of_ble_eq_true rfl, Nat.le_of_ble_eq_true rfl⟩ rfl rfl (wC_e7 ad cy σ1) rfl hl rfl (Nat.le_of_ble_eq_true rfl) dX5_takePlace_25 ⟨Nat.zero_le _, Nat.zero_le _⟩ (fun H locs hI => ?_)
    refine lv_i2b (v := v4.toInt8.toInt32) hx hb dX5_takePlace_28 rfl ?_
    refine lv_iadd hx hb dX5_takePlace_29 ?_
    refine lv_ldc (v := 65535) hx hb hC.2.2.2.1 (hC.2.2.2.2.1 _ (List.mem_cons_of_mem _ zw20_6)) dX5_takePlace_30 ?_
    refine lv_iand hx hb dX5_takePlace_32 ?_
    obtain ⟨q, hf⟩ := zck_use hf
    obtain ⟨σ5, eσ5⟩ : ∃ z, z = zsi σ3 36 ((20 : Int32).toNatClampNeg) (((zgi σ1 36 (zgi σ1 7 4).toNatClampNeg) + (v4.toInt8.toInt32)) &&& 65535) := ⟨_, rfl⟩
    replace hf := zbv_use eσ5 hf
    refine z_iast hC hI 36 23 (wC_e36 ad cy σ3) (tC_t36 cy) q ((wC_s36 ad cy σ3 _ _).trans (congrArg (wC ad cy) eσ5.symm)) dX5_takePlace_33 (fun H locs hI => ?_)
    refine lv_aload_n hx hb dX5_takePlace_34 rfl (lv_at hl 0 rfl) ?_
    refine lv_aload_n hx hb dX5_takePlace_35 rfl (lv_at hl 0 rfl) ?_
    refine z_get hC hI hinX5_takePlace_X50 7 (wC_e7 ad cy σ5) rfl 2 (by decide) (List.mem_cons_of_mem _ zw7_5) rfl dX5_takePlace_36 ?_
    refine lv_bipush (v := 20) hx hb dX5_takePlace_39 (by decide) ?_
    obtain ⟨q, hf⟩ := zck_use hf
    refine z_iald hC hI 36 23 (wC_e36 ad cy σ5) (tC_t36 cy) q dX5_takePlace_41 ?_
    obtain ⟨σ6, eσ6⟩ : ∃ z, z = zsi σ5 7 5 (zgi σ5 36 (20 : Int32).toNatClampNeg) := ⟨_, rfl⟩
    replace hf := zbv_use eσ6 hf
    refine z_put hC hI hinX5_takePlace_X50 tyX5_ok nmX5 7 (wC_e7 ad cy σ5) rfl 5 (by decide) (List.mem_cons_of_mem _ zw21_14) rfl rfl rfl (Nat.le_of_ble_eq_true rfl) ((wC_s7_5 ad cy σ5 (zgi σ5 36 (20 : Int32).toNatClampNeg)).trans (congrArg (wC ad cy) eσ6.symm)) dX5_takePlace_42 (fun H locs hI => ?_)
    refine lv_aload_n hx hb dX5_takePlace_45 rfl (lv_at hl 0 rfl) ?_
    refine lv_bipush (v := 6) hx hb dX5_takePlace_46 (by decide) ?_
    obtain ⟨σ7, eσ7⟩ : ∃ z, z = zsi σ6 7 4 6 := ⟨_, rfl⟩
    replace hf := zbv_use eσ7 hf
    refine z_put hC hI hinX5_takePlace_X50 tyX5_ok nmX5 7 (wC_e7 ad cy σ6) rfl 4 (by decide) (List.mem_cons_of_mem _ zw7_7) rfl rfl rfl (Nat.le_of_ble_eq_true rfl) ((wC_s7_4 ad cy σ6 6).trans (congrArg (wC ad cy) eσ7.symm)) dX5_takePlace_48 (fun H locs hI => ?_)
    refine lv_iload_n hx hb dX5_takePlace_51 rfl (lv_at hl 1 rfl) ?_
    refine lv_bipush (v := 54) hx hb dX5_takePlace_52 (by decide) ?_
    refine lv_icmp_ne (tgt := 62) hx hb dX5_takePlace_54 (by decide) (fun q => ?_) (fun q => ?_)
    · replace hf := zif_f q hf
      refine lv_bipush (v := 12) hx hb dX5_takePlace_62 (by decide) ?_
      exact bX5_takePlace_64 hC  hI (lv_sub hl [] rfl) hf
    replace hf := zif_t q hf
    refine lv_bipush (v := 9) hx hb dX5_takePlace_57 (by decide) ?_
    refine lv_goto (tgt := 64) hx hb dX5_takePlace_59 (by decide) ?_
    exact bX5_takePlace_64 hC  hI (lv_sub hl [] rfl) hf
  replace hf := zif_t q hf
  refine lv_iconst (v := 4) hx hb dX5_takePlace_7 (by decide) ?_
  exact z_ireturn hC hI hf dX5_takePlace_8
set_option maxRecDepth 20000 in
theorem cX5_takePlace_met (st : Nat → Nat) (l : Launch) (D : va_G) (ad : Nat → Nat) (cy : Nat → ClassId) (σ : zSt) (x1 : Int32) (res : zSt × Int32) (hf : fX5_takePlace σ x1 = some res) (sz : Nat) : zMi st l yX5_takePlace wzX5_takePlace rmX5_takePlace [.ref (ad 7), .int x1] D (tC cy) (wC ad cy) sz σ res :=
  zMi.of (cc := cX5_takePlace) (maxL := 2) (ret := (some .int)) (by decide) rfl (Nat.le_of_ble_eq_true rfl) (fun p e s m args below meth c hC A hI ls hl => bX5_takePlace hC hI hl hf)
theorem hdX5_takePlace : yX5_takePlace.cls = RX5 ∧ yX5_takePlace.cls ≠ "java/lang/invoke/MethodHandle" ∧ yX5_takePlace.cls ≠ "java/lang/invoke/VarHandle" ∧ (parseMethodDescriptor yX5_takePlace.desc).map (fun d => d.parameters.length) = some 1 := by decide +kernel
noncomputable def rmX5_one : Room := { frames := 2, cells := 0, slots := 0, locals := 47 }
noncomputable def wzX5_one : List Cond := .code yX5_one cX5_one 2 (some .int) :: wsL_law
theorem hinX5_one_X50 : ∀ w ∈ wsX50, w ∈ wzX5_one := fun w h => List.mem_cons_of_mem _ (inlX5 w h)
noncomputable def fX5_one_96  (σ : zSt) (s0 : Int32) : Option (zSt × Int32) :=
  some (σ, s0)
noncomputable def fX5_one_63  (σ : zSt) (s0 : Int32) : Option (zSt × Int32) :=
  some (σ, s0)
noncomputable def fX5_one  (σ : zSt) (x1 : Int32) : Option (zSt × Int32) :=
  if x1 = 4 then if (zgi σ 7 4) = 6 then zck (zin 6 29) (
  fX5_one_63 σ (zgi σ 36 (6 : Int32).toNatClampNeg)) else
  zck (zin (zgi σ 7 4) 29) (
  fX5_one_63 σ ((zgi σ 36 (zgi σ 7 4).toNatClampNeg) >>> ((8 : Int32) &&& 31))) else
  if x1 = 5 then if (zgi σ 7 4) = 6 then zck (zin 7 29) (
  fX5_one_96 σ (zgi σ 36 (7 : Int32).toNatClampNeg)) else
  zck (zin (zgi σ 7 4) 29) (
  fX5_one_96 σ ((zgi σ 36 (zgi σ 7 4).toNatClampNeg) &&& 255)) else
  if x1 = 6 then zbi (fX2_read σ (zgi σ 7 5)) (fun σ1 v2 =>
  some (σ1, v2)) else
  if x1 = 7 then zck (zin 0 29) (
  some (σ, zgi σ 36 (0 : Int32).toNatClampNeg)) else
  zck (zin (2 + (x1 &&& 3)) 29) (
  some (σ, zgi σ 36 (2 + (x1 &&& 3)).toNatClampNeg))
set_option maxRecDepth 20000 in
set_option maxHeartbeats 4000000 in
theorem bX5_one_96 {st : Nat → Nat} {p : Program} {l : Launch} {e : Env} {s : State} {m : MethodId} {args : Array Value} {below : List Frame} {meth : Method} {c : Code} {D : va_G} {A : Nat → Prop} {ad : Nat → Nat} {cy : Nat → ClassId} (hC : zC p m c cX5_one 2 s args wzX5_one RX5 meth (some .int))  {res : zSt × Int32} {H : Heap} {locs : List Loc} {σ : zSt} {ls : Array Slot} {s0 : Int32} (hI : zI st D (tC cy) (wC ad cy σ) A s H locs) (hl : lv_has ls 2 []) (hf : fX5_one_96  σ s0 = some res) : W p l e rmX5_one s m args below meth c H locs 0 0 (zQi below args s D (tC cy) (wC ad cy) A res) (F0 m 96 ls [.int s0]) := by
  have hx := hC.1
  have hb := hC.2.1
  unfold fX5_one_96 at hf
  exact z_ireturn hC hI hf dX5_one_96
set_option maxRecDepth 20000 in
set_option maxHeartbeats 4000000 in
theorem bX5_one_63 {st : Nat → Nat} {p : Program} {l : Launch} {e : Env} {s : State} {m : MethodId} {args : Array Value} {below : List Frame} {meth : Method} {c : Code} {D : va_G} {A : Nat → Prop} {ad : Nat → Nat} {cy : Nat → ClassId} (hC : zC p m c cX5_one 2 s args wzX5_one RX5 meth (some .int))  {res : zSt × Int32} {H : Heap} {locs : List Loc} {σ : zSt} {ls : Array Slot} {s0 : Int32} (hI : zI st D (tC cy) (wC ad cy σ) A s H locs) (hl : lv_has ls 2 []) (hf : fX5_one_63  σ s0 = some res) : W p l e rmX5_one s m args below meth c H locs 0 0 (zQi below args s D (tC cy) (wC ad cy) A res) (F0 m 63 ls [.int s0]) := by
  have hx := hC.1
  have hb := hC.2.1
  unfold fX5_one_63 at hf
  exact z_ireturn hC hI hf dX5_one_63
set_option maxRecDepth 20000 in
set_option maxHeartbeats 4000000 in
theorem bX5_one {st : Nat → Nat} {p : Program} {l : Launch} {e : Env} {s : State} {m : MethodId} {args : Array Value} {below : List Frame} {meth : Method} {c : Code} {D : va_G} {A : Nat → Prop} {ad : Nat → Nat} {cy : Nat → ClassId} (hC : zC p m c cX5_one 2 s args wzX5_one RX5 meth (some .int))  {res : zSt × Int32} {H : Heap} {locs : List Loc} {σ : zSt} {ls : Array Slot} {x1 : Int32} (hI : zI st D (tC cy) (wC ad cy σ) A s H locs) (hl : lv_has ls 2 [(0, .ref (ad 7)), (1, .int x1)]) (hf : fX5_one  σ x1 = some res) : W p l e rmX5_one s m args below meth c H locs 0 0 (zQi below args s D (tC cy) (wC ad cy) A res) (F0 m 0 ls []) := by
  have hx := hC.1
  have hb := hC.2.1
  unfold fX5_one at hf
  refine lv_iload_n hx hb dX5_one_0 rfl (lv_at hl 1 rfl) ?_
  by_cases q0 : x1 = 4
  · replace hf := zif_t q0 hf
    refine lv_tableIn (tgt := 32) hx hb dX5_one_1 (by rw [q0]; decide) (by rw [q0]; decide) (by rw [q0]; rfl) (by decide) ?_
    refine lv_aload_n hx hb dX5_one_32 rfl (lv_at hl 0 rfl) ?_
    refine z_get hC hI hinX5_one_X50 7 (wC_e7 ad cy σ) rfl 4 (by decide) (List.mem_cons_of_mem _ zw7_7) rfl dX5_one_33 ?_
    refine lv_bipush (v := 6) hx hb dX5_one_36 (by decide) ?_
    refine lv_icmp_ne (tgt := 51) hx hb dX5_one_38 (by decide) (fun q => ?_) (fun q => ?_)
    · replace hf := zif_f q hf
      refine lv_aload_n hx hb dX5_one_51 rfl (lv_at hl 0 rfl) ?_
      refine z_get hC hI hinX5_one_X50 7 (wC_e7 ad cy σ) rfl 2 (by decide) (List.mem_cons_of_mem _ zw7_5) rfl dX5_one_52 ?_
      refine lv_aload_n hx hb dX5_one_55 rfl (lv_at hl 0 rfl) ?_
      refine z_get hC hI hinX5_one_X50 7 (wC_e7 ad cy σ) rfl 4 (by decide) (List.mem_cons_of_mem _ zw7_7) rfl dX5_one_56 ?_
      obtain ⟨q, hf⟩ := zck_use hf
      refine z_iald hC hI 36 23 (wC_e36 ad cy σ) (tC_t36 cy) q dX5_one_59 ?_
      refine lv_bipush (v := 8) hx hb dX5_one_60 (by decide) ?_
      refine lv_ishr hx hb dX5_one_62 ?_
      exact bX5_one_63 hC  hI (lv_sub hl [] rfl) hf
    replace hf := zif_t q hf
    refine lv_aload_n hx hb dX5_one_41 rfl (lv_at hl 0 rfl) ?_
    refine z_get hC hI hinX5_one_X50 7 (wC_e7 ad cy σ) rfl 2 (by decide) (List.mem_cons_of_mem _ zw7_5) rfl dX5_one_42 ?_
    refine lv_bipush (v := 6) hx hb dX5_one_45 (by decide) ?_
    obtain ⟨q, hf⟩ := zck_use hf
    refine z_iald hC hI 36 23 (wC_e36 ad cy σ) (tC_t36 cy) q dX5_one_47 ?_
    refine lv_goto (tgt := 63) hx hb dX5_one_48 (by decide) ?_
    exact bX5_one_63 hC  hI (lv_sub hl [] rfl) hf
  replace hf := zif_f q0 hf
  by_cases q1 : x1 = 5
  · replace hf := zif_t q1 hf
    refine lv_tableIn (tgt := 64) hx hb dX5_one_1 (by rw [q1]; decide) (by rw [q1]; decide) (by rw [q1]; rfl) (by decide) ?_
    refine lv_aload_n hx hb dX5_one_64 rfl (lv_at hl 0 rfl) ?_
    refine z_get hC hI hinX5_one_X50 7 (wC_e7 ad cy σ) rfl 4 (by decide) (List.mem_cons_of_mem _ zw7_7) rfl dX5_one_65 ?_
    refine lv_bipush (v := 6) hx hb dX5_one_68 (by decide) ?_
    refine lv_icmp_ne (tgt := 83) hx hb dX5_one_70 (by decide) (fun q => ?_) (fun q => ?_)
    · replace hf := zif_f q hf
      refine lv_aload_n hx hb dX5_one_83 rfl (lv_at hl 0 rfl) ?_
      refine z_get hC hI hinX5_one_X50 7 (wC_e7 ad cy σ) rfl 2 (by decide) (List.mem_cons_of_mem _ zw7_5) rfl dX5_one_84 ?_
      refine lv_aload_n hx hb dX5_one_87 rfl (lv_at hl 0 rfl) ?_
      refine z_get hC hI hinX5_one_X50 7 (wC_e7 ad cy σ) rfl 4 (by decide) (List.mem_cons_of_mem _ zw7_7) rfl dX5_one_88 ?_
      obtain ⟨q, hf⟩ := zck_use hf
      refine z_iald hC hI 36 23 (wC_e36 ad cy σ) (tC_t36 cy) q dX5_one_91 ?_
      refine lv_sipush (v := 255) hx hb dX5_one_92 (by decide) ?_
      refine lv_iand hx hb dX5_one_95 ?_
      exact bX5_one_96 hC  hI (lv_sub hl [] rfl) hf
    replace hf := zif_t q hf
    refine lv_aload_n hx hb dX5_one_73 rfl (lv_at hl 0 rfl) ?_
    refine z_get hC hI hinX5_one_X50 7 (wC_e7 ad cy σ) rfl 2 (by decide) (List.mem_cons_of_mem _ zw7_5) rfl dX5_one_74 ?_
    refine lv_bipush (v := 7) hx hb dX5_one_77 (by decide) ?_
    obtain ⟨q, hf⟩ := zck_use hf
    refine z_iald hC hI 36 23 (wC_e36 ad cy σ) (tC_t36 cy) q dX5_one_79 ?_
    refine lv_goto (tgt := 96) hx hb dX5_one_80 (by decide) ?_
    exact bX5_one_96 hC  hI (lv_sub hl [] rfl) hf
  replace hf := zif_f q1 hf
  by_cases q2 : x1 = 6
  · replace hf := zif_t q2 hf
    refine lv_tableIn (tgt := 97) hx hb dX5_one_1 (by rw [q2]; decide) (by rw [q2]; decide) (by rw [q2]; rfl) (by decide) ?_
    refine lv_aload_n hx hb dX5_one_97 rfl (lv_at hl 0 rfl) ?_
    refine z_get hC hI hinX5_one_X50 7 (wC_e7 ad cy σ) rfl 0 (by decide) (List.mem_cons_of_mem _ zw7_8) rfl dX5_one_98 ?_
    refine lv_aload_n hx hb dX5_one_101 rfl (lv_at hl 0 rfl) ?_
    refine z_get hC hI hinX5_one_X50 7 (wC_e7 ad cy σ) rfl 5 (by decide) (List.mem_cons_of_mem _ zw21_14) rfl dX5_one_102 ?_
    obtain ⟨σ1, v2, g1, hf⟩ := zbi_use hf
    refine z_callVi (As := [.int (zgi σ 7 5)]) (rest := []) hC hI (cX2_read_met st l D ad cy σ (zgi σ 7 5) _ g1) (zgV zw21_6 zw21_7 zw21_8 zw1_21 zw21_9) rfl ⟨rfl, rfl⟩ 1 hdX2_read ⟨Nat.le_of_ble_eq_true rfl, Nat.le_of_ble_eq_true rfl⟩ rfl rfl (wC_e1 ad cy σ) rfl hl rfl (Nat.le_of_ble_eq_true rfl) dX5_one_105 ⟨Nat.zero_le _, Nat.zero_le _⟩ (fun H locs hI => ?_)
    exact z_ireturn hC hI hf dX5_one_108
  replace hf := zif_f q2 hf
  by_cases q3 : x1 = 7
  · replace hf := zif_t q3 hf
    refine lv_tableIn (tgt := 109) hx hb dX5_one_1 (by rw [q3]; decide) (by rw [q3]; decide) (by rw [q3]; rfl) (by decide) ?_
    refine lv_aload_n hx hb dX5_one_109 rfl (lv_at hl 0 rfl) ?_
    refine z_get hC hI hinX5_one_X50 7 (wC_e7 ad cy σ) rfl 2 (by decide) (List.mem_cons_of_mem _ zw7_5) rfl dX5_one_110 ?_
    refine lv_iconst (v := 0) hx hb dX5_one_113 (by decide) ?_
    obtain ⟨q, hf⟩ := zck_use hf
    refine z_iald hC hI 36 23 (wC_e36 ad cy σ) (tC_t36 cy) q dX5_one_114 ?_
    exact z_ireturn hC hI hf dX5_one_115
  replace hf := zif_f q3 hf
  refine lv_tableOut (tgt := 116) hx hb dX5_one_1 (zsw (fun k h1 h2 => by rcases (show k = 4 ∨ k = 5 ∨ k = 6 ∨ k = 7 by omega) with rfl | rfl | rfl | rfl <;> assumption)) (by decide) ?_
  refine lv_aload_n hx hb dX5_one_116 rfl (lv_at hl 0 rfl) ?_
  refine z_get hC hI hinX5_one_X50 7 (wC_e7 ad cy σ) rfl 2 (by decide) (List.mem_cons_of_mem _ zw7_5) rfl dX5_one_117 ?_
  refine lv_iconst (v := 2) hx hb dX5_one_120 (by decide) ?_
  refine lv_iload_n hx hb dX5_one_121 rfl (lv_at hl 1 rfl) ?_
  refine lv_iconst (v := 3) hx hb dX5_one_122 (by decide) ?_
  refine lv_iand hx hb dX5_one_123 ?_
  refine lv_iadd hx hb dX5_one_124 ?_
  obtain ⟨q, hf⟩ := zck_use hf
  refine z_iald hC hI 36 23 (wC_e36 ad cy σ) (tC_t36 cy) q dX5_one_125 ?_
  exact z_ireturn hC hI hf dX5_one_126
set_option maxRecDepth 20000 in
theorem cX5_one_met (st : Nat → Nat) (l : Launch) (D : va_G) (ad : Nat → Nat) (cy : Nat → ClassId) (σ : zSt) (x1 : Int32) (res : zSt × Int32) (hf : fX5_one σ x1 = some res) (sz : Nat) : zMi st l yX5_one wzX5_one rmX5_one [.ref (ad 7), .int x1] D (tC cy) (wC ad cy) sz σ res :=
  zMi.of (cc := cX5_one) (maxL := 2) (ret := (some .int)) (by decide) rfl (Nat.le_of_ble_eq_true rfl) (fun p e s m args below meth c hC A hI ls hl => bX5_one hC hI hl hf)
theorem hdX5_one : yX5_one.cls = RX5 ∧ yX5_one.cls ≠ "java/lang/invoke/MethodHandle" ∧ yX5_one.cls ≠ "java/lang/invoke/VarHandle" ∧ (parseMethodDescriptor yX5_one.desc).map (fun d => d.parameters.length) = some 1 := by decide +kernel
noncomputable def rmX5_turns : Room := { frames := 4, cells := 0, slots := 0, locals := 89 }
noncomputable def wzX5_turns : List Cond := .code yX5_turns cX5_turns 4 (some .int) :: wsL_law
theorem hinX5_turns_X50 : ∀ w ∈ wsX50, w ∈ wzX5_turns := fun w h => List.mem_cons_of_mem _ (inlX5 w h)
noncomputable def fX5_turns_63  (σ : zSt) (s0 : Int32) : Option (zSt × Int32) :=
  some (σ, s0)
noncomputable def fX5_turns_47  (σ : zSt) (x2 : Int32) (s0 : Int32) (s1 : Int32) (s2 : Int32) : Option (zSt × Int32) :=
  zbu (fX5_askBit σ s2 s1 s0) (fun σ1 =>
  if x2 = 6 then fX5_turns_63 σ1 12 else
  fX5_turns_63 σ1 8)
noncomputable def fX5_turns_88  (σ : zSt) (s0 : Int32) : Option (zSt × Int32) :=
  some (σ, s0)
noncomputable def fX5_turns  (σ : zSt) (x1 : Int32) : Option (zSt × Int32) :=
  zbv (x1 &&& 7) (fun v2 =>
  zbi (fX5_one σ v2) (fun σ3 v4 =>
  if (x1 >>> ((6 : Int32) &&& 31)) = 1 then if v2 = 6 then zck (zin 20 29) (
  fX5_turns_47 σ3 v2 ((zgi σ3 36 (20 : Int32).toNatClampNeg) >>> ((8 : Int32) &&& 31)) v4 ((x1 >>> ((3 : Int32) &&& 31)) &&& 7)) else
  fX5_turns_47 σ3 v2 v4 v4 ((x1 >>> ((3 : Int32) &&& 31)) &&& 7) else
  zbi (fX5_turned σ3 x1 v4) (fun σ5 v6 =>
  zbu (fX5_putOne σ5 v2 v6) (fun σ7 =>
  if v2 = 6 then fX5_turns_88 σ7 15 else
  fX5_turns_88 σ7 8))))
set_option maxRecDepth 20000 in
set_option maxHeartbeats 4000000 in
theorem bX5_turns_63 {st : Nat → Nat} {p : Program} {l : Launch} {e : Env} {s : State} {m : MethodId} {args : Array Value} {below : List Frame} {meth : Method} {c : Code} {D : va_G} {A : Nat → Prop} {ad : Nat → Nat} {cy : Nat → ClassId} (hC : zC p m c cX5_turns 4 s args wzX5_turns RX5 meth (some .int))  {res : zSt × Int32} {H : Heap} {locs : List Loc} {σ : zSt} {ls : Array Slot} {s0 : Int32} (hI : zI st D (tC cy) (wC ad cy σ) A s H locs) (hl : lv_has ls 4 []) (hf : fX5_turns_63  σ s0 = some res) : W p l e rmX5_turns s m args below meth c H locs 0 0 (zQi below args s D (tC cy) (wC ad cy) A res) (F0 m 63 ls [.int s0]) := by
  have hx := hC.1
  have hb := hC.2.1
  unfold fX5_turns_63 at hf
  exact z_ireturn hC hI hf dX5_turns_63
set_option maxRecDepth 20000 in
set_option maxHeartbeats 4000000 in
theorem bX5_turns_47 {st : Nat → Nat} {p : Program} {l : Launch} {e : Env} {s : State} {m : MethodId} {args : Array Value} {below : List Frame} {meth : Method} {c : Code} {D : va_G} {A : Nat → Prop} {ad : Nat → Nat} {cy : Nat → ClassId} (hC : zC p m c cX5_turns 4 s args wzX5_turns RX5 meth (some .int))  {res : zSt × Int32} {H : Heap} {locs : List Loc} {σ : zSt} {ls : Array Slot} {x2 : Int32} {s0 : Int32} {s1 : Int32} {s2 : Int32} (hI : zI st D (tC cy) (wC ad cy σ) A s H locs) (hl : lv_has ls 4 [(2, .int x2)]) (hf : fX5_turns_47  σ x2 s0 s1 s2 = some res) : W p l e rmX5_turns s m args below meth c H locs 0 0 (zQi below args s D (tC cy) (wC ad cy) A res) (F0 m 47 ls [.int s0, .int s1, .int s2, .ref (ad 7)]) := by
  have hx := hC.1
  have hb := hC.2.1
  unfold fX5_turns_47 at hf
  obtain ⟨σ1, g1, hf⟩ := zbu_use hf
  refine z_callVu (As := [.int s2, .int s1, .int s0]) (rest := []) hC hI (cX5_askBit_met st l D ad cy σ s2 s1 s0 _ g1) (zgV zw22_7 zw22_8 zw22_9 zw2_21 zw22_10) rfl ⟨rfl, rfl⟩ 3 hdX5_askBit ⟨Nat.le_of_ble_eq_true rfl, Nat.le_of_ble_eq_true rfl⟩ rfl rfl (wC_e7 ad cy σ) rfl hl rfl (Nat.le_of_ble_eq_true rfl) dX5_turns_47 ⟨Nat.zero_le _, Nat.zero_le _⟩ (fun H locs hI => ?_)
  refine lv_iload_n hx hb dX5_turns_50 rfl (lv_at hl 0 rfl) ?_
  refine lv_bipush (v := 6) hx hb dX5_turns_51 (by decide) ?_
  refine lv_icmp_ne (tgt := 61) hx hb dX5_turns_53 (by decide) (fun q => ?_) (fun q => ?_)
  · replace hf := zif_f q hf
    refine lv_bipush (v := 8) hx hb dX5_turns_61 (by decide) ?_
    exact bX5_turns_63 hC  hI (lv_sub hl [] rfl) hf
  replace hf := zif_t q hf
  refine lv_bipush (v := 12) hx hb dX5_turns_56 (by decide) ?_
  refine lv_goto (tgt := 63) hx hb dX5_turns_58 (by decide) ?_
  exact bX5_turns_63 hC  hI (lv_sub hl [] rfl) hf
set_option maxRecDepth 20000 in
set_option maxHeartbeats 4000000 in
theorem bX5_turns_88 {st : Nat → Nat} {p : Program} {l : Launch} {e : Env} {s : State} {m : MethodId} {args : Array Value} {below : List Frame} {meth : Method} {c : Code} {D : va_G} {A : Nat → Prop} {ad : Nat → Nat} {cy : Nat → ClassId} (hC : zC p m c cX5_turns 4 s args wzX5_turns RX5 meth (some .int))  {res : zSt × Int32} {H : Heap} {locs : List Loc} {σ : zSt} {ls : Array Slot} {s0 : Int32} (hI : zI st D (tC cy) (wC ad cy σ) A s H locs) (hl : lv_has ls 4 []) (hf : fX5_turns_88  σ s0 = some res) : W p l e rmX5_turns s m args below meth c H locs 0 0 (zQi below args s D (tC cy) (wC ad cy) A res) (F0 m 88 ls [.int s0]) := by
  have hx := hC.1
  have hb := hC.2.1
  unfold fX5_turns_88 at hf
  exact z_ireturn hC hI hf dX5_turns_88
set_option maxRecDepth 20000 in
set_option maxHeartbeats 4000000 in
theorem bX5_turns {st : Nat → Nat} {p : Program} {l : Launch} {e : Env} {s : State} {m : MethodId} {args : Array Value} {below : List Frame} {meth : Method} {c : Code} {D : va_G} {A : Nat → Prop} {ad : Nat → Nat} {cy : Nat → ClassId} (hC : zC p m c cX5_turns 4 s args wzX5_turns RX5 meth (some .int))  {res : zSt × Int32} {H : Heap} {locs : List Loc} {σ : zSt} {ls : Array Slot} {x1 : Int32} (hI : zI st D (tC cy) (wC ad cy σ) A s H locs) (hl : lv_has ls 4 [(0, .ref (ad 7)), (1, .int x1)]) (hf : fX5_turns  σ x1 = some res) : W p l e rmX5_turns s m args below meth c H locs 0 0 (zQi below args s D (tC cy) (wC ad cy) A res) (F0 m 0 ls []) := by
  have hx := hC.1
  have hb := hC.2.1
  unfold fX5_turns at hf
  refine lv_iload_n hx hb dX5_turns_0 rfl (lv_at hl 1 rfl) ?_
  refine lv_bipush (v := 7) hx hb dX5_turns_1 (by decide) ?_
  refine lv_iand hx hb dX5_turns_3 ?_
  refine lv_topi (fun v2 ev2 => ?_)
  replace hf := zbv_use ev2 hf
  refine lv_istore_n (lv' := [(2, .int v2), (0, .ref (ad 7)), (1, .int x1)]) hx hb dX5_turns_4 rfl hl (by decide) rfl (fun ls hl => ?_)
  refine lv_aload_n hx hb dX5_turns_5 rfl (lv_at hl 1 rfl) ?_
  refine lv_iload_n hx hb dX5_turns_6 rfl (lv_at hl 0 rfl) ?_
  obtain ⟨σ3, v4, g3, hf⟩ := zbi_use hf
  refine z_callVi (As := [.int v2]) (rest := []) hC hI (cX5_one_met st l D ad cy σ v2 _ g3) (zgV zw24_4 zw24_5 zw24_6 zw2_21 zw24_7) rfl ⟨rfl, rfl⟩ 1 hdX5_one ⟨Nat.le_of_ble_eq_true rfl, Nat.le_of_ble_eq_true rfl⟩ rfl rfl (wC_e7 ad cy σ) rfl hl rfl (Nat.le_of_ble_eq_true rfl) dX5_turns_7 ⟨Nat.zero_le _, Nat.zero_le _⟩ (fun H locs hI => ?_)
  refine lv_istore_n (lv' := [(3, .int v4), (2, .int v2), (0, .ref (ad 7)), (1, .int x1)]) hx hb dX5_turns_10 rfl hl (by decide) rfl (fun ls hl => ?_)
  refine lv_iload_n hx hb dX5_turns_11 rfl (lv_at hl 3 rfl) ?_
  refine lv_bipush (v := 6) hx hb dX5_turns_12 (by decide) ?_
  refine lv_ishr hx hb dX5_turns_14 ?_
  refine lv_iconst (v := 1) hx hb dX5_turns_15 (by decide) ?_
  refine lv_icmp_ne (tgt := 64) hx hb dX5_turns_16 (by decide) (fun q => ?_) (fun q => ?_)
  · replace hf := zif_f q hf
    refine lv_aload_n hx hb dX5_turns_64 rfl (lv_at hl 2 rfl) ?_
    refine lv_iload_n hx hb dX5_turns_65 rfl (lv_at hl 1 rfl) ?_
    refine lv_aload_n hx hb dX5_turns_66 rfl (lv_at hl 2 rfl) ?_
    refine lv_iload_n hx hb dX5_turns_67 rfl (lv_at hl 3 rfl) ?_
    refine lv_iload_n hx hb dX5_turns_68 rfl (lv_at hl 0 rfl) ?_
    obtain ⟨σ5, v6, g5, hf⟩ := zbi_use hf
    refine z_callVi (As := [.int x1, .int v4]) (rest := [.int v2, .ref (ad 7)]) hC hI (cX5_turned_met st l D ad cy σ3 x1 v4 _ g5) (zgV zw22_11 zw22_12 zw22_13 zw2_21 zw22_14) rfl ⟨rfl, rfl⟩ 2 hdX5_turned ⟨Nat.le_of_ble_eq_true rfl, Nat.le_of_ble_eq_true rfl⟩ rfl rfl (wC_e7 ad cy σ3) rfl hl rfl (Nat.le_of_ble_eq_true rfl) dX5_turns_69 ⟨Nat.zero_le _, Nat.zero_le _⟩ (fun H locs hI => ?_)
    obtain ⟨σ7, g7, hf⟩ := zbu_use hf
    refine z_callVu (As := [.int v2, .int v6]) (rest := []) hC hI (cX5_putOne_met st l D ad cy σ5 v2 v6 _ g7) (zgV zw23_8 zw23_9 zw23_10 zw2_21 zw23_11) rfl ⟨rfl, rfl⟩ 2 hdX5_putOne ⟨Nat.le_of_ble_eq_true rfl, Nat.le_of_ble_eq_true rfl⟩ rfl rfl (wC_e7 ad cy σ5) rfl hl rfl (Nat.le_of_ble_eq_true rfl) dX5_turns_72 ⟨Nat.zero_le _, Nat.zero_le _⟩ (fun H locs hI => ?_)
    refine lv_iload_n hx hb dX5_turns_75 rfl (lv_at hl 1 rfl) ?_
    refine lv_bipush (v := 6) hx hb dX5_turns_76 (by decide) ?_
    refine lv_icmp_ne (tgt := 86) hx hb dX5_turns_78 (by decide) (fun q => ?_) (fun q => ?_)
    · replace hf := zif_f q hf
      refine lv_bipush (v := 8) hx hb dX5_turns_86 (by decide) ?_
      exact bX5_turns_88 hC  hI (lv_sub hl [] rfl) hf
    replace hf := zif_t q hf
    refine lv_bipush (v := 15) hx hb dX5_turns_81 (by decide) ?_
    refine lv_goto (tgt := 88) hx hb dX5_turns_83 (by decide) ?_
    exact bX5_turns_88 hC  hI (lv_sub hl [] rfl) hf
  replace hf := zif_t q hf
  refine lv_aload_n hx hb dX5_turns_19 rfl (lv_at hl 2 rfl) ?_
  refine lv_iload_n hx hb dX5_turns_20 rfl (lv_at hl 3 rfl) ?_
  refine lv_iconst (v := 3) hx hb dX5_turns_21 (by decide) ?_
  refine lv_ishr hx hb dX5_turns_22 ?_
  refine lv_bipush (v := 7) hx hb dX5_turns_23 (by decide) ?_
  refine lv_iand hx hb dX5_turns_25 ?_
  refine lv_iload_n hx hb dX5_turns_26 rfl (lv_at hl 0 rfl) ?_
  refine lv_iload_n hx hb dX5_turns_27 rfl (lv_at hl 1 rfl) ?_
  refine lv_bipush (v := 6) hx hb dX5_turns_28 (by decide) ?_
  refine lv_icmp_ne (tgt := 46) hx hb dX5_turns_30 (by decide) (fun q => ?_) (fun q => ?_)
  · replace hf := zif_f q hf
    refine lv_iload_n hx hb dX5_turns_46 rfl (lv_at hl 0 rfl) ?_
    exact bX5_turns_47 hC  hI (lv_sub hl [1] rfl) hf
  replace hf := zif_t q hf
  refine lv_aload_n hx hb dX5_turns_33 rfl (lv_at hl 2 rfl) ?_
  refine z_get hC hI hinX5_turns_X50 7 (wC_e7 ad cy σ3) rfl 2 (by decide) (List.mem_cons_of_mem _ zw7_5) rfl dX5_turns_34 ?_
  refine lv_bipush (v := 20) hx hb dX5_turns_37 (by decide) ?_
  obtain ⟨q, hf⟩ := zck_use hf
  refine z_iald hC hI 36 23 (wC_e36 ad cy σ3) (tC_t36 cy) q dX5_turns_39 ?_
  refine lv_bipush (v := 8) hx hb dX5_turns_40 (by decide) ?_
  refine lv_ishr hx hb dX5_turns_42 ?_
  refine lv_goto (tgt := 47) hx hb dX5_turns_43 (by decide) ?_
  exact bX5_turns_47 hC  hI (lv_sub hl [1] rfl) hf
set_option maxRecDepth 20000 in
theorem cX5_turns_met (st : Nat → Nat) (l : Launch) (D : va_G) (ad : Nat → Nat) (cy : Nat → ClassId) (σ : zSt) (x1 : Int32) (res : zSt × Int32) (hf : fX5_turns σ x1 = some res) (sz : Nat) : zMi st l yX5_turns wzX5_turns rmX5_turns [.ref (ad 7), .int x1] D (tC cy) (wC ad cy) sz σ res :=
  zMi.of (cc := cX5_turns) (maxL := 4) (ret := (some .int)) (by decide) rfl (Nat.le_of_ble_eq_true rfl) (fun p e s m args below meth c hC A hI ls hl => bX5_turns hC hI hl hf)
theorem hdX5_turns : yX5_turns.cls = RX5 ∧ yX5_turns.cls ≠ "java/lang/invoke/MethodHandle" ∧ yX5_turns.cls ≠ "java/lang/invoke/VarHandle" ∧ (parseMethodDescriptor yX5_turns.desc).map (fun d => d.parameters.length) = some 1 := by decide +kernel
noncomputable def rmX5_putPairAt : Room := { frames := 0, cells := 0, slots := 0, locals := 0 }
noncomputable def wzX5_putPairAt : List Cond := .code yX5_putPairAt cX5_putPairAt 3 none :: wsL_law
theorem hinX5_putPairAt_X50 : ∀ w ∈ wsX50, w ∈ wzX5_putPairAt := fun w h => List.mem_cons_of_mem _ (inlX5 w h)
noncomputable def fX5_putPairAt  (σ : zSt) (x1 : Int32) (x2 : Int32) : Option (zSt) :=
  zck (zin x1 29) (zbv (zsi σ 36 (x1.toNatClampNeg) ((x2 >>> ((8 : Int32) &&& 31)) &&& 255)) (fun σ1 =>
  zck (zin (x1 + 1) 29) (zbv (zsi σ1 36 ((x1 + 1).toNatClampNeg) (x2 &&& 255)) (fun σ2 =>
  some σ2))))
set_option maxRecDepth 20000 in
set_option maxHeartbeats 4000000 in
theorem bX5_putPairAt {st : Nat → Nat} {p : Program} {l : Launch} {e : Env} {s : State} {m : MethodId} {args : Array Value} {below : List Frame} {meth : Method} {c : Code} {D : va_G} {A : Nat → Prop} {ad : Nat → Nat} {cy : Nat → ClassId} (hC : zC p m c cX5_putPairAt 3 s args wzX5_putPairAt RX5 meth none)  {res : zSt} {H : Heap} {locs : List Loc} {σ : zSt} {ls : Array Slot} {x1 : Int32} {x2 : Int32} (hI : zI st D (tC cy) (wC ad cy σ) A s H locs) (hl : lv_has ls 3 [(0, .ref (ad 7)), (1, .int x1), (2, .int x2)]) (hf : fX5_putPairAt  σ x1 x2 = some res) : W p l e rmX5_putPairAt s m args below meth c H locs 0 0 (zQu below args s D (tC cy) (wC ad cy) A res) (F0 m 0 ls []) := by
  have hx := hC.1
  have hb := hC.2.1
  unfold fX5_putPairAt at hf
  refine lv_aload_n hx hb dX5_putPairAt_0 rfl (lv_at hl 0 rfl) ?_
  refine z_get hC hI hinX5_putPairAt_X50 7 (wC_e7 ad cy σ) rfl 2 (by decide) (List.mem_cons_of_mem _ zw7_5) rfl dX5_putPairAt_1 ?_
  refine lv_iload_n hx hb dX5_putPairAt_4 rfl (lv_at hl 1 rfl) ?_
  refine lv_iload_n hx hb dX5_putPairAt_5 rfl (lv_at hl 2 rfl) ?_
  refine lv_bipush (v := 8) hx hb dX5_putPairAt_6 (by decide) ?_
  refine lv_ishr hx hb dX5_putPairAt_8 ?_
  refine lv_sipush (v := 255) hx hb dX5_putPairAt_9 (by decide) ?_
  refine lv_iand hx hb dX5_putPairAt_12 ?_
  obtain ⟨q, hf⟩ := zck_use hf
  obtain ⟨σ1, eσ1⟩ : ∃ z, z = zsi σ 36 (x1.toNatClampNeg) ((x2 >>> ((8 : Int32) &&& 31)) &&& 255) := ⟨_, rfl⟩
  replace hf := zbv_use eσ1 hf
  refine z_iast hC hI 36 23 (wC_e36 ad cy σ) (tC_t36 cy) q ((wC_s36 ad cy σ _ _).trans (congrArg (wC ad cy) eσ1.symm)) dX5_putPairAt_13 (fun H locs hI => ?_)
  refine lv_aload_n hx hb dX5_putPairAt_14 rfl (lv_at hl 0 rfl) ?_
  refine z_get hC hI hinX5_putPairAt_X50 7 (wC_e7 ad cy σ1) rfl 2 (by decide) (List.mem_cons_of_mem _ zw7_5) rfl dX5_putPairAt_15 ?_
  refine lv_iload_n hx hb dX5_putPairAt_18 rfl (lv_at hl 1 rfl) ?_
  refine lv_iconst (v := 1) hx hb dX5_putPairAt_19 (by decide) ?_
  refine lv_iadd hx hb dX5_putPairAt_20 ?_
  refine lv_iload_n hx hb dX5_putPairAt_21 rfl (lv_at hl 2 rfl) ?_
  refine lv_sipush (v := 255) hx hb dX5_putPairAt_22 (by decide) ?_
  refine lv_iand hx hb dX5_putPairAt_25 ?_
  obtain ⟨q, hf⟩ := zck_use hf
  obtain ⟨σ2, eσ2⟩ : ∃ z, z = zsi σ1 36 ((x1 + 1).toNatClampNeg) (x2 &&& 255) := ⟨_, rfl⟩
  replace hf := zbv_use eσ2 hf
  refine z_iast hC hI 36 23 (wC_e36 ad cy σ1) (tC_t36 cy) q ((wC_s36 ad cy σ1 _ _).trans (congrArg (wC ad cy) eσ2.symm)) dX5_putPairAt_26 (fun H locs hI => ?_)
  exact z_return hC hI hf dX5_putPairAt_27
set_option maxRecDepth 20000 in
theorem cX5_putPairAt_met (st : Nat → Nat) (l : Launch) (D : va_G) (ad : Nat → Nat) (cy : Nat → ClassId) (σ : zSt) (x1 : Int32) (x2 : Int32) (res : zSt) (hf : fX5_putPairAt σ x1 x2 = some res) (sz : Nat) : zMu st l yX5_putPairAt wzX5_putPairAt rmX5_putPairAt [.ref (ad 7), .int x1, .int x2] D (tC cy) (wC ad cy) sz σ res :=
  zMu.of (cc := cX5_putPairAt) (maxL := 3) (ret := none) (by decide) rfl (Nat.le_of_ble_eq_true rfl) (fun p e s m args below meth c hC A hI ls hl => bX5_putPairAt hC hI hl hf)
theorem hdX5_putPairAt : yX5_putPairAt.cls = RX5 ∧ yX5_putPairAt.cls ≠ "java/lang/invoke/MethodHandle" ∧ yX5_putPairAt.cls ≠ "java/lang/invoke/VarHandle" ∧ (parseMethodDescriptor yX5_putPairAt.desc).map (fun d => d.parameters.length) = some 2 := by decide +kernel
noncomputable def rmX5_tellOfPort : Room := { frames := 2, cells := 0, slots := 0, locals := 40 }
noncomputable def wzX5_tellOfPort : List Cond := .code yX5_tellOfPort cX5_tellOfPort 3 none :: wsL_law
theorem hinX5_tellOfPort_X50 : ∀ w ∈ wsX50, w ∈ wzX5_tellOfPort := fun w h => List.mem_cons_of_mem _ (inlX5 w h)
noncomputable def fX5_tellOfPort_34  (σ : zSt) (x2 : Int32) (s0 : Int32) (s1 : Int32) (s2 : Int32) : Option (zSt) :=
  zck (zin 2 29) (
  zbi (fX5_parity σ ((x2 &&& 7) ^^^ (zgi σ 36 (2 : Int32).toNatClampNeg))) (fun σ1 v2 =>
  zck (zin s2 29) (zbv (zsi σ1 36 (s2.toNatClampNeg) ((s1 ||| s0) ||| v2)) (fun σ3 =>
  some σ3))))
noncomputable def fX5_tellOfPort  (σ : zSt) (x1 : Int32) (x2 : Int32) : Option (zSt) :=
  zck (zin 2 29) (
  zbi (fX5_by σ (zgi σ 36 (2 : Int32).toNatClampNeg)) (fun σ4 v5 =>
  if x2 ≤ 255 then fX5_tellOfPort_34 σ4 x2 0 (v5 ||| ((x1 >>> ((6 : Int32) &&& 31)) &&& 2)) 1 else
  fX5_tellOfPort_34 σ4 x2 17 (v5 ||| ((x1 >>> ((6 : Int32) &&& 31)) &&& 2)) 1))
set_option maxRecDepth 20000 in
set_option maxHeartbeats 4000000 in
theorem bX5_tellOfPort_34 {st : Nat → Nat} {p : Program} {l : Launch} {e : Env} {s : State} {m : MethodId} {args : Array Value} {below : List Frame} {meth : Method} {c : Code} {D : va_G} {A : Nat → Prop} {ad : Nat → Nat} {cy : Nat → ClassId} (hC : zC p m c cX5_tellOfPort 3 s args wzX5_tellOfPort RX5 meth none)  {res : zSt} {H : Heap} {locs : List Loc} {σ : zSt} {ls : Array Slot} {x2 : Int32} {s0 : Int32} {s1 : Int32} {s2 : Int32} (hI : zI st D (tC cy) (wC ad cy σ) A s H locs) (hl : lv_has ls 3 [(0, .ref (ad 7)), (2, .int x2)]) (hf : fX5_tellOfPort_34  σ x2 s0 s1 s2 = some res) : W p l e rmX5_tellOfPort s m args below meth c H locs 0 0 (zQu below args s D (tC cy) (wC ad cy) A res) (F0 m 34 ls [.int s0, .int s1, .int s2, .ref (ad 36)]) := by
  have hx := hC.1
  have hb := hC.2.1
  unfold fX5_tellOfPort_34 at hf
  refine lv_ior hx hb dX5_tellOfPort_34 ?_
  refine lv_iload_n hx hb dX5_tellOfPort_35 rfl (lv_at hl 1 rfl) ?_
  refine lv_bipush (v := 7) hx hb dX5_tellOfPort_36 (by decide) ?_
  refine lv_iand hx hb dX5_tellOfPort_38 ?_
  refine lv_aload_n hx hb dX5_tellOfPort_39 rfl (lv_at hl 0 rfl) ?_
  refine z_get hC hI hinX5_tellOfPort_X50 7 (wC_e7 ad cy σ) rfl 2 (by decide) (List.mem_cons_of_mem _ zw7_5) rfl dX5_tellOfPort_40 ?_
  refine lv_iconst (v := 2) hx hb dX5_tellOfPort_43 (by decide) ?_
  obtain ⟨q, hf⟩ := zck_use hf
  refine z_iald hC hI 36 23 (wC_e36 ad cy σ) (tC_t36 cy) q dX5_tellOfPort_44 ?_
  refine lv_ixor hx hb dX5_tellOfPort_45 ?_
  obtain ⟨σ1, v2, g1, hf⟩ := zbi_use hf
  refine z_callSi (As := [.int ((x2 &&& 7) ^^^ (zgi σ 36 (2 : Int32).toNatClampNeg))]) (rest := [.int (s1 ||| s0), .int s2, .ref (ad 36)]) hC hI (cX5_parity_met st l D ad cy σ ((x2 &&& 7) ^^^ (zgi σ 36 (2 : Int32).toNatClampNeg)) _ g1) (zgS zw22_22 zw22_23 zw2_21 zw23_0) rfl ⟨rfl, rfl⟩ 1 hdX5_parity ⟨Nat.le_of_ble_eq_true rfl, Nat.le_of_ble_eq_true rfl⟩ rfl hl rfl (Nat.le_of_ble_eq_true rfl) dX5_tellOfPort_46 ⟨Nat.zero_le _, Nat.zero_le _⟩ (fun H locs hI => ?_)
  refine lv_ior hx hb dX5_tellOfPort_49 ?_
  obtain ⟨q, hf⟩ := zck_use hf
  obtain ⟨σ3, eσ3⟩ : ∃ z, z = zsi σ1 36 (s2.toNatClampNeg) ((s1 ||| s0) ||| v2) := ⟨_, rfl⟩
  replace hf := zbv_use eσ3 hf
  refine z_iast hC hI 36 23 (wC_e36 ad cy σ1) (tC_t36 cy) q ((wC_s36 ad cy σ1 _ _).trans (congrArg (wC ad cy) eσ3.symm)) dX5_tellOfPort_50 (fun H locs hI => ?_)
  exact z_return hC hI hf dX5_tellOfPort_51
set_option maxRecDepth 20000 in
set_option maxHeartbeats 4000000 in
theorem bX5_tellOfPort {st : Nat → Nat} {p : Program} {l : Launch} {e : Env} {s : State} {m : MethodId} {args : Array Value} {below : List Frame} {meth : Method} {c : Code} {D : va_G} {A : Nat → Prop} {ad : Nat → Nat} {cy : Nat → ClassId} (hC : zC p m c cX5_tellOfPort 3 s args wzX5_tellOfPort RX5 meth none)  {res : zSt} {H : Heap} {locs : List Loc} {σ : zSt} {ls : Array Slot} {x1 : Int32} {x2 : Int32} (hI : zI st D (tC cy) (wC ad cy σ) A s H locs) (hl : lv_has ls 3 [(0, .ref (ad 7)), (1, .int x1), (2, .int x2)]) (hf : fX5_tellOfPort  σ x1 x2 = some res) : W p l e rmX5_tellOfPort s m args below meth c H locs 0 0 (zQu below args s D (tC cy) (wC ad cy) A res) (F0 m 0 ls []) := by
  have hx := hC.1
  have hb := hC.2.1
  unfold fX5_tellOfPort at hf
  refine lv_aload_n hx hb dX5_tellOfPort_0 rfl (lv_at hl 0 rfl) ?_
  refine z_get hC hI hinX5_tellOfPort_X50 7 (wC_e7 ad cy σ) rfl 2 (by decide) (List.mem_cons_of_mem _ zw7_5) rfl dX5_tellOfPort_1 ?_
  refine lv_iconst (v := 1) hx hb dX5_tellOfPort_4 (by decide) ?_
  refine lv_aload_n hx hb dX5_tellOfPort_5 rfl (lv_at hl 0 rfl) ?_
  refine z_get hC hI hinX5_tellOfPort_X50 7 (wC_e7 ad cy σ) rfl 2 (by decide) (List.mem_cons_of_mem _ zw7_5) rfl dX5_tellOfPort_6 ?_
  refine lv_iconst (v := 2) hx hb dX5_tellOfPort_9 (by decide) ?_
  obtain ⟨q, hf⟩ := zck_use hf
  refine z_iald hC hI 36 23 (wC_e36 ad cy σ) (tC_t36 cy) q dX5_tellOfPort_10 ?_
  obtain ⟨σ4, v5, g4, hf⟩ := zbi_use hf
  refine z_callSi (As := [.int (zgi σ 36 (2 : Int32).toNatClampNeg)]) (rest := [.int 1, .ref (ad 36)]) hC hI (cX5_by_met st l D ad cy σ (zgi σ 36 (2 : Int32).toNatClampNeg) _ g4) (zgS zw22_19 zw22_20 zw2_21 zw22_21) rfl ⟨rfl, rfl⟩ 1 hdX5_by ⟨Nat.le_of_ble_eq_true rfl, Nat.le_of_ble_eq_true rfl⟩ rfl hl rfl (Nat.le_of_ble_eq_true rfl) dX5_tellOfPort_11 ⟨Nat.zero_le _, Nat.zero_le _⟩ (fun H locs hI => ?_)
  refine lv_iload_n hx hb dX5_tellOfPort_14 rfl (lv_at hl 1 rfl) ?_
  refine lv_bipush (v := 6) hx hb dX5_tellOfPort_15 (by decide) ?_
  refine lv_ishr hx hb dX5_tellOfPort_17 ?_
  refine lv_iconst (v := 2) hx hb dX5_tellOfPort_18 (by decide) ?_
  refine lv_iand hx hb dX5_tellOfPort_19 ?_
  refine lv_ior hx hb dX5_tellOfPort_20 ?_
  refine lv_iload_n hx hb dX5_tellOfPort_21 rfl (lv_at hl 2 rfl) ?_
  refine lv_sipush (v := 255) hx hb dX5_tellOfPort_22 (by decide) ?_
  refine lv_icmp_le (tgt := 33) hx hb dX5_tellOfPort_25 (by decide) (fun q => ?_) (fun q => ?_)
  · replace hf := zif_t q hf
    refine lv_iconst (v := 0) hx hb dX5_tellOfPort_33 (by decide) ?_
    exact bX5_tellOfPort_34 hC  hI (lv_sub hl [0, 2] rfl) hf
  replace hf := zif_f q hf
  refine lv_bipush (v := 17) hx hb dX5_tellOfPort_28 (by decide) ?_
  refine lv_goto (tgt := 34) hx hb dX5_tellOfPort_30 (by decide) ?_
  exact bX5_tellOfPort_34 hC  hI (lv_sub hl [0, 2] rfl) hf
set_option maxRecDepth 20000 in
theorem cX5_tellOfPort_met (st : Nat → Nat) (l : Launch) (D : va_G) (ad : Nat → Nat) (cy : Nat → ClassId) (σ : zSt) (x1 : Int32) (x2 : Int32) (res : zSt) (hf : fX5_tellOfPort σ x1 x2 = some res) (sz : Nat) : zMu st l yX5_tellOfPort wzX5_tellOfPort rmX5_tellOfPort [.ref (ad 7), .int x1, .int x2] D (tC cy) (wC ad cy) sz σ res :=
  zMu.of (cc := cX5_tellOfPort) (maxL := 3) (ret := none) (by decide) rfl (Nat.le_of_ble_eq_true rfl) (fun p e s m args below meth c hC A hI ls hl => bX5_tellOfPort hC hI hl hf)
theorem hdX5_tellOfPort : yX5_tellOfPort.cls = RX5 ∧ yX5_tellOfPort.cls ≠ "java/lang/invoke/MethodHandle" ∧ yX5_tellOfPort.cls ≠ "java/lang/invoke/VarHandle" ∧ (parseMethodDescriptor yX5_tellOfPort.desc).map (fun d => d.parameters.length) = some 2 := by decide +kernel
noncomputable def rmX5_giveOne : Room := { frames := 3, cells := 0, slots := 0, locals := 69 }
noncomputable def wzX5_giveOne : List Cond := .code yX5_giveOne cX5_giveOne 3 (some .boolean) :: wsL_law
theorem hinX5_giveOne_X50 : ∀ w ∈ wsX50, w ∈ wzX5_giveOne := fun w h => List.mem_cons_of_mem _ (inlX5 w h)
noncomputable def fX5_giveOne_105  (σ : zSt) (s0 : Int32) : Option (zSt × Int32) :=
  zck (zbo s0) (some (σ, s0))
noncomputable def fX5_giveOne  (σ : zSt) (x1 : Int32) : Option (zSt × Int32) :=
  zbi (fX5_pairAt σ 6) (fun σ1 v2 =>
  zbi (fX2_read σ1 v2) (fun σ3 v4 =>
  zck (zin 2 29) (
  zck (zin 2 29) (zbv (zsi σ3 36 ((2 : Int32).toNatClampNeg) (((zgi σ3 36 (2 : Int32).toNatClampNeg) - 1) &&& 255)) (fun σ5 =>
  zck (zin 3 29) (
  zbu (fX4_write σ5 (zgi σ5 36 (3 : Int32).toNatClampNeg) v4) (fun σ6 =>
  zbi (fX5_pairAt σ6 6) (fun σ7 v8 =>
  zbu (fX5_putPairAt σ7 6 (v8 + x1)) (fun σ9 =>
  zbi (fX5_pairAt σ9 2) (fun σ10 v11 =>
  zck (zin 20 29) (zbv (zsi σ10 36 ((20 : Int32).toNatClampNeg) ((v11 + x1) &&& 65535)) (fun σ12 =>
  zck (zin 7 29) (
  zbu (fX5_tellOfPort σ12 v4 (v4 + (zgi σ12 36 (7 : Int32).toNatClampNeg))) (fun σ13 =>
  zck (zin 2 29) (
  if (zgi σ13 36 (2 : Int32).toNatClampNeg) = 0 then fX5_giveOne_105 σ13 0 else
  fX5_giveOne_105 σ13 1)))))))))))))))
set_option maxRecDepth 20000 in
set_option maxHeartbeats 4000000 in
theorem bX5_giveOne_105 {st : Nat → Nat} {p : Program} {l : Launch} {e : Env} {s : State} {m : MethodId} {args : Array Value} {below : List Frame} {meth : Method} {c : Code} {D : va_G} {A : Nat → Prop} {ad : Nat → Nat} {cy : Nat → ClassId} (hC : zC p m c cX5_giveOne 3 s args wzX5_giveOne RX5 meth (some .boolean))  {res : zSt × Int32} {H : Heap} {locs : List Loc} {σ : zSt} {ls : Array Slot} {s0 : Int32} (hI : zI st D (tC cy) (wC ad cy σ) A s H locs) (hl : lv_has ls 3 []) (hf : fX5_giveOne_105  σ s0 = some res) : W p l e rmX5_giveOne s m args below meth c H locs 0 0 (zQi below args s D (tC cy) (wC ad cy) A res) (F0 m 105 ls [.int s0]) := by
  have hx := hC.1
  have hb := hC.2.1
  unfold fX5_giveOne_105 at hf
  obtain ⟨q, hf⟩ := zck_use hf
  exact z_zreturn hC hI (zbo_n q) hf dX5_giveOne_105
set_option maxRecDepth 20000 in
set_option maxHeartbeats 4000000 in
theorem bX5_giveOne {st : Nat → Nat} {p : Program} {l : Launch} {e : Env} {s : State} {m : MethodId} {args : Array Value} {below : List Frame} {meth : Method} {c : Code} {D : va_G} {A : Nat → Prop} {ad : Nat → Nat} {cy : Nat → ClassId} (hC : zC p m c cX5_giveOne 3 s args wzX5_giveOne RX5 meth (some .boolean))  {res : zSt × Int32} {H : Heap} {locs : List Loc} {σ : zSt} {ls : Array Slot} {x1 : Int32} (hI : zI st D (tC cy) (wC ad cy σ) A s H locs) (hl : lv_has ls 3 [(0, .ref (ad 7)), (1, .int x1)]) (hf : fX5_giveOne  σ x1 = some res) : W p l e rmX5_giveOne s m args below meth c H locs 0 0 (zQi below args s D (tC cy) (wC ad cy) A res) (F0 m 0 ls []) := by
  have hx := hC.1
  have hb := hC.2.1
  unfold fX5_giveOne at hf
  refine lv_aload_n hx hb dX5_giveOne_0 rfl (lv_at hl 0 rfl) ?_
  refine z_get hC hI hinX5_giveOne_X50 7 (wC_e7 ad cy σ) rfl 0 (by decide) (List.mem_cons_of_mem _ zw7_8) rfl dX5_giveOne_1 ?_
  refine lv_aload_n hx hb dX5_giveOne_4 rfl (lv_at hl 0 rfl) ?_
  refine lv_bipush (v := 6) hx hb dX5_giveOne_5 (by decide) ?_
  obtain ⟨σ1, v2, g1, hf⟩ := zbi_use hf
  refine z_callVi (As := [.int 6]) (rest := [.ref (ad 1)]) hC hI (cX5_pairAt_met st l D ad cy σ 6 _ g1) (zgV zw21_15 zw21_16 zw21_17 zw2_21 zw21_18) rfl ⟨rfl, rfl⟩ 1 hdX5_pairAt ⟨Nat.le_of_ble_eq_true rfl, Nat.le_of_ble_eq_true rfl⟩ rfl rfl (wC_e7 ad cy σ) rfl hl rfl (Nat.le_of_ble_eq_true rfl) dX5_giveOne_7 ⟨Nat.zero_le _, Nat.zero_le _⟩ (fun H locs hI => ?_)
  obtain ⟨σ3, v4, g3, hf⟩ := zbi_use hf
  refine z_callVi (As := [.int v2]) (rest := []) hC hI (cX2_read_met st l D ad cy σ1 v2 _ g3) (zgV zw21_6 zw21_7 zw21_8 zw1_21 zw21_9) rfl ⟨rfl, rfl⟩ 1 hdX2_read ⟨Nat.le_of_ble_eq_true rfl, Nat.le_of_ble_eq_true rfl⟩ rfl rfl (wC_e1 ad cy σ1) rfl hl rfl (Nat.le_of_ble_eq_true rfl) dX5_giveOne_10 ⟨Nat.zero_le _, Nat.zero_le _⟩ (fun H locs hI => ?_)
  refine lv_istore_n (lv' := [(2, .int v4), (0, .ref (ad 7)), (1, .int x1)]) hx hb dX5_giveOne_13 rfl hl (by decide) rfl (fun ls hl => ?_)
  refine lv_aload_n hx hb dX5_giveOne_14 rfl (lv_at hl 1 rfl) ?_
  refine z_get hC hI hinX5_giveOne_X50 7 (wC_e7 ad cy σ3) rfl 2 (by decide) (List.mem_cons_of_mem _ zw7_5) rfl dX5_giveOne_15 ?_
  refine lv_iconst (v := 2) hx hb dX5_giveOne_18 (by decide) ?_
  refine lv_aload_n hx hb dX5_giveOne_19 rfl (lv_at hl 1 rfl) ?_
  refine z_get hC hI hinX5_giveOne_X50 7 (wC_e7 ad cy σ3) rfl 2 (by decide) (List.mem_cons_of_mem _ zw7_5) rfl dX5_giveOne_20 ?_
  refine lv_iconst (v := 2) hx hb dX5_giveOne_23 (by decide) ?_
  obtain ⟨q, hf⟩ := zck_use hf
  refine z_iald hC hI 36 23 (wC_e36 ad cy σ3) (tC_t36 cy) q dX5_giveOne_24 ?_
  refine lv_iconst (v := 1) hx hb dX5_giveOne_25 (by decide) ?_
  refine lv_isub hx hb dX5_giveOne_26 ?_
  refine lv_sipush (v := 255) hx hb dX5_giveOne_27 (by decide) ?_
  refine lv_iand hx hb dX5_giveOne_30 ?_
  obtain ⟨q, hf⟩ := zck_use hf
  obtain ⟨σ5, eσ5⟩ : ∃ z, z = zsi σ3 36 ((2 : Int32).toNatClampNeg) (((zgi σ3 36 (2 : Int32).toNatClampNeg) - 1) &&& 255) := ⟨_, rfl⟩
  replace hf := zbv_use eσ5 hf
  refine z_iast hC hI 36 23 (wC_e36 ad cy σ3) (tC_t36 cy) q ((wC_s36 ad cy σ3 _ _).trans (congrArg (wC ad cy) eσ5.symm)) dX5_giveOne_31 (fun H locs hI => ?_)
  refine lv_aload_n hx hb dX5_giveOne_32 rfl (lv_at hl 1 rfl) ?_
  refine z_get hC hI hinX5_giveOne_X50 7 (wC_e7 ad cy σ5) rfl 1 (by decide) (List.mem_cons_of_mem _ zw7_9) rfl dX5_giveOne_33 ?_
  refine lv_aload_n hx hb dX5_giveOne_36 rfl (lv_at hl 1 rfl) ?_
  refine z_get hC hI hinX5_giveOne_X50 7 (wC_e7 ad cy σ5) rfl 2 (by decide) (List.mem_cons_of_mem _ zw7_5) rfl dX5_giveOne_37 ?_
  refine lv_iconst (v := 3) hx hb dX5_giveOne_40 (by decide) ?_
  obtain ⟨q, hf⟩ := zck_use hf
  refine z_iald hC hI 36 23 (wC_e36 ad cy σ5) (tC_t36 cy) q dX5_giveOne_41 ?_
  refine lv_iload_n hx hb dX5_giveOne_42 rfl (lv_at hl 0 rfl) ?_
  obtain ⟨σ6, g6, hf⟩ := zbu_use hf
  refine z_callVu (As := [.int (zgi σ5 36 (3 : Int32).toNatClampNeg), .int v4]) (rest := []) hC hI (cX4_write_met st l D ad cy σ5 (zgi σ5 36 (3 : Int32).toNatClampNeg) v4 _ g6) (zgV zw27_9 zw27_10 zw27_11 zw2_17 zw27_12) rfl ⟨rfl, rfl⟩ 2 hdX4_write ⟨Nat.le_of_ble_eq_true rfl, Nat.le_of_ble_eq_true rfl⟩ rfl rfl (wC_e6 ad cy σ5) rfl hl rfl (Nat.le_of_ble_eq_true rfl) dX5_giveOne_43 ⟨Nat.zero_le _, Nat.zero_le _⟩ (fun H locs hI => ?_)
  refine lv_aload_n hx hb dX5_giveOne_46 rfl (lv_at hl 1 rfl) ?_
  refine lv_bipush (v := 6) hx hb dX5_giveOne_47 (by decide) ?_
  refine lv_aload_n hx hb dX5_giveOne_49 rfl (lv_at hl 1 rfl) ?_
  refine lv_bipush (v := 6) hx hb dX5_giveOne_50 (by decide) ?_
  obtain ⟨σ7, v8, g7, hf⟩ := zbi_use hf
  refine z_callVi (As := [.int 6]) (rest := [.int 6, .ref (ad 7)]) hC hI (cX5_pairAt_met st l D ad cy σ6 6 _ g7) (zgV zw21_15 zw21_16 zw21_17 zw2_21 zw21_18) rfl ⟨rfl, rfl⟩ 1 hdX5_pairAt ⟨Nat.le_of_ble_eq_true rfl, Nat.le_of_ble_eq_true rfl⟩ rfl rfl (wC_e7 ad cy σ6) rfl hl rfl (Nat.le_of_ble_eq_true rfl) dX5_giveOne_52 ⟨Nat.zero_le _, Nat.zero_le _⟩ (fun H locs hI => ?_)
  refine lv_iload_n hx hb dX5_giveOne_55 rfl (lv_at hl 2 rfl) ?_
  refine lv_iadd hx hb dX5_giveOne_56 ?_
  obtain ⟨σ9, g9, hf⟩ := zbu_use hf
  refine z_callVu (As := [.int 6, .int (v8 + x1)]) (rest := []) hC hI (cX5_putPairAt_met st l D ad cy σ7 6 (v8 + x1) _ g9) (zgV zw24_16 zw24_17 zw24_18 zw2_21 zw24_19) rfl ⟨rfl, rfl⟩ 2 hdX5_putPairAt ⟨Nat.le_of_ble_eq_true rfl, Nat.le_of_ble_eq_true rfl⟩ rfl rfl (wC_e7 ad cy σ7) rfl hl rfl (Nat.le_of_ble_eq_true rfl) dX5_giveOne_57 ⟨Nat.zero_le _, Nat.zero_le _⟩ (fun H locs hI => ?_)
  refine lv_aload_n hx hb dX5_giveOne_60 rfl (lv_at hl 1 rfl) ?_
  refine z_get hC hI hinX5_giveOne_X50 7 (wC_e7 ad cy σ9) rfl 2 (by decide) (List.mem_cons_of_mem _ zw7_5) rfl dX5_giveOne_61 ?_
  refine lv_bipush (v := 20) hx hb dX5_giveOne_64 (by decide) ?_
  refine lv_aload_n hx hb dX5_giveOne_66 rfl (lv_at hl 1 rfl) ?_
  refine lv_iconst (v := 2) hx hb dX5_giveOne_67 (by decide) ?_
  obtain ⟨σ10, v11, g10, hf⟩ := zbi_use hf
  refine z_callVi (As := [.int 2]) (rest := [.int 20, .ref (ad 36)]) hC hI (cX5_pairAt_met st l D ad cy σ9 2 _ g10) (zgV zw21_15 zw21_16 zw21_17 zw2_21 zw21_18) rfl ⟨rfl, rfl⟩ 1 hdX5_pairAt ⟨Nat.le_of_ble_eq_true rfl, Nat.le_of_ble_eq_true rfl⟩ rfl rfl (wC_e7 ad cy σ9) rfl hl rfl (Nat.le_of_ble_eq_true rfl) dX5_giveOne_68 ⟨Nat.zero_le _, Nat.zero_le _⟩ (fun H locs hI => ?_)
  refine lv_iload_n hx hb dX5_giveOne_71 rfl (lv_at hl 2 rfl) ?_
  refine lv_iadd hx hb dX5_giveOne_72 ?_
  refine lv_ldc (v := 65535) hx hb hC.2.2.2.1 (hC.2.2.2.2.1 _ (List.mem_cons_of_mem _ zw20_6)) dX5_giveOne_73 ?_
  refine lv_iand hx hb dX5_giveOne_75 ?_
  obtain ⟨q, hf⟩ := zck_use hf
  obtain ⟨σ12, eσ12⟩ : ∃ z, z = zsi σ10 36 ((20 : Int32).toNatClampNeg) ((v11 + x1) &&& 65535) := ⟨_, rfl⟩
  replace hf := zbv_use eσ12 hf
  refine z_iast hC hI 36 23 (wC_e36 ad cy σ10) (tC_t36 cy) q ((wC_s36 ad cy σ10 _ _).trans (congrArg (wC ad cy) eσ12.symm)) dX5_giveOne_76 (fun H locs hI => ?_)
  refine lv_aload_n hx hb dX5_giveOne_77 rfl (lv_at hl 1 rfl) ?_
  refine lv_iload_n hx hb dX5_giveOne_78 rfl (lv_at hl 0 rfl) ?_
  refine lv_iload_n hx hb dX5_giveOne_79 rfl (lv_at hl 0 rfl) ?_
  refine lv_aload_n hx hb dX5_giveOne_80 rfl (lv_at hl 1 rfl) ?_
  refine z_get hC hI hinX5_giveOne_X50 7 (wC_e7 ad cy σ12) rfl 2 (by decide) (List.mem_cons_of_mem _ zw7_5) rfl dX5_giveOne_81 ?_
  refine lv_bipush (v := 7) hx hb dX5_giveOne_84 (by decide) ?_
  obtain ⟨q, hf⟩ := zck_use hf
  refine z_iald hC hI 36 23 (wC_e36 ad cy σ12) (tC_t36 cy) q dX5_giveOne_86 ?_
  refine lv_iadd hx hb dX5_giveOne_87 ?_
  obtain ⟨σ13, g13, hf⟩ := zbu_use hf
  refine z_callVu (As := [.int v4, .int (v4 + (zgi σ12 36 (7 : Int32).toNatClampNeg))]) (rest := []) hC hI (cX5_tellOfPort_met st l D ad cy σ12 v4 (v4 + (zgi σ12 36 (7 : Int32).toNatClampNeg)) _ g13) (zgV zw27_1 zw27_2 zw27_3 zw2_21 zw27_4) rfl ⟨rfl, rfl⟩ 2 hdX5_tellOfPort ⟨Nat.le_of_ble_eq_true rfl, Nat.le_of_ble_eq_true rfl⟩ rfl rfl (wC_e7 ad cy σ12) rfl hl rfl (Nat.le_of_ble_eq_true rfl) dX5_giveOne_88 ⟨Nat.zero_le _, Nat.zero_le _⟩ (fun H locs hI => ?_)
  refine lv_aload_n hx hb dX5_giveOne_91 rfl (lv_at hl 1 rfl) ?_
  refine z_get hC hI hinX5_giveOne_X50 7 (wC_e7 ad cy σ13) rfl 2 (by decide) (List.mem_cons_of_mem _ zw7_5) rfl dX5_giveOne_92 ?_
  refine lv_iconst (v := 2) hx hb dX5_giveOne_95 (by decide) ?_
  obtain ⟨q, hf⟩ := zck_use hf
  refine z_iald hC hI 36 23 (wC_e36 ad cy σ13) (tC_t36 cy) q dX5_giveOne_96 ?_
  refine lv_if_eq (tgt := 104) hx hb dX5_giveOne_97 (by decide) (fun q => ?_) (fun q => ?_)
  · replace hf := zif_t q hf
    refine lv_iconst (v := 0) hx hb dX5_giveOne_104 (by decide) ?_
    exact bX5_giveOne_105 hC  hI (lv_sub hl [] rfl) hf
  replace hf := zif_f q hf
  refine lv_iconst (v := 1) hx hb dX5_giveOne_100 (by decide) ?_
  refine lv_goto (tgt := 105) hx hb dX5_giveOne_101 (by decide) ?_
  exact bX5_giveOne_105 hC  hI (lv_sub hl [] rfl) hf
set_option maxRecDepth 20000 in
theorem cX5_giveOne_met (st : Nat → Nat) (l : Launch) (D : va_G) (ad : Nat → Nat) (cy : Nat → ClassId) (σ : zSt) (x1 : Int32) (res : zSt × Int32) (hf : fX5_giveOne σ x1 = some res) (sz : Nat) : zMi st l yX5_giveOne wzX5_giveOne rmX5_giveOne [.ref (ad 7), .int x1] D (tC cy) (wC ad cy) sz σ res :=
  zMi.of (cc := cX5_giveOne) (maxL := 3) (ret := (some .boolean)) (by decide) rfl (Nat.le_of_ble_eq_true rfl) (fun p e s m args below meth c hC A hI ls hl => bX5_giveOne hC hI hl hf)
theorem hdX5_giveOne : yX5_giveOne.cls = RX5 ∧ yX5_giveOne.cls ≠ "java/lang/invoke/MethodHandle" ∧ yX5_giveOne.cls ≠ "java/lang/invoke/VarHandle" ∧ (parseMethodDescriptor yX5_giveOne.desc).map (fun d => d.parameters.length) = some 1 := by decide +kernel
noncomputable def rmX5_takeOne : Room := { frames := 3, cells := 0, slots := 0, locals := 66 }
noncomputable def wzX5_takeOne : List Cond := .code yX5_takeOne cX5_takeOne 3 (some .boolean) :: wsL_law
theorem hinX5_takeOne_X50 : ∀ w ∈ wsX50, w ∈ wzX5_takeOne := fun w h => List.mem_cons_of_mem _ (inlX5 w h)
noncomputable def fX5_takeOne_110  (σ : zSt) (s0 : Int32) : Option (zSt × Int32) :=
  zck (zbo s0) (some (σ, s0))
noncomputable def fX5_takeOne  (σ : zSt) (x1 : Int32) : Option (zSt × Int32) :=
  zbi (fX5_pairAt σ 2) (fun σ1 v2 =>
  zck (zin 20 29) (zbv (zsi σ1 36 ((20 : Int32).toNatClampNeg) ((v2 + x1) &&& 65535)) (fun σ3 =>
  zck (zin 3 29) (
  zbi (fX4_read σ3 (zgi σ3 36 (3 : Int32).toNatClampNeg)) (fun σ4 v5 =>
  zck (zin 2 29) (
  zck (zin 2 29) (zbv (zsi σ4 36 ((2 : Int32).toNatClampNeg) (((zgi σ4 36 (2 : Int32).toNatClampNeg) - 1) &&& 255)) (fun σ6 =>
  zbi (fX5_pairAt σ6 6) (fun σ7 v8 =>
  zbu (fX2_write σ7 v8 v5) (fun σ9 =>
  zbi (fX5_pairAt σ9 6) (fun σ10 v11 =>
  zbu (fX5_putPairAt σ10 6 (v11 + x1)) (fun σ12 =>
  zck (zin 3 29) (
  zbu (fX5_tellOfPort σ12 v5 (v5 + (((zgi σ12 36 (3 : Int32).toNatClampNeg) + x1) &&& 255))) (fun σ13 =>
  zck (zin 2 29) (
  if (zgi σ13 36 (2 : Int32).toNatClampNeg) = 0 then fX5_takeOne_110 σ13 0 else
  fX5_takeOne_110 σ13 1)))))))))))))))
set_option maxRecDepth 20000 in
set_option maxHeartbeats 4000000 in
theorem bX5_takeOne_110 {st : Nat → Nat} {p : Program} {l : Launch} {e : Env} {s : State} {m : MethodId} {args : Array Value} {below : List Frame} {meth : Method} {c : Code} {D : va_G} {A : Nat → Prop} {ad : Nat → Nat} {cy : Nat → ClassId} (hC : zC p m c cX5_takeOne 3 s args wzX5_takeOne RX5 meth (some .boolean))  {res : zSt × Int32} {H : Heap} {locs : List Loc} {σ : zSt} {ls : Array Slot} {s0 : Int32} (hI : zI st D (tC cy) (wC ad cy σ) A s H locs) (hl : lv_has ls 3 []) (hf : fX5_takeOne_110  σ s0 = some res) : W p l e rmX5_takeOne s m args below meth c H locs 0 0 (zQi below args s D (tC cy) (wC ad cy) A res) (F0 m 110 ls [.int s0]) := by
  have hx := hC.1
  have hb := hC.2.1
  unfold fX5_takeOne_110 at hf
  obtain ⟨q, hf⟩ := zck_use hf
  exact z_zreturn hC hI (zbo_n q) hf dX5_takeOne_110
set_option maxRecDepth 20000 in
set_option maxHeartbeats 4000000 in
theorem bX5_takeOne {st : Nat → Nat} {p : Program} {l : Launch} {e : Env} {s : State} {m : MethodId} {args : Array Value} {below : List Frame} {meth : Method} {c : Code} {D : va_G} {A : Nat → Prop} {ad : Nat → Nat} {cy : Nat → ClassId} (hC : zC p m c cX5_takeOne 3 s args wzX5_takeOne RX5 meth (some .boolean))  {res : zSt × Int32} {H : Heap} {locs : List Loc} {σ : zSt} {ls : Array Slot} {x1 : Int32} (hI : zI st D (tC cy) (wC ad cy σ) A s H locs) (hl : lv_has ls 3 [(0, .ref (ad 7)), (1, .int x1)]) (hf : fX5_takeOne  σ x1 = some res) : W p l e rmX5_takeOne s m args below meth c H locs 0 0 (zQi below args s D (tC cy) (wC ad cy) A res) (F0 m 0 ls []) := by
  have hx := hC.1
  have hb := hC.2.1
  unfold fX5_takeOne at hf
  refine lv_aload_n hx hb dX5_takeOne_0 rfl (lv_at hl 0 rfl) ?_
  refine z_get hC hI hinX5_takeOne_X50 7 (wC_e7 ad cy σ) rfl 2 (by decide) (List.mem_cons_of_mem _ zw7_5) rfl dX5_takeOne_1 ?_
  refine lv_bipush (v := 20) hx hb dX5_takeOne_4 (by decide) ?_
  refine lv_aload_n hx hb dX5_takeOne_6 rfl (lv_at hl 0 rfl) ?_
  refine lv_iconst (v := 2) hx hb dX5_takeOne_7 (by decide) ?_
  obtain ⟨σ1, v2, g1, hf⟩ := zbi_use hf
  refine z_callVi (As := [.int 2]) (rest := [.int 20, .ref (ad 36)]) hC hI (cX5_pairAt_met st l D ad cy σ 2 _ g1) (zgV zw21_15 zw21_16 zw21_17 zw2_21 zw21_18) rfl ⟨rfl, rfl⟩ 1 hdX5_pairAt ⟨Nat.le_of_ble_eq_true rfl, Nat.le_of_ble_eq_true rfl⟩ rfl rfl (wC_e7 ad cy σ) rfl hl rfl (Nat.le_of_ble_eq_true rfl) dX5_takeOne_8 ⟨Nat.zero_le _, Nat.zero_le _⟩ (fun H locs hI => ?_)
  refine lv_iload_n hx hb dX5_takeOne_11 rfl (lv_at hl 1 rfl) ?_
  refine lv_iadd hx hb dX5_takeOne_12 ?_
  refine lv_ldc (v := 65535) hx hb hC.2.2.2.1 (hC.2.2.2.2.1 _ (List.mem_cons_of_mem _ zw20_6)) dX5_takeOne_13 ?_
  refine lv_iand hx hb dX5_takeOne_15 ?_
  obtain ⟨q, hf⟩ := zck_use hf
  obtain ⟨σ3, eσ3⟩ : ∃ z, z = zsi σ1 36 ((20 : Int32).toNatClampNeg) ((v2 + x1) &&& 65535) := ⟨_, rfl⟩
  replace hf := zbv_use eσ3 hf
  refine z_iast hC hI 36 23 (wC_e36 ad cy σ1) (tC_t36 cy) q ((wC_s36 ad cy σ1 _ _).trans (congrArg (wC ad cy) eσ3.symm)) dX5_takeOne_16 (fun H locs hI => ?_)
  refine lv_aload_n hx hb dX5_takeOne_17 rfl (lv_at hl 0 rfl) ?_
  refine z_get hC hI hinX5_takeOne_X50 7 (wC_e7 ad cy σ3) rfl 1 (by decide) (List.mem_cons_of_mem _ zw7_9) rfl dX5_takeOne_18 ?_
  refine lv_aload_n hx hb dX5_takeOne_21 rfl (lv_at hl 0 rfl) ?_
  refine z_get hC hI hinX5_takeOne_X50 7 (wC_e7 ad cy σ3) rfl 2 (by decide) (List.mem_cons_of_mem _ zw7_5) rfl dX5_takeOne_22 ?_
  refine lv_iconst (v := 3) hx hb dX5_takeOne_25 (by decide) ?_
  obtain ⟨q, hf⟩ := zck_use hf
  refine z_iald hC hI 36 23 (wC_e36 ad cy σ3) (tC_t36 cy) q dX5_takeOne_26 ?_
  obtain ⟨σ4, v5, g4, hf⟩ := zbi_use hf
  refine z_callVi (As := [.int (zgi σ3 36 (3 : Int32).toNatClampNeg)]) (rest := []) hC hI (cX4_read_met st l D ad cy σ3 (zgi σ3 36 (3 : Int32).toNatClampNeg) _ g4) (zgV zw25_4 zw25_5 zw25_6 zw2_17 zw25_7) rfl ⟨rfl, rfl⟩ 1 hdX4_read ⟨Nat.le_of_ble_eq_true rfl, Nat.le_of_ble_eq_true rfl⟩ rfl rfl (wC_e6 ad cy σ3) rfl hl rfl (Nat.le_of_ble_eq_true rfl) dX5_takeOne_27 ⟨Nat.zero_le _, Nat.zero_le _⟩ (fun H locs hI => ?_)
  refine lv_istore_n (lv' := [(2, .int v5), (0, .ref (ad 7)), (1, .int x1)]) hx hb dX5_takeOne_30 rfl hl (by decide) rfl (fun ls hl => ?_)
  refine lv_aload_n hx hb dX5_takeOne_31 rfl (lv_at hl 1 rfl) ?_
  refine z_get hC hI hinX5_takeOne_X50 7 (wC_e7 ad cy σ4) rfl 2 (by decide) (List.mem_cons_of_mem _ zw7_5) rfl dX5_takeOne_32 ?_
  refine lv_iconst (v := 2) hx hb dX5_takeOne_35 (by decide) ?_
  refine lv_aload_n hx hb dX5_takeOne_36 rfl (lv_at hl 1 rfl) ?_
  refine z_get hC hI hinX5_takeOne_X50 7 (wC_e7 ad cy σ4) rfl 2 (by decide) (List.mem_cons_of_mem _ zw7_5) rfl dX5_takeOne_37 ?_
  refine lv_iconst (v := 2) hx hb dX5_takeOne_40 (by decide) ?_
  obtain ⟨q, hf⟩ := zck_use hf
  refine z_iald hC hI 36 23 (wC_e36 ad cy σ4) (tC_t36 cy) q dX5_takeOne_41 ?_
  refine lv_iconst (v := 1) hx hb dX5_takeOne_42 (by decide) ?_
  refine lv_isub hx hb dX5_takeOne_43 ?_
  refine lv_sipush (v := 255) hx hb dX5_takeOne_44 (by decide) ?_
  refine lv_iand hx hb dX5_takeOne_47 ?_
  obtain ⟨q, hf⟩ := zck_use hf
  obtain ⟨σ6, eσ6⟩ : ∃ z, z = zsi σ4 36 ((2 : Int32).toNatClampNeg) (((zgi σ4 36 (2 : Int32).toNatClampNeg) - 1) &&& 255) := ⟨_, rfl⟩
  replace hf := zbv_use eσ6 hf
  refine z_iast hC hI 36 23 (wC_e36 ad cy σ4) (tC_t36 cy) q ((wC_s36 ad cy σ4 _ _).trans (congrArg (wC ad cy) eσ6.symm)) dX5_takeOne_48 (fun H locs hI => ?_)
  refine lv_aload_n hx hb dX5_takeOne_49 rfl (lv_at hl 1 rfl) ?_
  refine z_get hC hI hinX5_takeOne_X50 7 (wC_e7 ad cy σ6) rfl 0 (by decide) (List.mem_cons_of_mem _ zw7_8) rfl dX5_takeOne_50 ?_
  refine lv_aload_n hx hb dX5_takeOne_53 rfl (lv_at hl 1 rfl) ?_
  refine lv_bipush (v := 6) hx hb dX5_takeOne_54 (by decide) ?_
  obtain ⟨σ7, v8, g7, hf⟩ := zbi_use hf
  refine z_callVi (As := [.int 6]) (rest := [.ref (ad 1)]) hC hI (cX5_pairAt_met st l D ad cy σ6 6 _ g7) (zgV zw21_15 zw21_16 zw21_17 zw2_21 zw21_18) rfl ⟨rfl, rfl⟩ 1 hdX5_pairAt ⟨Nat.le_of_ble_eq_true rfl, Nat.le_of_ble_eq_true rfl⟩ rfl rfl (wC_e7 ad cy σ6) rfl hl rfl (Nat.le_of_ble_eq_true rfl) dX5_takeOne_56 ⟨Nat.zero_le _, Nat.zero_le _⟩ (fun H locs hI => ?_)
  refine lv_iload_n hx hb dX5_takeOne_59 rfl (lv_at hl 0 rfl) ?_
  obtain ⟨σ9, g9, hf⟩ := zbu_use hf
  refine z_callVu (As := [.int v8, .int v5]) (rest := []) hC hI (cX2_write_met st l D ad cy σ7 v8 v5 _ g9) (zgV zw20_7 zw20_8 zw20_9 zw1_21 zw20_10) rfl ⟨rfl, rfl⟩ 2 hdX2_write ⟨Nat.le_of_ble_eq_true rfl, Nat.le_of_ble_eq_true rfl⟩ rfl rfl (wC_e1 ad cy σ7) rfl hl rfl (Nat.le_of_ble_eq_true rfl) dX5_takeOne_60 ⟨Nat.zero_le _, Nat.zero_le _⟩ (fun H locs hI => ?_)
  refine lv_aload_n hx hb dX5_takeOne_63 rfl (lv_at hl 1 rfl) ?_
  refine lv_bipush (v := 6) hx hb dX5_takeOne_64 (by decide) ?_
  refine lv_aload_n hx hb dX5_takeOne_66 rfl (lv_at hl 1 rfl) ?_
  refine lv_bipush (v := 6) hx hb dX5_takeOne_67 (by decide) ?_
  obtain ⟨σ10, v11, g10, hf⟩ := zbi_use hf
  refine z_callVi (As := [.int 6]) (rest := [.int 6, .ref (ad 7)]) hC hI (cX5_pairAt_met st l D ad cy σ9 6 _ g10) (zgV zw21_15 zw21_16 zw21_17 zw2_21 zw21_18) rfl ⟨rfl, rfl⟩ 1 hdX5_pairAt ⟨Nat.le_of_ble_eq_true rfl, Nat.le_of_ble_eq_true rfl⟩ rfl rfl (wC_e7 ad cy σ9) rfl hl rfl (Nat.le_of_ble_eq_true rfl) dX5_takeOne_69 ⟨Nat.zero_le _, Nat.zero_le _⟩ (fun H locs hI => ?_)
  refine lv_iload_n hx hb dX5_takeOne_72 rfl (lv_at hl 2 rfl) ?_
  refine lv_iadd hx hb dX5_takeOne_73 ?_
  obtain ⟨σ12, g12, hf⟩ := zbu_use hf
  refine z_callVu (As := [.int 6, .int (v11 + x1)]) (rest := []) hC hI (cX5_putPairAt_met st l D ad cy σ10 6 (v11 + x1) _ g12) (zgV zw24_16 zw24_17 zw24_18 zw2_21 zw24_19) rfl ⟨rfl, rfl⟩ 2 hdX5_putPairAt ⟨Nat.le_of_ble_eq_true rfl, Nat.le_of_ble_eq_true rfl⟩ rfl rfl (wC_e7 ad cy σ10) rfl hl rfl (Nat.le_of_ble_eq_true rfl) dX5_takeOne_74 ⟨Nat.zero_le _, Nat.zero_le _⟩ (fun H locs hI => ?_)
  refine lv_aload_n hx hb dX5_takeOne_77 rfl (lv_at hl 1 rfl) ?_
  refine lv_iload_n hx hb dX5_takeOne_78 rfl (lv_at hl 0 rfl) ?_
  refine lv_iload_n hx hb dX5_takeOne_79 rfl (lv_at hl 0 rfl) ?_
  refine lv_aload_n hx hb dX5_takeOne_80 rfl (lv_at hl 1 rfl) ?_
  refine z_get hC hI hinX5_takeOne_X50 7 (wC_e7 ad cy σ12) rfl 2 (by decide) (List.mem_cons_of_mem _ zw7_5) rfl dX5_takeOne_81 ?_
  refine lv_iconst (v := 3) hx hb dX5_takeOne_84 (by decide) ?_
  obtain ⟨q, hf⟩ := zck_use hf
  refine z_iald hC hI 36 23 (wC_e36 ad cy σ12) (tC_t36 cy) q dX5_takeOne_85 ?_
  refine lv_iload_n hx hb dX5_takeOne_86 rfl (lv_at hl 2 rfl) ?_
  refine lv_iadd hx hb dX5_takeOne_87 ?_
  refine lv_sipush (v := 255) hx hb dX5_takeOne_88 (by decide) ?_
  refine lv_iand hx hb dX5_takeOne_91 ?_
  refine lv_iadd hx hb dX5_takeOne_92 ?_
  obtain ⟨σ13, g13, hf⟩ := zbu_use hf
  refine z_callVu (As := [.int v5, .int (v5 + (((zgi σ12 36 (3 : Int32).toNatClampNeg) + x1) &&& 255))]) (rest := []) hC hI (cX5_tellOfPort_met st l D ad cy σ12 v5 (v5 + (((zgi σ12 36 (3 : Int32).toNatClampNeg) + x1) &&& 255)) _ g13) (zgV zw27_1 zw27_2 zw27_3 zw2_21 zw27_4) rfl ⟨rfl, rfl⟩ 2 hdX5_tellOfPort ⟨Nat.le_of_ble_eq_true rfl, Nat.le_of_ble_eq_true rfl⟩ rfl rfl (wC_e7 ad cy σ12) rfl hl rfl (Nat.le_of_ble_eq_true rfl) dX5_takeOne_93 ⟨Nat.zero_le _, Nat.zero_le _⟩ (fun H locs hI => ?_)
  refine lv_aload_n hx hb dX5_takeOne_96 rfl (lv_at hl 1 rfl) ?_
  refine z_get hC hI hinX5_takeOne_X50 7 (wC_e7 ad cy σ13) rfl 2 (by decide) (List.mem_cons_of_mem _ zw7_5) rfl dX5_takeOne_97 ?_
  refine lv_iconst (v := 2) hx hb dX5_takeOne_100 (by decide) ?_
  obtain ⟨q, hf⟩ := zck_use hf
  refine z_iald hC hI 36 23 (wC_e36 ad cy σ13) (tC_t36 cy) q dX5_takeOne_101 ?_
  refine lv_if_eq (tgt := 109) hx hb dX5_takeOne_102 (by decide) (fun q => ?_) (fun q => ?_)
  · replace hf := zif_t q hf
    refine lv_iconst (v := 0) hx hb dX5_takeOne_109 (by decide) ?_
    exact bX5_takeOne_110 hC  hI (lv_sub hl [] rfl) hf
  replace hf := zif_f q hf
  refine lv_iconst (v := 1) hx hb dX5_takeOne_105 (by decide) ?_
  refine lv_goto (tgt := 110) hx hb dX5_takeOne_106 (by decide) ?_
  exact bX5_takeOne_110 hC  hI (lv_sub hl [] rfl) hf
set_option maxRecDepth 20000 in
theorem cX5_takeOne_met (st : Nat → Nat) (l : Launch) (D : va_G) (ad : Nat → Nat) (cy : Nat → ClassId) (σ : zSt) (x1 : Int32) (res : zSt × Int32) (hf : fX5_takeOne σ x1 = some res) (sz : Nat) : zMi st l yX5_takeOne wzX5_takeOne rmX5_takeOne [.ref (ad 7), .int x1] D (tC cy) (wC ad cy) sz σ res :=
  zMi.of (cc := cX5_takeOne) (maxL := 3) (ret := (some .boolean)) (by decide) rfl (Nat.le_of_ble_eq_true rfl) (fun p e s m args below meth c hC A hI ls hl => bX5_takeOne hC hI hl hf)
theorem hdX5_takeOne : yX5_takeOne.cls = RX5 ∧ yX5_takeOne.cls ≠ "java/lang/invoke/MethodHandle" ∧ yX5_takeOne.cls ≠ "java/lang/invoke/VarHandle" ∧ (parseMethodDescriptor yX5_takeOne.desc).map (fun d => d.parameters.length) = some 1 := by decide +kernel
noncomputable def rmX5_compareOne : Room := { frames := 2, cells := 0, slots := 0, locals := 47 }
noncomputable def wzX5_compareOne : List Cond := .code yX5_compareOne cX5_compareOne 7 (some .boolean) :: wsL_law
theorem hinX5_compareOne_X50 : ∀ w ∈ wsX50, w ∈ wzX5_compareOne := fun w h => List.mem_cons_of_mem _ (inlX5 w h)
noncomputable def fX5_compareOne_184  (σ : zSt) (s0 : Int32) : Option (zSt × Int32) :=
  zck (zbo s0) (some (σ, s0))
noncomputable def fX5_compareOne_183  (σ : zSt)  : Option (zSt × Int32) :=
  fX5_compareOne_184 σ 0
noncomputable def fX5_compareOne_166  (σ : zSt) (x3 : Int32) (x5 : Int32) (s0 : Int32) (s1 : Int32) (s2 : Int32) : Option (zSt × Int32) :=
  zck (zin s2 29) (zbv (zsi σ 36 (s2.toNatClampNeg) ((s1 ||| s0) ||| 2)) (fun σ1 =>
  if x5 = 0 then fX5_compareOne_183 σ1 else
  if x3 = 0 then fX5_compareOne_183 σ1 else
  fX5_compareOne_184 σ1 1))
noncomputable def fX5_compareOne_139  (σ : zSt) (x3 : Int32) (x4 : Int32) (x5 : Int32) (x6 : Int32) (s0 : Int32) (s1 : Int32) (s2 : Int32) : Option (zSt × Int32) :=
  if x5 = 0 then fX5_compareOne_166 σ x3 x5 0 ((((s1 ||| s0) ||| x4) ||| ((x6 &&& 2) <<< ((4 : Int32) &&& 31))) ||| (x6 &&& 8)) s2 else
  fX5_compareOne_166 σ x3 x5 4 ((((s1 ||| s0) ||| x4) ||| ((x6 &&& 2) <<< ((4 : Int32) &&& 31))) ||| (x6 &&& 8)) s2
noncomputable def fX5_compareOne_100  (σ : zSt) (x3 : Int32) (x4 : Int32) (s0 : Int32) : Option (zSt × Int32) :=
  zbv (x3 - (x4 >>> ((4 : Int32) &&& 31))) (fun v2 =>
  zck (zin 1 29) (
  if x3 = 0 then fX5_compareOne_139 σ x3 x4 s0 v2 64 (((zgi σ 36 (1 : Int32).toNatClampNeg) &&& 1) ||| (x3 &&& 128)) 1 else
  fX5_compareOne_139 σ x3 x4 s0 v2 0 (((zgi σ 36 (1 : Int32).toNatClampNeg) &&& 1) ||| (x3 &&& 128)) 1))
noncomputable def fX5_compareOne  (σ : zSt) (x1 : Int32) : Option (zSt × Int32) :=
  zbi (fX5_pairAt σ 6) (fun σ3 v4 =>
  zbi (fX2_read σ3 v4) (fun σ5 v6 =>
  zck (zin 0 29) (
  zbv (((zgi σ5 36 (0 : Int32).toNatClampNeg) - v6) &&& 255) (fun v7 =>
  zck (zin 0 29) (
  zbv ((((zgi σ5 36 (0 : Int32).toNatClampNeg) ^^^ v6) ^^^ v7) &&& 16) (fun v8 =>
  zbi (fX5_pairAt σ5 6) (fun σ9 v10 =>
  zbu (fX5_putPairAt σ9 6 (v10 + x1)) (fun σ11 =>
  zbi (fX5_pairAt σ11 2) (fun σ12 v13 =>
  zbu (fX5_putPairAt σ12 2 (v13 - 1)) (fun σ14 =>
  zck (zin 20 29) (
  zck (zin 20 29) (zbv (zsi σ14 36 ((20 : Int32).toNatClampNeg) (((zgi σ14 36 (20 : Int32).toNatClampNeg) + x1) &&& 65535)) (fun σ15 =>
  zbi (fX5_pairAt σ15 2) (fun σ16 v17 =>
  if v17 = 0 then fX5_compareOne_100 σ16 v7 v8 0 else
  fX5_compareOne_100 σ16 v7 v8 1))))))))))))))
set_option maxRecDepth 20000 in
set_option maxHeartbeats 4000000 in
theorem bX5_compareOne_184 {st : Nat → Nat} {p : Program} {l : Launch} {e : Env} {s : State} {m : MethodId} {args : Array Value} {below : List Frame} {meth : Method} {c : Code} {D : va_G} {A : Nat → Prop} {ad : Nat → Nat} {cy : Nat → ClassId} (hC : zC p m c cX5_compareOne 7 s args wzX5_compareOne RX5 meth (some .boolean))  {res : zSt × Int32} {H : Heap} {locs : List Loc} {σ : zSt} {ls : Array Slot} {s0 : Int32} (hI : zI st D (tC cy) (wC ad cy σ) A s H locs) (hl : lv_has ls 7 []) (hf : fX5_compareOne_184  σ s0 = some res) : W p l e rmX5_compareOne s m args below meth c H locs 0 0 (zQi below args s D (tC cy) (wC ad cy) A res) (F0 m 184 ls [.int s0]) := by
  have hx := hC.1
  have hb := hC.2.1
  unfold fX5_compareOne_184 at hf
  obtain ⟨q, hf⟩ := zck_use hf
  exact z_zreturn hC hI (zbo_n q) hf dX5_compareOne_184
set_option maxRecDepth 20000 in
set_option maxHeartbeats 4000000 in
theorem bX5_compareOne_183 {st : Nat → Nat} {p : Program} {l : Launch} {e : Env} {s : State} {m : MethodId} {args : Array Value} {below : List Frame} {meth : Method} {c : Code} {D : va_G} {A : Nat → Prop} {ad : Nat → Nat} {cy : Nat → ClassId} (hC : zC p m c cX5_compareOne 7 s args wzX5_compareOne RX5 meth (some .boolean))  {res : zSt × Int32} {H : Heap} {locs : List Loc} {σ : zSt} {ls : Array Slot}  (hI : zI st D (tC cy) (wC ad cy σ) A s H locs) (hl : lv_has ls 7 []) (hf : fX5_compareOne_183  σ  = some res) : W p l e rmX5_compareOne s m args below meth c H locs 0 0 (zQi below args s D (tC cy) (wC ad cy) A res) (F0 m 183 ls []) := by
  have hx := hC.1
  have hb := hC.2.1
  unfold fX5_compareOne_183 at hf
  refine lv_iconst (v := 0) hx hb dX5_compareOne_183 (by decide) ?_
  exact bX5_compareOne_184 hC  hI hl hf
set_option maxRecDepth 20000 in
set_option maxHeartbeats 4000000 in
theorem bX5_compareOne_166 {st : Nat → Nat} {p : Program} {l : Launch} {e : Env} {s : State} {m : MethodId} {args : Array Value} {below : List Frame} {meth : Method} {c : Code} {D : va_G} {A : Nat → Prop} {ad : Nat → Nat} {cy : Nat → ClassId} (hC : zC p m c cX5_compareOne 7 s args wzX5_compareOne RX5 meth (some .boolean))  {res : zSt × Int32} {H : Heap} {locs : List Loc} {σ : zSt} {ls : Array Slot} {x3 : Int32} {x5 : Int32} {s0 : Int32} {s1 : Int32} {s2 : Int32} (hI : zI st D (tC cy) (wC ad cy σ) A s H locs) (hl : lv_has ls 7 [(3, .int x3), (5, .int x5)]) (hf : fX5_compareOne_166  σ x3 x5 s0 s1 s2 = some res) : W p l e rmX5_compareOne s m args below meth c H locs 0 0 (zQi below args s D (tC cy) (wC ad cy) A res) (F0 m 166 ls [.int s0, .int s1, .int s2, .ref (ad 36)]) := by
  have hx := hC.1
  have hb := hC.2.1
  unfold fX5_compareOne_166 at hf
  refine lv_ior hx hb dX5_compareOne_166 ?_
  refine lv_iconst (v := 2) hx hb dX5_compareOne_167 (by decide) ?_
  refine lv_ior hx hb dX5_compareOne_168 ?_
  obtain ⟨q, hf⟩ := zck_use hf
  obtain ⟨σ1, eσ1⟩ : ∃ z, z = zsi σ 36 (s2.toNatClampNeg) ((s1 ||| s0) ||| 2) := ⟨_, rfl⟩
  replace hf := zbv_use eσ1 hf
  refine z_iast hC hI 36 23 (wC_e36 ad cy σ) (tC_t36 cy) q ((wC_s36 ad cy σ _ _).trans (congrArg (wC ad cy) eσ1.symm)) dX5_compareOne_169 (fun H locs hI => ?_)
  refine lv_iload hx hb dX5_compareOne_170 (lv_at hl 1 rfl) ?_
  refine lv_if_eq (tgt := 183) hx hb dX5_compareOne_172 (by decide) (fun q => ?_) (fun q => ?_)
  · replace hf := zif_t q hf
    exact bX5_compareOne_183 hC  hI (lv_sub hl [] rfl) hf
  replace hf := zif_f q hf
  refine lv_iload_n hx hb dX5_compareOne_175 rfl (lv_at hl 0 rfl) ?_
  refine lv_if_eq (tgt := 183) hx hb dX5_compareOne_176 (by decide) (fun q => ?_) (fun q => ?_)
  · replace hf := zif_t q hf
    exact bX5_compareOne_183 hC  hI (lv_sub hl [] rfl) hf
  replace hf := zif_f q hf
  refine lv_iconst (v := 1) hx hb dX5_compareOne_179 (by decide) ?_
  refine lv_goto (tgt := 184) hx hb dX5_compareOne_180 (by decide) ?_
  exact bX5_compareOne_184 hC  hI (lv_sub hl [] rfl) hf
set_option maxRecDepth 20000 in
set_option maxHeartbeats 4000000 in
theorem bX5_compareOne_139 {st : Nat → Nat} {p : Program} {l : Launch} {e : Env} {s : State} {m : MethodId} {args : Array Value} {below : List Frame} {meth : Method} {c : Code} {D : va_G} {A : Nat → Prop} {ad : Nat → Nat} {cy : Nat → ClassId} (hC : zC p m c cX5_compareOne 7 s args wzX5_compareOne RX5 meth (some .boolean))  {res : zSt × Int32} {H : Heap} {locs : List Loc} {σ : zSt} {ls : Array Slot} {x3 : Int32} {x4 : Int32} {x5 : Int32} {x6 : Int32} {s0 : Int32} {s1 : Int32} {s2 : Int32} (hI : zI st D (tC cy) (wC ad cy σ) A s H locs) (hl : lv_has ls 7 [(3, .int x3), (4, .int x4), (5, .int x5), (6, .int x6)]) (hf : fX5_compareOne_139  σ x3 x4 x5 x6 s0 s1 s2 = some res) : W p l e rmX5_compareOne s m args below meth c H locs 0 0 (zQi below args s D (tC cy) (wC ad cy) A res) (F0 m 139 ls [.int s0, .int s1, .int s2, .ref (ad 36)]) := by
  have hx := hC.1
  have hb := hC.2.1
  unfold fX5_compareOne_139 at hf
  refine lv_ior hx hb dX5_compareOne_139 ?_
  refine lv_iload hx hb dX5_compareOne_140 (lv_at hl 1 rfl) ?_
  refine lv_ior hx hb dX5_compareOne_142 ?_
  refine lv_iload hx hb dX5_compareOne_143 (lv_at hl 3 rfl) ?_
  refine lv_iconst (v := 2) hx hb dX5_compareOne_145 (by decide) ?_
  refine lv_iand hx hb dX5_compareOne_146 ?_
  refine lv_iconst (v := 4) hx hb dX5_compareOne_147 (by decide) ?_
  refine lv_ishl hx hb dX5_compareOne_148 ?_
  refine lv_ior hx hb dX5_compareOne_149 ?_
  refine lv_iload hx hb dX5_compareOne_150 (lv_at hl 3 rfl) ?_
  refine lv_bipush (v := 8) hx hb dX5_compareOne_152 (by decide) ?_
  refine lv_iand hx hb dX5_compareOne_154 ?_
  refine lv_ior hx hb dX5_compareOne_155 ?_
  refine lv_iload hx hb dX5_compareOne_156 (lv_at hl 2 rfl) ?_
  refine lv_if_eq (tgt := 165) hx hb dX5_compareOne_158 (by decide) (fun q => ?_) (fun q => ?_)
  · replace hf := zif_t q hf
    refine lv_iconst (v := 0) hx hb dX5_compareOne_165 (by decide) ?_
    exact bX5_compareOne_166 hC  hI (lv_sub hl [0, 2] rfl) hf
  replace hf := zif_f q hf
  refine lv_iconst (v := 4) hx hb dX5_compareOne_161 (by decide) ?_
  refine lv_goto (tgt := 166) hx hb dX5_compareOne_162 (by decide) ?_
  exact bX5_compareOne_166 hC  hI (lv_sub hl [0, 2] rfl) hf
set_option maxRecDepth 20000 in
set_option maxHeartbeats 4000000 in
theorem bX5_compareOne_100 {st : Nat → Nat} {p : Program} {l : Launch} {e : Env} {s : State} {m : MethodId} {args : Array Value} {below : List Frame} {meth : Method} {c : Code} {D : va_G} {A : Nat → Prop} {ad : Nat → Nat} {cy : Nat → ClassId} (hC : zC p m c cX5_compareOne 7 s args wzX5_compareOne RX5 meth (some .boolean))  {res : zSt × Int32} {H : Heap} {locs : List Loc} {σ : zSt} {ls : Array Slot} {x3 : Int32} {x4 : Int32} {s0 : Int32} (hI : zI st D (tC cy) (wC ad cy σ) A s H locs) (hl : lv_has ls 7 [(0, .ref (ad 7)), (3, .int x3), (4, .int x4)]) (hf : fX5_compareOne_100  σ x3 x4 s0 = some res) : W p l e rmX5_compareOne s m args below meth c H locs 0 0 (zQi below args s D (tC cy) (wC ad cy) A res) (F0 m 100 ls [.int s0]) := by
  have hx := hC.1
  have hb := hC.2.1
  unfold fX5_compareOne_100 at hf
  refine lv_istore (lv' := [(5, .int s0), (0, .ref (ad 7)), (3, .int x3), (4, .int x4)]) hx hb dX5_compareOne_100 hl (by decide) rfl (fun ls hl => ?_)
  refine lv_iload_n hx hb dX5_compareOne_102 rfl (lv_at hl 2 rfl) ?_
  refine lv_iload hx hb dX5_compareOne_103 (lv_at hl 3 rfl) ?_
  refine lv_iconst (v := 4) hx hb dX5_compareOne_105 (by decide) ?_
  refine lv_ishr hx hb dX5_compareOne_106 ?_
  refine lv_isub hx hb dX5_compareOne_107 ?_
  refine lv_topi (fun v2 ev2 => ?_)
  replace hf := zbv_use ev2 hf
  refine lv_istore (lv' := [(6, .int v2), (5, .int s0), (0, .ref (ad 7)), (3, .int x3), (4, .int x4)]) hx hb dX5_compareOne_108 hl (by decide) rfl (fun ls hl => ?_)
  refine lv_aload_n hx hb dX5_compareOne_110 rfl (lv_at hl 2 rfl) ?_
  refine z_get hC hI hinX5_compareOne_X50 7 (wC_e7 ad cy σ) rfl 2 (by decide) (List.mem_cons_of_mem _ zw7_5) rfl dX5_compareOne_111 ?_
  refine lv_iconst (v := 1) hx hb dX5_compareOne_114 (by decide) ?_
  refine lv_aload_n hx hb dX5_compareOne_115 rfl (lv_at hl 2 rfl) ?_
  refine z_get hC hI hinX5_compareOne_X50 7 (wC_e7 ad cy σ) rfl 2 (by decide) (List.mem_cons_of_mem _ zw7_5) rfl dX5_compareOne_116 ?_
  refine lv_iconst (v := 1) hx hb dX5_compareOne_119 (by decide) ?_
  obtain ⟨q, hf⟩ := zck_use hf
  refine z_iald hC hI 36 23 (wC_e36 ad cy σ) (tC_t36 cy) q dX5_compareOne_120 ?_
  refine lv_iconst (v := 1) hx hb dX5_compareOne_121 (by decide) ?_
  refine lv_iand hx hb dX5_compareOne_122 ?_
  refine lv_iload_n hx hb dX5_compareOne_123 rfl (lv_at hl 3 rfl) ?_
  refine lv_sipush (v := 128) hx hb dX5_compareOne_124 (by decide) ?_
  refine lv_iand hx hb dX5_compareOne_127 ?_
  refine lv_ior hx hb dX5_compareOne_128 ?_
  refine lv_iload_n hx hb dX5_compareOne_129 rfl (lv_at hl 3 rfl) ?_
  refine lv_if_ne (tgt := 138) hx hb dX5_compareOne_130 (by decide) (fun q => ?_) (fun q => ?_)
  · replace hf := zif_f q hf
    refine lv_iconst (v := 0) hx hb dX5_compareOne_138 (by decide) ?_
    exact bX5_compareOne_139 hC  hI (lv_sub hl [3, 4, 1, 0] rfl) hf
  replace hf := zif_t q hf
  refine lv_bipush (v := 64) hx hb dX5_compareOne_133 (by decide) ?_
  refine lv_goto (tgt := 139) hx hb dX5_compareOne_135 (by decide) ?_
  exact bX5_compareOne_139 hC  hI (lv_sub hl [3, 4, 1, 0] rfl) hf
set_option maxRecDepth 20000 in
set_option maxHeartbeats 4000000 in
theorem bX5_compareOne {st : Nat → Nat} {p : Program} {l : Launch} {e : Env} {s : State} {m : MethodId} {args : Array Value} {below : List Frame} {meth : Method} {c : Code} {D : va_G} {A : Nat → Prop} {ad : Nat → Nat} {cy : Nat → ClassId} (hC : zC p m c cX5_compareOne 7 s args wzX5_compareOne RX5 meth (some .boolean))  {res : zSt × Int32} {H : Heap} {locs : List Loc} {σ : zSt} {ls : Array Slot} {x1 : Int32} (hI : zI st D (tC cy) (wC ad cy σ) A s H locs) (hl : lv_has ls 7 [(0, .ref (ad 7)), (1, .int x1)]) (hf : fX5_compareOne  σ x1 = some res) : W p l e rmX5_compareOne s m args below meth c H locs 0 0 (zQi below args s D (tC cy) (wC ad cy) A res) (F0 m 0 ls []) := by
  have hx := hC.1
  have hb := hC.2.1
  unfold fX5_compareOne at hf
  refine lv_aload_n hx hb dX5_compareOne_0 rfl (lv_at hl 0 rfl) ?_
  refine z_get hC hI hinX5_compareOne_X50 7 (wC_e7 ad cy σ) rfl 0 (by decide) (List.mem_cons_of_mem _ zw7_8) rfl dX5_compareOne_1 ?_
  refine lv_aload_n hx hb dX5_compareOne_4 rfl (lv_at hl 0 rfl) ?_
  refine lv_bipush (v := 6) hx hb dX5_compareOne_5 (by decide) ?_
  obtain ⟨σ3, v4, g3, hf⟩ := zbi_use hf
  refine z_callVi (As := [.int 6]) (rest := [.ref (ad 1)]) hC hI (cX5_pairAt_met st l D ad cy σ 6 _ g3) (zgV zw21_15 zw21_16 zw21_17 zw2_21 zw21_18) rfl ⟨rfl, rfl⟩ 1 hdX5_pairAt ⟨Nat.le_of_ble_eq_true rfl, Nat.le_of_ble_eq_true rfl⟩ rfl rfl (wC_e7 ad cy σ) rfl hl rfl (Nat.le_of_ble_eq_true rfl) dX5_compareOne_7 ⟨Nat.zero_le _, Nat.zero_le _⟩ (fun H locs hI => ?_)
  obtain ⟨σ5, v6, g5, hf⟩ := zbi_use hf
  refine z_callVi (As := [.int v4]) (rest := []) hC hI (cX2_read_met st l D ad cy σ3 v4 _ g5) (zgV zw21_6 zw21_7 zw21_8 zw1_21 zw21_9) rfl ⟨rfl, rfl⟩ 1 hdX2_read ⟨Nat.le_of_ble_eq_true rfl, Nat.le_of_ble_eq_true rfl⟩ rfl rfl (wC_e1 ad cy σ3) rfl hl rfl (Nat.le_of_ble_eq_true rfl) dX5_compareOne_10 ⟨Nat.zero_le _, Nat.zero_le _⟩ (fun H locs hI => ?_)
  refine lv_istore_n (lv' := [(2, .int v6), (0, .ref (ad 7)), (1, .int x1)]) hx hb dX5_compareOne_13 rfl hl (by decide) rfl (fun ls hl => ?_)
  refine lv_aload_n hx hb dX5_compareOne_14 rfl (lv_at hl 1 rfl) ?_
  refine z_get hC hI hinX5_compareOne_X50 7 (wC_e7 ad cy σ5) rfl 2 (by decide) (List.mem_cons_of_mem _ zw7_5) rfl dX5_compareOne_15 ?_
  refine lv_iconst (v := 0) hx hb dX5_compareOne_18 (by decide) ?_
  obtain ⟨q, hf⟩ := zck_use hf
  refine z_iald hC hI 36 23 (wC_e36 ad cy σ5) (tC_t36 cy) q dX5_compareOne_19 ?_
  refine lv_iload_n hx hb dX5_compareOne_20 rfl (lv_at hl 0 rfl) ?_
  refine lv_isub hx hb dX5_compareOne_21 ?_
  refine lv_sipush (v := 255) hx hb dX5_compareOne_22 (by decide) ?_
  refine lv_iand hx hb dX5_compareOne_25 ?_
  refine lv_topi (fun v7 ev7 => ?_)
  replace hf := zbv_use ev7 hf
  refine lv_istore_n (lv' := [(3, .int v7), (2, .int v6), (0, .ref (ad 7)), (1, .int x1)]) hx hb dX5_compareOne_26 rfl hl (by decide) rfl (fun ls hl => ?_)
  refine lv_aload_n hx hb dX5_compareOne_27 rfl (lv_at hl 2 rfl) ?_
  refine z_get hC hI hinX5_compareOne_X50 7 (wC_e7 ad cy σ5) rfl 2 (by decide) (List.mem_cons_of_mem _ zw7_5) rfl dX5_compareOne_28 ?_
  refine lv_iconst (v := 0) hx hb dX5_compareOne_31 (by decide) ?_
  obtain ⟨q, hf⟩ := zck_use hf
  refine z_iald hC hI 36 23 (wC_e36 ad cy σ5) (tC_t36 cy) q dX5_compareOne_32 ?_
  refine lv_iload_n hx hb dX5_compareOne_33 rfl (lv_at hl 1 rfl) ?_
  refine lv_ixor hx hb dX5_compareOne_34 ?_
  refine lv_iload_n hx hb dX5_compareOne_35 rfl (lv_at hl 0 rfl) ?_
  refine lv_ixor hx hb dX5_compareOne_36 ?_
  refine lv_bipush (v := 16) hx hb dX5_compareOne_37 (by decide) ?_
  refine lv_iand hx hb dX5_compareOne_39 ?_
  refine lv_topi (fun v8 ev8 => ?_)
  replace hf := zbv_use ev8 hf
  refine lv_istore (lv' := [(4, .int v8), (3, .int v7), (2, .int v6), (0, .ref (ad 7)), (1, .int x1)]) hx hb dX5_compareOne_40 hl (by decide) rfl (fun ls hl => ?_)
  refine lv_aload_n hx hb dX5_compareOne_42 rfl (lv_at hl 3 rfl) ?_
  refine lv_bipush (v := 6) hx hb dX5_compareOne_43 (by decide) ?_
  refine lv_aload_n hx hb dX5_compareOne_45 rfl (lv_at hl 3 rfl) ?_
  refine lv_bipush (v := 6) hx hb dX5_compareOne_46 (by decide) ?_
  obtain ⟨σ9, v10, g9, hf⟩ := zbi_use hf
  refine z_callVi (As := [.int 6]) (rest := [.int 6, .ref (ad 7)]) hC hI (cX5_pairAt_met st l D ad cy σ5 6 _ g9) (zgV zw21_15 zw21_16 zw21_17 zw2_21 zw21_18) rfl ⟨rfl, rfl⟩ 1 hdX5_pairAt ⟨Nat.le_of_ble_eq_true rfl, Nat.le_of_ble_eq_true rfl⟩ rfl rfl (wC_e7 ad cy σ5) rfl hl rfl (Nat.le_of_ble_eq_true rfl) dX5_compareOne_48 ⟨Nat.zero_le _, Nat.zero_le _⟩ (fun H locs hI => ?_)
  refine lv_iload_n hx hb dX5_compareOne_51 rfl (lv_at hl 4 rfl) ?_
  refine lv_iadd hx hb dX5_compareOne_52 ?_
  obtain ⟨σ11, g11, hf⟩ := zbu_use hf
  refine z_callVu (As := [.int 6, .int (v10 + x1)]) (rest := []) hC hI (cX5_putPairAt_met st l D ad cy σ9 6 (v10 + x1) _ g11) (zgV zw24_16 zw24_17 zw24_18 zw2_21 zw24_19) rfl ⟨rfl, rfl⟩ 2 hdX5_putPairAt ⟨Nat.le_of_ble_eq_true rfl, Nat.le_of_ble_eq_true rfl⟩ rfl rfl (wC_e7 ad cy σ9) rfl hl rfl (Nat.le_of_ble_eq_true rfl) dX5_compareOne_53 ⟨Nat.zero_le _, Nat.zero_le _⟩ (fun H locs hI => ?_)
  refine lv_aload_n hx hb dX5_compareOne_56 rfl (lv_at hl 3 rfl) ?_
  refine lv_iconst (v := 2) hx hb dX5_compareOne_57 (by decide) ?_
  refine lv_aload_n hx hb dX5_compareOne_58 rfl (lv_at hl 3 rfl) ?_
  refine lv_iconst (v := 2) hx hb dX5_compareOne_59 (by decide) ?_
  obtain ⟨σ12, v13, g12, hf⟩ := zbi_use hf
  refine z_callVi (As := [.int 2]) (rest := [.int 2, .ref (ad 7)]) hC hI (cX5_pairAt_met st l D ad cy σ11 2 _ g12) (zgV zw21_15 zw21_16 zw21_17 zw2_21 zw21_18) rfl ⟨rfl, rfl⟩ 1 hdX5_pairAt ⟨Nat.le_of_ble_eq_true rfl, Nat.le_of_ble_eq_true rfl⟩ rfl rfl (wC_e7 ad cy σ11) rfl hl rfl (Nat.le_of_ble_eq_true rfl) dX5_compareOne_60 ⟨Nat.zero_le _, Nat.zero_le _⟩ (fun H locs hI => ?_)
  refine lv_iconst (v := 1) hx hb dX5_compareOne_63 (by decide) ?_
  refine lv_isub hx hb dX5_compareOne_64 ?_
  obtain ⟨σ14, g14, hf⟩ := zbu_use hf
  refine z_callVu (As := [.int 2, .int (v13 - 1)]) (rest := []) hC hI (cX5_putPairAt_met st l D ad cy σ12 2 (v13 - 1) _ g14) (zgV zw24_16 zw24_17 zw24_18 zw2_21 zw24_19) rfl ⟨rfl, rfl⟩ 2 hdX5_putPairAt ⟨Nat.le_of_ble_eq_true rfl, Nat.le_of_ble_eq_true rfl⟩ rfl rfl (wC_e7 ad cy σ12) rfl hl rfl (Nat.le_of_ble_eq_true rfl) dX5_compareOne_65 ⟨Nat.zero_le _, Nat.zero_le _⟩ (fun H locs hI => ?_)
  refine lv_aload_n hx hb dX5_compareOne_68 rfl (lv_at hl 3 rfl) ?_
  refine z_get hC hI hinX5_compareOne_X50 7 (wC_e7 ad cy σ14) rfl 2 (by decide) (List.mem_cons_of_mem _ zw7_5) rfl dX5_compareOne_69 ?_
  refine lv_bipush (v := 20) hx hb dX5_compareOne_72 (by decide) ?_
  refine lv_aload_n hx hb dX5_compareOne_74 rfl (lv_at hl 3 rfl) ?_
  refine z_get hC hI hinX5_compareOne_X50 7 (wC_e7 ad cy σ14) rfl 2 (by decide) (List.mem_cons_of_mem _ zw7_5) rfl dX5_compareOne_75 ?_
  refine lv_bipush (v := 20) hx hb dX5_compareOne_78 (by decide) ?_
  obtain ⟨q, hf⟩ := zck_use hf
  refine z_iald hC hI 36 23 (wC_e36 ad cy σ14) (tC_t36 cy) q dX5_compareOne_80 ?_
  refine lv_iload_n hx hb dX5_compareOne_81 rfl (lv_at hl 4 rfl) ?_
  refine lv_iadd hx hb dX5_compareOne_82 ?_
  refine lv_ldc (v := 65535) hx hb hC.2.2.2.1 (hC.2.2.2.2.1 _ (List.mem_cons_of_mem _ zw20_6)) dX5_compareOne_83 ?_
  refine lv_iand hx hb dX5_compareOne_85 ?_
  obtain ⟨q, hf⟩ := zck_use hf
  obtain ⟨σ15, eσ15⟩ : ∃ z, z = zsi σ14 36 ((20 : Int32).toNatClampNeg) (((zgi σ14 36 (20 : Int32).toNatClampNeg) + x1) &&& 65535) := ⟨_, rfl⟩
  replace hf := zbv_use eσ15 hf
  refine z_iast hC hI 36 23 (wC_e36 ad cy σ14) (tC_t36 cy) q ((wC_s36 ad cy σ14 _ _).trans (congrArg (wC ad cy) eσ15.symm)) dX5_compareOne_86 (fun H locs hI => ?_)
  refine lv_aload_n hx hb dX5_compareOne_87 rfl (lv_at hl 3 rfl) ?_
  refine lv_iconst (v := 2) hx hb dX5_compareOne_88 (by decide) ?_
  obtain ⟨σ16, v17, g16, hf⟩ := zbi_use hf
  refine z_callVi (As := [.int 2]) (rest := []) hC hI (cX5_pairAt_met st l D ad cy σ15 2 _ g16) (zgV zw21_15 zw21_16 zw21_17 zw2_21 zw21_18) rfl ⟨rfl, rfl⟩ 1 hdX5_pairAt ⟨Nat.le_of_ble_eq_true rfl, Nat.le_of_ble_eq_true rfl⟩ rfl rfl (wC_e7 ad cy σ15) rfl hl rfl (Nat.le_of_ble_eq_true rfl) dX5_compareOne_89 ⟨Nat.zero_le _, Nat.zero_le _⟩ (fun H locs hI => ?_)
  refine lv_if_eq (tgt := 99) hx hb dX5_compareOne_92 (by decide) (fun q => ?_) (fun q => ?_)
  · replace hf := zif_t q hf
    refine lv_iconst (v := 0) hx hb dX5_compareOne_99 (by decide) ?_
    exact bX5_compareOne_100 hC  hI (lv_sub hl [3, 1, 0] rfl) hf
  replace hf := zif_f q hf
  refine lv_iconst (v := 1) hx hb dX5_compareOne_95 (by decide) ?_
  refine lv_goto (tgt := 100) hx hb dX5_compareOne_96 (by decide) ?_
  exact bX5_compareOne_100 hC  hI (lv_sub hl [3, 1, 0] rfl) hf
set_option maxRecDepth 20000 in
theorem cX5_compareOne_met (st : Nat → Nat) (l : Launch) (D : va_G) (ad : Nat → Nat) (cy : Nat → ClassId) (σ : zSt) (x1 : Int32) (res : zSt × Int32) (hf : fX5_compareOne σ x1 = some res) (sz : Nat) : zMi st l yX5_compareOne wzX5_compareOne rmX5_compareOne [.ref (ad 7), .int x1] D (tC cy) (wC ad cy) sz σ res :=
  zMi.of (cc := cX5_compareOne) (maxL := 7) (ret := (some .boolean)) (by decide) rfl (Nat.le_of_ble_eq_true rfl) (fun p e s m args below meth c hC A hI ls hl => bX5_compareOne hC hI hl hf)
theorem hdX5_compareOne : yX5_compareOne.cls = RX5 ∧ yX5_compareOne.cls ≠ "java/lang/invoke/MethodHandle" ∧ yX5_compareOne.cls ≠ "java/lang/invoke/VarHandle" ∧ (parseMethodDescriptor yX5_compareOne.desc).map (fun d => d.parameters.length) = some 1 := by decide +kernel
noncomputable def rmX5_copyOne : Room := { frames := 2, cells := 0, slots := 0, locals := 47 }
noncomputable def wzX5_copyOne : List Cond := .code yX5_copyOne cX5_copyOne 5 (some .boolean) :: wsL_law
theorem hinX5_copyOne_X50 : ∀ w ∈ wsX50, w ∈ wzX5_copyOne := fun w h => List.mem_cons_of_mem _ (inlX5 w h)
noncomputable def fX5_copyOne_126  (σ : zSt) (x3 : Int32) (s0 : Int32) (s1 : Int32) (s2 : Int32) : Option (zSt × Int32) :=
  zck (zin s2 29) (zbv (zsi σ 36 (s2.toNatClampNeg) (s1 ||| s0)) (fun σ1 =>
  zck (zbo x3) (some (σ1, x3))))
noncomputable def fX5_copyOne_78  (σ : zSt) (x2 : Int32) (s0 : Int32) : Option (zSt × Int32) :=
  zck (zin 0 29) (
  zbv ((zgi σ 36 (0 : Int32).toNatClampNeg) + x2) (fun v2 =>
  zck (zin 1 29) (
  if s0 = 0 then fX5_copyOne_126 σ s0 0 ((((zgi σ 36 (1 : Int32).toNatClampNeg) &&& 193) ||| ((v2 &&& 2) <<< ((4 : Int32) &&& 31))) ||| (v2 &&& 8)) 1 else
  fX5_copyOne_126 σ s0 4 ((((zgi σ 36 (1 : Int32).toNatClampNeg) &&& 193) ||| ((v2 &&& 2) <<< ((4 : Int32) &&& 31))) ||| (v2 &&& 8)) 1)))
noncomputable def fX5_copyOne  (σ : zSt) (x1 : Int32) : Option (zSt × Int32) :=
  zbi (fX5_pairAt σ 6) (fun σ3 v4 =>
  zbi (fX2_read σ3 v4) (fun σ5 v6 =>
  zbi (fX5_pairAt σ5 4) (fun σ7 v8 =>
  zbu (fX2_write σ7 v8 v6) (fun σ9 =>
  zbi (fX5_pairAt σ9 6) (fun σ10 v11 =>
  zbu (fX5_putPairAt σ10 6 (v11 + x1)) (fun σ12 =>
  zbi (fX5_pairAt σ12 4) (fun σ13 v14 =>
  zbu (fX5_putPairAt σ13 4 (v14 + x1)) (fun σ15 =>
  zbi (fX5_pairAt σ15 2) (fun σ16 v17 =>
  zbu (fX5_putPairAt σ16 2 (v17 - 1)) (fun σ18 =>
  zbi (fX5_pairAt σ18 2) (fun σ19 v20 =>
  if v20 = 0 then fX5_copyOne_78 σ19 v6 0 else
  fX5_copyOne_78 σ19 v6 1)))))))))))
set_option maxRecDepth 20000 in
set_option maxHeartbeats 4000000 in
theorem bX5_copyOne_126 {st : Nat → Nat} {p : Program} {l : Launch} {e : Env} {s : State} {m : MethodId} {args : Array Value} {below : List Frame} {meth : Method} {c : Code} {D : va_G} {A : Nat → Prop} {ad : Nat → Nat} {cy : Nat → ClassId} (hC : zC p m c cX5_copyOne 5 s args wzX5_copyOne RX5 meth (some .boolean))  {res : zSt × Int32} {H : Heap} {locs : List Loc} {σ : zSt} {ls : Array Slot} {x3 : Int32} {s0 : Int32} {s1 : Int32} {s2 : Int32} (hI : zI st D (tC cy) (wC ad cy σ) A s H locs) (hl : lv_has ls 5 [(3, .int x3)]) (hf : fX5_copyOne_126  σ x3 s0 s1 s2 = some res) : W p l e rmX5_copyOne s m args below meth c H locs 0 0 (zQi below args s D (tC cy) (wC ad cy) A res) (F0 m 126 ls [.int s0, .int s1, .int s2, .ref (ad 36)]) := by
  have hx := hC.1
  have hb := hC.2.1
  unfold fX5_copyOne_126 at hf
  refine lv_ior hx hb dX5_copyOne_126 ?_
  obtain ⟨q, hf⟩ := zck_use hf
  obtain ⟨σ1, eσ1⟩ : ∃ z, z = zsi σ 36 (s2.toNatClampNeg) (s1 ||| s0) := ⟨_, rfl⟩
  replace hf := zbv_use eσ1 hf
  refine z_iast hC hI 36 23 (wC_e36 ad cy σ) (tC_t36 cy) q ((wC_s36 ad cy σ _ _).trans (congrArg (wC ad cy) eσ1.symm)) dX5_copyOne_127 (fun H locs hI => ?_)
  refine lv_iload_n hx hb dX5_copyOne_128 rfl (lv_at hl 0 rfl) ?_
  obtain ⟨q, hf⟩ := zck_use hf
  exact z_zreturn hC hI (zbo_n q) hf dX5_copyOne_129
set_option maxRecDepth 20000 in
set_option maxHeartbeats 4000000 in
theorem bX5_copyOne_78 {st : Nat → Nat} {p : Program} {l : Launch} {e : Env} {s : State} {m : MethodId} {args : Array Value} {below : List Frame} {meth : Method} {c : Code} {D : va_G} {A : Nat → Prop} {ad : Nat → Nat} {cy : Nat → ClassId} (hC : zC p m c cX5_copyOne 5 s args wzX5_copyOne RX5 meth (some .boolean))  {res : zSt × Int32} {H : Heap} {locs : List Loc} {σ : zSt} {ls : Array Slot} {x2 : Int32} {s0 : Int32} (hI : zI st D (tC cy) (wC ad cy σ) A s H locs) (hl : lv_has ls 5 [(0, .ref (ad 7)), (2, .int x2)]) (hf : fX5_copyOne_78  σ x2 s0 = some res) : W p l e rmX5_copyOne s m args below meth c H locs 0 0 (zQi below args s D (tC cy) (wC ad cy) A res) (F0 m 78 ls [.int s0]) := by
  have hx := hC.1
  have hb := hC.2.1
  unfold fX5_copyOne_78 at hf
  refine lv_istore_n (lv' := [(3, .int s0), (0, .ref (ad 7)), (2, .int x2)]) hx hb dX5_copyOne_78 rfl hl (by decide) rfl (fun ls hl => ?_)
  refine lv_aload_n hx hb dX5_copyOne_79 rfl (lv_at hl 1 rfl) ?_
  refine z_get hC hI hinX5_copyOne_X50 7 (wC_e7 ad cy σ) rfl 2 (by decide) (List.mem_cons_of_mem _ zw7_5) rfl dX5_copyOne_80 ?_
  refine lv_iconst (v := 0) hx hb dX5_copyOne_83 (by decide) ?_
  obtain ⟨q, hf⟩ := zck_use hf
  refine z_iald hC hI 36 23 (wC_e36 ad cy σ) (tC_t36 cy) q dX5_copyOne_84 ?_
  refine lv_iload_n hx hb dX5_copyOne_85 rfl (lv_at hl 2 rfl) ?_
  refine lv_iadd hx hb dX5_copyOne_86 ?_
  refine lv_topi (fun v2 ev2 => ?_)
  replace hf := zbv_use ev2 hf
  refine lv_istore (lv' := [(4, .int v2), (3, .int s0), (0, .ref (ad 7)), (2, .int x2)]) hx hb dX5_copyOne_87 hl (by decide) rfl (fun ls hl => ?_)
  refine lv_aload_n hx hb dX5_copyOne_89 rfl (lv_at hl 2 rfl) ?_
  refine z_get hC hI hinX5_copyOne_X50 7 (wC_e7 ad cy σ) rfl 2 (by decide) (List.mem_cons_of_mem _ zw7_5) rfl dX5_copyOne_90 ?_
  refine lv_iconst (v := 1) hx hb dX5_copyOne_93 (by decide) ?_
  refine lv_aload_n hx hb dX5_copyOne_94 rfl (lv_at hl 2 rfl) ?_
  refine z_get hC hI hinX5_copyOne_X50 7 (wC_e7 ad cy σ) rfl 2 (by decide) (List.mem_cons_of_mem _ zw7_5) rfl dX5_copyOne_95 ?_
  refine lv_iconst (v := 1) hx hb dX5_copyOne_98 (by decide) ?_
  obtain ⟨q, hf⟩ := zck_use hf
  refine z_iald hC hI 36 23 (wC_e36 ad cy σ) (tC_t36 cy) q dX5_copyOne_99 ?_
  refine lv_sipush (v := 193) hx hb dX5_copyOne_100 (by decide) ?_
  refine lv_iand hx hb dX5_copyOne_103 ?_
  refine lv_iload hx hb dX5_copyOne_104 (lv_at hl 0 rfl) ?_
  refine lv_iconst (v := 2) hx hb dX5_copyOne_106 (by decide) ?_
  refine lv_iand hx hb dX5_copyOne_107 ?_
  refine lv_iconst (v := 4) hx hb dX5_copyOne_108 (by decide) ?_
  refine lv_ishl hx hb dX5_copyOne_109 ?_
  refine lv_ior hx hb dX5_copyOne_110 ?_
  refine lv_iload hx hb dX5_copyOne_111 (lv_at hl 0 rfl) ?_
  refine lv_bipush (v := 8) hx hb dX5_copyOne_113 (by decide) ?_
  refine lv_iand hx hb dX5_copyOne_115 ?_
  refine lv_ior hx hb dX5_copyOne_116 ?_
  refine lv_iload_n hx hb dX5_copyOne_117 rfl (lv_at hl 1 rfl) ?_
  refine lv_if_eq (tgt := 125) hx hb dX5_copyOne_118 (by decide) (fun q => ?_) (fun q => ?_)
  · replace hf := zif_t q hf
    refine lv_iconst (v := 0) hx hb dX5_copyOne_125 (by decide) ?_
    exact bX5_copyOne_126 hC  hI (lv_sub hl [1] rfl) hf
  replace hf := zif_f q hf
  refine lv_iconst (v := 4) hx hb dX5_copyOne_121 (by decide) ?_
  refine lv_goto (tgt := 126) hx hb dX5_copyOne_122 (by decide) ?_
  exact bX5_copyOne_126 hC  hI (lv_sub hl [1] rfl) hf
set_option maxRecDepth 20000 in
set_option maxHeartbeats 4000000 in
theorem bX5_copyOne {st : Nat → Nat} {p : Program} {l : Launch} {e : Env} {s : State} {m : MethodId} {args : Array Value} {below : List Frame} {meth : Method} {c : Code} {D : va_G} {A : Nat → Prop} {ad : Nat → Nat} {cy : Nat → ClassId} (hC : zC p m c cX5_copyOne 5 s args wzX5_copyOne RX5 meth (some .boolean))  {res : zSt × Int32} {H : Heap} {locs : List Loc} {σ : zSt} {ls : Array Slot} {x1 : Int32} (hI : zI st D (tC cy) (wC ad cy σ) A s H locs) (hl : lv_has ls 5 [(0, .ref (ad 7)), (1, .int x1)]) (hf : fX5_copyOne  σ x1 = some res) : W p l e rmX5_copyOne s m args below meth c H locs 0 0 (zQi below args s D (tC cy) (wC ad cy) A res) (F0 m 0 ls []) := by
  have hx := hC.1
  have hb := hC.2.1
  unfold fX5_copyOne at hf
  refine lv_aload_n hx hb dX5_copyOne_0 rfl (lv_at hl 0 rfl) ?_
  refine z_get hC hI hinX5_copyOne_X50 7 (wC_e7 ad cy σ) rfl 0 (by decide) (List.mem_cons_of_mem _ zw7_8) rfl dX5_copyOne_1 ?_
  refine lv_aload_n hx hb dX5_copyOne_4 rfl (lv_at hl 0 rfl) ?_
  refine lv_bipush (v := 6) hx hb dX5_copyOne_5 (by decide) ?_
  obtain ⟨σ3, v4, g3, hf⟩ := zbi_use hf
  refine z_callVi (As := [.int 6]) (rest := [.ref (ad 1)]) hC hI (cX5_pairAt_met st l D ad cy σ 6 _ g3) (zgV zw21_15 zw21_16 zw21_17 zw2_21 zw21_18) rfl ⟨rfl, rfl⟩ 1 hdX5_pairAt ⟨Nat.le_of_ble_eq_true rfl, Nat.le_of_ble_eq_true rfl⟩ rfl rfl (wC_e7 ad cy σ) rfl hl rfl (Nat.le_of_ble_eq_true rfl) dX5_copyOne_7 ⟨Nat.zero_le _, Nat.zero_le _⟩ (fun H locs hI => ?_)
  obtain ⟨σ5, v6, g5, hf⟩ := zbi_use hf
  refine z_callVi (As := [.int v4]) (rest := []) hC hI (cX2_read_met st l D ad cy σ3 v4 _ g5) (zgV zw21_6 zw21_7 zw21_8 zw1_21 zw21_9) rfl ⟨rfl, rfl⟩ 1 hdX2_read ⟨Nat.le_of_ble_eq_true rfl, Nat.le_of_ble_eq_true rfl⟩ rfl rfl (wC_e1 ad cy σ3) rfl hl rfl (Nat.le_of_ble_eq_true rfl) dX5_copyOne_10 ⟨Nat.zero_le _, Nat.zero_le _⟩ (fun H locs hI => ?_)
  refine lv_istore_n (lv' := [(2, .int v6), (0, .ref (ad 7)), (1, .int x1)]) hx hb dX5_copyOne_13 rfl hl (by decide) rfl (fun ls hl => ?_)
  refine lv_aload_n hx hb dX5_copyOne_14 rfl (lv_at hl 1 rfl) ?_
  refine z_get hC hI hinX5_copyOne_X50 7 (wC_e7 ad cy σ5) rfl 0 (by decide) (List.mem_cons_of_mem _ zw7_8) rfl dX5_copyOne_15 ?_
  refine lv_aload_n hx hb dX5_copyOne_18 rfl (lv_at hl 1 rfl) ?_
  refine lv_iconst (v := 4) hx hb dX5_copyOne_19 (by decide) ?_
  obtain ⟨σ7, v8, g7, hf⟩ := zbi_use hf
  refine z_callVi (As := [.int 4]) (rest := [.ref (ad 1)]) hC hI (cX5_pairAt_met st l D ad cy σ5 4 _ g7) (zgV zw21_15 zw21_16 zw21_17 zw2_21 zw21_18) rfl ⟨rfl, rfl⟩ 1 hdX5_pairAt ⟨Nat.le_of_ble_eq_true rfl, Nat.le_of_ble_eq_true rfl⟩ rfl rfl (wC_e7 ad cy σ5) rfl hl rfl (Nat.le_of_ble_eq_true rfl) dX5_copyOne_20 ⟨Nat.zero_le _, Nat.zero_le _⟩ (fun H locs hI => ?_)
  refine lv_iload_n hx hb dX5_copyOne_23 rfl (lv_at hl 0 rfl) ?_
  obtain ⟨σ9, g9, hf⟩ := zbu_use hf
  refine z_callVu (As := [.int v8, .int v6]) (rest := []) hC hI (cX2_write_met st l D ad cy σ7 v8 v6 _ g9) (zgV zw20_7 zw20_8 zw20_9 zw1_21 zw20_10) rfl ⟨rfl, rfl⟩ 2 hdX2_write ⟨Nat.le_of_ble_eq_true rfl, Nat.le_of_ble_eq_true rfl⟩ rfl rfl (wC_e1 ad cy σ7) rfl hl rfl (Nat.le_of_ble_eq_true rfl) dX5_copyOne_24 ⟨Nat.zero_le _, Nat.zero_le _⟩ (fun H locs hI => ?_)
  refine lv_aload_n hx hb dX5_copyOne_27 rfl (lv_at hl 1 rfl) ?_
  refine lv_bipush (v := 6) hx hb dX5_copyOne_28 (by decide) ?_
  refine lv_aload_n hx hb dX5_copyOne_30 rfl (lv_at hl 1 rfl) ?_
  refine lv_bipush (v := 6) hx hb dX5_copyOne_31 (by decide) ?_
  obtain ⟨σ10, v11, g10, hf⟩ := zbi_use hf
  refine z_callVi (As := [.int 6]) (rest := [.int 6, .ref (ad 7)]) hC hI (cX5_pairAt_met st l D ad cy σ9 6 _ g10) (zgV zw21_15 zw21_16 zw21_17 zw2_21 zw21_18) rfl ⟨rfl, rfl⟩ 1 hdX5_pairAt ⟨Nat.le_of_ble_eq_true rfl, Nat.le_of_ble_eq_true rfl⟩ rfl rfl (wC_e7 ad cy σ9) rfl hl rfl (Nat.le_of_ble_eq_true rfl) dX5_copyOne_33 ⟨Nat.zero_le _, Nat.zero_le _⟩ (fun H locs hI => ?_)
  refine lv_iload_n hx hb dX5_copyOne_36 rfl (lv_at hl 2 rfl) ?_
  refine lv_iadd hx hb dX5_copyOne_37 ?_
  obtain ⟨σ12, g12, hf⟩ := zbu_use hf
  refine z_callVu (As := [.int 6, .int (v11 + x1)]) (rest := []) hC hI (cX5_putPairAt_met st l D ad cy σ10 6 (v11 + x1) _ g12) (zgV zw24_16 zw24_17 zw24_18 zw2_21 zw24_19) rfl ⟨rfl, rfl⟩ 2 hdX5_putPairAt ⟨Nat.le_of_ble_eq_true rfl, Nat.le_of_ble_eq_true rfl⟩ rfl rfl (wC_e7 ad cy σ10) rfl hl rfl (Nat.le_of_ble_eq_true rfl) dX5_copyOne_38 ⟨Nat.zero_le _, Nat.zero_le _⟩ (fun H locs hI => ?_)
  refine lv_aload_n hx hb dX5_copyOne_41 rfl (lv_at hl 1 rfl) ?_
  refine lv_iconst (v := 4) hx hb dX5_copyOne_42 (by decide) ?_
  refine lv_aload_n hx hb dX5_copyOne_43 rfl (lv_at hl 1 rfl) ?_
  refine lv_iconst (v := 4) hx hb dX5_copyOne_44 (by decide) ?_
  obtain ⟨σ13, v14, g13, hf⟩ := zbi_use hf
  refine z_callVi (As := [.int 4]) (rest := [.int 4, .ref (ad 7)]) hC hI (cX5_pairAt_met st l D ad cy σ12 4 _ g13) (zgV zw21_15 zw21_16 zw21_17 zw2_21 zw21_18) rfl ⟨rfl, rfl⟩ 1 hdX5_pairAt ⟨Nat.le_of_ble_eq_true rfl, Nat.le_of_ble_eq_true rfl⟩ rfl rfl (wC_e7 ad cy σ12) rfl hl rfl (Nat.le_of_ble_eq_true rfl) dX5_copyOne_45 ⟨Nat.zero_le _, Nat.zero_le _⟩ (fun H locs hI => ?_)
  refine lv_iload_n hx hb dX5_copyOne_48 rfl (lv_at hl 2 rfl) ?_
  refine lv_iadd hx hb dX5_copyOne_49 ?_
  obtain ⟨σ15, g15, hf⟩ := zbu_use hf
  refine z_callVu (As := [.int 4, .int (v14 + x1)]) (rest := []) hC hI (cX5_putPairAt_met st l D ad cy σ13 4 (v14 + x1) _ g15) (zgV zw24_16 zw24_17 zw24_18 zw2_21 zw24_19) rfl ⟨rfl, rfl⟩ 2 hdX5_putPairAt ⟨Nat.le_of_ble_eq_true rfl, Nat.le_of_ble_eq_true rfl⟩ rfl rfl (wC_e7 ad cy σ13) rfl hl rfl (Nat.le_of_ble_eq_true rfl) dX5_copyOne_50 ⟨Nat.zero_le _, Nat.zero_le _⟩ (fun H locs hI => ?_)
  refine lv_aload_n hx hb dX5_copyOne_53 rfl (lv_at hl 1 rfl) ?_
  refine lv_iconst (v := 2) hx hb dX5_copyOne_54 (by decide) ?_
  refine lv_aload_n hx hb dX5_copyOne_55 rfl (lv_at hl 1 rfl) ?_
  refine lv_iconst (v := 2) hx hb dX5_copyOne_56 (by decide) ?_
  obtain ⟨σ16, v17, g16, hf⟩ := zbi_use hf
  refine z_callVi (As := [.int 2]) (rest := [.int 2, .ref (ad 7)]) hC hI (cX5_pairAt_met st l D ad cy σ15 2 _ g16) (zgV zw21_15 zw21_16 zw21_17 zw2_21 zw21_18) rfl ⟨rfl, rfl⟩ 1 hdX5_pairAt ⟨Nat.le_of_ble_eq_true rfl, Nat.le_of_ble_eq_true rfl⟩ rfl rfl (wC_e7 ad cy σ15) rfl hl rfl (Nat.le_of_ble_eq_true rfl) dX5_copyOne_57 ⟨Nat.zero_le _, Nat.zero_le _⟩ (fun H locs hI => ?_)
  refine lv_iconst (v := 1) hx hb dX5_copyOne_60 (by decide) ?_
  refine lv_isub hx hb dX5_copyOne_61 ?_
  obtain ⟨σ18, g18, hf⟩ := zbu_use hf
  refine z_callVu (As := [.int 2, .int (v17 - 1)]) (rest := []) hC hI (cX5_putPairAt_met st l D ad cy σ16 2 (v17 - 1) _ g18) (zgV zw24_16 zw24_17 zw24_18 zw2_21 zw24_19) rfl ⟨rfl, rfl⟩ 2 hdX5_putPairAt ⟨Nat.le_of_ble_eq_true rfl, Nat.le_of_ble_eq_true rfl⟩ rfl rfl (wC_e7 ad cy σ16) rfl hl rfl (Nat.le_of_ble_eq_true rfl) dX5_copyOne_62 ⟨Nat.zero_le _, Nat.zero_le _⟩ (fun H locs hI => ?_)
  refine lv_aload_n hx hb dX5_copyOne_65 rfl (lv_at hl 1 rfl) ?_
  refine lv_iconst (v := 2) hx hb dX5_copyOne_66 (by decide) ?_
  obtain ⟨σ19, v20, g19, hf⟩ := zbi_use hf
  refine z_callVi (As := [.int 2]) (rest := []) hC hI (cX5_pairAt_met st l D ad cy σ18 2 _ g19) (zgV zw21_15 zw21_16 zw21_17 zw2_21 zw21_18) rfl ⟨rfl, rfl⟩ 1 hdX5_pairAt ⟨Nat.le_of_ble_eq_true rfl, Nat.le_of_ble_eq_true rfl⟩ rfl rfl (wC_e7 ad cy σ18) rfl hl rfl (Nat.le_of_ble_eq_true rfl) dX5_copyOne_67 ⟨Nat.zero_le _, Nat.zero_le _⟩ (fun H locs hI => ?_)
  refine lv_if_eq (tgt := 77) hx hb dX5_copyOne_70 (by decide) (fun q => ?_) (fun q => ?_)
  · replace hf := zif_t q hf
    refine lv_iconst (v := 0) hx hb dX5_copyOne_77 (by decide) ?_
    exact bX5_copyOne_78 hC  hI (lv_sub hl [1, 0] rfl) hf
  replace hf := zif_f q hf
  refine lv_iconst (v := 1) hx hb dX5_copyOne_73 (by decide) ?_
  refine lv_goto (tgt := 78) hx hb dX5_copyOne_74 (by decide) ?_
  exact bX5_copyOne_78 hC  hI (lv_sub hl [1, 0] rfl) hf
set_option maxRecDepth 20000 in
theorem cX5_copyOne_met (st : Nat → Nat) (l : Launch) (D : va_G) (ad : Nat → Nat) (cy : Nat → ClassId) (σ : zSt) (x1 : Int32) (res : zSt × Int32) (hf : fX5_copyOne σ x1 = some res) (sz : Nat) : zMi st l yX5_copyOne wzX5_copyOne rmX5_copyOne [.ref (ad 7), .int x1] D (tC cy) (wC ad cy) sz σ res :=
  zMi.of (cc := cX5_copyOne) (maxL := 5) (ret := (some .boolean)) (by decide) rfl (Nat.le_of_ble_eq_true rfl) (fun p e s m args below meth c hC A hI ls hl => bX5_copyOne hC hI hl hf)
theorem hdX5_copyOne : yX5_copyOne.cls = RX5 ∧ yX5_copyOne.cls ≠ "java/lang/invoke/MethodHandle" ∧ yX5_copyOne.cls ≠ "java/lang/invoke/VarHandle" ∧ (parseMethodDescriptor yX5_copyOne.desc).map (fun d => d.parameters.length) = some 1 := by decide +kernel
noncomputable def rmX5_block : Room := { frames := 4, cells := 0, slots := 0, locals := 91 }
noncomputable def wzX5_block : List Cond := .code yX5_block cX5_block 4 (some .int) :: wsL_law
theorem hinX5_block_X50 : ∀ w ∈ wsX50, w ∈ wzX5_block := fun w h => List.mem_cons_of_mem _ (inlX5 w h)
noncomputable def fX5_block_88  (σ : zSt)  : Option (zSt × Int32) :=
  some (σ, 16)
noncomputable def fX5_block_135  (σ : zSt)  : Option (zSt × Int32) :=
  some (σ, 21)
noncomputable def fX5_block_77  (σ : zSt) (x1 : Int32) (x3 : Int32) : Option (zSt × Int32) :=
  if x3 = 0 then fX5_block_88 σ else
  if (x1 &&& 16) = 0 then fX5_block_88 σ else
  zck (zin 19 29) (
  zck (zin 19 29) (zbv (zsi σ 36 ((19 : Int32).toNatClampNeg) (((zgi σ 36 (19 : Int32).toNatClampNeg) - 2) &&& 65535)) (fun σ1 =>
  if (x1 &&& 2) = 0 then zck (zin 19 29) (
  zck (zin 20 29) (zbv (zsi σ1 36 ((20 : Int32).toNatClampNeg) (((zgi σ1 36 (19 : Int32).toNatClampNeg) + 1) &&& 65535)) (fun σ2 =>
  fX5_block_135 σ2))) else
  fX5_block_135 σ1)))
noncomputable def fX5_block_12  (σ : zSt) (x1 : Int32) (s0 : Int32) : Option (zSt × Int32) :=
  if (x1 &&& 3) = 0 then zbi (fX5_copyOne σ s0) (fun σ3 v4 =>
  fX5_block_77 σ3 x1 v4) else
  if (x1 &&& 3) = 1 then zbi (fX5_compareOne σ s0) (fun σ5 v6 =>
  fX5_block_77 σ5 x1 v6) else
  if (x1 &&& 3) = 2 then zbi (fX5_takeOne σ s0) (fun σ7 v8 =>
  fX5_block_77 σ7 x1 v8) else
  zbi (fX5_giveOne σ s0) (fun σ9 v10 =>
  fX5_block_77 σ9 x1 v10)
noncomputable def fX5_block  (σ : zSt) (x1 : Int32) : Option (zSt × Int32) :=
  if (x1 &&& 8) = 0 then fX5_block_12 σ x1 1 else
  fX5_block_12 σ x1 (-1)
set_option maxRecDepth 20000 in
set_option maxHeartbeats 4000000 in
theorem bX5_block_88 {st : Nat → Nat} {p : Program} {l : Launch} {e : Env} {s : State} {m : MethodId} {args : Array Value} {below : List Frame} {meth : Method} {c : Code} {D : va_G} {A : Nat → Prop} {ad : Nat → Nat} {cy : Nat → ClassId} (hC : zC p m c cX5_block 4 s args wzX5_block RX5 meth (some .int))  {res : zSt × Int32} {H : Heap} {locs : List Loc} {σ : zSt} {ls : Array Slot}  (hI : zI st D (tC cy) (wC ad cy σ) A s H locs) (hl : lv_has ls 4 []) (hf : fX5_block_88  σ  = some res) : W p l e rmX5_block s m args below meth c H locs 0 0 (zQi below args s D (tC cy) (wC ad cy) A res) (F0 m 88 ls []) := by
  have hx := hC.1
  have hb := hC.2.1
  unfold fX5_block_88 at hf
  refine lv_bipush (v := 16) hx hb dX5_block_88 (by decide) ?_
  exact z_ireturn hC hI hf dX5_block_90
set_option maxRecDepth 20000 in
set_option maxHeartbeats 4000000 in
theorem bX5_block_135 {st : Nat → Nat} {p : Program} {l : Launch} {e : Env} {s : State} {m : MethodId} {args : Array Value} {below : List Frame} {meth : Method} {c : Code} {D : va_G} {A : Nat → Prop} {ad : Nat → Nat} {cy : Nat → ClassId} (hC : zC p m c cX5_block 4 s args wzX5_block RX5 meth (some .int))  {res : zSt × Int32} {H : Heap} {locs : List Loc} {σ : zSt} {ls : Array Slot}  (hI : zI st D (tC cy) (wC ad cy σ) A s H locs) (hl : lv_has ls 4 []) (hf : fX5_block_135  σ  = some res) : W p l e rmX5_block s m args below meth c H locs 0 0 (zQi below args s D (tC cy) (wC ad cy) A res) (F0 m 135 ls []) := by
  have hx := hC.1
  have hb := hC.2.1
  unfold fX5_block_135 at hf
  refine lv_bipush (v := 21) hx hb dX5_block_135 (by decide) ?_
  exact z_ireturn hC hI hf dX5_block_137
set_option maxRecDepth 20000 in
set_option maxHeartbeats 4000000 in
theorem bX5_block_77 {st : Nat → Nat} {p : Program} {l : Launch} {e : Env} {s : State} {m : MethodId} {args : Array Value} {below : List Frame} {meth : Method} {c : Code} {D : va_G} {A : Nat → Prop} {ad : Nat → Nat} {cy : Nat → ClassId} (hC : zC p m c cX5_block 4 s args wzX5_block RX5 meth (some .int))  {res : zSt × Int32} {H : Heap} {locs : List Loc} {σ : zSt} {ls : Array Slot} {x1 : Int32} {x3 : Int32} (hI : zI st D (tC cy) (wC ad cy σ) A s H locs) (hl : lv_has ls 4 [(0, .ref (ad 7)), (1, .int x1), (3, .int x3)]) (hf : fX5_block_77  σ x1 x3 = some res) : W p l e rmX5_block s m args below meth c H locs 0 0 (zQi below args s D (tC cy) (wC ad cy) A res) (F0 m 77 ls []) := by
  have hx := hC.1
  have hb := hC.2.1
  unfold fX5_block_77 at hf
  refine lv_iload_n hx hb dX5_block_77 rfl (lv_at hl 2 rfl) ?_
  refine lv_if_eq (tgt := 88) hx hb dX5_block_78 (by decide) (fun q => ?_) (fun q => ?_)
  · replace hf := zif_t q hf
    exact bX5_block_88 hC  hI (lv_sub hl [] rfl) hf
  replace hf := zif_f q hf
  refine lv_iload_n hx hb dX5_block_81 rfl (lv_at hl 1 rfl) ?_
  refine lv_bipush (v := 16) hx hb dX5_block_82 (by decide) ?_
  refine lv_iand hx hb dX5_block_84 ?_
  refine lv_if_ne (tgt := 91) hx hb dX5_block_85 (by decide) (fun q => ?_) (fun q => ?_)
  · replace hf := zif_f q hf
    refine lv_aload_n hx hb dX5_block_91 rfl (lv_at hl 0 rfl) ?_
    refine z_get hC hI hinX5_block_X50 7 (wC_e7 ad cy σ) rfl 2 (by decide) (List.mem_cons_of_mem _ zw7_5) rfl dX5_block_92 ?_
    refine lv_bipush (v := 19) hx hb dX5_block_95 (by decide) ?_
    refine lv_aload_n hx hb dX5_block_97 rfl (lv_at hl 0 rfl) ?_
    refine z_get hC hI hinX5_block_X50 7 (wC_e7 ad cy σ) rfl 2 (by decide) (List.mem_cons_of_mem _ zw7_5) rfl dX5_block_98 ?_
    refine lv_bipush (v := 19) hx hb dX5_block_101 (by decide) ?_
    obtain ⟨q, hf⟩ := zck_use hf
    refine z_iald hC hI 36 23 (wC_e36 ad cy σ) (tC_t36 cy) q dX5_block_103 ?_
    refine lv_iconst (v := 2) hx hb dX5_block_104 (by decide) ?_
    refine lv_isub hx hb dX5_block_105 ?_
    refine lv_ldc (v := 65535) hx hb hC.2.2.2.1 (hC.2.2.2.2.1 _ (List.mem_cons_of_mem _ zw20_6)) dX5_block_106 ?_
    refine lv_iand hx hb dX5_block_108 ?_
    obtain ⟨q, hf⟩ := zck_use hf
    obtain ⟨σ1, eσ1⟩ : ∃ z, z = zsi σ 36 ((19 : Int32).toNatClampNeg) (((zgi σ 36 (19 : Int32).toNatClampNeg) - 2) &&& 65535) := ⟨_, rfl⟩
    replace hf := zbv_use eσ1 hf
    refine z_iast hC hI 36 23 (wC_e36 ad cy σ) (tC_t36 cy) q ((wC_s36 ad cy σ _ _).trans (congrArg (wC ad cy) eσ1.symm)) dX5_block_109 (fun H locs hI => ?_)
    refine lv_iload_n hx hb dX5_block_110 rfl (lv_at hl 1 rfl) ?_
    refine lv_iconst (v := 2) hx hb dX5_block_111 (by decide) ?_
    refine lv_iand hx hb dX5_block_112 ?_
    refine lv_if_ne (tgt := 135) hx hb dX5_block_113 (by decide) (fun q => ?_) (fun q => ?_)
    · replace hf := zif_f q hf
      exact bX5_block_135 hC  hI (lv_sub hl [] rfl) hf
    replace hf := zif_t q hf
    refine lv_aload_n hx hb dX5_block_116 rfl (lv_at hl 0 rfl) ?_
    refine z_get hC hI hinX5_block_X50 7 (wC_e7 ad cy σ1) rfl 2 (by decide) (List.mem_cons_of_mem _ zw7_5) rfl dX5_block_117 ?_
    refine lv_bipush (v := 20) hx hb dX5_block_120 (by decide) ?_
    refine lv_aload_n hx hb dX5_block_122 rfl (lv_at hl 0 rfl) ?_
    refine z_get hC hI hinX5_block_X50 7 (wC_e7 ad cy σ1) rfl 2 (by decide) (List.mem_cons_of_mem _ zw7_5) rfl dX5_block_123 ?_
    refine lv_bipush (v := 19) hx hb dX5_block_126 (by decide) ?_
    obtain ⟨q, hf⟩ := zck_use hf
    refine z_iald hC hI 36 23 (wC_e36 ad cy σ1) (tC_t36 cy) q dX5_block_128 ?_
    refine lv_iconst (v := 1) hx hb dX5_block_129 (by decide) ?_
    refine lv_iadd hx hb dX5_block_130 ?_
    refine lv_ldc (v := 65535) hx hb hC.2.2.2.1 (hC.2.2.2.2.1 _ (List.mem_cons_of_mem _ zw20_6)) dX5_block_131 ?_
    refine lv_iand hx hb dX5_block_133 ?_
    obtain ⟨q, hf⟩ := zck_use hf
    obtain ⟨σ2, eσ2⟩ : ∃ z, z = zsi σ1 36 ((20 : Int32).toNatClampNeg) (((zgi σ1 36 (19 : Int32).toNatClampNeg) + 1) &&& 65535) := ⟨_, rfl⟩
    replace hf := zbv_use eσ2 hf
    refine z_iast hC hI 36 23 (wC_e36 ad cy σ1) (tC_t36 cy) q ((wC_s36 ad cy σ1 _ _).trans (congrArg (wC ad cy) eσ2.symm)) dX5_block_134 (fun H locs hI => ?_)
    exact bX5_block_135 hC  hI (lv_sub hl [] rfl) hf
  replace hf := zif_t q hf
  exact bX5_block_88 hC  hI (lv_sub hl [] rfl) hf
set_option maxRecDepth 20000 in
set_option maxHeartbeats 4000000 in
theorem bX5_block_12 {st : Nat → Nat} {p : Program} {l : Launch} {e : Env} {s : State} {m : MethodId} {args : Array Value} {below : List Frame} {meth : Method} {c : Code} {D : va_G} {A : Nat → Prop} {ad : Nat → Nat} {cy : Nat → ClassId} (hC : zC p m c cX5_block 4 s args wzX5_block RX5 meth (some .int))  {res : zSt × Int32} {H : Heap} {locs : List Loc} {σ : zSt} {ls : Array Slot} {x1 : Int32} {s0 : Int32} (hI : zI st D (tC cy) (wC ad cy σ) A s H locs) (hl : lv_has ls 4 [(0, .ref (ad 7)), (1, .int x1)]) (hf : fX5_block_12  σ x1 s0 = some res) : W p l e rmX5_block s m args below meth c H locs 0 0 (zQi below args s D (tC cy) (wC ad cy) A res) (F0 m 12 ls [.int s0]) := by
  have hx := hC.1
  have hb := hC.2.1
  unfold fX5_block_12 at hf
  refine lv_istore_n (lv' := [(2, .int s0), (0, .ref (ad 7)), (1, .int x1)]) hx hb dX5_block_12 rfl hl (by decide) rfl (fun ls hl => ?_)
  refine lv_iload_n hx hb dX5_block_13 rfl (lv_at hl 2 rfl) ?_
  refine lv_iconst (v := 3) hx hb dX5_block_14 (by decide) ?_
  refine lv_iand hx hb dX5_block_15 ?_
  by_cases q0 : (x1 &&& 3) = 0
  · replace hf := zif_t q0 hf
    refine lv_tableIn (tgt := 44) hx hb dX5_block_16 (by rw [q0]; decide) (by rw [q0]; decide) (by rw [q0]; rfl) (by decide) ?_
    refine lv_aload_n hx hb dX5_block_44 rfl (lv_at hl 1 rfl) ?_
    refine lv_iload_n hx hb dX5_block_45 rfl (lv_at hl 0 rfl) ?_
    obtain ⟨σ3, v4, g3, hf⟩ := zbi_use hf
    refine z_callVi (As := [.int s0]) (rest := []) hC hI (cX5_copyOne_met st l D ad cy σ s0 _ g3) (zgV zw24_12 zw24_13 zw24_14 zw2_21 zw24_15) rfl ⟨rfl, rfl⟩ 1 hdX5_copyOne ⟨Nat.le_of_ble_eq_true rfl, Nat.le_of_ble_eq_true rfl⟩ rfl rfl (wC_e7 ad cy σ) rfl hl rfl (Nat.le_of_ble_eq_true rfl) dX5_block_46 ⟨Nat.zero_le _, Nat.zero_le _⟩ (fun H locs hI => ?_)
    refine lv_istore_n (lv' := [(3, .int v4), (2, .int s0), (0, .ref (ad 7)), (1, .int x1)]) hx hb dX5_block_49 rfl hl (by decide) rfl (fun ls hl => ?_)
    refine lv_goto (tgt := 77) hx hb dX5_block_50 (by decide) ?_
    exact bX5_block_77 hC  hI (lv_sub hl [2, 3, 0] rfl) hf
  replace hf := zif_f q0 hf
  by_cases q1 : (x1 &&& 3) = 1
  · replace hf := zif_t q1 hf
    refine lv_tableIn (tgt := 53) hx hb dX5_block_16 (by rw [q1]; decide) (by rw [q1]; decide) (by rw [q1]; rfl) (by decide) ?_
    refine lv_aload_n hx hb dX5_block_53 rfl (lv_at hl 1 rfl) ?_
    refine lv_iload_n hx hb dX5_block_54 rfl (lv_at hl 0 rfl) ?_
    obtain ⟨σ5, v6, g5, hf⟩ := zbi_use hf
    refine z_callVi (As := [.int s0]) (rest := []) hC hI (cX5_compareOne_met st l D ad cy σ s0 _ g5) (zgV zw24_20 zw24_21 zw24_22 zw2_21 zw24_23) rfl ⟨rfl, rfl⟩ 1 hdX5_compareOne ⟨Nat.le_of_ble_eq_true rfl, Nat.le_of_ble_eq_true rfl⟩ rfl rfl (wC_e7 ad cy σ) rfl hl rfl (Nat.le_of_ble_eq_true rfl) dX5_block_55 ⟨Nat.zero_le _, Nat.zero_le _⟩ (fun H locs hI => ?_)
    refine lv_istore_n (lv' := [(3, .int v6), (2, .int s0), (0, .ref (ad 7)), (1, .int x1)]) hx hb dX5_block_58 rfl hl (by decide) rfl (fun ls hl => ?_)
    refine lv_goto (tgt := 77) hx hb dX5_block_59 (by decide) ?_
    exact bX5_block_77 hC  hI (lv_sub hl [2, 3, 0] rfl) hf
  replace hf := zif_f q1 hf
  by_cases q2 : (x1 &&& 3) = 2
  · replace hf := zif_t q2 hf
    refine lv_tableIn (tgt := 62) hx hb dX5_block_16 (by rw [q2]; decide) (by rw [q2]; decide) (by rw [q2]; rfl) (by decide) ?_
    refine lv_aload_n hx hb dX5_block_62 rfl (lv_at hl 1 rfl) ?_
    refine lv_iload_n hx hb dX5_block_63 rfl (lv_at hl 0 rfl) ?_
    obtain ⟨σ7, v8, g7, hf⟩ := zbi_use hf
    refine z_callVi (As := [.int s0]) (rest := []) hC hI (cX5_takeOne_met st l D ad cy σ s0 _ g7) (zgV zw25_0 zw25_1 zw25_2 zw2_21 zw25_3) rfl ⟨rfl, rfl⟩ 1 hdX5_takeOne ⟨Nat.le_of_ble_eq_true rfl, Nat.le_of_ble_eq_true rfl⟩ rfl rfl (wC_e7 ad cy σ) rfl hl rfl (Nat.le_of_ble_eq_true rfl) dX5_block_64 ⟨Nat.zero_le _, Nat.zero_le _⟩ (fun H locs hI => ?_)
    refine lv_istore_n (lv' := [(3, .int v8), (2, .int s0), (0, .ref (ad 7)), (1, .int x1)]) hx hb dX5_block_67 rfl hl (by decide) rfl (fun ls hl => ?_)
    refine lv_goto (tgt := 77) hx hb dX5_block_68 (by decide) ?_
    exact bX5_block_77 hC  hI (lv_sub hl [2, 3, 0] rfl) hf
  replace hf := zif_f q2 hf
  refine lv_tableOut (tgt := 71) hx hb dX5_block_16 (zsw (fun k h1 h2 => by rcases (show k = 0 ∨ k = 1 ∨ k = 2 by omega) with rfl | rfl | rfl <;> assumption)) (by decide) ?_
  refine lv_aload_n hx hb dX5_block_71 rfl (lv_at hl 1 rfl) ?_
  refine lv_iload_n hx hb dX5_block_72 rfl (lv_at hl 0 rfl) ?_
  obtain ⟨σ9, v10, g9, hf⟩ := zbi_use hf
  refine z_callVi (As := [.int s0]) (rest := []) hC hI (cX5_giveOne_met st l D ad cy σ s0 _ g9) (zgV zw27_5 zw27_6 zw27_7 zw2_21 zw27_8) rfl ⟨rfl, rfl⟩ 1 hdX5_giveOne ⟨Nat.le_of_ble_eq_true rfl, Nat.le_of_ble_eq_true rfl⟩ rfl rfl (wC_e7 ad cy σ) rfl hl rfl (Nat.le_of_ble_eq_true rfl) dX5_block_73 ⟨Nat.zero_le _, Nat.zero_le _⟩ (fun H locs hI => ?_)
  refine lv_istore_n (lv' := [(3, .int v10), (2, .int s0), (0, .ref (ad 7)), (1, .int x1)]) hx hb dX5_block_76 rfl hl (by decide) rfl (fun ls hl => ?_)
  exact bX5_block_77 hC  hI (lv_sub hl [2, 3, 0] rfl) hf
set_option maxRecDepth 20000 in
set_option maxHeartbeats 4000000 in
theorem bX5_block {st : Nat → Nat} {p : Program} {l : Launch} {e : Env} {s : State} {m : MethodId} {args : Array Value} {below : List Frame} {meth : Method} {c : Code} {D : va_G} {A : Nat → Prop} {ad : Nat → Nat} {cy : Nat → ClassId} (hC : zC p m c cX5_block 4 s args wzX5_block RX5 meth (some .int))  {res : zSt × Int32} {H : Heap} {locs : List Loc} {σ : zSt} {ls : Array Slot} {x1 : Int32} (hI : zI st D (tC cy) (wC ad cy σ) A s H locs) (hl : lv_has ls 4 [(0, .ref (ad 7)), (1, .int x1)]) (hf : fX5_block  σ x1 = some res) : W p l e rmX5_block s m args below meth c H locs 0 0 (zQi below args s D (tC cy) (wC ad cy) A res) (F0 m 0 ls []) := by
  have hx := hC.1
  have hb := hC.2.1
  unfold fX5_block at hf
  refine lv_iload_n hx hb dX5_block_0 rfl (lv_at hl 1 rfl) ?_
  refine lv_bipush (v := 8) hx hb dX5_block_1 (by decide) ?_
  refine lv_iand hx hb dX5_block_3 ?_
  refine lv_if_ne (tgt := 11) hx hb dX5_block_4 (by decide) (fun q => ?_) (fun q => ?_)
  · replace hf := zif_f q hf
    refine lv_iconst (v := (-1)) hx hb dX5_block_11 (by decide) ?_
    exact bX5_block_12 hC  hI hl hf
  replace hf := zif_t q hf
  refine lv_iconst (v := 1) hx hb dX5_block_7 (by decide) ?_
  refine lv_goto (tgt := 12) hx hb dX5_block_8 (by decide) ?_
  exact bX5_block_12 hC  hI hl hf
set_option maxRecDepth 20000 in
theorem cX5_block_met (st : Nat → Nat) (l : Launch) (D : va_G) (ad : Nat → Nat) (cy : Nat → ClassId) (σ : zSt) (x1 : Int32) (res : zSt × Int32) (hf : fX5_block σ x1 = some res) (sz : Nat) : zMi st l yX5_block wzX5_block rmX5_block [.ref (ad 7), .int x1] D (tC cy) (wC ad cy) sz σ res :=
  zMi.of (cc := cX5_block) (maxL := 4) (ret := (some .int)) (by decide) rfl (Nat.le_of_ble_eq_true rfl) (fun p e s m args below meth c hC A hI ls hl => bX5_block hC hI hl hf)
theorem hdX5_block : yX5_block.cls = RX5 ∧ yX5_block.cls ≠ "java/lang/invoke/MethodHandle" ∧ yX5_block.cls ≠ "java/lang/invoke/VarHandle" ∧ (parseMethodDescriptor yX5_block.desc).map (fun d => d.parameters.length) = some 1 := by decide +kernel
noncomputable def rmX5_turnDigits : Room := { frames := 2, cells := 0, slots := 0, locals := 47 }
noncomputable def wzX5_turnDigits : List Cond := .code yX5_turnDigits cX5_turnDigits 5 none :: wsL_law
theorem hinX5_turnDigits_X50 : ∀ w ∈ wsX50, w ∈ wzX5_turnDigits := fun w h => List.mem_cons_of_mem _ (inlX5 w h)
noncomputable def fX5_turnDigits_102  (σ : zSt) (s0 : Int32) (s1 : Int32) (s2 : Int32) : Option (zSt) :=
  zck (zin s2 29) (zbv (zsi σ 36 (s2.toNatClampNeg) (s1 ||| s0)) (fun σ1 =>
  zck (zin 1 29) (
  zck (zin 0 29) (
  zbi (fX5_by σ1 (zgi σ1 36 (0 : Int32).toNatClampNeg)) (fun σ2 v3 =>
  zck (zin 0 29) (
  zbi (fX5_parity σ2 (zgi σ2 36 (0 : Int32).toNatClampNeg)) (fun σ4 v5 =>
  zck (zin 1 29) (zbv (zsi σ4 36 ((1 : Int32).toNatClampNeg) ((((zgi σ1 36 (1 : Int32).toNatClampNeg) &&& 1) ||| v3) ||| v5)) (fun σ6 =>
  some σ6)))))))))
noncomputable def fX5_turnDigits_70  (σ : zSt) (x1 : Int32) (x3 : Int32) (s0 : Int32) (s1 : Int32) : Option (zSt) :=
  zbu (fX2_write σ s1 s0) (fun σ7 =>
  zck (zin 0 29) (
  if x1 = 0 then fX5_turnDigits_102 σ7 (x3 >>> ((4 : Int32) &&& 31)) ((zgi σ7 36 (0 : Int32).toNatClampNeg) &&& 240) 0 else
  fX5_turnDigits_102 σ7 (x3 &&& 15) ((zgi σ7 36 (0 : Int32).toNatClampNeg) &&& 240) 0))
noncomputable def fX5_turnDigits  (σ : zSt) (x1 : Int32) : Option (zSt) :=
  zbi (fX5_pairAt σ 6) (fun σ8 v9 =>
  zbi (fX2_read σ8 v9) (fun σ10 v11 =>
  zck (zin 0 29) (
  zbv ((zgi σ10 36 (0 : Int32).toNatClampNeg) &&& 15) (fun v12 =>
  zck (zin 20 29) (zbv (zsi σ10 36 ((20 : Int32).toNatClampNeg) ((v9 + 1) &&& 65535)) (fun σ13 =>
  if x1 = 0 then fX5_turnDigits_70 σ13 x1 v11 (((v11 <<< ((4 : Int32) &&& 31)) &&& 255) ||| v12) v9 else
  fX5_turnDigits_70 σ13 x1 v11 ((v12 <<< ((4 : Int32) &&& 31)) ||| (v11 >>> ((4 : Int32) &&& 31))) v9))))))
set_option maxRecDepth 20000 in
set_option maxHeartbeats 4000000 in
theorem bX5_turnDigits_102 {st : Nat → Nat} {p : Program} {l : Launch} {e : Env} {s : State} {m : MethodId} {args : Array Value} {below : List Frame} {meth : Method} {c : Code} {D : va_G} {A : Nat → Prop} {ad : Nat → Nat} {cy : Nat → ClassId} (hC : zC p m c cX5_turnDigits 5 s args wzX5_turnDigits RX5 meth none)  {res : zSt} {H : Heap} {locs : List Loc} {σ : zSt} {ls : Array Slot} {s0 : Int32} {s1 : Int32} {s2 : Int32} (hI : zI st D (tC cy) (wC ad cy σ) A s H locs) (hl : lv_has ls 5 [(0, .ref (ad 7))]) (hf : fX5_turnDigits_102  σ s0 s1 s2 = some res) : W p l e rmX5_turnDigits s m args below meth c H locs 0 0 (zQu below args s D (tC cy) (wC ad cy) A res) (F0 m 102 ls [.int s0, .int s1, .int s2, .ref (ad 36)]) := by
  have hx := hC.1
  have hb := hC.2.1
  unfold fX5_turnDigits_102 at hf
  refine lv_ior hx hb dX5_turnDigits_102 ?_
  obtain ⟨q, hf⟩ := zck_use hf
  obtain ⟨σ1, eσ1⟩ : ∃ z, z = zsi σ 36 (s2.toNatClampNeg) (s1 ||| s0) := ⟨_, rfl⟩
  replace hf := zbv_use eσ1 hf
  refine z_iast hC hI 36 23 (wC_e36 ad cy σ) (tC_t36 cy) q ((wC_s36 ad cy σ _ _).trans (congrArg (wC ad cy) eσ1.symm)) dX5_turnDigits_103 (fun H locs hI => ?_)
  refine lv_aload_n hx hb dX5_turnDigits_104 rfl (lv_at hl 0 rfl) ?_
  refine z_get hC hI hinX5_turnDigits_X50 7 (wC_e7 ad cy σ1) rfl 2 (by decide) (List.mem_cons_of_mem _ zw7_5) rfl dX5_turnDigits_105 ?_
  refine lv_iconst (v := 1) hx hb dX5_turnDigits_108 (by decide) ?_
  refine lv_aload_n hx hb dX5_turnDigits_109 rfl (lv_at hl 0 rfl) ?_
  refine z_get hC hI hinX5_turnDigits_X50 7 (wC_e7 ad cy σ1) rfl 2 (by decide) (List.mem_cons_of_mem _ zw7_5) rfl dX5_turnDigits_110 ?_
  refine lv_iconst (v := 1) hx hb dX5_turnDigits_113 (by decide) ?_
  obtain ⟨q, hf⟩ := zck_use hf
  refine z_iald hC hI 36 23 (wC_e36 ad cy σ1) (tC_t36 cy) q dX5_turnDigits_114 ?_
  refine lv_iconst (v := 1) hx hb dX5_turnDigits_115 (by decide) ?_
  refine lv_iand hx hb dX5_turnDigits_116 ?_
  refine lv_aload_n hx hb dX5_turnDigits_117 rfl (lv_at hl 0 rfl) ?_
  refine z_get hC hI hinX5_turnDigits_X50 7 (wC_e7 ad cy σ1) rfl 2 (by decide) (List.mem_cons_of_mem _ zw7_5) rfl dX5_turnDigits_118 ?_
  refine lv_iconst (v := 0) hx hb dX5_turnDigits_121 (by decide) ?_
  obtain ⟨q, hf⟩ := zck_use hf
  refine z_iald hC hI 36 23 (wC_e36 ad cy σ1) (tC_t36 cy) q dX5_turnDigits_122 ?_
  obtain ⟨σ2, v3, g2, hf⟩ := zbi_use hf
  refine z_callSi (As := [.int (zgi σ1 36 (0 : Int32).toNatClampNeg)]) (rest := [.int ((zgi σ1 36 (1 : Int32).toNatClampNeg) &&& 1), .int 1, .ref (ad 36)]) hC hI (cX5_by_met st l D ad cy σ1 (zgi σ1 36 (0 : Int32).toNatClampNeg) _ g2) (zgS zw22_19 zw22_20 zw2_21 zw22_21) rfl ⟨rfl, rfl⟩ 1 hdX5_by ⟨Nat.le_of_ble_eq_true rfl, Nat.le_of_ble_eq_true rfl⟩ rfl hl rfl (Nat.le_of_ble_eq_true rfl) dX5_turnDigits_123 ⟨Nat.zero_le _, Nat.zero_le _⟩ (fun H locs hI => ?_)
  refine lv_ior hx hb dX5_turnDigits_126 ?_
  refine lv_aload_n hx hb dX5_turnDigits_127 rfl (lv_at hl 0 rfl) ?_
  refine z_get hC hI hinX5_turnDigits_X50 7 (wC_e7 ad cy σ2) rfl 2 (by decide) (List.mem_cons_of_mem _ zw7_5) rfl dX5_turnDigits_128 ?_
  refine lv_iconst (v := 0) hx hb dX5_turnDigits_131 (by decide) ?_
  obtain ⟨q, hf⟩ := zck_use hf
  refine z_iald hC hI 36 23 (wC_e36 ad cy σ2) (tC_t36 cy) q dX5_turnDigits_132 ?_
  obtain ⟨σ4, v5, g4, hf⟩ := zbi_use hf
  refine z_callSi (As := [.int (zgi σ2 36 (0 : Int32).toNatClampNeg)]) (rest := [.int (((zgi σ1 36 (1 : Int32).toNatClampNeg) &&& 1) ||| v3), .int 1, .ref (ad 36)]) hC hI (cX5_parity_met st l D ad cy σ2 (zgi σ2 36 (0 : Int32).toNatClampNeg) _ g4) (zgS zw22_22 zw22_23 zw2_21 zw23_0) rfl ⟨rfl, rfl⟩ 1 hdX5_parity ⟨Nat.le_of_ble_eq_true rfl, Nat.le_of_ble_eq_true rfl⟩ rfl hl rfl (Nat.le_of_ble_eq_true rfl) dX5_turnDigits_133 ⟨Nat.zero_le _, Nat.zero_le _⟩ (fun H locs hI => ?_)
  refine lv_ior hx hb dX5_turnDigits_136 ?_
  obtain ⟨q, hf⟩ := zck_use hf
  obtain ⟨σ6, eσ6⟩ : ∃ z, z = zsi σ4 36 ((1 : Int32).toNatClampNeg) ((((zgi σ1 36 (1 : Int32).toNatClampNeg) &&& 1) ||| v3) ||| v5) := ⟨_, rfl⟩
  replace hf := zbv_use eσ6 hf
  refine z_iast hC hI 36 23 (wC_e36 ad cy σ4) (tC_t36 cy) q ((wC_s36 ad cy σ4 _ _).trans (congrArg (wC ad cy) eσ6.symm)) dX5_turnDigits_137 (fun H locs hI => ?_)
  exact z_return hC hI hf dX5_turnDigits_138
set_option maxRecDepth 20000 in
set_option maxHeartbeats 4000000 in
theorem bX5_turnDigits_70 {st : Nat → Nat} {p : Program} {l : Launch} {e : Env} {s : State} {m : MethodId} {args : Array Value} {below : List Frame} {meth : Method} {c : Code} {D : va_G} {A : Nat → Prop} {ad : Nat → Nat} {cy : Nat → ClassId} (hC : zC p m c cX5_turnDigits 5 s args wzX5_turnDigits RX5 meth none)  {res : zSt} {H : Heap} {locs : List Loc} {σ : zSt} {ls : Array Slot} {x1 : Int32} {x3 : Int32} {s0 : Int32} {s1 : Int32} (hI : zI st D (tC cy) (wC ad cy σ) A s H locs) (hl : lv_has ls 5 [(0, .ref (ad 7)), (1, .int x1), (3, .int x3)]) (hf : fX5_turnDigits_70  σ x1 x3 s0 s1 = some res) : W p l e rmX5_turnDigits s m args below meth c H locs 0 0 (zQu below args s D (tC cy) (wC ad cy) A res) (F0 m 70 ls [.int s0, .int s1, .ref (ad 1)]) := by
  have hx := hC.1
  have hb := hC.2.1
  unfold fX5_turnDigits_70 at hf
  obtain ⟨σ7, g7, hf⟩ := zbu_use hf
  refine z_callVu (As := [.int s1, .int s0]) (rest := []) hC hI (cX2_write_met st l D ad cy σ s1 s0 _ g7) (zgV zw20_7 zw20_8 zw20_9 zw1_21 zw20_10) rfl ⟨rfl, rfl⟩ 2 hdX2_write ⟨Nat.le_of_ble_eq_true rfl, Nat.le_of_ble_eq_true rfl⟩ rfl rfl (wC_e1 ad cy σ) rfl hl rfl (Nat.le_of_ble_eq_true rfl) dX5_turnDigits_70 ⟨Nat.zero_le _, Nat.zero_le _⟩ (fun H locs hI => ?_)
  refine lv_aload_n hx hb dX5_turnDigits_73 rfl (lv_at hl 0 rfl) ?_
  refine z_get hC hI hinX5_turnDigits_X50 7 (wC_e7 ad cy σ7) rfl 2 (by decide) (List.mem_cons_of_mem _ zw7_5) rfl dX5_turnDigits_74 ?_
  refine lv_iconst (v := 0) hx hb dX5_turnDigits_77 (by decide) ?_
  refine lv_aload_n hx hb dX5_turnDigits_78 rfl (lv_at hl 0 rfl) ?_
  refine z_get hC hI hinX5_turnDigits_X50 7 (wC_e7 ad cy σ7) rfl 2 (by decide) (List.mem_cons_of_mem _ zw7_5) rfl dX5_turnDigits_79 ?_
  refine lv_iconst (v := 0) hx hb dX5_turnDigits_82 (by decide) ?_
  obtain ⟨q, hf⟩ := zck_use hf
  refine z_iald hC hI 36 23 (wC_e36 ad cy σ7) (tC_t36 cy) q dX5_turnDigits_83 ?_
  refine lv_sipush (v := 240) hx hb dX5_turnDigits_84 (by decide) ?_
  refine lv_iand hx hb dX5_turnDigits_87 ?_
  refine lv_iload_n hx hb dX5_turnDigits_88 rfl (lv_at hl 1 rfl) ?_
  refine lv_if_eq (tgt := 99) hx hb dX5_turnDigits_89 (by decide) (fun q => ?_) (fun q => ?_)
  · replace hf := zif_t q hf
    refine lv_iload_n hx hb dX5_turnDigits_99 rfl (lv_at hl 2 rfl) ?_
    refine lv_iconst (v := 4) hx hb dX5_turnDigits_100 (by decide) ?_
    refine lv_ishr hx hb dX5_turnDigits_101 ?_
    exact bX5_turnDigits_102 hC  hI (lv_sub hl [0] rfl) hf
  replace hf := zif_f q hf
  refine lv_iload_n hx hb dX5_turnDigits_92 rfl (lv_at hl 2 rfl) ?_
  refine lv_bipush (v := 15) hx hb dX5_turnDigits_93 (by decide) ?_
  refine lv_iand hx hb dX5_turnDigits_95 ?_
  refine lv_goto (tgt := 102) hx hb dX5_turnDigits_96 (by decide) ?_
  exact bX5_turnDigits_102 hC  hI (lv_sub hl [0] rfl) hf
set_option maxRecDepth 20000 in
set_option maxHeartbeats 4000000 in
theorem bX5_turnDigits {st : Nat → Nat} {p : Program} {l : Launch} {e : Env} {s : State} {m : MethodId} {args : Array Value} {below : List Frame} {meth : Method} {c : Code} {D : va_G} {A : Nat → Prop} {ad : Nat → Nat} {cy : Nat → ClassId} (hC : zC p m c cX5_turnDigits 5 s args wzX5_turnDigits RX5 meth none)  {res : zSt} {H : Heap} {locs : List Loc} {σ : zSt} {ls : Array Slot} {x1 : Int32} (hI : zI st D (tC cy) (wC ad cy σ) A s H locs) (hl : lv_has ls 5 [(0, .ref (ad 7)), (1, .int x1)]) (hf : fX5_turnDigits  σ x1 = some res) : W p l e rmX5_turnDigits s m args below meth c H locs 0 0 (zQu below args s D (tC cy) (wC ad cy) A res) (F0 m 0 ls []) := by
  have hx := hC.1
  have hb := hC.2.1
  unfold fX5_turnDigits at hf
  refine lv_aload_n hx hb dX5_turnDigits_0 rfl (lv_at hl 0 rfl) ?_
  refine lv_bipush (v := 6) hx hb dX5_turnDigits_1 (by decide) ?_
  obtain ⟨σ8, v9, g8, hf⟩ := zbi_use hf
  refine z_callVi (As := [.int 6]) (rest := []) hC hI (cX5_pairAt_met st l D ad cy σ 6 _ g8) (zgV zw21_15 zw21_16 zw21_17 zw2_21 zw21_18) rfl ⟨rfl, rfl⟩ 1 hdX5_pairAt ⟨Nat.le_of_ble_eq_true rfl, Nat.le_of_ble_eq_true rfl⟩ rfl rfl (wC_e7 ad cy σ) rfl hl rfl (Nat.le_of_ble_eq_true rfl) dX5_turnDigits_3 ⟨Nat.zero_le _, Nat.zero_le _⟩ (fun H locs hI => ?_)
  refine lv_istore_n (lv' := [(2, .int v9), (0, .ref (ad 7)), (1, .int x1)]) hx hb dX5_turnDigits_6 rfl hl (by decide) rfl (fun ls hl => ?_)
  refine lv_aload_n hx hb dX5_turnDigits_7 rfl (lv_at hl 1 rfl) ?_
  refine z_get hC hI hinX5_turnDigits_X50 7 (wC_e7 ad cy σ8) rfl 0 (by decide) (List.mem_cons_of_mem _ zw7_8) rfl dX5_turnDigits_8 ?_
  refine lv_iload_n hx hb dX5_turnDigits_11 rfl (lv_at hl 0 rfl) ?_
  obtain ⟨σ10, v11, g10, hf⟩ := zbi_use hf
  refine z_callVi (As := [.int v9]) (rest := []) hC hI (cX2_read_met st l D ad cy σ8 v9 _ g10) (zgV zw21_6 zw21_7 zw21_8 zw1_21 zw21_9) rfl ⟨rfl, rfl⟩ 1 hdX2_read ⟨Nat.le_of_ble_eq_true rfl, Nat.le_of_ble_eq_true rfl⟩ rfl rfl (wC_e1 ad cy σ8) rfl hl rfl (Nat.le_of_ble_eq_true rfl) dX5_turnDigits_12 ⟨Nat.zero_le _, Nat.zero_le _⟩ (fun H locs hI => ?_)
  refine lv_istore_n (lv' := [(3, .int v11), (2, .int v9), (0, .ref (ad 7)), (1, .int x1)]) hx hb dX5_turnDigits_15 rfl hl (by decide) rfl (fun ls hl => ?_)
  refine lv_aload_n hx hb dX5_turnDigits_16 rfl (lv_at hl 2 rfl) ?_
  refine z_get hC hI hinX5_turnDigits_X50 7 (wC_e7 ad cy σ10) rfl 2 (by decide) (List.mem_cons_of_mem _ zw7_5) rfl dX5_turnDigits_17 ?_
  refine lv_iconst (v := 0) hx hb dX5_turnDigits_20 (by decide) ?_
  obtain ⟨q, hf⟩ := zck_use hf
  refine z_iald hC hI 36 23 (wC_e36 ad cy σ10) (tC_t36 cy) q dX5_turnDigits_21 ?_
  refine lv_bipush (v := 15) hx hb dX5_turnDigits_22 (by decide) ?_
  refine lv_iand hx hb dX5_turnDigits_24 ?_
  refine lv_topi (fun v12 ev12 => ?_)
  replace hf := zbv_use ev12 hf
  refine lv_istore (lv' := [(4, .int v12), (3, .int v11), (2, .int v9), (0, .ref (ad 7)), (1, .int x1)]) hx hb dX5_turnDigits_25 hl (by decide) rfl (fun ls hl => ?_)
  refine lv_aload_n hx hb dX5_turnDigits_27 rfl (lv_at hl 3 rfl) ?_
  refine z_get hC hI hinX5_turnDigits_X50 7 (wC_e7 ad cy σ10) rfl 2 (by decide) (List.mem_cons_of_mem _ zw7_5) rfl dX5_turnDigits_28 ?_
  refine lv_bipush (v := 20) hx hb dX5_turnDigits_31 (by decide) ?_
  refine lv_iload_n hx hb dX5_turnDigits_33 rfl (lv_at hl 2 rfl) ?_
  refine lv_iconst (v := 1) hx hb dX5_turnDigits_34 (by decide) ?_
  refine lv_iadd hx hb dX5_turnDigits_35 ?_
  refine lv_ldc (v := 65535) hx hb hC.2.2.2.1 (hC.2.2.2.2.1 _ (List.mem_cons_of_mem _ zw20_6)) dX5_turnDigits_36 ?_
  refine lv_iand hx hb dX5_turnDigits_38 ?_
  obtain ⟨q, hf⟩ := zck_use hf
  obtain ⟨σ13, eσ13⟩ : ∃ z, z = zsi σ10 36 ((20 : Int32).toNatClampNeg) ((v9 + 1) &&& 65535) := ⟨_, rfl⟩
  replace hf := zbv_use eσ13 hf
  refine z_iast hC hI 36 23 (wC_e36 ad cy σ10) (tC_t36 cy) q ((wC_s36 ad cy σ10 _ _).trans (congrArg (wC ad cy) eσ13.symm)) dX5_turnDigits_39 (fun H locs hI => ?_)
  refine lv_aload_n hx hb dX5_turnDigits_40 rfl (lv_at hl 3 rfl) ?_
  refine z_get hC hI hinX5_turnDigits_X50 7 (wC_e7 ad cy σ13) rfl 0 (by decide) (List.mem_cons_of_mem _ zw7_8) rfl dX5_turnDigits_41 ?_
  refine lv_iload_n hx hb dX5_turnDigits_44 rfl (lv_at hl 2 rfl) ?_
  refine lv_iload_n hx hb dX5_turnDigits_45 rfl (lv_at hl 4 rfl) ?_
  refine lv_if_eq (tgt := 60) hx hb dX5_turnDigits_46 (by decide) (fun q => ?_) (fun q => ?_)
  · replace hf := zif_t q hf
    refine lv_iload_n hx hb dX5_turnDigits_60 rfl (lv_at hl 1 rfl) ?_
    refine lv_iconst (v := 4) hx hb dX5_turnDigits_61 (by decide) ?_
    refine lv_ishl hx hb dX5_turnDigits_62 ?_
    refine lv_sipush (v := 255) hx hb dX5_turnDigits_63 (by decide) ?_
    refine lv_iand hx hb dX5_turnDigits_66 ?_
    refine lv_iload hx hb dX5_turnDigits_67 (lv_at hl 0 rfl) ?_
    refine lv_ior hx hb dX5_turnDigits_69 ?_
    exact bX5_turnDigits_70 hC  hI (lv_sub hl [3, 4, 1] rfl) hf
  replace hf := zif_f q hf
  refine lv_iload hx hb dX5_turnDigits_49 (lv_at hl 0 rfl) ?_
  refine lv_iconst (v := 4) hx hb dX5_turnDigits_51 (by decide) ?_
  refine lv_ishl hx hb dX5_turnDigits_52 ?_
  refine lv_iload_n hx hb dX5_turnDigits_53 rfl (lv_at hl 1 rfl) ?_
  refine lv_iconst (v := 4) hx hb dX5_turnDigits_54 (by decide) ?_
  refine lv_ishr hx hb dX5_turnDigits_55 ?_
  refine lv_ior hx hb dX5_turnDigits_56 ?_
  refine lv_goto (tgt := 70) hx hb dX5_turnDigits_57 (by decide) ?_
  exact bX5_turnDigits_70 hC  hI (lv_sub hl [3, 4, 1] rfl) hf
set_option maxRecDepth 20000 in
theorem cX5_turnDigits_met (st : Nat → Nat) (l : Launch) (D : va_G) (ad : Nat → Nat) (cy : Nat → ClassId) (σ : zSt) (x1 : Int32) (res : zSt) (hf : fX5_turnDigits σ x1 = some res) (sz : Nat) : zMu st l yX5_turnDigits wzX5_turnDigits rmX5_turnDigits [.ref (ad 7), .int x1] D (tC cy) (wC ad cy) sz σ res :=
  zMu.of (cc := cX5_turnDigits) (maxL := 5) (ret := none) (by decide) rfl (Nat.le_of_ble_eq_true rfl) (fun p e s m args below meth c hC A hI ls hl => bX5_turnDigits hC hI hl hf)
theorem hdX5_turnDigits : yX5_turnDigits.cls = RX5 ∧ yX5_turnDigits.cls ≠ "java/lang/invoke/MethodHandle" ∧ yX5_turnDigits.cls ≠ "java/lang/invoke/VarHandle" ∧ (parseMethodDescriptor yX5_turnDigits.desc).map (fun d => d.parameters.length) = some 1 := by decide +kernel
noncomputable def rmX5_moreOfA : Room := { frames := 3, cells := 0, slots := 0, locals := 71 }
noncomputable def wzX5_moreOfA : List Cond := .code yX5_moreOfA cX5_moreOfA 2 (some .int) :: wsL_law
theorem hinX5_moreOfA_X50 : ∀ w ∈ wsX50, w ∈ wzX5_moreOfA := fun w h => List.mem_cons_of_mem _ (inlX5 w h)
noncomputable def fX5_moreOfA_139  (σ : zSt) (s0 : Int32) (s1 : Int32) (s2 : Int32) : Option (zSt × Int32) :=
  zck (zin s2 29) (zbv (zsi σ 36 (s2.toNatClampNeg) (s1 ||| s0)) (fun σ1 =>
  some (σ1, 9)))
noncomputable def fX5_moreOfA_99  (σ : zSt) (s0 : Int32) (s1 : Int32) : Option (zSt × Int32) :=
  zck (zin s1 29) (zbv (zsi σ 36 (s1.toNatClampNeg) s0) (fun σ2 =>
  zck (zin 1 29) (
  zck (zin 0 29) (
  zbi (fX5_by σ2 (zgi σ2 36 (0 : Int32).toNatClampNeg)) (fun σ3 v4 =>
  zck (zin 24 29) (
  if (zgi σ3 36 (24 : Int32).toNatClampNeg) = 1 then fX5_moreOfA_139 σ3 4 (((zgi σ2 36 (1 : Int32).toNatClampNeg) &&& 1) ||| v4) 1 else
  fX5_moreOfA_139 σ3 0 (((zgi σ2 36 (1 : Int32).toNatClampNeg) &&& 1) ||| v4) 1))))))
noncomputable def fX5_moreOfA_72  (σ : zSt) (x1 : Int32) : Option (zSt × Int32) :=
  if x1 = 2 then zck (zin 21 29) (
  fX5_moreOfA_99 σ (zgi σ 36 (21 : Int32).toNatClampNeg) 0) else
  zck (zin 22 29) (
  fX5_moreOfA_99 σ (zgi σ 36 (22 : Int32).toNatClampNeg) 0)
noncomputable def fX5_moreOfA_155  (σ : zSt) (s0 : Int32) : Option (zSt × Int32) :=
  zbu (fX5_turnDigits σ s0) (fun σ5 =>
  some (σ5, 18))
noncomputable def fX5_moreOfA_144  (σ : zSt) (x1 : Int32) : Option (zSt × Int32) :=
  if x1 = 4 then fX5_moreOfA_155 σ 1 else
  fX5_moreOfA_155 σ 0
noncomputable def fX5_moreOfA  (σ : zSt) (x1 : Int32) : Option (zSt × Int32) :=
  if x1 = 0 then zck (zin 0 29) (
  zck (zin 21 29) (zbv (zsi σ 36 ((21 : Int32).toNatClampNeg) (zgi σ 36 (0 : Int32).toNatClampNeg)) (fun σ6 =>
  some (σ6, 9)))) else
  if x1 = 1 then zck (zin 0 29) (
  zck (zin 22 29) (zbv (zsi σ 36 ((22 : Int32).toNatClampNeg) (zgi σ 36 (0 : Int32).toNatClampNeg)) (fun σ7 =>
  some (σ7, 9)))) else
  if x1 = 2 then fX5_moreOfA_72 σ x1 else
  if x1 = 3 then fX5_moreOfA_72 σ x1 else
  if x1 = 4 then fX5_moreOfA_144 σ x1 else
  if x1 = 5 then fX5_moreOfA_144 σ x1 else
  some (σ, 8)
set_option maxRecDepth 20000 in
set_option maxHeartbeats 4000000 in
theorem bX5_moreOfA_139 {st : Nat → Nat} {p : Program} {l : Launch} {e : Env} {s : State} {m : MethodId} {args : Array Value} {below : List Frame} {meth : Method} {c : Code} {D : va_G} {A : Nat → Prop} {ad : Nat → Nat} {cy : Nat → ClassId} (hC : zC p m c cX5_moreOfA 2 s args wzX5_moreOfA RX5 meth (some .int))  {res : zSt × Int32} {H : Heap} {locs : List Loc} {σ : zSt} {ls : Array Slot} {s0 : Int32} {s1 : Int32} {s2 : Int32} (hI : zI st D (tC cy) (wC ad cy σ) A s H locs) (hl : lv_has ls 2 []) (hf : fX5_moreOfA_139  σ s0 s1 s2 = some res) : W p l e rmX5_moreOfA s m args below meth c H locs 0 0 (zQi below args s D (tC cy) (wC ad cy) A res) (F0 m 139 ls [.int s0, .int s1, .int s2, .ref (ad 36)]) := by
  have hx := hC.1
  have hb := hC.2.1
  unfold fX5_moreOfA_139 at hf
  refine lv_ior hx hb dX5_moreOfA_139 ?_
  obtain ⟨q, hf⟩ := zck_use hf
  obtain ⟨σ1, eσ1⟩ : ∃ z, z = zsi σ 36 (s2.toNatClampNeg) (s1 ||| s0) := ⟨_, rfl⟩
  replace hf := zbv_use eσ1 hf
  refine z_iast hC hI 36 23 (wC_e36 ad cy σ) (tC_t36 cy) q ((wC_s36 ad cy σ _ _).trans (congrArg (wC ad cy) eσ1.symm)) dX5_moreOfA_140 (fun H locs hI => ?_)
  refine lv_bipush (v := 9) hx hb dX5_moreOfA_141 (by decide) ?_
  exact z_ireturn hC hI hf dX5_moreOfA_143
set_option maxRecDepth 20000 in
set_option maxHeartbeats 4000000 in
theorem bX5_moreOfA_99 {st : Nat → Nat} {p : Program} {l : Launch} {e : Env} {s : State} {m : MethodId} {args : Array Value} {below : List Frame} {meth : Method} {c : Code} {D : va_G} {A : Nat → Prop} {ad : Nat → Nat} {cy : Nat → ClassId} (hC : zC p m c cX5_moreOfA 2 s args wzX5_moreOfA RX5 meth (some .int))  {res : zSt × Int32} {H : Heap} {locs : List Loc} {σ : zSt} {ls : Array Slot} {s0 : Int32} {s1 : Int32} (hI : zI st D (tC cy) (wC ad cy σ) A s H locs) (hl : lv_has ls 2 [(0, .ref (ad 7))]) (hf : fX5_moreOfA_99  σ s0 s1 = some res) : W p l e rmX5_moreOfA s m args below meth c H locs 0 0 (zQi below args s D (tC cy) (wC ad cy) A res) (F0 m 99 ls [.int s0, .int s1, .ref (ad 36)]) := by
  have hx := hC.1
  have hb := hC.2.1
  unfold fX5_moreOfA_99 at hf
  obtain ⟨q, hf⟩ := zck_use hf
  obtain ⟨σ2, eσ2⟩ : ∃ z, z = zsi σ 36 (s1.toNatClampNeg) s0 := ⟨_, rfl⟩
  replace hf := zbv_use eσ2 hf
  refine z_iast hC hI 36 23 (wC_e36 ad cy σ) (tC_t36 cy) q ((wC_s36 ad cy σ _ _).trans (congrArg (wC ad cy) eσ2.symm)) dX5_moreOfA_99 (fun H locs hI => ?_)
  refine lv_aload_n hx hb dX5_moreOfA_100 rfl (lv_at hl 0 rfl) ?_
  refine z_get hC hI hinX5_moreOfA_X50 7 (wC_e7 ad cy σ2) rfl 2 (by decide) (List.mem_cons_of_mem _ zw7_5) rfl dX5_moreOfA_101 ?_
  refine lv_iconst (v := 1) hx hb dX5_moreOfA_104 (by decide) ?_
  refine lv_aload_n hx hb dX5_moreOfA_105 rfl (lv_at hl 0 rfl) ?_
  refine z_get hC hI hinX5_moreOfA_X50 7 (wC_e7 ad cy σ2) rfl 2 (by decide) (List.mem_cons_of_mem _ zw7_5) rfl dX5_moreOfA_106 ?_
  refine lv_iconst (v := 1) hx hb dX5_moreOfA_109 (by decide) ?_
  obtain ⟨q, hf⟩ := zck_use hf
  refine z_iald hC hI 36 23 (wC_e36 ad cy σ2) (tC_t36 cy) q dX5_moreOfA_110 ?_
  refine lv_iconst (v := 1) hx hb dX5_moreOfA_111 (by decide) ?_
  refine lv_iand hx hb dX5_moreOfA_112 ?_
  refine lv_aload_n hx hb dX5_moreOfA_113 rfl (lv_at hl 0 rfl) ?_
  refine z_get hC hI hinX5_moreOfA_X50 7 (wC_e7 ad cy σ2) rfl 2 (by decide) (List.mem_cons_of_mem _ zw7_5) rfl dX5_moreOfA_114 ?_
  refine lv_iconst (v := 0) hx hb dX5_moreOfA_117 (by decide) ?_
  obtain ⟨q, hf⟩ := zck_use hf
  refine z_iald hC hI 36 23 (wC_e36 ad cy σ2) (tC_t36 cy) q dX5_moreOfA_118 ?_
  obtain ⟨σ3, v4, g3, hf⟩ := zbi_use hf
  refine z_callSi (As := [.int (zgi σ2 36 (0 : Int32).toNatClampNeg)]) (rest := [.int ((zgi σ2 36 (1 : Int32).toNatClampNeg) &&& 1), .int 1, .ref (ad 36)]) hC hI (cX5_by_met st l D ad cy σ2 (zgi σ2 36 (0 : Int32).toNatClampNeg) _ g3) (zgS zw22_19 zw22_20 zw2_21 zw22_21) rfl ⟨rfl, rfl⟩ 1 hdX5_by ⟨Nat.le_of_ble_eq_true rfl, Nat.le_of_ble_eq_true rfl⟩ rfl hl rfl (Nat.le_of_ble_eq_true rfl) dX5_moreOfA_119 ⟨Nat.zero_le _, Nat.zero_le _⟩ (fun H locs hI => ?_)
  refine lv_ior hx hb dX5_moreOfA_122 ?_
  refine lv_aload_n hx hb dX5_moreOfA_123 rfl (lv_at hl 0 rfl) ?_
  refine z_get hC hI hinX5_moreOfA_X50 7 (wC_e7 ad cy σ3) rfl 2 (by decide) (List.mem_cons_of_mem _ zw7_5) rfl dX5_moreOfA_124 ?_
  refine lv_bipush (v := 24) hx hb dX5_moreOfA_127 (by decide) ?_
  obtain ⟨q, hf⟩ := zck_use hf
  refine z_iald hC hI 36 23 (wC_e36 ad cy σ3) (tC_t36 cy) q dX5_moreOfA_129 ?_
  refine lv_iconst (v := 1) hx hb dX5_moreOfA_130 (by decide) ?_
  refine lv_icmp_ne (tgt := 138) hx hb dX5_moreOfA_131 (by decide) (fun q => ?_) (fun q => ?_)
  · replace hf := zif_f q hf
    refine lv_iconst (v := 0) hx hb dX5_moreOfA_138 (by decide) ?_
    exact bX5_moreOfA_139 hC  hI (lv_sub hl [] rfl) hf
  replace hf := zif_t q hf
  refine lv_iconst (v := 4) hx hb dX5_moreOfA_134 (by decide) ?_
  refine lv_goto (tgt := 139) hx hb dX5_moreOfA_135 (by decide) ?_
  exact bX5_moreOfA_139 hC  hI (lv_sub hl [] rfl) hf
set_option maxRecDepth 20000 in
set_option maxHeartbeats 4000000 in
theorem bX5_moreOfA_72 {st : Nat → Nat} {p : Program} {l : Launch} {e : Env} {s : State} {m : MethodId} {args : Array Value} {below : List Frame} {meth : Method} {c : Code} {D : va_G} {A : Nat → Prop} {ad : Nat → Nat} {cy : Nat → ClassId} (hC : zC p m c cX5_moreOfA 2 s args wzX5_moreOfA RX5 meth (some .int))  {res : zSt × Int32} {H : Heap} {locs : List Loc} {σ : zSt} {ls : Array Slot} {x1 : Int32} (hI : zI st D (tC cy) (wC ad cy σ) A s H locs) (hl : lv_has ls 2 [(0, .ref (ad 7)), (1, .int x1)]) (hf : fX5_moreOfA_72  σ x1 = some res) : W p l e rmX5_moreOfA s m args below meth c H locs 0 0 (zQi below args s D (tC cy) (wC ad cy) A res) (F0 m 72 ls []) := by
  have hx := hC.1
  have hb := hC.2.1
  unfold fX5_moreOfA_72 at hf
  refine lv_aload_n hx hb dX5_moreOfA_72 rfl (lv_at hl 0 rfl) ?_
  refine z_get hC hI hinX5_moreOfA_X50 7 (wC_e7 ad cy σ) rfl 2 (by decide) (List.mem_cons_of_mem _ zw7_5) rfl dX5_moreOfA_73 ?_
  refine lv_iconst (v := 0) hx hb dX5_moreOfA_76 (by decide) ?_
  refine lv_iload_n hx hb dX5_moreOfA_77 rfl (lv_at hl 1 rfl) ?_
  refine lv_iconst (v := 2) hx hb dX5_moreOfA_78 (by decide) ?_
  refine lv_icmp_ne (tgt := 92) hx hb dX5_moreOfA_79 (by decide) (fun q => ?_) (fun q => ?_)
  · replace hf := zif_f q hf
    refine lv_aload_n hx hb dX5_moreOfA_92 rfl (lv_at hl 0 rfl) ?_
    refine z_get hC hI hinX5_moreOfA_X50 7 (wC_e7 ad cy σ) rfl 2 (by decide) (List.mem_cons_of_mem _ zw7_5) rfl dX5_moreOfA_93 ?_
    refine lv_bipush (v := 22) hx hb dX5_moreOfA_96 (by decide) ?_
    obtain ⟨q, hf⟩ := zck_use hf
    refine z_iald hC hI 36 23 (wC_e36 ad cy σ) (tC_t36 cy) q dX5_moreOfA_98 ?_
    exact bX5_moreOfA_99 hC  hI (lv_sub hl [0] rfl) hf
  replace hf := zif_t q hf
  refine lv_aload_n hx hb dX5_moreOfA_82 rfl (lv_at hl 0 rfl) ?_
  refine z_get hC hI hinX5_moreOfA_X50 7 (wC_e7 ad cy σ) rfl 2 (by decide) (List.mem_cons_of_mem _ zw7_5) rfl dX5_moreOfA_83 ?_
  refine lv_bipush (v := 21) hx hb dX5_moreOfA_86 (by decide) ?_
  obtain ⟨q, hf⟩ := zck_use hf
  refine z_iald hC hI 36 23 (wC_e36 ad cy σ) (tC_t36 cy) q dX5_moreOfA_88 ?_
  refine lv_goto (tgt := 99) hx hb dX5_moreOfA_89 (by decide) ?_
  exact bX5_moreOfA_99 hC  hI (lv_sub hl [0] rfl) hf
set_option maxRecDepth 20000 in
set_option maxHeartbeats 4000000 in
theorem bX5_moreOfA_155 {st : Nat → Nat} {p : Program} {l : Launch} {e : Env} {s : State} {m : MethodId} {args : Array Value} {below : List Frame} {meth : Method} {c : Code} {D : va_G} {A : Nat → Prop} {ad : Nat → Nat} {cy : Nat → ClassId} (hC : zC p m c cX5_moreOfA 2 s args wzX5_moreOfA RX5 meth (some .int))  {res : zSt × Int32} {H : Heap} {locs : List Loc} {σ : zSt} {ls : Array Slot} {s0 : Int32} (hI : zI st D (tC cy) (wC ad cy σ) A s H locs) (hl : lv_has ls 2 []) (hf : fX5_moreOfA_155  σ s0 = some res) : W p l e rmX5_moreOfA s m args below meth c H locs 0 0 (zQi below args s D (tC cy) (wC ad cy) A res) (F0 m 155 ls [.int s0, .ref (ad 7)]) := by
  have hx := hC.1
  have hb := hC.2.1
  unfold fX5_moreOfA_155 at hf
  obtain ⟨σ5, g5, hf⟩ := zbu_use hf
  refine z_callVu (As := [.int s0]) (rest := []) hC hI (cX5_turnDigits_met st l D ad cy σ s0 _ g5) (zgV zw31_15 zw31_16 zw31_17 zw2_21 zw31_18) rfl ⟨rfl, rfl⟩ 1 hdX5_turnDigits ⟨Nat.le_of_ble_eq_true rfl, Nat.le_of_ble_eq_true rfl⟩ rfl rfl (wC_e7 ad cy σ) rfl hl rfl (Nat.le_of_ble_eq_true rfl) dX5_moreOfA_155 ⟨Nat.zero_le _, Nat.zero_le _⟩ (fun H locs hI => ?_)
  refine lv_bipush (v := 18) hx hb dX5_moreOfA_158 (by decide) ?_
  exact z_ireturn hC hI hf dX5_moreOfA_160
set_option maxRecDepth 20000 in
set_option maxHeartbeats 4000000 in
theorem bX5_moreOfA_144 {st : Nat → Nat} {p : Program} {l : Launch} {e : Env} {s : State} {m : MethodId} {args : Array Value} {below : List Frame} {meth : Method} {c : Code} {D : va_G} {A : Nat → Prop} {ad : Nat → Nat} {cy : Nat → ClassId} (hC : zC p m c cX5_moreOfA 2 s args wzX5_moreOfA RX5 meth (some .int))  {res : zSt × Int32} {H : Heap} {locs : List Loc} {σ : zSt} {ls : Array Slot} {x1 : Int32} (hI : zI st D (tC cy) (wC ad cy σ) A s H locs) (hl : lv_has ls 2 [(0, .ref (ad 7)), (1, .int x1)]) (hf : fX5_moreOfA_144  σ x1 = some res) : W p l e rmX5_moreOfA s m args below meth c H locs 0 0 (zQi below args s D (tC cy) (wC ad cy) A res) (F0 m 144 ls []) := by
  have hx := hC.1
  have hb := hC.2.1
  unfold fX5_moreOfA_144 at hf
  refine lv_aload_n hx hb dX5_moreOfA_144 rfl (lv_at hl 0 rfl) ?_
  refine lv_iload_n hx hb dX5_moreOfA_145 rfl (lv_at hl 1 rfl) ?_
  refine lv_iconst (v := 4) hx hb dX5_moreOfA_146 (by decide) ?_
  refine lv_icmp_ne (tgt := 154) hx hb dX5_moreOfA_147 (by decide) (fun q => ?_) (fun q => ?_)
  · replace hf := zif_f q hf
    refine lv_iconst (v := 0) hx hb dX5_moreOfA_154 (by decide) ?_
    exact bX5_moreOfA_155 hC  hI (lv_sub hl [] rfl) hf
  replace hf := zif_t q hf
  refine lv_iconst (v := 1) hx hb dX5_moreOfA_150 (by decide) ?_
  refine lv_goto (tgt := 155) hx hb dX5_moreOfA_151 (by decide) ?_
  exact bX5_moreOfA_155 hC  hI (lv_sub hl [] rfl) hf
set_option maxRecDepth 20000 in
set_option maxHeartbeats 4000000 in
theorem bX5_moreOfA {st : Nat → Nat} {p : Program} {l : Launch} {e : Env} {s : State} {m : MethodId} {args : Array Value} {below : List Frame} {meth : Method} {c : Code} {D : va_G} {A : Nat → Prop} {ad : Nat → Nat} {cy : Nat → ClassId} (hC : zC p m c cX5_moreOfA 2 s args wzX5_moreOfA RX5 meth (some .int))  {res : zSt × Int32} {H : Heap} {locs : List Loc} {σ : zSt} {ls : Array Slot} {x1 : Int32} (hI : zI st D (tC cy) (wC ad cy σ) A s H locs) (hl : lv_has ls 2 [(0, .ref (ad 7)), (1, .int x1)]) (hf : fX5_moreOfA  σ x1 = some res) : W p l e rmX5_moreOfA s m args below meth c H locs 0 0 (zQi below args s D (tC cy) (wC ad cy) A res) (F0 m 0 ls []) := by
  have hx := hC.1
  have hb := hC.2.1
  unfold fX5_moreOfA at hf
  refine lv_iload_n hx hb dX5_moreOfA_0 rfl (lv_at hl 1 rfl) ?_
  by_cases q0 : x1 = 0
  · replace hf := zif_t q0 hf
    refine lv_tableIn (tgt := 40) hx hb dX5_moreOfA_1 (by rw [q0]; decide) (by rw [q0]; decide) (by rw [q0]; rfl) (by decide) ?_
    refine lv_aload_n hx hb dX5_moreOfA_40 rfl (lv_at hl 0 rfl) ?_
    refine z_get hC hI hinX5_moreOfA_X50 7 (wC_e7 ad cy σ) rfl 2 (by decide) (List.mem_cons_of_mem _ zw7_5) rfl dX5_moreOfA_41 ?_
    refine lv_bipush (v := 21) hx hb dX5_moreOfA_44 (by decide) ?_
    refine lv_aload_n hx hb dX5_moreOfA_46 rfl (lv_at hl 0 rfl) ?_
    refine z_get hC hI hinX5_moreOfA_X50 7 (wC_e7 ad cy σ) rfl 2 (by decide) (List.mem_cons_of_mem _ zw7_5) rfl dX5_moreOfA_47 ?_
    refine lv_iconst (v := 0) hx hb dX5_moreOfA_50 (by decide) ?_
    obtain ⟨q, hf⟩ := zck_use hf
    refine z_iald hC hI 36 23 (wC_e36 ad cy σ) (tC_t36 cy) q dX5_moreOfA_51 ?_
    obtain ⟨q, hf⟩ := zck_use hf
    obtain ⟨σ6, eσ6⟩ : ∃ z, z = zsi σ 36 ((21 : Int32).toNatClampNeg) (zgi σ 36 (0 : Int32).toNatClampNeg) := ⟨_, rfl⟩
    replace hf := zbv_use eσ6 hf
    refine z_iast hC hI 36 23 (wC_e36 ad cy σ) (tC_t36 cy) q ((wC_s36 ad cy σ _ _).trans (congrArg (wC ad cy) eσ6.symm)) dX5_moreOfA_52 (fun H locs hI => ?_)
    refine lv_bipush (v := 9) hx hb dX5_moreOfA_53 (by decide) ?_
    exact z_ireturn hC hI hf dX5_moreOfA_55
  replace hf := zif_f q0 hf
  by_cases q1 : x1 = 1
  · replace hf := zif_t q1 hf
    refine lv_tableIn (tgt := 56) hx hb dX5_moreOfA_1 (by rw [q1]; decide) (by rw [q1]; decide) (by rw [q1]; rfl) (by decide) ?_
    refine lv_aload_n hx hb dX5_moreOfA_56 rfl (lv_at hl 0 rfl) ?_
    refine z_get hC hI hinX5_moreOfA_X50 7 (wC_e7 ad cy σ) rfl 2 (by decide) (List.mem_cons_of_mem _ zw7_5) rfl dX5_moreOfA_57 ?_
    refine lv_bipush (v := 22) hx hb dX5_moreOfA_60 (by decide) ?_
    refine lv_aload_n hx hb dX5_moreOfA_62 rfl (lv_at hl 0 rfl) ?_
    refine z_get hC hI hinX5_moreOfA_X50 7 (wC_e7 ad cy σ) rfl 2 (by decide) (List.mem_cons_of_mem _ zw7_5) rfl dX5_moreOfA_63 ?_
    refine lv_iconst (v := 0) hx hb dX5_moreOfA_66 (by decide) ?_
    obtain ⟨q, hf⟩ := zck_use hf
    refine z_iald hC hI 36 23 (wC_e36 ad cy σ) (tC_t36 cy) q dX5_moreOfA_67 ?_
    obtain ⟨q, hf⟩ := zck_use hf
    obtain ⟨σ7, eσ7⟩ : ∃ z, z = zsi σ 36 ((22 : Int32).toNatClampNeg) (zgi σ 36 (0 : Int32).toNatClampNeg) := ⟨_, rfl⟩
    replace hf := zbv_use eσ7 hf
    refine z_iast hC hI 36 23 (wC_e36 ad cy σ) (tC_t36 cy) q ((wC_s36 ad cy σ _ _).trans (congrArg (wC ad cy) eσ7.symm)) dX5_moreOfA_68 (fun H locs hI => ?_)
    refine lv_bipush (v := 9) hx hb dX5_moreOfA_69 (by decide) ?_
    exact z_ireturn hC hI hf dX5_moreOfA_71
  replace hf := zif_f q1 hf
  by_cases q2 : x1 = 2
  · replace hf := zif_t q2 hf
    refine lv_tableIn (tgt := 72) hx hb dX5_moreOfA_1 (by rw [q2]; decide) (by rw [q2]; decide) (by rw [q2]; rfl) (by decide) ?_
    exact bX5_moreOfA_72 hC  hI hl hf
  replace hf := zif_f q2 hf
  by_cases q3 : x1 = 3
  · replace hf := zif_t q3 hf
    refine lv_tableIn (tgt := 72) hx hb dX5_moreOfA_1 (by rw [q3]; decide) (by rw [q3]; decide) (by rw [q3]; rfl) (by decide) ?_
    exact bX5_moreOfA_72 hC  hI hl hf
  replace hf := zif_f q3 hf
  by_cases q4 : x1 = 4
  · replace hf := zif_t q4 hf
    refine lv_tableIn (tgt := 144) hx hb dX5_moreOfA_1 (by rw [q4]; decide) (by rw [q4]; decide) (by rw [q4]; rfl) (by decide) ?_
    exact bX5_moreOfA_144 hC  hI hl hf
  replace hf := zif_f q4 hf
  by_cases q5 : x1 = 5
  · replace hf := zif_t q5 hf
    refine lv_tableIn (tgt := 144) hx hb dX5_moreOfA_1 (by rw [q5]; decide) (by rw [q5]; decide) (by rw [q5]; rfl) (by decide) ?_
    exact bX5_moreOfA_144 hC  hI hl hf
  replace hf := zif_f q5 hf
  refine lv_tableOut (tgt := 161) hx hb dX5_moreOfA_1 (zsw (fun k h1 h2 => by rcases (show k = 0 ∨ k = 1 ∨ k = 2 ∨ k = 3 ∨ k = 4 ∨ k = 5 by omega) with rfl | rfl | rfl | rfl | rfl | rfl <;> assumption)) (by decide) ?_
  refine lv_bipush (v := 8) hx hb dX5_moreOfA_161 (by decide) ?_
  exact z_ireturn hC hI hf dX5_moreOfA_163
set_option maxRecDepth 20000 in
theorem cX5_moreOfA_met (st : Nat → Nat) (l : Launch) (D : va_G) (ad : Nat → Nat) (cy : Nat → ClassId) (σ : zSt) (x1 : Int32) (res : zSt × Int32) (hf : fX5_moreOfA σ x1 = some res) (sz : Nat) : zMi st l yX5_moreOfA wzX5_moreOfA rmX5_moreOfA [.ref (ad 7), .int x1] D (tC cy) (wC ad cy) sz σ res :=
  zMi.of (cc := cX5_moreOfA) (maxL := 2) (ret := (some .int)) (by decide) rfl (Nat.le_of_ble_eq_true rfl) (fun p e s m args below meth c hC A hI ls hl => bX5_moreOfA hC hI hl hf)
theorem hdX5_moreOfA : yX5_moreOfA.cls = RX5 ∧ yX5_moreOfA.cls ≠ "java/lang/invoke/MethodHandle" ∧ yX5_moreOfA.cls ≠ "java/lang/invoke/VarHandle" ∧ (parseMethodDescriptor yX5_moreOfA.desc).map (fun d => d.parameters.length) = some 1 := by decide +kernel
noncomputable def rmX5_pop : Room := { frames := 2, cells := 0, slots := 0, locals := 47 }
noncomputable def wzX5_pop : List Cond := .code yX5_pop cX5_pop 2 (some .int) :: wsL_law
theorem hinX5_pop_X50 : ∀ w ∈ wsX50, w ∈ wzX5_pop := fun w h => List.mem_cons_of_mem _ (inlX5 w h)
noncomputable def fX5_pop  (σ : zSt)  : Option (zSt × Int32) :=
  zck (zin 18 29) (
  zbi (fX2_read σ (zgi σ 36 (18 : Int32).toNatClampNeg)) (fun σ1 v2 =>
  zck (zin 18 29) (
  zbi (fX2_read σ1 ((zgi σ1 36 (18 : Int32).toNatClampNeg) + 1)) (fun σ3 v4 =>
  zbv (v2 ||| (v4 <<< ((8 : Int32) &&& 31))) (fun v5 =>
  zck (zin 18 29) (
  zck (zin 18 29) (zbv (zsi σ3 36 ((18 : Int32).toNatClampNeg) (((zgi σ3 36 (18 : Int32).toNatClampNeg) + 2) &&& 65535)) (fun σ6 =>
  some (σ6, v5)))))))))
set_option maxRecDepth 20000 in
set_option maxHeartbeats 4000000 in
theorem bX5_pop {st : Nat → Nat} {p : Program} {l : Launch} {e : Env} {s : State} {m : MethodId} {args : Array Value} {below : List Frame} {meth : Method} {c : Code} {D : va_G} {A : Nat → Prop} {ad : Nat → Nat} {cy : Nat → ClassId} (hC : zC p m c cX5_pop 2 s args wzX5_pop RX5 meth (some .int))  {res : zSt × Int32} {H : Heap} {locs : List Loc} {σ : zSt} {ls : Array Slot}  (hI : zI st D (tC cy) (wC ad cy σ) A s H locs) (hl : lv_has ls 2 [(0, .ref (ad 7))]) (hf : fX5_pop  σ  = some res) : W p l e rmX5_pop s m args below meth c H locs 0 0 (zQi below args s D (tC cy) (wC ad cy) A res) (F0 m 0 ls []) := by
  have hx := hC.1
  have hb := hC.2.1
  unfold fX5_pop at hf
  refine lv_aload_n hx hb dX5_pop_0 rfl (lv_at hl 0 rfl) ?_
  refine z_get hC hI hinX5_pop_X50 7 (wC_e7 ad cy σ) rfl 0 (by decide) (List.mem_cons_of_mem _ zw7_8) rfl dX5_pop_1 ?_
  refine lv_aload_n hx hb dX5_pop_4 rfl (lv_at hl 0 rfl) ?_
  refine z_get hC hI hinX5_pop_X50 7 (wC_e7 ad cy σ) rfl 2 (by decide) (List.mem_cons_of_mem _ zw7_5) rfl dX5_pop_5 ?_
  refine lv_bipush (v := 18) hx hb dX5_pop_8 (by decide) ?_
  obtain ⟨q, hf⟩ := zck_use hf
  refine z_iald hC hI 36 23 (wC_e36 ad cy σ) (tC_t36 cy) q dX5_pop_10 ?_
  obtain ⟨σ1, v2, g1, hf⟩ := zbi_use hf
  refine z_callVi (As := [.int (zgi σ 36 (18 : Int32).toNatClampNeg)]) (rest := []) hC hI (cX2_read_met st l D ad cy σ (zgi σ 36 (18 : Int32).toNatClampNeg) _ g1) (zgV zw21_6 zw21_7 zw21_8 zw1_21 zw21_9) rfl ⟨rfl, rfl⟩ 1 hdX2_read ⟨Nat.le_of_ble_eq_true rfl, Nat.le_of_ble_eq_true rfl⟩ rfl rfl (wC_e1 ad cy σ) rfl hl rfl (Nat.le_of_ble_eq_true rfl) dX5_pop_11 ⟨Nat.zero_le _, Nat.zero_le _⟩ (fun H locs hI => ?_)
  refine lv_aload_n hx hb dX5_pop_14 rfl (lv_at hl 0 rfl) ?_
  refine z_get hC hI hinX5_pop_X50 7 (wC_e7 ad cy σ1) rfl 0 (by decide) (List.mem_cons_of_mem _ zw7_8) rfl dX5_pop_15 ?_
  refine lv_aload_n hx hb dX5_pop_18 rfl (lv_at hl 0 rfl) ?_
  refine z_get hC hI hinX5_pop_X50 7 (wC_e7 ad cy σ1) rfl 2 (by decide) (List.mem_cons_of_mem _ zw7_5) rfl dX5_pop_19 ?_
  refine lv_bipush (v := 18) hx hb dX5_pop_22 (by decide) ?_
  obtain ⟨q, hf⟩ := zck_use hf
  refine z_iald hC hI 36 23 (wC_e36 ad cy σ1) (tC_t36 cy) q dX5_pop_24 ?_
  refine lv_iconst (v := 1) hx hb dX5_pop_25 (by decide) ?_
  refine lv_iadd hx hb dX5_pop_26 ?_
  obtain ⟨σ3, v4, g3, hf⟩ := zbi_use hf
  refine z_callVi (As := [.int ((zgi σ1 36 (18 : Int32).toNatClampNeg) + 1)]) (rest := [.int v2]) hC hI (cX2_read_met st l D ad cy σ1 ((zgi σ1 36 (18 : Int32).toNatClampNeg) + 1) _ g3) (zgV zw21_6 zw21_7 zw21_8 zw1_21 zw21_9) rfl ⟨rfl, rfl⟩ 1 hdX2_read ⟨Nat.le_of_ble_eq_true rfl, Nat.le_of_ble_eq_true rfl⟩ rfl rfl (wC_e1 ad cy σ1) rfl hl rfl (Nat.le_of_ble_eq_true rfl) dX5_pop_27 ⟨Nat.zero_le _, Nat.zero_le _⟩ (fun H locs hI => ?_)
  refine lv_bipush (v := 8) hx hb dX5_pop_30 (by decide) ?_
  refine lv_ishl hx hb dX5_pop_32 ?_
  refine lv_ior hx hb dX5_pop_33 ?_
  refine lv_topi (fun v5 ev5 => ?_)
  replace hf := zbv_use ev5 hf
  refine lv_istore_n (lv' := [(1, .int v5), (0, .ref (ad 7))]) hx hb dX5_pop_34 rfl hl (by decide) rfl (fun ls hl => ?_)
  refine lv_aload_n hx hb dX5_pop_35 rfl (lv_at hl 1 rfl) ?_
  refine z_get hC hI hinX5_pop_X50 7 (wC_e7 ad cy σ3) rfl 2 (by decide) (List.mem_cons_of_mem _ zw7_5) rfl dX5_pop_36 ?_
  refine lv_bipush (v := 18) hx hb dX5_pop_39 (by decide) ?_
  refine lv_aload_n hx hb dX5_pop_41 rfl (lv_at hl 1 rfl) ?_
  refine z_get hC hI hinX5_pop_X50 7 (wC_e7 ad cy σ3) rfl 2 (by decide) (List.mem_cons_of_mem _ zw7_5) rfl dX5_pop_42 ?_
  refine lv_bipush (v := 18) hx hb dX5_pop_45 (by decide) ?_
  obtain ⟨q, hf⟩ := zck_use hf
  refine z_iald hC hI 36 23 (wC_e36 ad cy σ3) (tC_t36 cy) q dX5_pop_47 ?_
  refine lv_iconst (v := 2) hx hb dX5_pop_48 (by decide) ?_
  refine lv_iadd hx hb dX5_pop_49 ?_
  refine lv_ldc (v := 65535) hx hb hC.2.2.2.1 (hC.2.2.2.2.1 _ (List.mem_cons_of_mem _ zw20_6)) dX5_pop_50 ?_
  refine lv_iand hx hb dX5_pop_52 ?_
  obtain ⟨q, hf⟩ := zck_use hf
  obtain ⟨σ6, eσ6⟩ : ∃ z, z = zsi σ3 36 ((18 : Int32).toNatClampNeg) (((zgi σ3 36 (18 : Int32).toNatClampNeg) + 2) &&& 65535) := ⟨_, rfl⟩
  replace hf := zbv_use eσ6 hf
  refine z_iast hC hI 36 23 (wC_e36 ad cy σ3) (tC_t36 cy) q ((wC_s36 ad cy σ3 _ _).trans (congrArg (wC ad cy) eσ6.symm)) dX5_pop_53 (fun H locs hI => ?_)
  refine lv_iload_n hx hb dX5_pop_54 rfl (lv_at hl 0 rfl) ?_
  exact z_ireturn hC hI hf dX5_pop_55
set_option maxRecDepth 20000 in
theorem cX5_pop_met (st : Nat → Nat) (l : Launch) (D : va_G) (ad : Nat → Nat) (cy : Nat → ClassId) (σ : zSt)  (res : zSt × Int32) (hf : fX5_pop σ  = some res) (sz : Nat) : zMi st l yX5_pop wzX5_pop rmX5_pop [.ref (ad 7)] D (tC cy) (wC ad cy) sz σ res :=
  zMi.of (cc := cX5_pop) (maxL := 2) (ret := (some .int)) (by decide) rfl (Nat.le_of_ble_eq_true rfl) (fun p e s m args below meth c hC A hI ls hl => bX5_pop hC hI hl hf)
theorem hdX5_pop : yX5_pop.cls = RX5 ∧ yX5_pop.cls ≠ "java/lang/invoke/MethodHandle" ∧ yX5_pop.cls ≠ "java/lang/invoke/VarHandle" ∧ (parseMethodDescriptor yX5_pop.desc).map (fun d => d.parameters.length) = some 0 := by decide +kernel
noncomputable def rmX5_difference : Room := { frames := 1, cells := 0, slots := 0, locals := 20 }
noncomputable def wzX5_difference : List Cond := .code yX5_difference cX5_difference 7 (some .int) :: wsL_law
theorem hinX5_difference_X50 : ∀ w ∈ wsX50, w ∈ wzX5_difference := fun w h => List.mem_cons_of_mem _ (inlX5 w h)
noncomputable def fX5_difference_72  (σ : zSt) (x5 : Int32) (s0 : Int32) (s1 : Int32) (s2 : Int32) : Option (zSt × Int32) :=
  zck (zin s2 29) (zbv (zsi σ 36 (s2.toNatClampNeg) (s1 ||| s0)) (fun σ1 =>
  some (σ1, x5)))
noncomputable def fX5_difference_59  (σ : zSt) (x4 : Int32) (x5 : Int32) (s0 : Int32) (s1 : Int32) (s2 : Int32) : Option (zSt × Int32) :=
  if 0 ≤ x4 then fX5_difference_72 σ x5 0 ((s1 ||| s0) ||| 2) s2 else
  fX5_difference_72 σ x5 1 ((s1 ||| s0) ||| 2) s2
noncomputable def fX5_difference  (σ : zSt) (x1 : Int32) (x2 : Int32) (x3 : Int32) : Option (zSt × Int32) :=
  zbv ((x1 - x2) - x3) (fun v2 =>
  zbv (v2 &&& 255) (fun v3 =>
  zbv (((x1 ^^^ x2) &&& (x1 ^^^ v3)) &&& 128) (fun v4 =>
  zbi (fX5_by σ v3) (fun σ5 v6 =>
  if v4 = 0 then fX5_difference_59 σ5 v2 v3 0 (v6 ||| (((x1 ^^^ x2) ^^^ v3) &&& 16)) 1 else
  fX5_difference_59 σ5 v2 v3 4 (v6 ||| (((x1 ^^^ x2) ^^^ v3) &&& 16)) 1))))
set_option maxRecDepth 20000 in
set_option maxHeartbeats 4000000 in
theorem bX5_difference_72 {st : Nat → Nat} {p : Program} {l : Launch} {e : Env} {s : State} {m : MethodId} {args : Array Value} {below : List Frame} {meth : Method} {c : Code} {D : va_G} {A : Nat → Prop} {ad : Nat → Nat} {cy : Nat → ClassId} (hC : zC p m c cX5_difference 7 s args wzX5_difference RX5 meth (some .int))  {res : zSt × Int32} {H : Heap} {locs : List Loc} {σ : zSt} {ls : Array Slot} {x5 : Int32} {s0 : Int32} {s1 : Int32} {s2 : Int32} (hI : zI st D (tC cy) (wC ad cy σ) A s H locs) (hl : lv_has ls 7 [(5, .int x5)]) (hf : fX5_difference_72  σ x5 s0 s1 s2 = some res) : W p l e rmX5_difference s m args below meth c H locs 0 0 (zQi below args s D (tC cy) (wC ad cy) A res) (F0 m 72 ls [.int s0, .int s1, .int s2, .ref (ad 36)]) := by
  have hx := hC.1
  have hb := hC.2.1
  unfold fX5_difference_72 at hf
  refine lv_ior hx hb dX5_difference_72 ?_
  obtain ⟨q, hf⟩ := zck_use hf
  obtain ⟨σ1, eσ1⟩ : ∃ z, z = zsi σ 36 (s2.toNatClampNeg) (s1 ||| s0) := ⟨_, rfl⟩
  replace hf := zbv_use eσ1 hf
  refine z_iast hC hI 36 23 (wC_e36 ad cy σ) (tC_t36 cy) q ((wC_s36 ad cy σ _ _).trans (congrArg (wC ad cy) eσ1.symm)) dX5_difference_73 (fun H locs hI => ?_)
  refine lv_iload hx hb dX5_difference_74 (lv_at hl 0 rfl) ?_
  exact z_ireturn hC hI hf dX5_difference_76
set_option maxRecDepth 20000 in
set_option maxHeartbeats 4000000 in
theorem bX5_difference_59 {st : Nat → Nat} {p : Program} {l : Launch} {e : Env} {s : State} {m : MethodId} {args : Array Value} {below : List Frame} {meth : Method} {c : Code} {D : va_G} {A : Nat → Prop} {ad : Nat → Nat} {cy : Nat → ClassId} (hC : zC p m c cX5_difference 7 s args wzX5_difference RX5 meth (some .int))  {res : zSt × Int32} {H : Heap} {locs : List Loc} {σ : zSt} {ls : Array Slot} {x4 : Int32} {x5 : Int32} {s0 : Int32} {s1 : Int32} {s2 : Int32} (hI : zI st D (tC cy) (wC ad cy σ) A s H locs) (hl : lv_has ls 7 [(4, .int x4), (5, .int x5)]) (hf : fX5_difference_59  σ x4 x5 s0 s1 s2 = some res) : W p l e rmX5_difference s m args below meth c H locs 0 0 (zQi below args s D (tC cy) (wC ad cy) A res) (F0 m 59 ls [.int s0, .int s1, .int s2, .ref (ad 36)]) := by
  have hx := hC.1
  have hb := hC.2.1
  unfold fX5_difference_59 at hf
  refine lv_ior hx hb dX5_difference_59 ?_
  refine lv_iconst (v := 2) hx hb dX5_difference_60 (by decide) ?_
  refine lv_ior hx hb dX5_difference_61 ?_
  refine lv_iload hx hb dX5_difference_62 (lv_at hl 0 rfl) ?_
  refine lv_if_ge (tgt := 71) hx hb dX5_difference_64 (by decide) (fun q => ?_) (fun q => ?_)
  · replace hf := zif_t q hf
    refine lv_iconst (v := 0) hx hb dX5_difference_71 (by decide) ?_
    exact bX5_difference_72 hC  hI (lv_sub hl [1] rfl) hf
  replace hf := zif_f q hf
  refine lv_iconst (v := 1) hx hb dX5_difference_67 (by decide) ?_
  refine lv_goto (tgt := 72) hx hb dX5_difference_68 (by decide) ?_
  exact bX5_difference_72 hC  hI (lv_sub hl [1] rfl) hf
set_option maxRecDepth 20000 in
set_option maxHeartbeats 4000000 in
theorem bX5_difference {st : Nat → Nat} {p : Program} {l : Launch} {e : Env} {s : State} {m : MethodId} {args : Array Value} {below : List Frame} {meth : Method} {c : Code} {D : va_G} {A : Nat → Prop} {ad : Nat → Nat} {cy : Nat → ClassId} (hC : zC p m c cX5_difference 7 s args wzX5_difference RX5 meth (some .int))  {res : zSt × Int32} {H : Heap} {locs : List Loc} {σ : zSt} {ls : Array Slot} {x1 : Int32} {x2 : Int32} {x3 : Int32} (hI : zI st D (tC cy) (wC ad cy σ) A s H locs) (hl : lv_has ls 7 [(0, .ref (ad 7)), (1, .int x1), (2, .int x2), (3, .int x3)]) (hf : fX5_difference  σ x1 x2 x3 = some res) : W p l e rmX5_difference s m args below meth c H locs 0 0 (zQi below args s D (tC cy) (wC ad cy) A res) (F0 m 0 ls []) := by
  have hx := hC.1
  have hb := hC.2.1
  unfold fX5_difference at hf
  refine lv_iload_n hx hb dX5_difference_0 rfl (lv_at hl 1 rfl) ?_
  refine lv_iload_n hx hb dX5_difference_1 rfl (lv_at hl 2 rfl) ?_
  refine lv_isub hx hb dX5_difference_2 ?_
  refine lv_iload_n hx hb dX5_difference_3 rfl (lv_at hl 3 rfl) ?_
  refine lv_isub hx hb dX5_difference_4 ?_
  refine lv_topi (fun v2 ev2 => ?_)
  replace hf := zbv_use ev2 hf
  refine lv_istore (lv' := [(4, .int v2), (0, .ref (ad 7)), (1, .int x1), (2, .int x2), (3, .int x3)]) hx hb dX5_difference_5 hl (by decide) rfl (fun ls hl => ?_)
  refine lv_iload hx hb dX5_difference_7 (lv_at hl 0 rfl) ?_
  refine lv_sipush (v := 255) hx hb dX5_difference_9 (by decide) ?_
  refine lv_iand hx hb dX5_difference_12 ?_
  refine lv_topi (fun v3 ev3 => ?_)
  replace hf := zbv_use ev3 hf
  refine lv_istore (lv' := [(5, .int v3), (4, .int v2), (0, .ref (ad 7)), (1, .int x1), (2, .int x2), (3, .int x3)]) hx hb dX5_difference_13 hl (by decide) rfl (fun ls hl => ?_)
  refine lv_iload_n hx hb dX5_difference_15 rfl (lv_at hl 3 rfl) ?_
  refine lv_iload_n hx hb dX5_difference_16 rfl (lv_at hl 4 rfl) ?_
  refine lv_ixor hx hb dX5_difference_17 ?_
  refine lv_iload_n hx hb dX5_difference_18 rfl (lv_at hl 3 rfl) ?_
  refine lv_iload hx hb dX5_difference_19 (lv_at hl 0 rfl) ?_
  refine lv_ixor hx hb dX5_difference_21 ?_
  refine lv_iand hx hb dX5_difference_22 ?_
  refine lv_sipush (v := 128) hx hb dX5_difference_23 (by decide) ?_
  refine lv_iand hx hb dX5_difference_26 ?_
  refine lv_topi (fun v4 ev4 => ?_)
  replace hf := zbv_use ev4 hf
  refine lv_istore (lv' := [(6, .int v4), (5, .int v3), (4, .int v2), (0, .ref (ad 7)), (1, .int x1), (2, .int x2), (3, .int x3)]) hx hb dX5_difference_27 hl (by decide) rfl (fun ls hl => ?_)
  refine lv_aload_n hx hb dX5_difference_29 rfl (lv_at hl 3 rfl) ?_
  refine z_get hC hI hinX5_difference_X50 7 (wC_e7 ad cy σ) rfl 2 (by decide) (List.mem_cons_of_mem _ zw7_5) rfl dX5_difference_30 ?_
  refine lv_iconst (v := 1) hx hb dX5_difference_33 (by decide) ?_
  refine lv_iload hx hb dX5_difference_34 (lv_at hl 1 rfl) ?_
  obtain ⟨σ5, v6, g5, hf⟩ := zbi_use hf
  refine z_callSi (As := [.int v3]) (rest := [.int 1, .ref (ad 36)]) hC hI (cX5_by_met st l D ad cy σ v3 _ g5) (zgS zw22_19 zw22_20 zw2_21 zw22_21) rfl ⟨rfl, rfl⟩ 1 hdX5_by ⟨Nat.le_of_ble_eq_true rfl, Nat.le_of_ble_eq_true rfl⟩ rfl hl rfl (Nat.le_of_ble_eq_true rfl) dX5_difference_36 ⟨Nat.zero_le _, Nat.zero_le _⟩ (fun H locs hI => ?_)
  refine lv_iload_n hx hb dX5_difference_39 rfl (lv_at hl 4 rfl) ?_
  refine lv_iload_n hx hb dX5_difference_40 rfl (lv_at hl 5 rfl) ?_
  refine lv_ixor hx hb dX5_difference_41 ?_
  refine lv_iload hx hb dX5_difference_42 (lv_at hl 1 rfl) ?_
  refine lv_ixor hx hb dX5_difference_44 ?_
  refine lv_bipush (v := 16) hx hb dX5_difference_45 (by decide) ?_
  refine lv_iand hx hb dX5_difference_47 ?_
  refine lv_ior hx hb dX5_difference_48 ?_
  refine lv_iload hx hb dX5_difference_49 (lv_at hl 0 rfl) ?_
  refine lv_if_eq (tgt := 58) hx hb dX5_difference_51 (by decide) (fun q => ?_) (fun q => ?_)
  · replace hf := zif_t q hf
    refine lv_iconst (v := 0) hx hb dX5_difference_58 (by decide) ?_
    exact bX5_difference_59 hC  hI (lv_sub hl [2, 1] rfl) hf
  replace hf := zif_f q hf
  refine lv_iconst (v := 4) hx hb dX5_difference_54 (by decide) ?_
  refine lv_goto (tgt := 59) hx hb dX5_difference_55 (by decide) ?_
  exact bX5_difference_59 hC  hI (lv_sub hl [2, 1] rfl) hf
set_option maxRecDepth 20000 in
theorem cX5_difference_met (st : Nat → Nat) (l : Launch) (D : va_G) (ad : Nat → Nat) (cy : Nat → ClassId) (σ : zSt) (x1 : Int32) (x2 : Int32) (x3 : Int32) (res : zSt × Int32) (hf : fX5_difference σ x1 x2 x3 = some res) (sz : Nat) : zMi st l yX5_difference wzX5_difference rmX5_difference [.ref (ad 7), .int x1, .int x2, .int x3] D (tC cy) (wC ad cy) sz σ res :=
  zMi.of (cc := cX5_difference) (maxL := 7) (ret := (some .int)) (by decide) rfl (Nat.le_of_ble_eq_true rfl) (fun p e s m args below meth c hC A hI ls hl => bX5_difference hC hI hl hf)
theorem hdX5_difference : yX5_difference.cls = RX5 ∧ yX5_difference.cls ≠ "java/lang/invoke/MethodHandle" ∧ yX5_difference.cls ≠ "java/lang/invoke/VarHandle" ∧ (parseMethodDescriptor yX5_difference.desc).map (fun d => d.parameters.length) = some 3 := by decide +kernel
noncomputable def rmX5_fetchWord : Room := { frames := 2, cells := 0, slots := 0, locals := 47 }
noncomputable def wzX5_fetchWord : List Cond := .code yX5_fetchWord cX5_fetchWord 2 (some .int) :: wsL_law
theorem hinX5_fetchWord_X50 : ∀ w ∈ wsX50, w ∈ wzX5_fetchWord := fun w h => List.mem_cons_of_mem _ (inlX5 w h)
noncomputable def fX5_fetchWord  (σ : zSt)  : Option (zSt × Int32) :=
  zck (zin 19 29) (
  zbi (fX2_read σ (zgi σ 36 (19 : Int32).toNatClampNeg)) (fun σ1 v2 =>
  zck (zin 19 29) (
  zbi (fX2_read σ1 ((zgi σ1 36 (19 : Int32).toNatClampNeg) + 1)) (fun σ3 v4 =>
  zbv (v2 ||| (v4 <<< ((8 : Int32) &&& 31))) (fun v5 =>
  zck (zin 19 29) (
  zck (zin 19 29) (zbv (zsi σ3 36 ((19 : Int32).toNatClampNeg) (((zgi σ3 36 (19 : Int32).toNatClampNeg) + 2) &&& 65535)) (fun σ6 =>
  some (σ6, v5)))))))))
set_option maxRecDepth 20000 in
set_option maxHeartbeats 4000000 in
theorem bX5_fetchWord {st : Nat → Nat} {p : Program} {l : Launch} {e : Env} {s : State} {m : MethodId} {args : Array Value} {below : List Frame} {meth : Method} {c : Code} {D : va_G} {A : Nat → Prop} {ad : Nat → Nat} {cy : Nat → ClassId} (hC : zC p m c cX5_fetchWord 2 s args wzX5_fetchWord RX5 meth (some .int))  {res : zSt × Int32} {H : Heap} {locs : List Loc} {σ : zSt} {ls : Array Slot}  (hI : zI st D (tC cy) (wC ad cy σ) A s H locs) (hl : lv_has ls 2 [(0, .ref (ad 7))]) (hf : fX5_fetchWord  σ  = some res) : W p l e rmX5_fetchWord s m args below meth c H locs 0 0 (zQi below args s D (tC cy) (wC ad cy) A res) (F0 m 0 ls []) := by
  have hx := hC.1
  have hb := hC.2.1
  unfold fX5_fetchWord at hf
  refine lv_aload_n hx hb dX5_fetchWord_0 rfl (lv_at hl 0 rfl) ?_
  refine z_get hC hI hinX5_fetchWord_X50 7 (wC_e7 ad cy σ) rfl 0 (by decide) (List.mem_cons_of_mem _ zw7_8) rfl dX5_fetchWord_1 ?_
  refine lv_aload_n hx hb dX5_fetchWord_4 rfl (lv_at hl 0 rfl) ?_
  refine z_get hC hI hinX5_fetchWord_X50 7 (wC_e7 ad cy σ) rfl 2 (by decide) (List.mem_cons_of_mem _ zw7_5) rfl dX5_fetchWord_5 ?_
  refine lv_bipush (v := 19) hx hb dX5_fetchWord_8 (by decide) ?_
  obtain ⟨q, hf⟩ := zck_use hf
  refine z_iald hC hI 36 23 (wC_e36 ad cy σ) (tC_t36 cy) q dX5_fetchWord_10 ?_
  obtain ⟨σ1, v2, g1, hf⟩ := zbi_use hf
  refine z_callVi (As := [.int (zgi σ 36 (19 : Int32).toNatClampNeg)]) (rest := []) hC hI (cX2_read_met st l D ad cy σ (zgi σ 36 (19 : Int32).toNatClampNeg) _ g1) (zgV zw21_6 zw21_7 zw21_8 zw1_21 zw21_9) rfl ⟨rfl, rfl⟩ 1 hdX2_read ⟨Nat.le_of_ble_eq_true rfl, Nat.le_of_ble_eq_true rfl⟩ rfl rfl (wC_e1 ad cy σ) rfl hl rfl (Nat.le_of_ble_eq_true rfl) dX5_fetchWord_11 ⟨Nat.zero_le _, Nat.zero_le _⟩ (fun H locs hI => ?_)
  refine lv_aload_n hx hb dX5_fetchWord_14 rfl (lv_at hl 0 rfl) ?_
  refine z_get hC hI hinX5_fetchWord_X50 7 (wC_e7 ad cy σ1) rfl 0 (by decide) (List.mem_cons_of_mem _ zw7_8) rfl dX5_fetchWord_15 ?_
  refine lv_aload_n hx hb dX5_fetchWord_18 rfl (lv_at hl 0 rfl) ?_
  refine z_get hC hI hinX5_fetchWord_X50 7 (wC_e7 ad cy σ1) rfl 2 (by decide) (List.mem_cons_of_mem _ zw7_5) rfl dX5_fetchWord_19 ?_
  refine lv_bipush (v := 19) hx hb dX5_fetchWord_22 (by decide) ?_
  obtain ⟨q, hf⟩ := zck_use hf
  refine z_iald hC hI 36 23 (wC_e36 ad cy σ1) (tC_t36 cy) q dX5_fetchWord_24 ?_
  refine lv_iconst (v := 1) hx hb dX5_fetchWord_25 (by decide) ?_
  refine lv_iadd hx hb dX5_fetchWord_26 ?_
  obtain ⟨σ3, v4, g3, hf⟩ := zbi_use hf
  refine z_callVi (As := [.int ((zgi σ1 36 (19 : Int32).toNatClampNeg) + 1)]) (rest := [.int v2]) hC hI (cX2_read_met st l D ad cy σ1 ((zgi σ1 36 (19 : Int32).toNatClampNeg) + 1) _ g3) (zgV zw21_6 zw21_7 zw21_8 zw1_21 zw21_9) rfl ⟨rfl, rfl⟩ 1 hdX2_read ⟨Nat.le_of_ble_eq_true rfl, Nat.le_of_ble_eq_true rfl⟩ rfl rfl (wC_e1 ad cy σ1) rfl hl rfl (Nat.le_of_ble_eq_true rfl) dX5_fetchWord_27 ⟨Nat.zero_le _, Nat.zero_le _⟩ (fun H locs hI => ?_)
  refine lv_bipush (v := 8) hx hb dX5_fetchWord_30 (by decide) ?_
  refine lv_ishl hx hb dX5_fetchWord_32 ?_
  refine lv_ior hx hb dX5_fetchWord_33 ?_
  refine lv_topi (fun v5 ev5 => ?_)
  replace hf := zbv_use ev5 hf
  refine lv_istore_n (lv' := [(1, .int v5), (0, .ref (ad 7))]) hx hb dX5_fetchWord_34 rfl hl (by decide) rfl (fun ls hl => ?_)
  refine lv_aload_n hx hb dX5_fetchWord_35 rfl (lv_at hl 1 rfl) ?_
  refine z_get hC hI hinX5_fetchWord_X50 7 (wC_e7 ad cy σ3) rfl 2 (by decide) (List.mem_cons_of_mem _ zw7_5) rfl dX5_fetchWord_36 ?_
  refine lv_bipush (v := 19) hx hb dX5_fetchWord_39 (by decide) ?_
  refine lv_aload_n hx hb dX5_fetchWord_41 rfl (lv_at hl 1 rfl) ?_
  refine z_get hC hI hinX5_fetchWord_X50 7 (wC_e7 ad cy σ3) rfl 2 (by decide) (List.mem_cons_of_mem _ zw7_5) rfl dX5_fetchWord_42 ?_
  refine lv_bipush (v := 19) hx hb dX5_fetchWord_45 (by decide) ?_
  obtain ⟨q, hf⟩ := zck_use hf
  refine z_iald hC hI 36 23 (wC_e36 ad cy σ3) (tC_t36 cy) q dX5_fetchWord_47 ?_
  refine lv_iconst (v := 2) hx hb dX5_fetchWord_48 (by decide) ?_
  refine lv_iadd hx hb dX5_fetchWord_49 ?_
  refine lv_ldc (v := 65535) hx hb hC.2.2.2.1 (hC.2.2.2.2.1 _ (List.mem_cons_of_mem _ zw20_6)) dX5_fetchWord_50 ?_
  refine lv_iand hx hb dX5_fetchWord_52 ?_
  obtain ⟨q, hf⟩ := zck_use hf
  obtain ⟨σ6, eσ6⟩ : ∃ z, z = zsi σ3 36 ((19 : Int32).toNatClampNeg) (((zgi σ3 36 (19 : Int32).toNatClampNeg) + 2) &&& 65535) := ⟨_, rfl⟩
  replace hf := zbv_use eσ6 hf
  refine z_iast hC hI 36 23 (wC_e36 ad cy σ3) (tC_t36 cy) q ((wC_s36 ad cy σ3 _ _).trans (congrArg (wC ad cy) eσ6.symm)) dX5_fetchWord_53 (fun H locs hI => ?_)
  refine lv_iload_n hx hb dX5_fetchWord_54 rfl (lv_at hl 0 rfl) ?_
  exact z_ireturn hC hI hf dX5_fetchWord_55
set_option maxRecDepth 20000 in
theorem cX5_fetchWord_met (st : Nat → Nat) (l : Launch) (D : va_G) (ad : Nat → Nat) (cy : Nat → ClassId) (σ : zSt)  (res : zSt × Int32) (hf : fX5_fetchWord σ  = some res) (sz : Nat) : zMi st l yX5_fetchWord wzX5_fetchWord rmX5_fetchWord [.ref (ad 7)] D (tC cy) (wC ad cy) sz σ res :=
  zMi.of (cc := cX5_fetchWord) (maxL := 2) (ret := (some .int)) (by decide) rfl (Nat.le_of_ble_eq_true rfl) (fun p e s m args below meth c hC A hI ls hl => bX5_fetchWord hC hI hl hf)
theorem hdX5_fetchWord : yX5_fetchWord.cls = RX5 ∧ yX5_fetchWord.cls ≠ "java/lang/invoke/MethodHandle" ∧ yX5_fetchWord.cls ≠ "java/lang/invoke/VarHandle" ∧ (parseMethodDescriptor yX5_fetchWord.desc).map (fun d => d.parameters.length) = some 0 := by decide +kernel
noncomputable def rmX5_hl : Room := { frames := 1, cells := 0, slots := 0, locals := 21 }
noncomputable def wzX5_hl : List Cond := .code yX5_hl cX5_hl 1 (some .int) :: wsL_law
theorem hinX5_hl_X50 : ∀ w ∈ wsX50, w ∈ wzX5_hl := fun w h => List.mem_cons_of_mem _ (inlX5 w h)
noncomputable def fX5_hl_27  (σ : zSt) (s0 : Int32) : Option (zSt × Int32) :=
  some (σ, s0)
noncomputable def fX5_hl  (σ : zSt)  : Option (zSt × Int32) :=
  if (zgi σ 7 4) = 6 then zbi (fX5_pairAt σ 6) (fun σ1 v2 =>
  fX5_hl_27 σ1 v2) else
  zck (zin (zgi σ 7 4) 29) (
  fX5_hl_27 σ (zgi σ 36 (zgi σ 7 4).toNatClampNeg))
set_option maxRecDepth 20000 in
set_option maxHeartbeats 4000000 in
theorem bX5_hl_27 {st : Nat → Nat} {p : Program} {l : Launch} {e : Env} {s : State} {m : MethodId} {args : Array Value} {below : List Frame} {meth : Method} {c : Code} {D : va_G} {A : Nat → Prop} {ad : Nat → Nat} {cy : Nat → ClassId} (hC : zC p m c cX5_hl 1 s args wzX5_hl RX5 meth (some .int))  {res : zSt × Int32} {H : Heap} {locs : List Loc} {σ : zSt} {ls : Array Slot} {s0 : Int32} (hI : zI st D (tC cy) (wC ad cy σ) A s H locs) (hl : lv_has ls 1 []) (hf : fX5_hl_27  σ s0 = some res) : W p l e rmX5_hl s m args below meth c H locs 0 0 (zQi below args s D (tC cy) (wC ad cy) A res) (F0 m 27 ls [.int s0]) := by
  have hx := hC.1
  have hb := hC.2.1
  unfold fX5_hl_27 at hf
  exact z_ireturn hC hI hf dX5_hl_27
set_option maxRecDepth 20000 in
set_option maxHeartbeats 4000000 in
theorem bX5_hl {st : Nat → Nat} {p : Program} {l : Launch} {e : Env} {s : State} {m : MethodId} {args : Array Value} {below : List Frame} {meth : Method} {c : Code} {D : va_G} {A : Nat → Prop} {ad : Nat → Nat} {cy : Nat → ClassId} (hC : zC p m c cX5_hl 1 s args wzX5_hl RX5 meth (some .int))  {res : zSt × Int32} {H : Heap} {locs : List Loc} {σ : zSt} {ls : Array Slot}  (hI : zI st D (tC cy) (wC ad cy σ) A s H locs) (hl : lv_has ls 1 [(0, .ref (ad 7))]) (hf : fX5_hl  σ  = some res) : W p l e rmX5_hl s m args below meth c H locs 0 0 (zQi below args s D (tC cy) (wC ad cy) A res) (F0 m 0 ls []) := by
  have hx := hC.1
  have hb := hC.2.1
  unfold fX5_hl at hf
  refine lv_aload_n hx hb dX5_hl_0 rfl (lv_at hl 0 rfl) ?_
  refine z_get hC hI hinX5_hl_X50 7 (wC_e7 ad cy σ) rfl 4 (by decide) (List.mem_cons_of_mem _ zw7_7) rfl dX5_hl_1 ?_
  refine lv_bipush (v := 6) hx hb dX5_hl_4 (by decide) ?_
  refine lv_icmp_ne (tgt := 18) hx hb dX5_hl_6 (by decide) (fun q => ?_) (fun q => ?_)
  · replace hf := zif_f q hf
    refine lv_aload_n hx hb dX5_hl_18 rfl (lv_at hl 0 rfl) ?_
    refine z_get hC hI hinX5_hl_X50 7 (wC_e7 ad cy σ) rfl 2 (by decide) (List.mem_cons_of_mem _ zw7_5) rfl dX5_hl_19 ?_
    refine lv_aload_n hx hb dX5_hl_22 rfl (lv_at hl 0 rfl) ?_
    refine z_get hC hI hinX5_hl_X50 7 (wC_e7 ad cy σ) rfl 4 (by decide) (List.mem_cons_of_mem _ zw7_7) rfl dX5_hl_23 ?_
    obtain ⟨q, hf⟩ := zck_use hf
    refine z_iald hC hI 36 23 (wC_e36 ad cy σ) (tC_t36 cy) q dX5_hl_26 ?_
    exact bX5_hl_27 hC  hI (lv_sub hl [] rfl) hf
  replace hf := zif_t q hf
  refine lv_aload_n hx hb dX5_hl_9 rfl (lv_at hl 0 rfl) ?_
  refine lv_bipush (v := 6) hx hb dX5_hl_10 (by decide) ?_
  obtain ⟨σ1, v2, g1, hf⟩ := zbi_use hf
  refine z_callVi (As := [.int 6]) (rest := []) hC hI (cX5_pairAt_met st l D ad cy σ 6 _ g1) (zgV zw21_15 zw21_16 zw21_17 zw2_21 zw21_18) rfl ⟨rfl, rfl⟩ 1 hdX5_pairAt ⟨Nat.le_of_ble_eq_true rfl, Nat.le_of_ble_eq_true rfl⟩ rfl rfl (wC_e7 ad cy σ) rfl hl rfl (Nat.le_of_ble_eq_true rfl) dX5_hl_12 ⟨Nat.zero_le _, Nat.zero_le _⟩ (fun H locs hI => ?_)
  refine lv_goto (tgt := 27) hx hb dX5_hl_15 (by decide) ?_
  exact bX5_hl_27 hC  hI (lv_sub hl [] rfl) hf
set_option maxRecDepth 20000 in
theorem cX5_hl_met (st : Nat → Nat) (l : Launch) (D : va_G) (ad : Nat → Nat) (cy : Nat → ClassId) (σ : zSt)  (res : zSt × Int32) (hf : fX5_hl σ  = some res) (sz : Nat) : zMi st l yX5_hl wzX5_hl rmX5_hl [.ref (ad 7)] D (tC cy) (wC ad cy) sz σ res :=
  zMi.of (cc := cX5_hl) (maxL := 1) (ret := (some .int)) (by decide) rfl (Nat.le_of_ble_eq_true rfl) (fun p e s m args below meth c hC A hI ls hl => bX5_hl hC hI hl hf)
theorem hdX5_hl : yX5_hl.cls = RX5 ∧ yX5_hl.cls ≠ "java/lang/invoke/MethodHandle" ∧ yX5_hl.cls ≠ "java/lang/invoke/VarHandle" ∧ (parseMethodDescriptor yX5_hl.desc).map (fun d => d.parameters.length) = some 0 := by decide +kernel
noncomputable def rmX5_pair : Room := { frames := 2, cells := 0, slots := 0, locals := 41 }
noncomputable def wzX5_pair : List Cond := .code yX5_pair cX5_pair 2 (some .int) :: wsL_law
theorem hinX5_pair_X50 : ∀ w ∈ wsX50, w ∈ wzX5_pair := fun w h => List.mem_cons_of_mem _ (inlX5 w h)
noncomputable def fX5_pair  (σ : zSt) (x1 : Int32) : Option (zSt × Int32) :=
  if x1 = 0 then zbi (fX5_pairAt σ 2) (fun σ1 v2 =>
  some (σ1, v2)) else
  if x1 = 1 then zbi (fX5_pairAt σ 4) (fun σ3 v4 =>
  some (σ3, v4)) else
  if x1 = 2 then zbi (fX5_hl σ ) (fun σ5 v6 =>
  some (σ5, v6)) else
  zck (zin 18 29) (
  some (σ, zgi σ 36 (18 : Int32).toNatClampNeg))
set_option maxRecDepth 20000 in
set_option maxHeartbeats 4000000 in
theorem bX5_pair {st : Nat → Nat} {p : Program} {l : Launch} {e : Env} {s : State} {m : MethodId} {args : Array Value} {below : List Frame} {meth : Method} {c : Code} {D : va_G} {A : Nat → Prop} {ad : Nat → Nat} {cy : Nat → ClassId} (hC : zC p m c cX5_pair 2 s args wzX5_pair RX5 meth (some .int))  {res : zSt × Int32} {H : Heap} {locs : List Loc} {σ : zSt} {ls : Array Slot} {x1 : Int32} (hI : zI st D (tC cy) (wC ad cy σ) A s H locs) (hl : lv_has ls 2 [(0, .ref (ad 7)), (1, .int x1)]) (hf : fX5_pair  σ x1 = some res) : W p l e rmX5_pair s m args below meth c H locs 0 0 (zQi below args s D (tC cy) (wC ad cy) A res) (F0 m 0 ls []) := by
  have hx := hC.1
  have hb := hC.2.1
  unfold fX5_pair at hf
  refine lv_iload_n hx hb dX5_pair_0 rfl (lv_at hl 1 rfl) ?_
  by_cases q0 : x1 = 0
  · replace hf := zif_t q0 hf
    refine lv_tableIn (tgt := 28) hx hb dX5_pair_1 (by rw [q0]; decide) (by rw [q0]; decide) (by rw [q0]; rfl) (by decide) ?_
    refine lv_aload_n hx hb dX5_pair_28 rfl (lv_at hl 0 rfl) ?_
    refine lv_iconst (v := 2) hx hb dX5_pair_29 (by decide) ?_
    obtain ⟨σ1, v2, g1, hf⟩ := zbi_use hf
    refine z_callVi (As := [.int 2]) (rest := []) hC hI (cX5_pairAt_met st l D ad cy σ 2 _ g1) (zgV zw21_15 zw21_16 zw21_17 zw2_21 zw21_18) rfl ⟨rfl, rfl⟩ 1 hdX5_pairAt ⟨Nat.le_of_ble_eq_true rfl, Nat.le_of_ble_eq_true rfl⟩ rfl rfl (wC_e7 ad cy σ) rfl hl rfl (Nat.le_of_ble_eq_true rfl) dX5_pair_30 ⟨Nat.zero_le _, Nat.zero_le _⟩ (fun H locs hI => ?_)
    exact z_ireturn hC hI hf dX5_pair_33
  replace hf := zif_f q0 hf
  by_cases q1 : x1 = 1
  · replace hf := zif_t q1 hf
    refine lv_tableIn (tgt := 34) hx hb dX5_pair_1 (by rw [q1]; decide) (by rw [q1]; decide) (by rw [q1]; rfl) (by decide) ?_
    refine lv_aload_n hx hb dX5_pair_34 rfl (lv_at hl 0 rfl) ?_
    refine lv_iconst (v := 4) hx hb dX5_pair_35 (by decide) ?_
    obtain ⟨σ3, v4, g3, hf⟩ := zbi_use hf
    refine z_callVi (As := [.int 4]) (rest := []) hC hI (cX5_pairAt_met st l D ad cy σ 4 _ g3) (zgV zw21_15 zw21_16 zw21_17 zw2_21 zw21_18) rfl ⟨rfl, rfl⟩ 1 hdX5_pairAt ⟨Nat.le_of_ble_eq_true rfl, Nat.le_of_ble_eq_true rfl⟩ rfl rfl (wC_e7 ad cy σ) rfl hl rfl (Nat.le_of_ble_eq_true rfl) dX5_pair_36 ⟨Nat.zero_le _, Nat.zero_le _⟩ (fun H locs hI => ?_)
    exact z_ireturn hC hI hf dX5_pair_39
  replace hf := zif_f q1 hf
  by_cases q2 : x1 = 2
  · replace hf := zif_t q2 hf
    refine lv_tableIn (tgt := 40) hx hb dX5_pair_1 (by rw [q2]; decide) (by rw [q2]; decide) (by rw [q2]; rfl) (by decide) ?_
    refine lv_aload_n hx hb dX5_pair_40 rfl (lv_at hl 0 rfl) ?_
    obtain ⟨σ5, v6, g5, hf⟩ := zbi_use hf
    refine z_callVi (As := []) (rest := []) hC hI (cX5_hl_met st l D ad cy σ  _ g5) (zgV zw29_15 zw29_16 zw29_17 zw2_21 zw29_18) rfl ⟨rfl, rfl⟩ 0 hdX5_hl ⟨Nat.le_of_ble_eq_true rfl, Nat.le_of_ble_eq_true rfl⟩ rfl rfl (wC_e7 ad cy σ) rfl hl rfl (Nat.le_of_ble_eq_true rfl) dX5_pair_41 ⟨Nat.zero_le _, Nat.zero_le _⟩ (fun H locs hI => ?_)
    exact z_ireturn hC hI hf dX5_pair_44
  replace hf := zif_f q2 hf
  refine lv_tableOut (tgt := 45) hx hb dX5_pair_1 (zsw (fun k h1 h2 => by rcases (show k = 0 ∨ k = 1 ∨ k = 2 by omega) with rfl | rfl | rfl <;> assumption)) (by decide) ?_
  refine lv_aload_n hx hb dX5_pair_45 rfl (lv_at hl 0 rfl) ?_
  refine z_get hC hI hinX5_pair_X50 7 (wC_e7 ad cy σ) rfl 2 (by decide) (List.mem_cons_of_mem _ zw7_5) rfl dX5_pair_46 ?_
  refine lv_bipush (v := 18) hx hb dX5_pair_49 (by decide) ?_
  obtain ⟨q, hf⟩ := zck_use hf
  refine z_iald hC hI 36 23 (wC_e36 ad cy σ) (tC_t36 cy) q dX5_pair_51 ?_
  exact z_ireturn hC hI hf dX5_pair_52
set_option maxRecDepth 20000 in
theorem cX5_pair_met (st : Nat → Nat) (l : Launch) (D : va_G) (ad : Nat → Nat) (cy : Nat → ClassId) (σ : zSt) (x1 : Int32) (res : zSt × Int32) (hf : fX5_pair σ x1 = some res) (sz : Nat) : zMi st l yX5_pair wzX5_pair rmX5_pair [.ref (ad 7), .int x1] D (tC cy) (wC ad cy) sz σ res :=
  zMi.of (cc := cX5_pair) (maxL := 2) (ret := (some .int)) (by decide) rfl (Nat.le_of_ble_eq_true rfl) (fun p e s m args below meth c hC A hI ls hl => bX5_pair hC hI hl hf)
theorem hdX5_pair : yX5_pair.cls = RX5 ∧ yX5_pair.cls ≠ "java/lang/invoke/MethodHandle" ∧ yX5_pair.cls ≠ "java/lang/invoke/VarHandle" ∧ (parseMethodDescriptor yX5_pair.desc).map (fun d => d.parameters.length) = some 1 := by decide +kernel
noncomputable def rmX5_writeWord : Room := { frames := 2, cells := 0, slots := 0, locals := 44 }
noncomputable def wzX5_writeWord : List Cond := .code yX5_writeWord cX5_writeWord 3 none :: wsL_law
theorem hinX5_writeWord_X50 : ∀ w ∈ wsX50, w ∈ wzX5_writeWord := fun w h => List.mem_cons_of_mem _ (inlX5 w h)
noncomputable def fX5_writeWord  (σ : zSt) (x1 : Int32) (x2 : Int32) : Option (zSt) :=
  zbu (fX2_write σ x1 (x2 &&& 255)) (fun σ1 =>
  zbu (fX2_write σ1 (x1 + 1) (x2 >>> ((8 : Int32) &&& 31))) (fun σ2 =>
  some σ2))
set_option maxRecDepth 20000 in
set_option maxHeartbeats 4000000 in
theorem bX5_writeWord {st : Nat → Nat} {p : Program} {l : Launch} {e : Env} {s : State} {m : MethodId} {args : Array Value} {below : List Frame} {meth : Method} {c : Code} {D : va_G} {A : Nat → Prop} {ad : Nat → Nat} {cy : Nat → ClassId} (hC : zC p m c cX5_writeWord 3 s args wzX5_writeWord RX5 meth none)  {res : zSt} {H : Heap} {locs : List Loc} {σ : zSt} {ls : Array Slot} {x1 : Int32} {x2 : Int32} (hI : zI st D (tC cy) (wC ad cy σ) A s H locs) (hl : lv_has ls 3 [(0, .ref (ad 7)), (1, .int x1), (2, .int x2)]) (hf : fX5_writeWord  σ x1 x2 = some res) : W p l e rmX5_writeWord s m args below meth c H locs 0 0 (zQu below args s D (tC cy) (wC ad cy) A res) (F0 m 0 ls []) := by
  have hx := hC.1
  have hb := hC.2.1
  unfold fX5_writeWord at hf
  refine lv_aload_n hx hb dX5_writeWord_0 rfl (lv_at hl 0 rfl) ?_
  refine z_get hC hI hinX5_writeWord_X50 7 (wC_e7 ad cy σ) rfl 0 (by decide) (List.mem_cons_of_mem _ zw7_8) rfl dX5_writeWord_1 ?_
  refine lv_iload_n hx hb dX5_writeWord_4 rfl (lv_at hl 1 rfl) ?_
  refine lv_iload_n hx hb dX5_writeWord_5 rfl (lv_at hl 2 rfl) ?_
  refine lv_sipush (v := 255) hx hb dX5_writeWord_6 (by decide) ?_
  refine lv_iand hx hb dX5_writeWord_9 ?_
  obtain ⟨σ1, g1, hf⟩ := zbu_use hf
  refine z_callVu (As := [.int x1, .int (x2 &&& 255)]) (rest := []) hC hI (cX2_write_met st l D ad cy σ x1 (x2 &&& 255) _ g1) (zgV zw20_7 zw20_8 zw20_9 zw1_21 zw20_10) rfl ⟨rfl, rfl⟩ 2 hdX2_write ⟨Nat.le_of_ble_eq_true rfl, Nat.le_of_ble_eq_true rfl⟩ rfl rfl (wC_e1 ad cy σ) rfl hl rfl (Nat.le_of_ble_eq_true rfl) dX5_writeWord_10 ⟨Nat.zero_le _, Nat.zero_le _⟩ (fun H locs hI => ?_)
  refine lv_aload_n hx hb dX5_writeWord_13 rfl (lv_at hl 0 rfl) ?_
  refine z_get hC hI hinX5_writeWord_X50 7 (wC_e7 ad cy σ1) rfl 0 (by decide) (List.mem_cons_of_mem _ zw7_8) rfl dX5_writeWord_14 ?_
  refine lv_iload_n hx hb dX5_writeWord_17 rfl (lv_at hl 1 rfl) ?_
  refine lv_iconst (v := 1) hx hb dX5_writeWord_18 (by decide) ?_
  refine lv_iadd hx hb dX5_writeWord_19 ?_
  refine lv_iload_n hx hb dX5_writeWord_20 rfl (lv_at hl 2 rfl) ?_
  refine lv_bipush (v := 8) hx hb dX5_writeWord_21 (by decide) ?_
  refine lv_ishr hx hb dX5_writeWord_23 ?_
  obtain ⟨σ2, g2, hf⟩ := zbu_use hf
  refine z_callVu (As := [.int (x1 + 1), .int (x2 >>> ((8 : Int32) &&& 31))]) (rest := []) hC hI (cX2_write_met st l D ad cy σ1 (x1 + 1) (x2 >>> ((8 : Int32) &&& 31)) _ g2) (zgV zw20_7 zw20_8 zw20_9 zw1_21 zw20_10) rfl ⟨rfl, rfl⟩ 2 hdX2_write ⟨Nat.le_of_ble_eq_true rfl, Nat.le_of_ble_eq_true rfl⟩ rfl rfl (wC_e1 ad cy σ1) rfl hl rfl (Nat.le_of_ble_eq_true rfl) dX5_writeWord_24 ⟨Nat.zero_le _, Nat.zero_le _⟩ (fun H locs hI => ?_)
  exact z_return hC hI hf dX5_writeWord_27
set_option maxRecDepth 20000 in
theorem cX5_writeWord_met (st : Nat → Nat) (l : Launch) (D : va_G) (ad : Nat → Nat) (cy : Nat → ClassId) (σ : zSt) (x1 : Int32) (x2 : Int32) (res : zSt) (hf : fX5_writeWord σ x1 x2 = some res) (sz : Nat) : zMu st l yX5_writeWord wzX5_writeWord rmX5_writeWord [.ref (ad 7), .int x1, .int x2] D (tC cy) (wC ad cy) sz σ res :=
  zMu.of (cc := cX5_writeWord) (maxL := 3) (ret := none) (by decide) rfl (Nat.le_of_ble_eq_true rfl) (fun p e s m args below meth c hC A hI ls hl => bX5_writeWord hC hI hl hf)
theorem hdX5_writeWord : yX5_writeWord.cls = RX5 ∧ yX5_writeWord.cls ≠ "java/lang/invoke/MethodHandle" ∧ yX5_writeWord.cls ≠ "java/lang/invoke/VarHandle" ∧ (parseMethodDescriptor yX5_writeWord.desc).map (fun d => d.parameters.length) = some 2 := by decide +kernel
noncomputable def rmX5_putHl : Room := { frames := 1, cells := 0, slots := 0, locals := 22 }
noncomputable def wzX5_putHl : List Cond := .code yX5_putHl cX5_putHl 2 none :: wsL_law
theorem hinX5_putHl_X50 : ∀ w ∈ wsX50, w ∈ wzX5_putHl := fun w h => List.mem_cons_of_mem _ (inlX5 w h)
noncomputable def fX5_putHl_32  (σ : zSt)  : Option (zSt) :=
  some σ
noncomputable def fX5_putHl  (σ : zSt) (x1 : Int32) : Option (zSt) :=
  if (zgi σ 7 4) = 6 then zbu (fX5_putPairAt σ 6 x1) (fun σ2 =>
  fX5_putHl_32 σ2) else
  zck (zin (zgi σ 7 4) 29) (zbv (zsi σ 36 ((zgi σ 7 4).toNatClampNeg) (x1 &&& 65535)) (fun σ1 =>
  fX5_putHl_32 σ1))
set_option maxRecDepth 20000 in
set_option maxHeartbeats 4000000 in
theorem bX5_putHl_32 {st : Nat → Nat} {p : Program} {l : Launch} {e : Env} {s : State} {m : MethodId} {args : Array Value} {below : List Frame} {meth : Method} {c : Code} {D : va_G} {A : Nat → Prop} {ad : Nat → Nat} {cy : Nat → ClassId} (hC : zC p m c cX5_putHl 2 s args wzX5_putHl RX5 meth none)  {res : zSt} {H : Heap} {locs : List Loc} {σ : zSt} {ls : Array Slot}  (hI : zI st D (tC cy) (wC ad cy σ) A s H locs) (hl : lv_has ls 2 []) (hf : fX5_putHl_32  σ  = some res) : W p l e rmX5_putHl s m args below meth c H locs 0 0 (zQu below args s D (tC cy) (wC ad cy) A res) (F0 m 32 ls []) := by
  have hx := hC.1
  have hb := hC.2.1
  unfold fX5_putHl_32 at hf
  exact z_return hC hI hf dX5_putHl_32
set_option maxRecDepth 20000 in
set_option maxHeartbeats 4000000 in
theorem bX5_putHl {st : Nat → Nat} {p : Program} {l : Launch} {e : Env} {s : State} {m : MethodId} {args : Array Value} {below : List Frame} {meth : Method} {c : Code} {D : va_G} {A : Nat → Prop} {ad : Nat → Nat} {cy : Nat → ClassId} (hC : zC p m c cX5_putHl 2 s args wzX5_putHl RX5 meth none)  {res : zSt} {H : Heap} {locs : List Loc} {σ : zSt} {ls : Array Slot} {x1 : Int32} (hI : zI st D (tC cy) (wC ad cy σ) A s H locs) (hl : lv_has ls 2 [(0, .ref (ad 7)), (1, .int x1)]) (hf : fX5_putHl  σ x1 = some res) : W p l e rmX5_putHl s m args below meth c H locs 0 0 (zQu below args s D (tC cy) (wC ad cy) A res) (F0 m 0 ls []) := by
  have hx := hC.1
  have hb := hC.2.1
  unfold fX5_putHl at hf
  refine lv_aload_n hx hb dX5_putHl_0 rfl (lv_at hl 0 rfl) ?_
  refine z_get hC hI hinX5_putHl_X50 7 (wC_e7 ad cy σ) rfl 4 (by decide) (List.mem_cons_of_mem _ zw7_7) rfl dX5_putHl_1 ?_
  refine lv_bipush (v := 6) hx hb dX5_putHl_4 (by decide) ?_
  refine lv_icmp_ne (tgt := 19) hx hb dX5_putHl_6 (by decide) (fun q => ?_) (fun q => ?_)
  · replace hf := zif_f q hf
    refine lv_aload_n hx hb dX5_putHl_19 rfl (lv_at hl 0 rfl) ?_
    refine z_get hC hI hinX5_putHl_X50 7 (wC_e7 ad cy σ) rfl 2 (by decide) (List.mem_cons_of_mem _ zw7_5) rfl dX5_putHl_20 ?_
    refine lv_aload_n hx hb dX5_putHl_23 rfl (lv_at hl 0 rfl) ?_
    refine z_get hC hI hinX5_putHl_X50 7 (wC_e7 ad cy σ) rfl 4 (by decide) (List.mem_cons_of_mem _ zw7_7) rfl dX5_putHl_24 ?_
    refine lv_iload_n hx hb dX5_putHl_27 rfl (lv_at hl 1 rfl) ?_
    refine lv_ldc (v := 65535) hx hb hC.2.2.2.1 (hC.2.2.2.2.1 _ (List.mem_cons_of_mem _ zw20_6)) dX5_putHl_28 ?_
    refine lv_iand hx hb dX5_putHl_30 ?_
    obtain ⟨q, hf⟩ := zck_use hf
    obtain ⟨σ1, eσ1⟩ : ∃ z, z = zsi σ 36 ((zgi σ 7 4).toNatClampNeg) (x1 &&& 65535) := ⟨_, rfl⟩
    replace hf := zbv_use eσ1 hf
    refine z_iast hC hI 36 23 (wC_e36 ad cy σ) (tC_t36 cy) q ((wC_s36 ad cy σ _ _).trans (congrArg (wC ad cy) eσ1.symm)) dX5_putHl_31 (fun H locs hI => ?_)
    exact bX5_putHl_32 hC  hI (lv_sub hl [] rfl) hf
  replace hf := zif_t q hf
  refine lv_aload_n hx hb dX5_putHl_9 rfl (lv_at hl 0 rfl) ?_
  refine lv_bipush (v := 6) hx hb dX5_putHl_10 (by decide) ?_
  refine lv_iload_n hx hb dX5_putHl_12 rfl (lv_at hl 1 rfl) ?_
  obtain ⟨σ2, g2, hf⟩ := zbu_use hf
  refine z_callVu (As := [.int 6, .int x1]) (rest := []) hC hI (cX5_putPairAt_met st l D ad cy σ 6 x1 _ g2) (zgV zw24_16 zw24_17 zw24_18 zw2_21 zw24_19) rfl ⟨rfl, rfl⟩ 2 hdX5_putPairAt ⟨Nat.le_of_ble_eq_true rfl, Nat.le_of_ble_eq_true rfl⟩ rfl rfl (wC_e7 ad cy σ) rfl hl rfl (Nat.le_of_ble_eq_true rfl) dX5_putHl_13 ⟨Nat.zero_le _, Nat.zero_le _⟩ (fun H locs hI => ?_)
  refine lv_goto (tgt := 32) hx hb dX5_putHl_16 (by decide) ?_
  exact bX5_putHl_32 hC  hI (lv_sub hl [] rfl) hf
set_option maxRecDepth 20000 in
theorem cX5_putHl_met (st : Nat → Nat) (l : Launch) (D : va_G) (ad : Nat → Nat) (cy : Nat → ClassId) (σ : zSt) (x1 : Int32) (res : zSt) (hf : fX5_putHl σ x1 = some res) (sz : Nat) : zMu st l yX5_putHl wzX5_putHl rmX5_putHl [.ref (ad 7), .int x1] D (tC cy) (wC ad cy) sz σ res :=
  zMu.of (cc := cX5_putHl) (maxL := 2) (ret := none) (by decide) rfl (Nat.le_of_ble_eq_true rfl) (fun p e s m args below meth c hC A hI ls hl => bX5_putHl hC hI hl hf)
theorem hdX5_putHl : yX5_putHl.cls = RX5 ∧ yX5_putHl.cls ≠ "java/lang/invoke/MethodHandle" ∧ yX5_putHl.cls ≠ "java/lang/invoke/VarHandle" ∧ (parseMethodDescriptor yX5_putHl.desc).map (fun d => d.parameters.length) = some 1 := by decide +kernel
noncomputable def rmX5_putPair : Room := { frames := 2, cells := 0, slots := 0, locals := 43 }
noncomputable def wzX5_putPair : List Cond := .code yX5_putPair cX5_putPair 3 none :: wsL_law
theorem hinX5_putPair_X50 : ∀ w ∈ wsX50, w ∈ wzX5_putPair := fun w h => List.mem_cons_of_mem _ (inlX5 w h)
noncomputable def fX5_putPair_65  (σ : zSt)  : Option (zSt) :=
  some σ
noncomputable def fX5_putPair  (σ : zSt) (x1 : Int32) (x2 : Int32) : Option (zSt) :=
  if x1 = 0 then zbu (fX5_putPairAt σ 2 x2) (fun σ1 =>
  fX5_putPair_65 σ1) else
  if x1 = 1 then zbu (fX5_putPairAt σ 4 x2) (fun σ2 =>
  fX5_putPair_65 σ2) else
  if x1 = 2 then zbu (fX5_putHl σ x2) (fun σ3 =>
  fX5_putPair_65 σ3) else
  zck (zin 18 29) (zbv (zsi σ 36 ((18 : Int32).toNatClampNeg) (x2 &&& 65535)) (fun σ4 =>
  fX5_putPair_65 σ4))
set_option maxRecDepth 20000 in
set_option maxHeartbeats 4000000 in
theorem bX5_putPair_65 {st : Nat → Nat} {p : Program} {l : Launch} {e : Env} {s : State} {m : MethodId} {args : Array Value} {below : List Frame} {meth : Method} {c : Code} {D : va_G} {A : Nat → Prop} {ad : Nat → Nat} {cy : Nat → ClassId} (hC : zC p m c cX5_putPair 3 s args wzX5_putPair RX5 meth none)  {res : zSt} {H : Heap} {locs : List Loc} {σ : zSt} {ls : Array Slot}  (hI : zI st D (tC cy) (wC ad cy σ) A s H locs) (hl : lv_has ls 3 []) (hf : fX5_putPair_65  σ  = some res) : W p l e rmX5_putPair s m args below meth c H locs 0 0 (zQu below args s D (tC cy) (wC ad cy) A res) (F0 m 65 ls []) := by
  have hx := hC.1
  have hb := hC.2.1
  unfold fX5_putPair_65 at hf
  exact z_return hC hI hf dX5_putPair_65
set_option maxRecDepth 20000 in
set_option maxHeartbeats 4000000 in
theorem bX5_putPair {st : Nat → Nat} {p : Program} {l : Launch} {e : Env} {s : State} {m : MethodId} {args : Array Value} {below : List Frame} {meth : Method} {c : Code} {D : va_G} {A : Nat → Prop} {ad : Nat → Nat} {cy : Nat → ClassId} (hC : zC p m c cX5_putPair 3 s args wzX5_putPair RX5 meth none)  {res : zSt} {H : Heap} {locs : List Loc} {σ : zSt} {ls : Array Slot} {x1 : Int32} {x2 : Int32} (hI : zI st D (tC cy) (wC ad cy σ) A s H locs) (hl : lv_has ls 3 [(0, .ref (ad 7)), (1, .int x1), (2, .int x2)]) (hf : fX5_putPair  σ x1 x2 = some res) : W p l e rmX5_putPair s m args below meth c H locs 0 0 (zQu below args s D (tC cy) (wC ad cy) A res) (F0 m 0 ls []) := by
  have hx := hC.1
  have hb := hC.2.1
  unfold fX5_putPair at hf
  refine lv_iload_n hx hb dX5_putPair_0 rfl (lv_at hl 1 rfl) ?_
  by_cases q0 : x1 = 0
  · replace hf := zif_t q0 hf
    refine lv_tableIn (tgt := 28) hx hb dX5_putPair_1 (by rw [q0]; decide) (by rw [q0]; decide) (by rw [q0]; rfl) (by decide) ?_
    refine lv_aload_n hx hb dX5_putPair_28 rfl (lv_at hl 0 rfl) ?_
    refine lv_iconst (v := 2) hx hb dX5_putPair_29 (by decide) ?_
    refine lv_iload_n hx hb dX5_putPair_30 rfl (lv_at hl 2 rfl) ?_
    obtain ⟨σ1, g1, hf⟩ := zbu_use hf
    refine z_callVu (As := [.int 2, .int x2]) (rest := []) hC hI (cX5_putPairAt_met st l D ad cy σ 2 x2 _ g1) (zgV zw24_16 zw24_17 zw24_18 zw2_21 zw24_19) rfl ⟨rfl, rfl⟩ 2 hdX5_putPairAt ⟨Nat.le_of_ble_eq_true rfl, Nat.le_of_ble_eq_true rfl⟩ rfl rfl (wC_e7 ad cy σ) rfl hl rfl (Nat.le_of_ble_eq_true rfl) dX5_putPair_31 ⟨Nat.zero_le _, Nat.zero_le _⟩ (fun H locs hI => ?_)
    refine lv_goto (tgt := 65) hx hb dX5_putPair_34 (by decide) ?_
    exact bX5_putPair_65 hC  hI (lv_sub hl [] rfl) hf
  replace hf := zif_f q0 hf
  by_cases q1 : x1 = 1
  · replace hf := zif_t q1 hf
    refine lv_tableIn (tgt := 37) hx hb dX5_putPair_1 (by rw [q1]; decide) (by rw [q1]; decide) (by rw [q1]; rfl) (by decide) ?_
    refine lv_aload_n hx hb dX5_putPair_37 rfl (lv_at hl 0 rfl) ?_
    refine lv_iconst (v := 4) hx hb dX5_putPair_38 (by decide) ?_
    refine lv_iload_n hx hb dX5_putPair_39 rfl (lv_at hl 2 rfl) ?_
    obtain ⟨σ2, g2, hf⟩ := zbu_use hf
    refine z_callVu (As := [.int 4, .int x2]) (rest := []) hC hI (cX5_putPairAt_met st l D ad cy σ 4 x2 _ g2) (zgV zw24_16 zw24_17 zw24_18 zw2_21 zw24_19) rfl ⟨rfl, rfl⟩ 2 hdX5_putPairAt ⟨Nat.le_of_ble_eq_true rfl, Nat.le_of_ble_eq_true rfl⟩ rfl rfl (wC_e7 ad cy σ) rfl hl rfl (Nat.le_of_ble_eq_true rfl) dX5_putPair_40 ⟨Nat.zero_le _, Nat.zero_le _⟩ (fun H locs hI => ?_)
    refine lv_goto (tgt := 65) hx hb dX5_putPair_43 (by decide) ?_
    exact bX5_putPair_65 hC  hI (lv_sub hl [] rfl) hf
  replace hf := zif_f q1 hf
  by_cases q2 : x1 = 2
  · replace hf := zif_t q2 hf
    refine lv_tableIn (tgt := 46) hx hb dX5_putPair_1 (by rw [q2]; decide) (by rw [q2]; decide) (by rw [q2]; rfl) (by decide) ?_
    refine lv_aload_n hx hb dX5_putPair_46 rfl (lv_at hl 0 rfl) ?_
    refine lv_iload_n hx hb dX5_putPair_47 rfl (lv_at hl 2 rfl) ?_
    obtain ⟨σ3, g3, hf⟩ := zbu_use hf
    refine z_callVu (As := [.int x2]) (rest := []) hC hI (cX5_putHl_met st l D ad cy σ x2 _ g3) (zgV zw30_3 zw30_4 zw30_5 zw2_21 zw30_6) rfl ⟨rfl, rfl⟩ 1 hdX5_putHl ⟨Nat.le_of_ble_eq_true rfl, Nat.le_of_ble_eq_true rfl⟩ rfl rfl (wC_e7 ad cy σ) rfl hl rfl (Nat.le_of_ble_eq_true rfl) dX5_putPair_48 ⟨Nat.zero_le _, Nat.zero_le _⟩ (fun H locs hI => ?_)
    refine lv_goto (tgt := 65) hx hb dX5_putPair_51 (by decide) ?_
    exact bX5_putPair_65 hC  hI (lv_sub hl [] rfl) hf
  replace hf := zif_f q2 hf
  refine lv_tableOut (tgt := 54) hx hb dX5_putPair_1 (zsw (fun k h1 h2 => by rcases (show k = 0 ∨ k = 1 ∨ k = 2 by omega) with rfl | rfl | rfl <;> assumption)) (by decide) ?_
  refine lv_aload_n hx hb dX5_putPair_54 rfl (lv_at hl 0 rfl) ?_
  refine z_get hC hI hinX5_putPair_X50 7 (wC_e7 ad cy σ) rfl 2 (by decide) (List.mem_cons_of_mem _ zw7_5) rfl dX5_putPair_55 ?_
  refine lv_bipush (v := 18) hx hb dX5_putPair_58 (by decide) ?_
  refine lv_iload_n hx hb dX5_putPair_60 rfl (lv_at hl 2 rfl) ?_
  refine lv_ldc (v := 65535) hx hb hC.2.2.2.1 (hC.2.2.2.2.1 _ (List.mem_cons_of_mem _ zw20_6)) dX5_putPair_61 ?_
  refine lv_iand hx hb dX5_putPair_63 ?_
  obtain ⟨q, hf⟩ := zck_use hf
  obtain ⟨σ4, eσ4⟩ : ∃ z, z = zsi σ 36 ((18 : Int32).toNatClampNeg) (x2 &&& 65535) := ⟨_, rfl⟩
  replace hf := zbv_use eσ4 hf
  refine z_iast hC hI 36 23 (wC_e36 ad cy σ) (tC_t36 cy) q ((wC_s36 ad cy σ _ _).trans (congrArg (wC ad cy) eσ4.symm)) dX5_putPair_64 (fun H locs hI => ?_)
  exact bX5_putPair_65 hC  hI (lv_sub hl [] rfl) hf
set_option maxRecDepth 20000 in
theorem cX5_putPair_met (st : Nat → Nat) (l : Launch) (D : va_G) (ad : Nat → Nat) (cy : Nat → ClassId) (σ : zSt) (x1 : Int32) (x2 : Int32) (res : zSt) (hf : fX5_putPair σ x1 x2 = some res) (sz : Nat) : zMu st l yX5_putPair wzX5_putPair rmX5_putPair [.ref (ad 7), .int x1, .int x2] D (tC cy) (wC ad cy) sz σ res :=
  zMu.of (cc := cX5_putPair) (maxL := 3) (ret := none) (by decide) rfl (Nat.le_of_ble_eq_true rfl) (fun p e s m args below meth c hC A hI ls hl => bX5_putPair hC hI hl hf)
theorem hdX5_putPair : yX5_putPair.cls = RX5 ∧ yX5_putPair.cls ≠ "java/lang/invoke/MethodHandle" ∧ yX5_putPair.cls ≠ "java/lang/invoke/VarHandle" ∧ (parseMethodDescriptor yX5_putPair.desc).map (fun d => d.parameters.length) = some 2 := by decide +kernel
end ZJN1
