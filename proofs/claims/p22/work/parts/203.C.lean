def kn_cX3_draw : Nat := 0xb1d9ffa70104844f2e7e1f102e04151100b42a1700b42a600415680001111b0a00b42a2500a200011104150436035e00b61c2a5b00b61d2a5800b61b2a08009f041c5400b61b1c2a1800a75100b81d0810031100b42a2600997e20103e00b6031a00b42a4e00b61b2a4a00b61b2a2900a0071c4300a74400b81d1100b42a0e009a7e40103e00b6041a00b42a3e607e0f103e00b607101a00b42a030400a710100800a0071c3d4100b61a00b42ab10400a1f000111b0a009b1b3c3e00b614101a00b42a
theorem zk_cX3_draw : zkd cX3_draw.data.toList kn_cX3_draw = true := by decide +kernel
theorem zn_cX3_draw : cX3_draw.data.toList.length = 195 := by decide +kernel
theorem dX3_draw_0 : decode cX3_draw 0 = .ok (.aload_n 0, 1) := zo_42 (zkb zk_cX3_draw zn_cX3_draw (by decide +kernel))
theorem dX3_draw_1 : decode cX3_draw 1 = .ok (.getfield 26, 3) := zo_180 (b1 := 0) (b2 := 26) (zkb3 zk_cX3_draw zn_cX3_draw (by decide +kernel)) rfl
theorem dX3_draw_4 : decode cX3_draw 4 = .ok (.bipush 20, 2) := zo_16 (b1 := 20) (zkb2 zk_cX3_draw zn_cX3_draw (by decide +kernel)) rfl
theorem dX3_draw_6 : decode cX3_draw 6 = .ok (.invokevirtual 62, 3) := zo_182 (b1 := 0) (b2 := 62) (zkb3 zk_cX3_draw zn_cX3_draw (by decide +kernel)) rfl
theorem dX3_draw_9 : decode cX3_draw 9 = .ok (.istore_n 1, 1) := zo_60 (zkb zk_cX3_draw zn_cX3_draw (by decide +kernel))
theorem dX3_draw_10 : decode cX3_draw 10 = .ok (.iload_n 1, 1) := zo_27 (zkb zk_cX3_draw zn_cX3_draw (by decide +kernel))
theorem dX3_draw_11 : decode cX3_draw 11 = .ok (.ifCond .lt 10, 3) := zo_155 (b1 := 0) (b2 := 10) (zkb3 zk_cX3_draw zn_cX3_draw (by decide +kernel)) rfl
theorem dX3_draw_14 : decode cX3_draw 14 = .ok (.iload_n 1, 1) := zo_27 (zkb zk_cX3_draw zn_cX3_draw (by decide +kernel))
theorem dX3_draw_15 : decode cX3_draw 15 = .ok (.sipush 240, 3) := zo_17 (b1 := 0) (b2 := 240) (zkb3 zk_cX3_draw zn_cX3_draw (by decide +kernel)) rfl
theorem dX3_draw_18 : decode cX3_draw 18 = .ok (.if_icmp .lt 4, 3) := zo_161 (b1 := 0) (b2 := 4) (zkb3 zk_cX3_draw zn_cX3_draw (by decide +kernel)) rfl
theorem dX3_draw_21 : decode cX3_draw 21 = .ok (.return_, 1) := zo_177 (zkb zk_cX3_draw zn_cX3_draw (by decide +kernel))
theorem dX3_draw_22 : decode cX3_draw 22 = .ok (.aload_n 0, 1) := zo_42 (zkb zk_cX3_draw zn_cX3_draw (by decide +kernel))
theorem dX3_draw_23 : decode cX3_draw 23 = .ok (.getfield 26, 3) := zo_180 (b1 := 0) (b2 := 26) (zkb3 zk_cX3_draw zn_cX3_draw (by decide +kernel)) rfl
theorem dX3_draw_26 : decode cX3_draw 26 = .ok (.invokevirtual 65, 3) := zo_182 (b1 := 0) (b2 := 65) (zkb3 zk_cX3_draw zn_cX3_draw (by decide +kernel)) rfl
theorem dX3_draw_29 : decode cX3_draw 29 = .ok (.istore_n 2, 1) := zo_61 (zkb zk_cX3_draw zn_cX3_draw (by decide +kernel))
theorem dX3_draw_30 : decode cX3_draw 30 = .ok (.iload_n 2, 1) := zo_28 (zkb zk_cX3_draw zn_cX3_draw (by decide +kernel))
theorem dX3_draw_31 : decode cX3_draw 31 = .ok (.iconst 4, 1) := zo_7 (zkb zk_cX3_draw zn_cX3_draw (by decide +kernel))
theorem dX3_draw_32 : decode cX3_draw 32 = .ok (.if_icmp .ne 8, 3) := zo_160 (b1 := 0) (b2 := 8) (zkb3 zk_cX3_draw zn_cX3_draw (by decide +kernel)) rfl
theorem dX3_draw_35 : decode cX3_draw 35 = .ok (.bipush 16, 2) := zo_16 (b1 := 16) (zkb2 zk_cX3_draw zn_cX3_draw (by decide +kernel)) rfl
theorem dX3_draw_37 : decode cX3_draw 37 = .ok (.goto 4, 3) := zo_167 (b1 := 0) (b2 := 4) (zkb3 zk_cX3_draw zn_cX3_draw (by decide +kernel)) rfl
theorem dX3_draw_40 : decode cX3_draw 40 = .ok (.iconst 0, 1) := zo_3 (zkb zk_cX3_draw zn_cX3_draw (by decide +kernel))
theorem dX3_draw_41 : decode cX3_draw 41 = .ok (.aload_n 0, 1) := zo_42 (zkb zk_cX3_draw zn_cX3_draw (by decide +kernel))
theorem dX3_draw_42 : decode cX3_draw 42 = .ok (.getfield 26, 3) := zo_180 (b1 := 0) (b2 := 26) (zkb3 zk_cX3_draw zn_cX3_draw (by decide +kernel)) rfl
theorem dX3_draw_45 : decode cX3_draw 45 = .ok (.bipush 7, 2) := zo_16 (b1 := 7) (zkb2 zk_cX3_draw zn_cX3_draw (by decide +kernel)) rfl
theorem dX3_draw_47 : decode cX3_draw 47 = .ok (.invokevirtual 62, 3) := zo_182 (b1 := 0) (b2 := 62) (zkb3 zk_cX3_draw zn_cX3_draw (by decide +kernel)) rfl
theorem dX3_draw_50 : decode cX3_draw 50 = .ok (.bipush 15, 2) := zo_16 (b1 := 15) (zkb2 zk_cX3_draw zn_cX3_draw (by decide +kernel)) rfl
theorem dX3_draw_52 : decode cX3_draw 52 = .ok (.iand, 1) := zo_126 (zkb zk_cX3_draw zn_cX3_draw (by decide +kernel))
theorem dX3_draw_53 : decode cX3_draw 53 = .ok (.iadd, 1) := zo_96 (zkb zk_cX3_draw zn_cX3_draw (by decide +kernel))
theorem dX3_draw_54 : decode cX3_draw 54 = .ok (.istore_n 3, 1) := zo_62 (zkb zk_cX3_draw zn_cX3_draw (by decide +kernel))
theorem dX3_draw_55 : decode cX3_draw 55 = .ok (.aload_n 0, 1) := zo_42 (zkb zk_cX3_draw zn_cX3_draw (by decide +kernel))
theorem dX3_draw_56 : decode cX3_draw 56 = .ok (.getfield 26, 3) := zo_180 (b1 := 0) (b2 := 26) (zkb3 zk_cX3_draw zn_cX3_draw (by decide +kernel)) rfl
theorem dX3_draw_59 : decode cX3_draw 59 = .ok (.iconst 1, 1) := zo_4 (zkb zk_cX3_draw zn_cX3_draw (by decide +kernel))
theorem dX3_draw_60 : decode cX3_draw 60 = .ok (.invokevirtual 62, 3) := zo_182 (b1 := 0) (b2 := 62) (zkb3 zk_cX3_draw zn_cX3_draw (by decide +kernel)) rfl
theorem dX3_draw_63 : decode cX3_draw 63 = .ok (.bipush 64, 2) := zo_16 (b1 := 64) (zkb2 zk_cX3_draw zn_cX3_draw (by decide +kernel)) rfl
theorem dX3_draw_65 : decode cX3_draw 65 = .ok (.iand, 1) := zo_126 (zkb zk_cX3_draw zn_cX3_draw (by decide +kernel))
theorem dX3_draw_66 : decode cX3_draw 66 = .ok (.ifCond .ne 14, 3) := zo_154 (b1 := 0) (b2 := 14) (zkb3 zk_cX3_draw zn_cX3_draw (by decide +kernel)) rfl
theorem dX3_draw_69 : decode cX3_draw 69 = .ok (.aload_n 0, 1) := zo_42 (zkb zk_cX3_draw zn_cX3_draw (by decide +kernel))
theorem dX3_draw_70 : decode cX3_draw 70 = .ok (.getfield 17, 3) := zo_180 (b1 := 0) (b2 := 17) (zkb3 zk_cX3_draw zn_cX3_draw (by decide +kernel)) rfl
theorem dX3_draw_73 : decode cX3_draw 73 = .ok (.iload_n 3, 1) := zo_29 (zkb zk_cX3_draw zn_cX3_draw (by decide +kernel))
theorem dX3_draw_74 : decode cX3_draw 74 = .ok (.invokestatic 68, 3) := zo_184 (b1 := 0) (b2 := 68) (zkb3 zk_cX3_draw zn_cX3_draw (by decide +kernel)) rfl
theorem dX3_draw_77 : decode cX3_draw 77 = .ok (.goto 67, 3) := zo_167 (b1 := 0) (b2 := 67) (zkb3 zk_cX3_draw zn_cX3_draw (by decide +kernel)) rfl
theorem dX3_draw_80 : decode cX3_draw 80 = .ok (.iload_n 2, 1) := zo_28 (zkb zk_cX3_draw zn_cX3_draw (by decide +kernel))
theorem dX3_draw_81 : decode cX3_draw 81 = .ok (.iconst 4, 1) := zo_7 (zkb zk_cX3_draw zn_cX3_draw (by decide +kernel))
theorem dX3_draw_82 : decode cX3_draw 82 = .ok (.if_icmp .ne 41, 3) := zo_160 (b1 := 0) (b2 := 41) (zkb3 zk_cX3_draw zn_cX3_draw (by decide +kernel)) rfl
theorem dX3_draw_85 : decode cX3_draw 85 = .ok (.aload_n 0, 1) := zo_42 (zkb zk_cX3_draw zn_cX3_draw (by decide +kernel))
theorem dX3_draw_86 : decode cX3_draw 86 = .ok (.iload_n 1, 1) := zo_27 (zkb zk_cX3_draw zn_cX3_draw (by decide +kernel))
theorem dX3_draw_87 : decode cX3_draw 87 = .ok (.invokevirtual 74, 3) := zo_182 (b1 := 0) (b2 := 74) (zkb3 zk_cX3_draw zn_cX3_draw (by decide +kernel)) rfl
theorem dX3_draw_90 : decode cX3_draw 90 = .ok (.aload_n 0, 1) := zo_42 (zkb zk_cX3_draw zn_cX3_draw (by decide +kernel))
theorem dX3_draw_91 : decode cX3_draw 91 = .ok (.iload_n 1, 1) := zo_27 (zkb zk_cX3_draw zn_cX3_draw (by decide +kernel))
theorem dX3_draw_92 : decode cX3_draw 92 = .ok (.invokevirtual 78, 3) := zo_182 (b1 := 0) (b2 := 78) (zkb3 zk_cX3_draw zn_cX3_draw (by decide +kernel)) rfl
theorem dX3_draw_95 : decode cX3_draw 95 = .ok (.aload_n 0, 1) := zo_42 (zkb zk_cX3_draw zn_cX3_draw (by decide +kernel))
theorem dX3_draw_96 : decode cX3_draw 96 = .ok (.getfield 26, 3) := zo_180 (b1 := 0) (b2 := 26) (zkb3 zk_cX3_draw zn_cX3_draw (by decide +kernel)) rfl
theorem dX3_draw_99 : decode cX3_draw 99 = .ok (.iconst 0, 1) := zo_3 (zkb zk_cX3_draw zn_cX3_draw (by decide +kernel))
theorem dX3_draw_100 : decode cX3_draw 100 = .ok (.invokevirtual 62, 3) := zo_182 (b1 := 0) (b2 := 62) (zkb3 zk_cX3_draw zn_cX3_draw (by decide +kernel)) rfl
theorem dX3_draw_103 : decode cX3_draw 103 = .ok (.bipush 32, 2) := zo_16 (b1 := 32) (zkb2 zk_cX3_draw zn_cX3_draw (by decide +kernel)) rfl
theorem dX3_draw_105 : decode cX3_draw 105 = .ok (.iand, 1) := zo_126 (zkb zk_cX3_draw zn_cX3_draw (by decide +kernel))
theorem dX3_draw_106 : decode cX3_draw 106 = .ok (.ifCond .eq 38, 3) := zo_153 (b1 := 0) (b2 := 38) (zkb3 zk_cX3_draw zn_cX3_draw (by decide +kernel)) rfl
theorem dX3_draw_109 : decode cX3_draw 109 = .ok (.aload_n 0, 1) := zo_42 (zkb zk_cX3_draw zn_cX3_draw (by decide +kernel))
theorem dX3_draw_110 : decode cX3_draw 110 = .ok (.getfield 17, 3) := zo_180 (b1 := 0) (b2 := 17) (zkb3 zk_cX3_draw zn_cX3_draw (by decide +kernel)) rfl
theorem dX3_draw_113 : decode cX3_draw 113 = .ok (.iconst 0, 1) := zo_3 (zkb zk_cX3_draw zn_cX3_draw (by decide +kernel))
theorem dX3_draw_114 : decode cX3_draw 114 = .ok (.bipush 8, 2) := zo_16 (b1 := 8) (zkb2 zk_cX3_draw zn_cX3_draw (by decide +kernel)) rfl
theorem dX3_draw_116 : decode cX3_draw 116 = .ok (.iload_n 3, 1) := zo_29 (zkb zk_cX3_draw zn_cX3_draw (by decide +kernel))
theorem dX3_draw_117 : decode cX3_draw 117 = .ok (.invokestatic 81, 3) := zo_184 (b1 := 0) (b2 := 81) (zkb3 zk_cX3_draw zn_cX3_draw (by decide +kernel)) rfl
theorem dX3_draw_120 : decode cX3_draw 120 = .ok (.goto 24, 3) := zo_167 (b1 := 0) (b2 := 24) (zkb3 zk_cX3_draw zn_cX3_draw (by decide +kernel)) rfl
theorem dX3_draw_123 : decode cX3_draw 123 = .ok (.aload_n 0, 1) := zo_42 (zkb zk_cX3_draw zn_cX3_draw (by decide +kernel))
theorem dX3_draw_124 : decode cX3_draw 124 = .ok (.iload_n 2, 1) := zo_28 (zkb zk_cX3_draw zn_cX3_draw (by decide +kernel))
theorem dX3_draw_125 : decode cX3_draw 125 = .ok (.iload_n 1, 1) := zo_27 (zkb zk_cX3_draw zn_cX3_draw (by decide +kernel))
theorem dX3_draw_126 : decode cX3_draw 126 = .ok (.invokevirtual 84, 3) := zo_182 (b1 := 0) (b2 := 84) (zkb3 zk_cX3_draw zn_cX3_draw (by decide +kernel)) rfl
theorem dX3_draw_129 : decode cX3_draw 129 = .ok (.iload_n 2, 1) := zo_28 (zkb zk_cX3_draw zn_cX3_draw (by decide +kernel))
theorem dX3_draw_130 : decode cX3_draw 130 = .ok (.iconst 1, 1) := zo_4 (zkb zk_cX3_draw zn_cX3_draw (by decide +kernel))
theorem dX3_draw_131 : decode cX3_draw 131 = .ok (.if_icmp .eq 8, 3) := zo_159 (b1 := 0) (b2 := 8) (zkb3 zk_cX3_draw zn_cX3_draw (by decide +kernel)) rfl
theorem dX3_draw_134 : decode cX3_draw 134 = .ok (.aload_n 0, 1) := zo_42 (zkb zk_cX3_draw zn_cX3_draw (by decide +kernel))
theorem dX3_draw_135 : decode cX3_draw 135 = .ok (.iload_n 1, 1) := zo_27 (zkb zk_cX3_draw zn_cX3_draw (by decide +kernel))
theorem dX3_draw_136 : decode cX3_draw 136 = .ok (.invokevirtual 88, 3) := zo_182 (b1 := 0) (b2 := 88) (zkb3 zk_cX3_draw zn_cX3_draw (by decide +kernel)) rfl
theorem dX3_draw_139 : decode cX3_draw 139 = .ok (.aload_n 0, 1) := zo_42 (zkb zk_cX3_draw zn_cX3_draw (by decide +kernel))
theorem dX3_draw_140 : decode cX3_draw 140 = .ok (.iload_n 3, 1) := zo_29 (zkb zk_cX3_draw zn_cX3_draw (by decide +kernel))
theorem dX3_draw_141 : decode cX3_draw 141 = .ok (.invokevirtual 91, 3) := zo_182 (b1 := 0) (b2 := 91) (zkb3 zk_cX3_draw zn_cX3_draw (by decide +kernel)) rfl
theorem dX3_draw_144 : decode cX3_draw 144 = .ok (.aload_n 0, 1) := zo_42 (zkb zk_cX3_draw zn_cX3_draw (by decide +kernel))
theorem dX3_draw_145 : decode cX3_draw 145 = .ok (.iload_n 2, 1) := zo_28 (zkb zk_cX3_draw zn_cX3_draw (by decide +kernel))
theorem dX3_draw_146 : decode cX3_draw 146 = .ok (.invokevirtual 94, 3) := zo_182 (b1 := 0) (b2 := 94) (zkb3 zk_cX3_draw zn_cX3_draw (by decide +kernel)) rfl
theorem dX3_draw_149 : decode cX3_draw 149 = .ok (.iconst 0, 1) := zo_3 (zkb zk_cX3_draw zn_cX3_draw (by decide +kernel))
theorem dX3_draw_150 : decode cX3_draw 150 = .ok (.istore 4, 2) := zo_54 (b1 := 4) (zkb2 zk_cX3_draw zn_cX3_draw (by decide +kernel))
theorem dX3_draw_152 : decode cX3_draw 152 = .ok (.iload 4, 2) := zo_21 (b1 := 4) (zkb2 zk_cX3_draw zn_cX3_draw (by decide +kernel))
theorem dX3_draw_154 : decode cX3_draw 154 = .ok (.sipush 256, 3) := zo_17 (b1 := 1) (b2 := 0) (zkb3 zk_cX3_draw zn_cX3_draw (by decide +kernel)) rfl
theorem dX3_draw_157 : decode cX3_draw 157 = .ok (.if_icmp .ge 37, 3) := zo_162 (b1 := 0) (b2 := 37) (zkb3 zk_cX3_draw zn_cX3_draw (by decide +kernel)) rfl
theorem dX3_draw_160 : decode cX3_draw 160 = .ok (.aload_n 0, 1) := zo_42 (zkb zk_cX3_draw zn_cX3_draw (by decide +kernel))
theorem dX3_draw_161 : decode cX3_draw 161 = .ok (.getfield 10, 3) := zo_180 (b1 := 0) (b2 := 10) (zkb3 zk_cX3_draw zn_cX3_draw (by decide +kernel)) rfl
theorem dX3_draw_164 : decode cX3_draw 164 = .ok (.iload_n 1, 1) := zo_27 (zkb zk_cX3_draw zn_cX3_draw (by decide +kernel))
theorem dX3_draw_165 : decode cX3_draw 165 = .ok (.sipush 256, 3) := zo_17 (b1 := 1) (b2 := 0) (zkb3 zk_cX3_draw zn_cX3_draw (by decide +kernel)) rfl
theorem dX3_draw_168 : decode cX3_draw 168 = .ok (.imul, 1) := zo_104 (zkb zk_cX3_draw zn_cX3_draw (by decide +kernel))
theorem dX3_draw_169 : decode cX3_draw 169 = .ok (.iload 4, 2) := zo_21 (b1 := 4) (zkb2 zk_cX3_draw zn_cX3_draw (by decide +kernel))
theorem dX3_draw_171 : decode cX3_draw 171 = .ok (.iadd, 1) := zo_96 (zkb zk_cX3_draw zn_cX3_draw (by decide +kernel))
theorem dX3_draw_172 : decode cX3_draw 172 = .ok (.aload_n 0, 1) := zo_42 (zkb zk_cX3_draw zn_cX3_draw (by decide +kernel))
theorem dX3_draw_173 : decode cX3_draw 173 = .ok (.getfield 23, 3) := zo_180 (b1 := 0) (b2 := 23) (zkb3 zk_cX3_draw zn_cX3_draw (by decide +kernel)) rfl
theorem dX3_draw_176 : decode cX3_draw 176 = .ok (.aload_n 0, 1) := zo_42 (zkb zk_cX3_draw zn_cX3_draw (by decide +kernel))
theorem dX3_draw_177 : decode cX3_draw 177 = .ok (.getfield 17, 3) := zo_180 (b1 := 0) (b2 := 17) (zkb3 zk_cX3_draw zn_cX3_draw (by decide +kernel)) rfl
theorem dX3_draw_180 : decode cX3_draw 180 = .ok (.iload 4, 2) := zo_21 (b1 := 4) (zkb2 zk_cX3_draw zn_cX3_draw (by decide +kernel))
theorem dX3_draw_182 : decode cX3_draw 182 = .ok (.iaload, 1) := zo_46 (zkb zk_cX3_draw zn_cX3_draw (by decide +kernel))
theorem dX3_draw_183 : decode cX3_draw 183 = .ok (.bipush 31, 2) := zo_16 (b1 := 31) (zkb2 zk_cX3_draw zn_cX3_draw (by decide +kernel)) rfl
theorem dX3_draw_185 : decode cX3_draw 185 = .ok (.iand, 1) := zo_126 (zkb zk_cX3_draw zn_cX3_draw (by decide +kernel))
theorem dX3_draw_186 : decode cX3_draw 186 = .ok (.iaload, 1) := zo_46 (zkb zk_cX3_draw zn_cX3_draw (by decide +kernel))
theorem dX3_draw_187 : decode cX3_draw 187 = .ok (.iastore, 1) := zo_79 (zkb zk_cX3_draw zn_cX3_draw (by decide +kernel))
theorem dX3_draw_188 : decode cX3_draw 188 = .ok (.iinc 4 1, 3) := zo_132 (b1 := 4) (b2 := 1) (zkb3 zk_cX3_draw zn_cX3_draw (by decide +kernel)) rfl
theorem dX3_draw_191 : decode cX3_draw 191 = .ok (.goto (-39), 3) := zo_167 (b1 := 255) (b2 := 217) (zkb3 zk_cX3_draw zn_cX3_draw (by decide +kernel)) rfl
theorem dX3_draw_194 : decode cX3_draw 194 = .ok (.return_, 1) := zo_177 (zkb zk_cX3_draw zn_cX3_draw (by decide +kernel))
def kn_cX3_fillBack : Nat := 0xb1e6ffa70102844f1b1c1100b42a0a009a2e1c1100b42a1900a20001111c3d03
theorem zk_cX3_fillBack : zkd cX3_fillBack.data.toList kn_cX3_fillBack = true := by decide +kernel
theorem zn_cX3_fillBack : cX3_fillBack.data.toList.length = 32 := by decide +kernel
theorem dX3_fillBack_0 : decode cX3_fillBack 0 = .ok (.iconst 0, 1) := zo_3 (zkb zk_cX3_fillBack zn_cX3_fillBack (by decide +kernel))
theorem dX3_fillBack_1 : decode cX3_fillBack 1 = .ok (.istore_n 2, 1) := zo_61 (zkb zk_cX3_fillBack zn_cX3_fillBack (by decide +kernel))
theorem dX3_fillBack_2 : decode cX3_fillBack 2 = .ok (.iload_n 2, 1) := zo_28 (zkb zk_cX3_fillBack zn_cX3_fillBack (by decide +kernel))
theorem dX3_fillBack_3 : decode cX3_fillBack 3 = .ok (.sipush 256, 3) := zo_17 (b1 := 1) (b2 := 0) (zkb3 zk_cX3_fillBack zn_cX3_fillBack (by decide +kernel)) rfl
theorem dX3_fillBack_6 : decode cX3_fillBack 6 = .ok (.if_icmp .ge 25, 3) := zo_162 (b1 := 0) (b2 := 25) (zkb3 zk_cX3_fillBack zn_cX3_fillBack (by decide +kernel)) rfl
theorem dX3_fillBack_9 : decode cX3_fillBack 9 = .ok (.aload_n 0, 1) := zo_42 (zkb zk_cX3_fillBack zn_cX3_fillBack (by decide +kernel))
theorem dX3_fillBack_10 : decode cX3_fillBack 10 = .ok (.getfield 17, 3) := zo_180 (b1 := 0) (b2 := 17) (zkb3 zk_cX3_fillBack zn_cX3_fillBack (by decide +kernel)) rfl
theorem dX3_fillBack_13 : decode cX3_fillBack 13 = .ok (.iload_n 2, 1) := zo_28 (zkb zk_cX3_fillBack zn_cX3_fillBack (by decide +kernel))
theorem dX3_fillBack_14 : decode cX3_fillBack 14 = .ok (.iaload, 1) := zo_46 (zkb zk_cX3_fillBack zn_cX3_fillBack (by decide +kernel))
theorem dX3_fillBack_15 : decode cX3_fillBack 15 = .ok (.ifCond .ne 10, 3) := zo_154 (b1 := 0) (b2 := 10) (zkb3 zk_cX3_fillBack zn_cX3_fillBack (by decide +kernel)) rfl
theorem dX3_fillBack_18 : decode cX3_fillBack 18 = .ok (.aload_n 0, 1) := zo_42 (zkb zk_cX3_fillBack zn_cX3_fillBack (by decide +kernel))
theorem dX3_fillBack_19 : decode cX3_fillBack 19 = .ok (.getfield 17, 3) := zo_180 (b1 := 0) (b2 := 17) (zkb3 zk_cX3_fillBack zn_cX3_fillBack (by decide +kernel)) rfl
theorem dX3_fillBack_22 : decode cX3_fillBack 22 = .ok (.iload_n 2, 1) := zo_28 (zkb zk_cX3_fillBack zn_cX3_fillBack (by decide +kernel))
theorem dX3_fillBack_23 : decode cX3_fillBack 23 = .ok (.iload_n 1, 1) := zo_27 (zkb zk_cX3_fillBack zn_cX3_fillBack (by decide +kernel))
theorem dX3_fillBack_24 : decode cX3_fillBack 24 = .ok (.iastore, 1) := zo_79 (zkb zk_cX3_fillBack zn_cX3_fillBack (by decide +kernel))
theorem dX3_fillBack_25 : decode cX3_fillBack 25 = .ok (.iinc 2 1, 3) := zo_132 (b1 := 2) (b2 := 1) (zkb3 zk_cX3_fillBack zn_cX3_fillBack (by decide +kernel)) rfl
theorem dX3_fillBack_28 : decode cX3_fillBack 28 = .ok (.goto (-26), 3) := zo_167 (b1 := 255) (b2 := 230) (zkb3 zk_cX3_fillBack zn_cX3_fillBack (by decide +kernel)) rfl
theorem dX3_fillBack_31 : decode cX3_fillBack 31 = .ok (.return_, 1) := zo_177 (zkb zk_cX3_fillBack zn_cX3_fillBack (by decide +kernel))
def kn_cX3_drawSprites : Nat := 0xb1ccffa70105844f602e05151400b42a101005151100b42a14009a7e0001112e05151100b42a22009e2e05151400b42a3200a20001110515053603a6ffa70105847e00b607156068051505608000111c2a1900a77b00b640101a00b42a0f00a40810041501048429009b071507367800b606151b2a3d00a70600a0d0001106150e00991d06367100b66005151c1a00b42a5900a2401005150536030436033e030400a7040700a0c000112800b61a00b42a3d687e3f107a043e00b6081a00b42a0001114400b8031400b42a
theorem zk_cX3_drawSprites : zkd cX3_drawSprites.data.toList kn_cX3_drawSprites = true := by decide +kernel
theorem zn_cX3_drawSprites : cX3_drawSprites.data.toList.length = 203 := by decide +kernel
theorem dX3_drawSprites_0 : decode cX3_drawSprites 0 = .ok (.aload_n 0, 1) := zo_42 (zkb zk_cX3_drawSprites zn_cX3_drawSprites (by decide +kernel))
theorem dX3_drawSprites_1 : decode cX3_drawSprites 1 = .ok (.getfield 20, 3) := zo_180 (b1 := 0) (b2 := 20) (zkb3 zk_cX3_drawSprites zn_cX3_drawSprites (by decide +kernel)) rfl
theorem dX3_drawSprites_4 : decode cX3_drawSprites 4 = .ok (.iconst 0, 1) := zo_3 (zkb zk_cX3_drawSprites zn_cX3_drawSprites (by decide +kernel))
theorem dX3_drawSprites_5 : decode cX3_drawSprites 5 = .ok (.invokestatic 68, 3) := zo_184 (b1 := 0) (b2 := 68) (zkb3 zk_cX3_drawSprites zn_cX3_drawSprites (by decide +kernel)) rfl
theorem dX3_drawSprites_8 : decode cX3_drawSprites 8 = .ok (.sipush 256, 3) := zo_17 (b1 := 1) (b2 := 0) (zkb3 zk_cX3_drawSprites zn_cX3_drawSprites (by decide +kernel)) rfl
theorem dX3_drawSprites_11 : decode cX3_drawSprites 11 = .ok (.aload_n 0, 1) := zo_42 (zkb zk_cX3_drawSprites zn_cX3_drawSprites (by decide +kernel))
theorem dX3_drawSprites_12 : decode cX3_drawSprites 12 = .ok (.getfield 26, 3) := zo_180 (b1 := 0) (b2 := 26) (zkb3 zk_cX3_drawSprites zn_cX3_drawSprites (by decide +kernel)) rfl
theorem dX3_drawSprites_15 : decode cX3_drawSprites 15 = .ok (.iconst 5, 1) := zo_8 (zkb zk_cX3_drawSprites zn_cX3_drawSprites (by decide +kernel))
theorem dX3_drawSprites_16 : decode cX3_drawSprites 16 = .ok (.invokevirtual 62, 3) := zo_182 (b1 := 0) (b2 := 62) (zkb3 zk_cX3_drawSprites zn_cX3_drawSprites (by decide +kernel)) rfl
theorem dX3_drawSprites_19 : decode cX3_drawSprites 19 = .ok (.iconst 1, 1) := zo_4 (zkb zk_cX3_drawSprites zn_cX3_drawSprites (by decide +kernel))
theorem dX3_drawSprites_20 : decode cX3_drawSprites 20 = .ok (.ishr, 1) := zo_122 (zkb zk_cX3_drawSprites zn_cX3_drawSprites (by decide +kernel))
theorem dX3_drawSprites_21 : decode cX3_drawSprites 21 = .ok (.bipush 63, 2) := zo_16 (b1 := 63) (zkb2 zk_cX3_drawSprites zn_cX3_drawSprites (by decide +kernel)) rfl
theorem dX3_drawSprites_23 : decode cX3_drawSprites 23 = .ok (.iand, 1) := zo_126 (zkb zk_cX3_drawSprites zn_cX3_drawSprites (by decide +kernel))
theorem dX3_drawSprites_24 : decode cX3_drawSprites 24 = .ok (.imul, 1) := zo_104 (zkb zk_cX3_drawSprites zn_cX3_drawSprites (by decide +kernel))
theorem dX3_drawSprites_25 : decode cX3_drawSprites 25 = .ok (.istore_n 2, 1) := zo_61 (zkb zk_cX3_drawSprites zn_cX3_drawSprites (by decide +kernel))
theorem dX3_drawSprites_26 : decode cX3_drawSprites 26 = .ok (.aload_n 0, 1) := zo_42 (zkb zk_cX3_drawSprites zn_cX3_drawSprites (by decide +kernel))
theorem dX3_drawSprites_27 : decode cX3_drawSprites 27 = .ok (.getfield 26, 3) := zo_180 (b1 := 0) (b2 := 26) (zkb3 zk_cX3_drawSprites zn_cX3_drawSprites (by decide +kernel)) rfl
theorem dX3_drawSprites_30 : decode cX3_drawSprites 30 = .ok (.invokevirtual 40, 3) := zo_182 (b1 := 0) (b2 := 40) (zkb3 zk_cX3_drawSprites zn_cX3_drawSprites (by decide +kernel)) rfl
theorem dX3_drawSprites_33 : decode cX3_drawSprites 33 = .ok (.sipush 192, 3) := zo_17 (b1 := 0) (b2 := 192) (zkb3 zk_cX3_drawSprites zn_cX3_drawSprites (by decide +kernel)) rfl
theorem dX3_drawSprites_36 : decode cX3_drawSprites 36 = .ok (.if_icmp .ne 7, 3) := zo_160 (b1 := 0) (b2 := 7) (zkb3 zk_cX3_drawSprites zn_cX3_drawSprites (by decide +kernel)) rfl
theorem dX3_drawSprites_39 : decode cX3_drawSprites 39 = .ok (.iconst 1, 1) := zo_4 (zkb zk_cX3_drawSprites zn_cX3_drawSprites (by decide +kernel))
theorem dX3_drawSprites_40 : decode cX3_drawSprites 40 = .ok (.goto 4, 3) := zo_167 (b1 := 0) (b2 := 4) (zkb3 zk_cX3_drawSprites zn_cX3_drawSprites (by decide +kernel)) rfl
theorem dX3_drawSprites_43 : decode cX3_drawSprites 43 = .ok (.iconst 0, 1) := zo_3 (zkb zk_cX3_drawSprites zn_cX3_drawSprites (by decide +kernel))
theorem dX3_drawSprites_44 : decode cX3_drawSprites 44 = .ok (.istore_n 3, 1) := zo_62 (zkb zk_cX3_drawSprites zn_cX3_drawSprites (by decide +kernel))
theorem dX3_drawSprites_45 : decode cX3_drawSprites 45 = .ok (.iconst 0, 1) := zo_3 (zkb zk_cX3_drawSprites zn_cX3_drawSprites (by decide +kernel))
theorem dX3_drawSprites_46 : decode cX3_drawSprites 46 = .ok (.istore 4, 2) := zo_54 (b1 := 4) (zkb2 zk_cX3_drawSprites zn_cX3_drawSprites (by decide +kernel))
theorem dX3_drawSprites_48 : decode cX3_drawSprites 48 = .ok (.iconst 0, 1) := zo_3 (zkb zk_cX3_drawSprites zn_cX3_drawSprites (by decide +kernel))
theorem dX3_drawSprites_49 : decode cX3_drawSprites 49 = .ok (.istore 5, 2) := zo_54 (b1 := 5) (zkb2 zk_cX3_drawSprites zn_cX3_drawSprites (by decide +kernel))
theorem dX3_drawSprites_51 : decode cX3_drawSprites 51 = .ok (.iload 5, 2) := zo_21 (b1 := 5) (zkb2 zk_cX3_drawSprites zn_cX3_drawSprites (by decide +kernel))
theorem dX3_drawSprites_53 : decode cX3_drawSprites 53 = .ok (.bipush 64, 2) := zo_16 (b1 := 64) (zkb2 zk_cX3_drawSprites zn_cX3_drawSprites (by decide +kernel)) rfl
theorem dX3_drawSprites_55 : decode cX3_drawSprites 55 = .ok (.if_icmp .ge 89, 3) := zo_162 (b1 := 0) (b2 := 89) (zkb3 zk_cX3_drawSprites zn_cX3_drawSprites (by decide +kernel)) rfl
theorem dX3_drawSprites_58 : decode cX3_drawSprites 58 = .ok (.aload_n 0, 1) := zo_42 (zkb zk_cX3_drawSprites zn_cX3_drawSprites (by decide +kernel))
theorem dX3_drawSprites_59 : decode cX3_drawSprites 59 = .ok (.getfield 26, 3) := zo_180 (b1 := 0) (b2 := 26) (zkb3 zk_cX3_drawSprites zn_cX3_drawSprites (by decide +kernel)) rfl
theorem dX3_drawSprites_62 : decode cX3_drawSprites 62 = .ok (.iload_n 2, 1) := zo_28 (zkb zk_cX3_drawSprites zn_cX3_drawSprites (by decide +kernel))
theorem dX3_drawSprites_63 : decode cX3_drawSprites 63 = .ok (.iload 5, 2) := zo_21 (b1 := 5) (zkb2 zk_cX3_drawSprites zn_cX3_drawSprites (by decide +kernel))
theorem dX3_drawSprites_65 : decode cX3_drawSprites 65 = .ok (.iadd, 1) := zo_96 (zkb zk_cX3_drawSprites zn_cX3_drawSprites (by decide +kernel))
theorem dX3_drawSprites_66 : decode cX3_drawSprites 66 = .ok (.invokevirtual 113, 3) := zo_182 (b1 := 0) (b2 := 113) (zkb3 zk_cX3_drawSprites zn_cX3_drawSprites (by decide +kernel)) rfl
theorem dX3_drawSprites_69 : decode cX3_drawSprites 69 = .ok (.istore 6, 2) := zo_54 (b1 := 6) (zkb2 zk_cX3_drawSprites zn_cX3_drawSprites (by decide +kernel))
theorem dX3_drawSprites_71 : decode cX3_drawSprites 71 = .ok (.iload_n 3, 1) := zo_29 (zkb zk_cX3_drawSprites zn_cX3_drawSprites (by decide +kernel))
theorem dX3_drawSprites_72 : decode cX3_drawSprites 72 = .ok (.ifCond .eq 14, 3) := zo_153 (b1 := 0) (b2 := 14) (zkb3 zk_cX3_drawSprites zn_cX3_drawSprites (by decide +kernel)) rfl
theorem dX3_drawSprites_75 : decode cX3_drawSprites 75 = .ok (.iload 6, 2) := zo_21 (b1 := 6) (zkb2 zk_cX3_drawSprites zn_cX3_drawSprites (by decide +kernel))
theorem dX3_drawSprites_77 : decode cX3_drawSprites 77 = .ok (.sipush 208, 3) := zo_17 (b1 := 0) (b2 := 208) (zkb3 zk_cX3_drawSprites zn_cX3_drawSprites (by decide +kernel)) rfl
theorem dX3_drawSprites_80 : decode cX3_drawSprites 80 = .ok (.if_icmp .ne 6, 3) := zo_160 (b1 := 0) (b2 := 6) (zkb3 zk_cX3_drawSprites zn_cX3_drawSprites (by decide +kernel)) rfl
theorem dX3_drawSprites_83 : decode cX3_drawSprites 83 = .ok (.goto 61, 3) := zo_167 (b1 := 0) (b2 := 61) (zkb3 zk_cX3_drawSprites zn_cX3_drawSprites (by decide +kernel)) rfl
theorem dX3_drawSprites_86 : decode cX3_drawSprites 86 = .ok (.aload_n 0, 1) := zo_42 (zkb zk_cX3_drawSprites zn_cX3_drawSprites (by decide +kernel))
theorem dX3_drawSprites_87 : decode cX3_drawSprites 87 = .ok (.iload_n 1, 1) := zo_27 (zkb zk_cX3_drawSprites zn_cX3_drawSprites (by decide +kernel))
theorem dX3_drawSprites_88 : decode cX3_drawSprites 88 = .ok (.iload 6, 2) := zo_21 (b1 := 6) (zkb2 zk_cX3_drawSprites zn_cX3_drawSprites (by decide +kernel))
theorem dX3_drawSprites_90 : decode cX3_drawSprites 90 = .ok (.invokevirtual 120, 3) := zo_182 (b1 := 0) (b2 := 120) (zkb3 zk_cX3_drawSprites zn_cX3_drawSprites (by decide +kernel)) rfl
theorem dX3_drawSprites_93 : decode cX3_drawSprites 93 = .ok (.istore 7, 2) := zo_54 (b1 := 7) (zkb2 zk_cX3_drawSprites zn_cX3_drawSprites (by decide +kernel))
theorem dX3_drawSprites_95 : decode cX3_drawSprites 95 = .ok (.iload 7, 2) := zo_21 (b1 := 7) (zkb2 zk_cX3_drawSprites zn_cX3_drawSprites (by decide +kernel))
theorem dX3_drawSprites_97 : decode cX3_drawSprites 97 = .ok (.ifCond .lt 41, 3) := zo_155 (b1 := 0) (b2 := 41) (zkb3 zk_cX3_drawSprites zn_cX3_drawSprites (by decide +kernel)) rfl
theorem dX3_drawSprites_100 : decode cX3_drawSprites 100 = .ok (.iinc 4 1, 3) := zo_132 (b1 := 4) (b2 := 1) (zkb3 zk_cX3_drawSprites zn_cX3_drawSprites (by decide +kernel)) rfl
theorem dX3_drawSprites_103 : decode cX3_drawSprites 103 = .ok (.iload 4, 2) := zo_21 (b1 := 4) (zkb2 zk_cX3_drawSprites zn_cX3_drawSprites (by decide +kernel))
theorem dX3_drawSprites_105 : decode cX3_drawSprites 105 = .ok (.bipush 8, 2) := zo_16 (b1 := 8) (zkb2 zk_cX3_drawSprites zn_cX3_drawSprites (by decide +kernel)) rfl
theorem dX3_drawSprites_107 : decode cX3_drawSprites 107 = .ok (.if_icmp .le 15, 3) := zo_164 (b1 := 0) (b2 := 15) (zkb3 zk_cX3_drawSprites zn_cX3_drawSprites (by decide +kernel)) rfl
theorem dX3_drawSprites_110 : decode cX3_drawSprites 110 = .ok (.aload_n 0, 1) := zo_42 (zkb zk_cX3_drawSprites zn_cX3_drawSprites (by decide +kernel))
theorem dX3_drawSprites_111 : decode cX3_drawSprites 111 = .ok (.getfield 26, 3) := zo_180 (b1 := 0) (b2 := 26) (zkb3 zk_cX3_drawSprites zn_cX3_drawSprites (by decide +kernel)) rfl
theorem dX3_drawSprites_114 : decode cX3_drawSprites 114 = .ok (.bipush 64, 2) := zo_16 (b1 := 64) (zkb2 zk_cX3_drawSprites zn_cX3_drawSprites (by decide +kernel)) rfl
theorem dX3_drawSprites_116 : decode cX3_drawSprites 116 = .ok (.invokevirtual 123, 3) := zo_182 (b1 := 0) (b2 := 123) (zkb3 zk_cX3_drawSprites zn_cX3_drawSprites (by decide +kernel)) rfl
theorem dX3_drawSprites_119 : decode cX3_drawSprites 119 = .ok (.goto 25, 3) := zo_167 (b1 := 0) (b2 := 25) (zkb3 zk_cX3_drawSprites zn_cX3_drawSprites (by decide +kernel)) rfl
theorem dX3_drawSprites_122 : decode cX3_drawSprites 122 = .ok (.aload_n 0, 1) := zo_42 (zkb zk_cX3_drawSprites zn_cX3_drawSprites (by decide +kernel))
theorem dX3_drawSprites_123 : decode cX3_drawSprites 123 = .ok (.iload_n 2, 1) := zo_28 (zkb zk_cX3_drawSprites zn_cX3_drawSprites (by decide +kernel))
theorem dX3_drawSprites_124 : decode cX3_drawSprites 124 = .ok (.sipush 128, 3) := zo_17 (b1 := 0) (b2 := 128) (zkb3 zk_cX3_drawSprites zn_cX3_drawSprites (by decide +kernel)) rfl
theorem dX3_drawSprites_127 : decode cX3_drawSprites 127 = .ok (.iadd, 1) := zo_96 (zkb zk_cX3_drawSprites zn_cX3_drawSprites (by decide +kernel))
theorem dX3_drawSprites_128 : decode cX3_drawSprites 128 = .ok (.iconst 2, 1) := zo_5 (zkb zk_cX3_drawSprites zn_cX3_drawSprites (by decide +kernel))
theorem dX3_drawSprites_129 : decode cX3_drawSprites 129 = .ok (.iload 5, 2) := zo_21 (b1 := 5) (zkb2 zk_cX3_drawSprites zn_cX3_drawSprites (by decide +kernel))
theorem dX3_drawSprites_131 : decode cX3_drawSprites 131 = .ok (.imul, 1) := zo_104 (zkb zk_cX3_drawSprites zn_cX3_drawSprites (by decide +kernel))
theorem dX3_drawSprites_132 : decode cX3_drawSprites 132 = .ok (.iadd, 1) := zo_96 (zkb zk_cX3_drawSprites zn_cX3_drawSprites (by decide +kernel))
theorem dX3_drawSprites_133 : decode cX3_drawSprites 133 = .ok (.iload 7, 2) := zo_21 (b1 := 7) (zkb2 zk_cX3_drawSprites zn_cX3_drawSprites (by decide +kernel))
theorem dX3_drawSprites_135 : decode cX3_drawSprites 135 = .ok (.invokevirtual 126, 3) := zo_182 (b1 := 0) (b2 := 126) (zkb3 zk_cX3_drawSprites zn_cX3_drawSprites (by decide +kernel)) rfl
theorem dX3_drawSprites_138 : decode cX3_drawSprites 138 = .ok (.iinc 5 1, 3) := zo_132 (b1 := 5) (b2 := 1) (zkb3 zk_cX3_drawSprites zn_cX3_drawSprites (by decide +kernel)) rfl
theorem dX3_drawSprites_141 : decode cX3_drawSprites 141 = .ok (.goto (-90), 3) := zo_167 (b1 := 255) (b2 := 166) (zkb3 zk_cX3_drawSprites zn_cX3_drawSprites (by decide +kernel)) rfl
theorem dX3_drawSprites_144 : decode cX3_drawSprites 144 = .ok (.iconst 0, 1) := zo_3 (zkb zk_cX3_drawSprites zn_cX3_drawSprites (by decide +kernel))
theorem dX3_drawSprites_145 : decode cX3_drawSprites 145 = .ok (.istore 5, 2) := zo_54 (b1 := 5) (zkb2 zk_cX3_drawSprites zn_cX3_drawSprites (by decide +kernel))
theorem dX3_drawSprites_147 : decode cX3_drawSprites 147 = .ok (.iload 5, 2) := zo_21 (b1 := 5) (zkb2 zk_cX3_drawSprites zn_cX3_drawSprites (by decide +kernel))
theorem dX3_drawSprites_149 : decode cX3_drawSprites 149 = .ok (.sipush 256, 3) := zo_17 (b1 := 1) (b2 := 0) (zkb3 zk_cX3_drawSprites zn_cX3_drawSprites (by decide +kernel)) rfl
theorem dX3_drawSprites_152 : decode cX3_drawSprites 152 = .ok (.if_icmp .ge 50, 3) := zo_162 (b1 := 0) (b2 := 50) (zkb3 zk_cX3_drawSprites zn_cX3_drawSprites (by decide +kernel)) rfl
theorem dX3_drawSprites_155 : decode cX3_drawSprites 155 = .ok (.aload_n 0, 1) := zo_42 (zkb zk_cX3_drawSprites zn_cX3_drawSprites (by decide +kernel))
theorem dX3_drawSprites_156 : decode cX3_drawSprites 156 = .ok (.getfield 20, 3) := zo_180 (b1 := 0) (b2 := 20) (zkb3 zk_cX3_drawSprites zn_cX3_drawSprites (by decide +kernel)) rfl
theorem dX3_drawSprites_159 : decode cX3_drawSprites 159 = .ok (.iload 5, 2) := zo_21 (b1 := 5) (zkb2 zk_cX3_drawSprites zn_cX3_drawSprites (by decide +kernel))
theorem dX3_drawSprites_161 : decode cX3_drawSprites 161 = .ok (.iaload, 1) := zo_46 (zkb zk_cX3_drawSprites zn_cX3_drawSprites (by decide +kernel))
theorem dX3_drawSprites_162 : decode cX3_drawSprites 162 = .ok (.ifCond .le 34, 3) := zo_158 (b1 := 0) (b2 := 34) (zkb3 zk_cX3_drawSprites zn_cX3_drawSprites (by decide +kernel)) rfl
theorem dX3_drawSprites_165 : decode cX3_drawSprites 165 = .ok (.aload_n 0, 1) := zo_42 (zkb zk_cX3_drawSprites zn_cX3_drawSprites (by decide +kernel))
theorem dX3_drawSprites_166 : decode cX3_drawSprites 166 = .ok (.getfield 17, 3) := zo_180 (b1 := 0) (b2 := 17) (zkb3 zk_cX3_drawSprites zn_cX3_drawSprites (by decide +kernel)) rfl
theorem dX3_drawSprites_169 : decode cX3_drawSprites 169 = .ok (.iload 5, 2) := zo_21 (b1 := 5) (zkb2 zk_cX3_drawSprites zn_cX3_drawSprites (by decide +kernel))
theorem dX3_drawSprites_171 : decode cX3_drawSprites 171 = .ok (.iaload, 1) := zo_46 (zkb zk_cX3_drawSprites zn_cX3_drawSprites (by decide +kernel))
theorem dX3_drawSprites_172 : decode cX3_drawSprites 172 = .ok (.sipush 256, 3) := zo_17 (b1 := 1) (b2 := 0) (zkb3 zk_cX3_drawSprites zn_cX3_drawSprites (by decide +kernel)) rfl
theorem dX3_drawSprites_175 : decode cX3_drawSprites 175 = .ok (.iand, 1) := zo_126 (zkb zk_cX3_drawSprites zn_cX3_drawSprites (by decide +kernel))
theorem dX3_drawSprites_176 : decode cX3_drawSprites 176 = .ok (.ifCond .ne 20, 3) := zo_154 (b1 := 0) (b2 := 20) (zkb3 zk_cX3_drawSprites zn_cX3_drawSprites (by decide +kernel)) rfl
theorem dX3_drawSprites_179 : decode cX3_drawSprites 179 = .ok (.aload_n 0, 1) := zo_42 (zkb zk_cX3_drawSprites zn_cX3_drawSprites (by decide +kernel))
theorem dX3_drawSprites_180 : decode cX3_drawSprites 180 = .ok (.getfield 17, 3) := zo_180 (b1 := 0) (b2 := 17) (zkb3 zk_cX3_drawSprites zn_cX3_drawSprites (by decide +kernel)) rfl
theorem dX3_drawSprites_183 : decode cX3_drawSprites 183 = .ok (.iload 5, 2) := zo_21 (b1 := 5) (zkb2 zk_cX3_drawSprites zn_cX3_drawSprites (by decide +kernel))
theorem dX3_drawSprites_185 : decode cX3_drawSprites 185 = .ok (.bipush 16, 2) := zo_16 (b1 := 16) (zkb2 zk_cX3_drawSprites zn_cX3_drawSprites (by decide +kernel)) rfl
theorem dX3_drawSprites_187 : decode cX3_drawSprites 187 = .ok (.aload_n 0, 1) := zo_42 (zkb zk_cX3_drawSprites zn_cX3_drawSprites (by decide +kernel))
theorem dX3_drawSprites_188 : decode cX3_drawSprites 188 = .ok (.getfield 20, 3) := zo_180 (b1 := 0) (b2 := 20) (zkb3 zk_cX3_drawSprites zn_cX3_drawSprites (by decide +kernel)) rfl
theorem dX3_drawSprites_191 : decode cX3_drawSprites 191 = .ok (.iload 5, 2) := zo_21 (b1 := 5) (zkb2 zk_cX3_drawSprites zn_cX3_drawSprites (by decide +kernel))
theorem dX3_drawSprites_193 : decode cX3_drawSprites 193 = .ok (.iaload, 1) := zo_46 (zkb zk_cX3_drawSprites zn_cX3_drawSprites (by decide +kernel))
theorem dX3_drawSprites_194 : decode cX3_drawSprites 194 = .ok (.iadd, 1) := zo_96 (zkb zk_cX3_drawSprites zn_cX3_drawSprites (by decide +kernel))
theorem dX3_drawSprites_195 : decode cX3_drawSprites 195 = .ok (.iastore, 1) := zo_79 (zkb zk_cX3_drawSprites zn_cX3_drawSprites (by decide +kernel))
theorem dX3_drawSprites_196 : decode cX3_drawSprites 196 = .ok (.iinc 5 1, 3) := zo_132 (b1 := 5) (b2 := 1) (zkb3 zk_cX3_drawSprites zn_cX3_drawSprites (by decide +kernel)) rfl
theorem dX3_drawSprites_199 : decode cX3_drawSprites 199 = .ok (.goto (-52), 3) := zo_167 (b1 := 255) (b2 := 204) (zkb3 zk_cX3_drawSprites zn_cX3_drawSprites (by decide +kernel)) rfl
theorem dX3_drawSprites_202 : decode cX3_drawSprites 202 = .ok (.return_, 1) := zo_177 (zkb zk_cX3_drawSprites zn_cX3_drawSprites (by decide +kernel))
def kn_cX3_drawSprite : Nat := 0xb1aeffa70107844f091508151400b42a0c00a77b00b620101a00b42a0f009e2e08151400b42a2200a200011108152a009b08152f009e091509366e00b87a061507156b00b42a08366007151d4e00a2780615081007150736037400b660681c076804150500a77efe1004150b00997e05051520102a06367e04051505363e00b6041a00b42a043660030400a70001110900997e073e00b606101a00b42a7100b660041b1a00b42a3e64030400a708100800997e08103e00b6031a00b42a7100b61b1a00b42a
theorem zk_cX3_drawSprite : zkd cX3_drawSprite.data.toList kn_cX3_drawSprite = true := by decide +kernel
theorem zn_cX3_drawSprite : cX3_drawSprite.data.toList.length = 197 := by decide +kernel
theorem dX3_drawSprite_0 : decode cX3_drawSprite 0 = .ok (.aload_n 0, 1) := zo_42 (zkb zk_cX3_drawSprite zn_cX3_drawSprite (by decide +kernel))
theorem dX3_drawSprite_1 : decode cX3_drawSprite 1 = .ok (.getfield 26, 3) := zo_180 (b1 := 0) (b2 := 26) (zkb3 zk_cX3_drawSprite zn_cX3_drawSprite (by decide +kernel)) rfl
theorem dX3_drawSprite_4 : decode cX3_drawSprite 4 = .ok (.iload_n 1, 1) := zo_27 (zkb zk_cX3_drawSprite zn_cX3_drawSprite (by decide +kernel))
theorem dX3_drawSprite_5 : decode cX3_drawSprite 5 = .ok (.invokevirtual 113, 3) := zo_182 (b1 := 0) (b2 := 113) (zkb3 zk_cX3_drawSprite zn_cX3_drawSprite (by decide +kernel)) rfl
theorem dX3_drawSprite_8 : decode cX3_drawSprite 8 = .ok (.aload_n 0, 1) := zo_42 (zkb zk_cX3_drawSprite zn_cX3_drawSprite (by decide +kernel))
theorem dX3_drawSprite_9 : decode cX3_drawSprite 9 = .ok (.getfield 26, 3) := zo_180 (b1 := 0) (b2 := 26) (zkb3 zk_cX3_drawSprite zn_cX3_drawSprite (by decide +kernel)) rfl
theorem dX3_drawSprite_12 : decode cX3_drawSprite 12 = .ok (.iconst 0, 1) := zo_3 (zkb zk_cX3_drawSprite zn_cX3_drawSprite (by decide +kernel))
theorem dX3_drawSprite_13 : decode cX3_drawSprite 13 = .ok (.invokevirtual 62, 3) := zo_182 (b1 := 0) (b2 := 62) (zkb3 zk_cX3_drawSprite zn_cX3_drawSprite (by decide +kernel)) rfl
theorem dX3_drawSprite_16 : decode cX3_drawSprite 16 = .ok (.bipush 8, 2) := zo_16 (b1 := 8) (zkb2 zk_cX3_drawSprite zn_cX3_drawSprite (by decide +kernel)) rfl
theorem dX3_drawSprite_18 : decode cX3_drawSprite 18 = .ok (.iand, 1) := zo_126 (zkb zk_cX3_drawSprite zn_cX3_drawSprite (by decide +kernel))
theorem dX3_drawSprite_19 : decode cX3_drawSprite 19 = .ok (.ifCond .eq 8, 3) := zo_153 (b1 := 0) (b2 := 8) (zkb3 zk_cX3_drawSprite zn_cX3_drawSprite (by decide +kernel)) rfl
theorem dX3_drawSprite_22 : decode cX3_drawSprite 22 = .ok (.bipush 8, 2) := zo_16 (b1 := 8) (zkb2 zk_cX3_drawSprite zn_cX3_drawSprite (by decide +kernel)) rfl
theorem dX3_drawSprite_24 : decode cX3_drawSprite 24 = .ok (.goto 4, 3) := zo_167 (b1 := 0) (b2 := 4) (zkb3 zk_cX3_drawSprite zn_cX3_drawSprite (by decide +kernel)) rfl
theorem dX3_drawSprite_27 : decode cX3_drawSprite 27 = .ok (.iconst 0, 1) := zo_3 (zkb zk_cX3_drawSprite zn_cX3_drawSprite (by decide +kernel))
theorem dX3_drawSprite_28 : decode cX3_drawSprite 28 = .ok (.isub, 1) := zo_100 (zkb zk_cX3_drawSprite zn_cX3_drawSprite (by decide +kernel))
theorem dX3_drawSprite_29 : decode cX3_drawSprite 29 = .ok (.istore_n 3, 1) := zo_62 (zkb zk_cX3_drawSprite zn_cX3_drawSprite (by decide +kernel))
theorem dX3_drawSprite_30 : decode cX3_drawSprite 30 = .ok (.aload_n 0, 1) := zo_42 (zkb zk_cX3_drawSprite zn_cX3_drawSprite (by decide +kernel))
theorem dX3_drawSprite_31 : decode cX3_drawSprite 31 = .ok (.getfield 26, 3) := zo_180 (b1 := 0) (b2 := 26) (zkb3 zk_cX3_drawSprite zn_cX3_drawSprite (by decide +kernel)) rfl
theorem dX3_drawSprite_34 : decode cX3_drawSprite 34 = .ok (.iload_n 1, 1) := zo_27 (zkb zk_cX3_drawSprite zn_cX3_drawSprite (by decide +kernel))
theorem dX3_drawSprite_35 : decode cX3_drawSprite 35 = .ok (.iconst 1, 1) := zo_4 (zkb zk_cX3_drawSprite zn_cX3_drawSprite (by decide +kernel))
theorem dX3_drawSprite_36 : decode cX3_drawSprite 36 = .ok (.iadd, 1) := zo_96 (zkb zk_cX3_drawSprite zn_cX3_drawSprite (by decide +kernel))
theorem dX3_drawSprite_37 : decode cX3_drawSprite 37 = .ok (.invokevirtual 113, 3) := zo_182 (b1 := 0) (b2 := 113) (zkb3 zk_cX3_drawSprite zn_cX3_drawSprite (by decide +kernel)) rfl
theorem dX3_drawSprite_40 : decode cX3_drawSprite 40 = .ok (.aload_n 0, 1) := zo_42 (zkb zk_cX3_drawSprite zn_cX3_drawSprite (by decide +kernel))
theorem dX3_drawSprite_41 : decode cX3_drawSprite 41 = .ok (.getfield 26, 3) := zo_180 (b1 := 0) (b2 := 26) (zkb3 zk_cX3_drawSprite zn_cX3_drawSprite (by decide +kernel)) rfl
theorem dX3_drawSprite_44 : decode cX3_drawSprite 44 = .ok (.bipush 6, 2) := zo_16 (b1 := 6) (zkb2 zk_cX3_drawSprite zn_cX3_drawSprite (by decide +kernel)) rfl
theorem dX3_drawSprite_46 : decode cX3_drawSprite 46 = .ok (.invokevirtual 62, 3) := zo_182 (b1 := 0) (b2 := 62) (zkb3 zk_cX3_drawSprite zn_cX3_drawSprite (by decide +kernel)) rfl
theorem dX3_drawSprite_49 : decode cX3_drawSprite 49 = .ok (.iconst 4, 1) := zo_7 (zkb zk_cX3_drawSprite zn_cX3_drawSprite (by decide +kernel))
theorem dX3_drawSprite_50 : decode cX3_drawSprite 50 = .ok (.iand, 1) := zo_126 (zkb zk_cX3_drawSprite zn_cX3_drawSprite (by decide +kernel))
theorem dX3_drawSprite_51 : decode cX3_drawSprite 51 = .ok (.ifCond .eq 9, 3) := zo_153 (b1 := 0) (b2 := 9) (zkb3 zk_cX3_drawSprite zn_cX3_drawSprite (by decide +kernel)) rfl
theorem dX3_drawSprite_54 : decode cX3_drawSprite 54 = .ok (.sipush 256, 3) := zo_17 (b1 := 1) (b2 := 0) (zkb3 zk_cX3_drawSprite zn_cX3_drawSprite (by decide +kernel)) rfl
theorem dX3_drawSprite_57 : decode cX3_drawSprite 57 = .ok (.goto 4, 3) := zo_167 (b1 := 0) (b2 := 4) (zkb3 zk_cX3_drawSprite zn_cX3_drawSprite (by decide +kernel)) rfl
theorem dX3_drawSprite_60 : decode cX3_drawSprite 60 = .ok (.iconst 0, 1) := zo_3 (zkb zk_cX3_drawSprite zn_cX3_drawSprite (by decide +kernel))
theorem dX3_drawSprite_61 : decode cX3_drawSprite 61 = .ok (.iadd, 1) := zo_96 (zkb zk_cX3_drawSprite zn_cX3_drawSprite (by decide +kernel))
theorem dX3_drawSprite_62 : decode cX3_drawSprite 62 = .ok (.istore 4, 2) := zo_54 (b1 := 4) (zkb2 zk_cX3_drawSprite zn_cX3_drawSprite (by decide +kernel))
theorem dX3_drawSprite_64 : decode cX3_drawSprite 64 = .ok (.aload_n 0, 1) := zo_42 (zkb zk_cX3_drawSprite zn_cX3_drawSprite (by decide +kernel))
theorem dX3_drawSprite_65 : decode cX3_drawSprite 65 = .ok (.getfield 26, 3) := zo_180 (b1 := 0) (b2 := 26) (zkb3 zk_cX3_drawSprite zn_cX3_drawSprite (by decide +kernel)) rfl
theorem dX3_drawSprite_68 : decode cX3_drawSprite 68 = .ok (.iconst 1, 1) := zo_4 (zkb zk_cX3_drawSprite zn_cX3_drawSprite (by decide +kernel))
theorem dX3_drawSprite_69 : decode cX3_drawSprite 69 = .ok (.invokevirtual 62, 3) := zo_182 (b1 := 0) (b2 := 62) (zkb3 zk_cX3_drawSprite zn_cX3_drawSprite (by decide +kernel)) rfl
theorem dX3_drawSprite_72 : decode cX3_drawSprite 72 = .ok (.istore 5, 2) := zo_54 (b1 := 5) (zkb2 zk_cX3_drawSprite zn_cX3_drawSprite (by decide +kernel))
theorem dX3_drawSprite_74 : decode cX3_drawSprite 74 = .ok (.iload 5, 2) := zo_21 (b1 := 5) (zkb2 zk_cX3_drawSprite zn_cX3_drawSprite (by decide +kernel))
theorem dX3_drawSprite_76 : decode cX3_drawSprite 76 = .ok (.iconst 1, 1) := zo_4 (zkb zk_cX3_drawSprite zn_cX3_drawSprite (by decide +kernel))
theorem dX3_drawSprite_77 : decode cX3_drawSprite 77 = .ok (.iand, 1) := zo_126 (zkb zk_cX3_drawSprite zn_cX3_drawSprite (by decide +kernel))
theorem dX3_drawSprite_78 : decode cX3_drawSprite 78 = .ok (.istore 6, 2) := zo_54 (b1 := 6) (zkb2 zk_cX3_drawSprite zn_cX3_drawSprite (by decide +kernel))
theorem dX3_drawSprite_80 : decode cX3_drawSprite 80 = .ok (.aload_n 0, 1) := zo_42 (zkb zk_cX3_drawSprite zn_cX3_drawSprite (by decide +kernel))
theorem dX3_drawSprite_81 : decode cX3_drawSprite 81 = .ok (.bipush 32, 2) := zo_16 (b1 := 32) (zkb2 zk_cX3_drawSprite zn_cX3_drawSprite (by decide +kernel)) rfl
theorem dX3_drawSprite_83 : decode cX3_drawSprite 83 = .ok (.iload 5, 2) := zo_21 (b1 := 5) (zkb2 zk_cX3_drawSprite zn_cX3_drawSprite (by decide +kernel))
theorem dX3_drawSprite_85 : decode cX3_drawSprite 85 = .ok (.iconst 2, 1) := zo_5 (zkb zk_cX3_drawSprite zn_cX3_drawSprite (by decide +kernel))
theorem dX3_drawSprite_86 : decode cX3_drawSprite 86 = .ok (.iand, 1) := zo_126 (zkb zk_cX3_drawSprite zn_cX3_drawSprite (by decide +kernel))
theorem dX3_drawSprite_87 : decode cX3_drawSprite 87 = .ok (.ifCond .eq 11, 3) := zo_153 (b1 := 0) (b2 := 11) (zkb3 zk_cX3_drawSprite zn_cX3_drawSprite (by decide +kernel)) rfl
theorem dX3_drawSprite_90 : decode cX3_drawSprite 90 = .ok (.iload 4, 2) := zo_21 (b1 := 4) (zkb2 zk_cX3_drawSprite zn_cX3_drawSprite (by decide +kernel))
theorem dX3_drawSprite_92 : decode cX3_drawSprite 92 = .ok (.bipush (-2), 2) := zo_16 (b1 := 254) (zkb2 zk_cX3_drawSprite zn_cX3_drawSprite (by decide +kernel)) rfl
theorem dX3_drawSprite_94 : decode cX3_drawSprite 94 = .ok (.iand, 1) := zo_126 (zkb zk_cX3_drawSprite zn_cX3_drawSprite (by decide +kernel))
theorem dX3_drawSprite_95 : decode cX3_drawSprite 95 = .ok (.goto 5, 3) := zo_167 (b1 := 0) (b2 := 5) (zkb3 zk_cX3_drawSprite zn_cX3_drawSprite (by decide +kernel)) rfl
theorem dX3_drawSprite_98 : decode cX3_drawSprite 98 = .ok (.iload 4, 2) := zo_21 (b1 := 4) (zkb2 zk_cX3_drawSprite zn_cX3_drawSprite (by decide +kernel))
theorem dX3_drawSprite_100 : decode cX3_drawSprite 100 = .ok (.imul, 1) := zo_104 (zkb zk_cX3_drawSprite zn_cX3_drawSprite (by decide +kernel))
theorem dX3_drawSprite_101 : decode cX3_drawSprite 101 = .ok (.iconst 4, 1) := zo_7 (zkb zk_cX3_drawSprite zn_cX3_drawSprite (by decide +kernel))
theorem dX3_drawSprite_102 : decode cX3_drawSprite 102 = .ok (.iload_n 2, 1) := zo_28 (zkb zk_cX3_drawSprite zn_cX3_drawSprite (by decide +kernel))
theorem dX3_drawSprite_103 : decode cX3_drawSprite 103 = .ok (.imul, 1) := zo_104 (zkb zk_cX3_drawSprite zn_cX3_drawSprite (by decide +kernel))
theorem dX3_drawSprite_104 : decode cX3_drawSprite 104 = .ok (.iadd, 1) := zo_96 (zkb zk_cX3_drawSprite zn_cX3_drawSprite (by decide +kernel))
theorem dX3_drawSprite_105 : decode cX3_drawSprite 105 = .ok (.invokevirtual 116, 3) := zo_182 (b1 := 0) (b2 := 116) (zkb3 zk_cX3_drawSprite zn_cX3_drawSprite (by decide +kernel)) rfl
theorem dX3_drawSprite_108 : decode cX3_drawSprite 108 = .ok (.iconst 0, 1) := zo_3 (zkb zk_cX3_drawSprite zn_cX3_drawSprite (by decide +kernel))
theorem dX3_drawSprite_109 : decode cX3_drawSprite 109 = .ok (.istore 7, 2) := zo_54 (b1 := 7) (zkb2 zk_cX3_drawSprite zn_cX3_drawSprite (by decide +kernel))
theorem dX3_drawSprite_111 : decode cX3_drawSprite 111 = .ok (.iload 7, 2) := zo_21 (b1 := 7) (zkb2 zk_cX3_drawSprite zn_cX3_drawSprite (by decide +kernel))
theorem dX3_drawSprite_113 : decode cX3_drawSprite 113 = .ok (.bipush 8, 2) := zo_16 (b1 := 8) (zkb2 zk_cX3_drawSprite zn_cX3_drawSprite (by decide +kernel)) rfl
theorem dX3_drawSprite_115 : decode cX3_drawSprite 115 = .ok (.iload 6, 2) := zo_21 (b1 := 6) (zkb2 zk_cX3_drawSprite zn_cX3_drawSprite (by decide +kernel))
theorem dX3_drawSprite_117 : decode cX3_drawSprite 117 = .ok (.ishl, 1) := zo_120 (zkb zk_cX3_drawSprite zn_cX3_drawSprite (by decide +kernel))
theorem dX3_drawSprite_118 : decode cX3_drawSprite 118 = .ok (.if_icmp .ge 78, 3) := zo_162 (b1 := 0) (b2 := 78) (zkb3 zk_cX3_drawSprite zn_cX3_drawSprite (by decide +kernel)) rfl
theorem dX3_drawSprite_121 : decode cX3_drawSprite 121 = .ok (.iload_n 3, 1) := zo_29 (zkb zk_cX3_drawSprite zn_cX3_drawSprite (by decide +kernel))
theorem dX3_drawSprite_122 : decode cX3_drawSprite 122 = .ok (.iload 7, 2) := zo_21 (b1 := 7) (zkb2 zk_cX3_drawSprite zn_cX3_drawSprite (by decide +kernel))
theorem dX3_drawSprite_124 : decode cX3_drawSprite 124 = .ok (.iadd, 1) := zo_96 (zkb zk_cX3_drawSprite zn_cX3_drawSprite (by decide +kernel))
theorem dX3_drawSprite_125 : decode cX3_drawSprite 125 = .ok (.istore 8, 2) := zo_54 (b1 := 8) (zkb2 zk_cX3_drawSprite zn_cX3_drawSprite (by decide +kernel))
theorem dX3_drawSprite_127 : decode cX3_drawSprite 127 = .ok (.aload_n 0, 1) := zo_42 (zkb zk_cX3_drawSprite zn_cX3_drawSprite (by decide +kernel))
theorem dX3_drawSprite_128 : decode cX3_drawSprite 128 = .ok (.getfield 107, 3) := zo_180 (b1 := 0) (b2 := 107) (zkb3 zk_cX3_drawSprite zn_cX3_drawSprite (by decide +kernel)) rfl
theorem dX3_drawSprite_131 : decode cX3_drawSprite 131 = .ok (.iload 7, 2) := zo_21 (b1 := 7) (zkb2 zk_cX3_drawSprite zn_cX3_drawSprite (by decide +kernel))
theorem dX3_drawSprite_133 : decode cX3_drawSprite 133 = .ok (.iload 6, 2) := zo_21 (b1 := 6) (zkb2 zk_cX3_drawSprite zn_cX3_drawSprite (by decide +kernel))
theorem dX3_drawSprite_135 : decode cX3_drawSprite 135 = .ok (.ishr, 1) := zo_122 (zkb zk_cX3_drawSprite zn_cX3_drawSprite (by decide +kernel))
theorem dX3_drawSprite_136 : decode cX3_drawSprite 136 = .ok (.invokestatic 110, 3) := zo_184 (b1 := 0) (b2 := 110) (zkb3 zk_cX3_drawSprite zn_cX3_drawSprite (by decide +kernel)) rfl
theorem dX3_drawSprite_139 : decode cX3_drawSprite 139 = .ok (.istore 9, 2) := zo_54 (b1 := 9) (zkb2 zk_cX3_drawSprite zn_cX3_drawSprite (by decide +kernel))
theorem dX3_drawSprite_141 : decode cX3_drawSprite 141 = .ok (.iload 9, 2) := zo_21 (b1 := 9) (zkb2 zk_cX3_drawSprite zn_cX3_drawSprite (by decide +kernel))
theorem dX3_drawSprite_143 : decode cX3_drawSprite 143 = .ok (.ifCond .le 47, 3) := zo_158 (b1 := 0) (b2 := 47) (zkb3 zk_cX3_drawSprite zn_cX3_drawSprite (by decide +kernel)) rfl
theorem dX3_drawSprite_146 : decode cX3_drawSprite 146 = .ok (.iload 8, 2) := zo_21 (b1 := 8) (zkb2 zk_cX3_drawSprite zn_cX3_drawSprite (by decide +kernel))
theorem dX3_drawSprite_148 : decode cX3_drawSprite 148 = .ok (.ifCond .lt 42, 3) := zo_155 (b1 := 0) (b2 := 42) (zkb3 zk_cX3_drawSprite zn_cX3_drawSprite (by decide +kernel)) rfl
theorem dX3_drawSprite_151 : decode cX3_drawSprite 151 = .ok (.iload 8, 2) := zo_21 (b1 := 8) (zkb2 zk_cX3_drawSprite zn_cX3_drawSprite (by decide +kernel))
theorem dX3_drawSprite_153 : decode cX3_drawSprite 153 = .ok (.sipush 256, 3) := zo_17 (b1 := 1) (b2 := 0) (zkb3 zk_cX3_drawSprite zn_cX3_drawSprite (by decide +kernel)) rfl
theorem dX3_drawSprite_156 : decode cX3_drawSprite 156 = .ok (.if_icmp .ge 34, 3) := zo_162 (b1 := 0) (b2 := 34) (zkb3 zk_cX3_drawSprite zn_cX3_drawSprite (by decide +kernel)) rfl
theorem dX3_drawSprite_159 : decode cX3_drawSprite 159 = .ok (.aload_n 0, 1) := zo_42 (zkb zk_cX3_drawSprite zn_cX3_drawSprite (by decide +kernel))
theorem dX3_drawSprite_160 : decode cX3_drawSprite 160 = .ok (.getfield 20, 3) := zo_180 (b1 := 0) (b2 := 20) (zkb3 zk_cX3_drawSprite zn_cX3_drawSprite (by decide +kernel)) rfl
theorem dX3_drawSprite_163 : decode cX3_drawSprite 163 = .ok (.iload 8, 2) := zo_21 (b1 := 8) (zkb2 zk_cX3_drawSprite zn_cX3_drawSprite (by decide +kernel))
theorem dX3_drawSprite_165 : decode cX3_drawSprite 165 = .ok (.iaload, 1) := zo_46 (zkb zk_cX3_drawSprite zn_cX3_drawSprite (by decide +kernel))
theorem dX3_drawSprite_166 : decode cX3_drawSprite 166 = .ok (.ifCond .le 15, 3) := zo_158 (b1 := 0) (b2 := 15) (zkb3 zk_cX3_drawSprite zn_cX3_drawSprite (by decide +kernel)) rfl
theorem dX3_drawSprite_169 : decode cX3_drawSprite 169 = .ok (.aload_n 0, 1) := zo_42 (zkb zk_cX3_drawSprite zn_cX3_drawSprite (by decide +kernel))
theorem dX3_drawSprite_170 : decode cX3_drawSprite 170 = .ok (.getfield 26, 3) := zo_180 (b1 := 0) (b2 := 26) (zkb3 zk_cX3_drawSprite zn_cX3_drawSprite (by decide +kernel)) rfl
theorem dX3_drawSprite_173 : decode cX3_drawSprite 173 = .ok (.bipush 32, 2) := zo_16 (b1 := 32) (zkb2 zk_cX3_drawSprite zn_cX3_drawSprite (by decide +kernel)) rfl
theorem dX3_drawSprite_175 : decode cX3_drawSprite 175 = .ok (.invokevirtual 123, 3) := zo_182 (b1 := 0) (b2 := 123) (zkb3 zk_cX3_drawSprite zn_cX3_drawSprite (by decide +kernel)) rfl
theorem dX3_drawSprite_178 : decode cX3_drawSprite 178 = .ok (.goto 12, 3) := zo_167 (b1 := 0) (b2 := 12) (zkb3 zk_cX3_drawSprite zn_cX3_drawSprite (by decide +kernel)) rfl
theorem dX3_drawSprite_181 : decode cX3_drawSprite 181 = .ok (.aload_n 0, 1) := zo_42 (zkb zk_cX3_drawSprite zn_cX3_drawSprite (by decide +kernel))
theorem dX3_drawSprite_182 : decode cX3_drawSprite 182 = .ok (.getfield 20, 3) := zo_180 (b1 := 0) (b2 := 20) (zkb3 zk_cX3_drawSprite zn_cX3_drawSprite (by decide +kernel)) rfl
theorem dX3_drawSprite_185 : decode cX3_drawSprite 185 = .ok (.iload 8, 2) := zo_21 (b1 := 8) (zkb2 zk_cX3_drawSprite zn_cX3_drawSprite (by decide +kernel))
theorem dX3_drawSprite_187 : decode cX3_drawSprite 187 = .ok (.iload 9, 2) := zo_21 (b1 := 9) (zkb2 zk_cX3_drawSprite zn_cX3_drawSprite (by decide +kernel))
theorem dX3_drawSprite_189 : decode cX3_drawSprite 189 = .ok (.iastore, 1) := zo_79 (zkb zk_cX3_drawSprite zn_cX3_drawSprite (by decide +kernel))
theorem dX3_drawSprite_190 : decode cX3_drawSprite 190 = .ok (.iinc 7 1, 3) := zo_132 (b1 := 7) (b2 := 1) (zkb3 zk_cX3_drawSprite zn_cX3_drawSprite (by decide +kernel)) rfl
theorem dX3_drawSprite_193 : decode cX3_drawSprite 193 = .ok (.goto (-82), 3) := zo_167 (b1 := 255) (b2 := 174) (zkb3 zk_cX3_drawSprite zn_cX3_drawSprite (by decide +kernel)) rfl
theorem dX3_drawSprite_196 : decode cX3_drawSprite 196 = .ok (.return_, 1) := zo_177 (zkb zk_cX3_drawSprite zn_cX3_drawSprite (by decide +kernel))
def kn_cX3_drawOld : Nat := 0xb177ffa70104848e00b61c051568041508102a0f00a78b00b67e07101c60687a06101c000111051568041508102a2a00a78700b67100b6607a060515683e00b6061a00b42a40101a00b42a8400b61c05152a68041508102a43000000020000001900000000000000020000005e000000ab1b05367100b660041560687a061c20101d1a00b42a8800a220100415043603b18100b61c1d2a0a00a0041b3e687e0f103e00b6051a00b42a000411
theorem zk_cX3_drawOld : zkd cX3_drawOld.data.toList kn_cX3_drawOld = true := by decide +kernel
theorem zn_cX3_drawOld : cX3_drawOld.data.toList.length = 172 := by decide +kernel
theorem dX3_drawOld_0 : decode cX3_drawOld 0 = .ok (.sipush 1024, 3) := zo_17 (b1 := 4) (b2 := 0) (zkb3 zk_cX3_drawOld zn_cX3_drawOld (by decide +kernel)) rfl
theorem dX3_drawOld_3 : decode cX3_drawOld 3 = .ok (.aload_n 0, 1) := zo_42 (zkb zk_cX3_drawOld zn_cX3_drawOld (by decide +kernel))
theorem dX3_drawOld_4 : decode cX3_drawOld 4 = .ok (.getfield 26, 3) := zo_180 (b1 := 0) (b2 := 26) (zkb3 zk_cX3_drawOld zn_cX3_drawOld (by decide +kernel)) rfl
theorem dX3_drawOld_7 : decode cX3_drawOld 7 = .ok (.iconst 2, 1) := zo_5 (zkb zk_cX3_drawOld zn_cX3_drawOld (by decide +kernel))
theorem dX3_drawOld_8 : decode cX3_drawOld 8 = .ok (.invokevirtual 62, 3) := zo_182 (b1 := 0) (b2 := 62) (zkb3 zk_cX3_drawOld zn_cX3_drawOld (by decide +kernel)) rfl
theorem dX3_drawOld_11 : decode cX3_drawOld 11 = .ok (.bipush 15, 2) := zo_16 (b1 := 15) (zkb2 zk_cX3_drawOld zn_cX3_drawOld (by decide +kernel)) rfl
theorem dX3_drawOld_13 : decode cX3_drawOld 13 = .ok (.iand, 1) := zo_126 (zkb zk_cX3_drawOld zn_cX3_drawOld (by decide +kernel))
theorem dX3_drawOld_14 : decode cX3_drawOld 14 = .ok (.imul, 1) := zo_104 (zkb zk_cX3_drawOld zn_cX3_drawOld (by decide +kernel))
theorem dX3_drawOld_15 : decode cX3_drawOld 15 = .ok (.istore_n 3, 1) := zo_62 (zkb zk_cX3_drawOld zn_cX3_drawOld (by decide +kernel))
theorem dX3_drawOld_16 : decode cX3_drawOld 16 = .ok (.iload_n 1, 1) := zo_27 (zkb zk_cX3_drawOld zn_cX3_drawOld (by decide +kernel))
theorem dX3_drawOld_17 : decode cX3_drawOld 17 = .ok (.iconst 1, 1) := zo_4 (zkb zk_cX3_drawOld zn_cX3_drawOld (by decide +kernel))
theorem dX3_drawOld_18 : decode cX3_drawOld 18 = .ok (.if_icmp .ne 10, 3) := zo_160 (b1 := 0) (b2 := 10) (zkb3 zk_cX3_drawOld zn_cX3_drawOld (by decide +kernel)) rfl
theorem dX3_drawOld_21 : decode cX3_drawOld 21 = .ok (.aload_n 0, 1) := zo_42 (zkb zk_cX3_drawOld zn_cX3_drawOld (by decide +kernel))
theorem dX3_drawOld_22 : decode cX3_drawOld 22 = .ok (.iload_n 3, 1) := zo_29 (zkb zk_cX3_drawOld zn_cX3_drawOld (by decide +kernel))
theorem dX3_drawOld_23 : decode cX3_drawOld 23 = .ok (.iload_n 2, 1) := zo_28 (zkb zk_cX3_drawOld zn_cX3_drawOld (by decide +kernel))
theorem dX3_drawOld_24 : decode cX3_drawOld 24 = .ok (.invokevirtual 129, 3) := zo_182 (b1 := 0) (b2 := 129) (zkb3 zk_cX3_drawOld zn_cX3_drawOld (by decide +kernel)) rfl
theorem dX3_drawOld_27 : decode cX3_drawOld 27 = .ok (.return_, 1) := zo_177 (zkb zk_cX3_drawOld zn_cX3_drawOld (by decide +kernel))
theorem dX3_drawOld_28 : decode cX3_drawOld 28 = .ok (.iconst 0, 1) := zo_3 (zkb zk_cX3_drawOld zn_cX3_drawOld (by decide +kernel))
theorem dX3_drawOld_29 : decode cX3_drawOld 29 = .ok (.istore 4, 2) := zo_54 (b1 := 4) (zkb2 zk_cX3_drawOld zn_cX3_drawOld (by decide +kernel))
theorem dX3_drawOld_31 : decode cX3_drawOld 31 = .ok (.iload 4, 2) := zo_21 (b1 := 4) (zkb2 zk_cX3_drawOld zn_cX3_drawOld (by decide +kernel))
theorem dX3_drawOld_33 : decode cX3_drawOld 33 = .ok (.bipush 32, 2) := zo_16 (b1 := 32) (zkb2 zk_cX3_drawOld zn_cX3_drawOld (by decide +kernel)) rfl
theorem dX3_drawOld_35 : decode cX3_drawOld 35 = .ok (.if_icmp .ge 136, 3) := zo_162 (b1 := 0) (b2 := 136) (zkb3 zk_cX3_drawOld zn_cX3_drawOld (by decide +kernel)) rfl
theorem dX3_drawOld_38 : decode cX3_drawOld 38 = .ok (.aload_n 0, 1) := zo_42 (zkb zk_cX3_drawOld zn_cX3_drawOld (by decide +kernel))
theorem dX3_drawOld_39 : decode cX3_drawOld 39 = .ok (.getfield 26, 3) := zo_180 (b1 := 0) (b2 := 26) (zkb3 zk_cX3_drawOld zn_cX3_drawOld (by decide +kernel)) rfl
theorem dX3_drawOld_42 : decode cX3_drawOld 42 = .ok (.iload_n 3, 1) := zo_29 (zkb zk_cX3_drawOld zn_cX3_drawOld (by decide +kernel))
theorem dX3_drawOld_43 : decode cX3_drawOld 43 = .ok (.bipush 32, 2) := zo_16 (b1 := 32) (zkb2 zk_cX3_drawOld zn_cX3_drawOld (by decide +kernel)) rfl
theorem dX3_drawOld_45 : decode cX3_drawOld 45 = .ok (.iload_n 2, 1) := zo_28 (zkb zk_cX3_drawOld zn_cX3_drawOld (by decide +kernel))
theorem dX3_drawOld_46 : decode cX3_drawOld 46 = .ok (.iconst 3, 1) := zo_6 (zkb zk_cX3_drawOld zn_cX3_drawOld (by decide +kernel))
theorem dX3_drawOld_47 : decode cX3_drawOld 47 = .ok (.ishr, 1) := zo_122 (zkb zk_cX3_drawOld zn_cX3_drawOld (by decide +kernel))
theorem dX3_drawOld_48 : decode cX3_drawOld 48 = .ok (.imul, 1) := zo_104 (zkb zk_cX3_drawOld zn_cX3_drawOld (by decide +kernel))
theorem dX3_drawOld_49 : decode cX3_drawOld 49 = .ok (.iadd, 1) := zo_96 (zkb zk_cX3_drawOld zn_cX3_drawOld (by decide +kernel))
theorem dX3_drawOld_50 : decode cX3_drawOld 50 = .ok (.iload 4, 2) := zo_21 (b1 := 4) (zkb2 zk_cX3_drawOld zn_cX3_drawOld (by decide +kernel))
theorem dX3_drawOld_52 : decode cX3_drawOld 52 = .ok (.iadd, 1) := zo_96 (zkb zk_cX3_drawOld zn_cX3_drawOld (by decide +kernel))
theorem dX3_drawOld_53 : decode cX3_drawOld 53 = .ok (.invokevirtual 113, 3) := zo_182 (b1 := 0) (b2 := 113) (zkb3 zk_cX3_drawOld zn_cX3_drawOld (by decide +kernel)) rfl
theorem dX3_drawOld_56 : decode cX3_drawOld 56 = .ok (.istore 5, 2) := zo_54 (b1 := 5) (zkb2 zk_cX3_drawOld zn_cX3_drawOld (by decide +kernel))
theorem dX3_drawOld_58 : decode cX3_drawOld 58 = .ok (.iload_n 1, 1) := zo_27 (zkb zk_cX3_drawOld zn_cX3_drawOld (by decide +kernel))
theorem dX3_drawOld_59 : decode cX3_drawOld 59 = .ok (.lookupswitch 94 #[(0, 25), (2, 67)], 25) := by decide +kernel
theorem dX3_drawOld_84 : decode cX3_drawOld 84 = .ok (.aload_n 0, 1) := zo_42 (zkb zk_cX3_drawOld zn_cX3_drawOld (by decide +kernel))
theorem dX3_drawOld_85 : decode cX3_drawOld 85 = .ok (.bipush 8, 2) := zo_16 (b1 := 8) (zkb2 zk_cX3_drawOld zn_cX3_drawOld (by decide +kernel)) rfl
theorem dX3_drawOld_87 : decode cX3_drawOld 87 = .ok (.iload 4, 2) := zo_21 (b1 := 4) (zkb2 zk_cX3_drawOld zn_cX3_drawOld (by decide +kernel))
theorem dX3_drawOld_89 : decode cX3_drawOld 89 = .ok (.imul, 1) := zo_104 (zkb zk_cX3_drawOld zn_cX3_drawOld (by decide +kernel))
theorem dX3_drawOld_90 : decode cX3_drawOld 90 = .ok (.aload_n 0, 1) := zo_42 (zkb zk_cX3_drawOld zn_cX3_drawOld (by decide +kernel))
theorem dX3_drawOld_91 : decode cX3_drawOld 91 = .ok (.iload 5, 2) := zo_21 (b1 := 5) (zkb2 zk_cX3_drawOld zn_cX3_drawOld (by decide +kernel))
theorem dX3_drawOld_93 : decode cX3_drawOld 93 = .ok (.iload_n 2, 1) := zo_28 (zkb zk_cX3_drawOld zn_cX3_drawOld (by decide +kernel))
theorem dX3_drawOld_94 : decode cX3_drawOld 94 = .ok (.invokevirtual 132, 3) := zo_182 (b1 := 0) (b2 := 132) (zkb3 zk_cX3_drawOld zn_cX3_drawOld (by decide +kernel)) rfl
theorem dX3_drawOld_97 : decode cX3_drawOld 97 = .ok (.aload_n 0, 1) := zo_42 (zkb zk_cX3_drawOld zn_cX3_drawOld (by decide +kernel))
theorem dX3_drawOld_98 : decode cX3_drawOld 98 = .ok (.getfield 26, 3) := zo_180 (b1 := 0) (b2 := 26) (zkb3 zk_cX3_drawOld zn_cX3_drawOld (by decide +kernel)) rfl
theorem dX3_drawOld_101 : decode cX3_drawOld 101 = .ok (.bipush 64, 2) := zo_16 (b1 := 64) (zkb2 zk_cX3_drawOld zn_cX3_drawOld (by decide +kernel)) rfl
theorem dX3_drawOld_103 : decode cX3_drawOld 103 = .ok (.aload_n 0, 1) := zo_42 (zkb zk_cX3_drawOld zn_cX3_drawOld (by decide +kernel))
theorem dX3_drawOld_104 : decode cX3_drawOld 104 = .ok (.getfield 26, 3) := zo_180 (b1 := 0) (b2 := 26) (zkb3 zk_cX3_drawOld zn_cX3_drawOld (by decide +kernel)) rfl
theorem dX3_drawOld_107 : decode cX3_drawOld 107 = .ok (.iconst 3, 1) := zo_6 (zkb zk_cX3_drawOld zn_cX3_drawOld (by decide +kernel))
theorem dX3_drawOld_108 : decode cX3_drawOld 108 = .ok (.invokevirtual 62, 3) := zo_182 (b1 := 0) (b2 := 62) (zkb3 zk_cX3_drawOld zn_cX3_drawOld (by decide +kernel)) rfl
theorem dX3_drawOld_111 : decode cX3_drawOld 111 = .ok (.imul, 1) := zo_104 (zkb zk_cX3_drawOld zn_cX3_drawOld (by decide +kernel))
theorem dX3_drawOld_112 : decode cX3_drawOld 112 = .ok (.iload 5, 2) := zo_21 (b1 := 5) (zkb2 zk_cX3_drawOld zn_cX3_drawOld (by decide +kernel))
theorem dX3_drawOld_114 : decode cX3_drawOld 114 = .ok (.iconst 3, 1) := zo_6 (zkb zk_cX3_drawOld zn_cX3_drawOld (by decide +kernel))
theorem dX3_drawOld_115 : decode cX3_drawOld 115 = .ok (.ishr, 1) := zo_122 (zkb zk_cX3_drawOld zn_cX3_drawOld (by decide +kernel))
theorem dX3_drawOld_116 : decode cX3_drawOld 116 = .ok (.iadd, 1) := zo_96 (zkb zk_cX3_drawOld zn_cX3_drawOld (by decide +kernel))
theorem dX3_drawOld_117 : decode cX3_drawOld 117 = .ok (.invokevirtual 113, 3) := zo_182 (b1 := 0) (b2 := 113) (zkb3 zk_cX3_drawOld zn_cX3_drawOld (by decide +kernel)) rfl
theorem dX3_drawOld_120 : decode cX3_drawOld 120 = .ok (.invokevirtual 135, 3) := zo_182 (b1 := 0) (b2 := 135) (zkb3 zk_cX3_drawOld zn_cX3_drawOld (by decide +kernel)) rfl
theorem dX3_drawOld_123 : decode cX3_drawOld 123 = .ok (.goto 42, 3) := zo_167 (b1 := 0) (b2 := 42) (zkb3 zk_cX3_drawOld zn_cX3_drawOld (by decide +kernel)) rfl
theorem dX3_drawOld_126 : decode cX3_drawOld 126 = .ok (.aload_n 0, 1) := zo_42 (zkb zk_cX3_drawOld zn_cX3_drawOld (by decide +kernel))
theorem dX3_drawOld_127 : decode cX3_drawOld 127 = .ok (.bipush 8, 2) := zo_16 (b1 := 8) (zkb2 zk_cX3_drawOld zn_cX3_drawOld (by decide +kernel)) rfl
theorem dX3_drawOld_129 : decode cX3_drawOld 129 = .ok (.iload 4, 2) := zo_21 (b1 := 4) (zkb2 zk_cX3_drawOld zn_cX3_drawOld (by decide +kernel))
theorem dX3_drawOld_131 : decode cX3_drawOld 131 = .ok (.imul, 1) := zo_104 (zkb zk_cX3_drawOld zn_cX3_drawOld (by decide +kernel))
theorem dX3_drawOld_132 : decode cX3_drawOld 132 = .ok (.iload 5, 2) := zo_21 (b1 := 5) (zkb2 zk_cX3_drawOld zn_cX3_drawOld (by decide +kernel))
theorem dX3_drawOld_134 : decode cX3_drawOld 134 = .ok (.sipush 256, 3) := zo_17 (b1 := 1) (b2 := 0) (zkb3 zk_cX3_drawOld zn_cX3_drawOld (by decide +kernel)) rfl
theorem dX3_drawOld_137 : decode cX3_drawOld 137 = .ok (.iload_n 2, 1) := zo_28 (zkb zk_cX3_drawOld zn_cX3_drawOld (by decide +kernel))
theorem dX3_drawOld_138 : decode cX3_drawOld 138 = .ok (.bipush 6, 2) := zo_16 (b1 := 6) (zkb2 zk_cX3_drawOld zn_cX3_drawOld (by decide +kernel)) rfl
theorem dX3_drawOld_140 : decode cX3_drawOld 140 = .ok (.ishr, 1) := zo_122 (zkb zk_cX3_drawOld zn_cX3_drawOld (by decide +kernel))
theorem dX3_drawOld_141 : decode cX3_drawOld 141 = .ok (.imul, 1) := zo_104 (zkb zk_cX3_drawOld zn_cX3_drawOld (by decide +kernel))
theorem dX3_drawOld_142 : decode cX3_drawOld 142 = .ok (.iadd, 1) := zo_96 (zkb zk_cX3_drawOld zn_cX3_drawOld (by decide +kernel))
theorem dX3_drawOld_143 : decode cX3_drawOld 143 = .ok (.iload_n 2, 1) := zo_28 (zkb zk_cX3_drawOld zn_cX3_drawOld (by decide +kernel))
theorem dX3_drawOld_144 : decode cX3_drawOld 144 = .ok (.bipush 7, 2) := zo_16 (b1 := 7) (zkb2 zk_cX3_drawOld zn_cX3_drawOld (by decide +kernel)) rfl
theorem dX3_drawOld_146 : decode cX3_drawOld 146 = .ok (.iand, 1) := zo_126 (zkb zk_cX3_drawOld zn_cX3_drawOld (by decide +kernel))
theorem dX3_drawOld_147 : decode cX3_drawOld 147 = .ok (.invokevirtual 139, 3) := zo_182 (b1 := 0) (b2 := 139) (zkb3 zk_cX3_drawOld zn_cX3_drawOld (by decide +kernel)) rfl
theorem dX3_drawOld_150 : decode cX3_drawOld 150 = .ok (.goto 15, 3) := zo_167 (b1 := 0) (b2 := 15) (zkb3 zk_cX3_drawOld zn_cX3_drawOld (by decide +kernel)) rfl
theorem dX3_drawOld_153 : decode cX3_drawOld 153 = .ok (.aload_n 0, 1) := zo_42 (zkb zk_cX3_drawOld zn_cX3_drawOld (by decide +kernel))
theorem dX3_drawOld_154 : decode cX3_drawOld 154 = .ok (.bipush 8, 2) := zo_16 (b1 := 8) (zkb2 zk_cX3_drawOld zn_cX3_drawOld (by decide +kernel)) rfl
theorem dX3_drawOld_156 : decode cX3_drawOld 156 = .ok (.iload 4, 2) := zo_21 (b1 := 4) (zkb2 zk_cX3_drawOld zn_cX3_drawOld (by decide +kernel))
theorem dX3_drawOld_158 : decode cX3_drawOld 158 = .ok (.imul, 1) := zo_104 (zkb zk_cX3_drawOld zn_cX3_drawOld (by decide +kernel))
theorem dX3_drawOld_159 : decode cX3_drawOld 159 = .ok (.iload 5, 2) := zo_21 (b1 := 5) (zkb2 zk_cX3_drawOld zn_cX3_drawOld (by decide +kernel))
theorem dX3_drawOld_161 : decode cX3_drawOld 161 = .ok (.iload_n 2, 1) := zo_28 (zkb zk_cX3_drawOld zn_cX3_drawOld (by decide +kernel))
theorem dX3_drawOld_162 : decode cX3_drawOld 162 = .ok (.invokevirtual 142, 3) := zo_182 (b1 := 0) (b2 := 142) (zkb3 zk_cX3_drawOld zn_cX3_drawOld (by decide +kernel)) rfl
theorem dX3_drawOld_165 : decode cX3_drawOld 165 = .ok (.iinc 4 1, 3) := zo_132 (b1 := 4) (b2 := 1) (zkb3 zk_cX3_drawOld zn_cX3_drawOld (by decide +kernel)) rfl
theorem dX3_drawOld_168 : decode cX3_drawOld 168 = .ok (.goto (-137), 3) := zo_167 (b1 := 255) (b2 := 119) (zkb3 zk_cX3_drawOld zn_cX3_drawOld (by decide +kernel)) rfl
theorem dX3_drawOld_171 : decode cX3_drawOld 171 = .ok (.return_, 1) := zo_177 (zkb zk_cX3_drawOld zn_cX3_drawOld (by decide +kernel))
def kn_cX3_patternAt : Nat := 0xac7100b6607e07101c60681b0810687e07103e00b6071a00b42a0008111a00b42a
theorem zk_cX3_patternAt : zkd cX3_patternAt.data.toList kn_cX3_patternAt = true := by decide +kernel
theorem zn_cX3_patternAt : cX3_patternAt.data.toList.length = 33 := by decide +kernel
theorem dX3_patternAt_0 : decode cX3_patternAt 0 = .ok (.aload_n 0, 1) := zo_42 (zkb zk_cX3_patternAt zn_cX3_patternAt (by decide +kernel))
theorem dX3_patternAt_1 : decode cX3_patternAt 1 = .ok (.getfield 26, 3) := zo_180 (b1 := 0) (b2 := 26) (zkb3 zk_cX3_patternAt zn_cX3_patternAt (by decide +kernel)) rfl
theorem dX3_patternAt_4 : decode cX3_patternAt 4 = .ok (.sipush 2048, 3) := zo_17 (b1 := 8) (b2 := 0) (zkb3 zk_cX3_patternAt zn_cX3_patternAt (by decide +kernel)) rfl
theorem dX3_patternAt_7 : decode cX3_patternAt 7 = .ok (.aload_n 0, 1) := zo_42 (zkb zk_cX3_patternAt zn_cX3_patternAt (by decide +kernel))
theorem dX3_patternAt_8 : decode cX3_patternAt 8 = .ok (.getfield 26, 3) := zo_180 (b1 := 0) (b2 := 26) (zkb3 zk_cX3_patternAt zn_cX3_patternAt (by decide +kernel)) rfl
theorem dX3_patternAt_11 : decode cX3_patternAt 11 = .ok (.iconst 4, 1) := zo_7 (zkb zk_cX3_patternAt zn_cX3_patternAt (by decide +kernel))
theorem dX3_patternAt_12 : decode cX3_patternAt 12 = .ok (.invokevirtual 62, 3) := zo_182 (b1 := 0) (b2 := 62) (zkb3 zk_cX3_patternAt zn_cX3_patternAt (by decide +kernel)) rfl
theorem dX3_patternAt_15 : decode cX3_patternAt 15 = .ok (.bipush 7, 2) := zo_16 (b1 := 7) (zkb2 zk_cX3_patternAt zn_cX3_patternAt (by decide +kernel)) rfl
theorem dX3_patternAt_17 : decode cX3_patternAt 17 = .ok (.iand, 1) := zo_126 (zkb zk_cX3_patternAt zn_cX3_patternAt (by decide +kernel))
theorem dX3_patternAt_18 : decode cX3_patternAt 18 = .ok (.imul, 1) := zo_104 (zkb zk_cX3_patternAt zn_cX3_patternAt (by decide +kernel))
theorem dX3_patternAt_19 : decode cX3_patternAt 19 = .ok (.bipush 8, 2) := zo_16 (b1 := 8) (zkb2 zk_cX3_patternAt zn_cX3_patternAt (by decide +kernel)) rfl
theorem dX3_patternAt_21 : decode cX3_patternAt 21 = .ok (.iload_n 1, 1) := zo_27 (zkb zk_cX3_patternAt zn_cX3_patternAt (by decide +kernel))
theorem dX3_patternAt_22 : decode cX3_patternAt 22 = .ok (.imul, 1) := zo_104 (zkb zk_cX3_patternAt zn_cX3_patternAt (by decide +kernel))
theorem dX3_patternAt_23 : decode cX3_patternAt 23 = .ok (.iadd, 1) := zo_96 (zkb zk_cX3_patternAt zn_cX3_patternAt (by decide +kernel))
theorem dX3_patternAt_24 : decode cX3_patternAt 24 = .ok (.iload_n 2, 1) := zo_28 (zkb zk_cX3_patternAt zn_cX3_patternAt (by decide +kernel))
theorem dX3_patternAt_25 : decode cX3_patternAt 25 = .ok (.bipush 7, 2) := zo_16 (b1 := 7) (zkb2 zk_cX3_patternAt zn_cX3_patternAt (by decide +kernel)) rfl
theorem dX3_patternAt_27 : decode cX3_patternAt 27 = .ok (.iand, 1) := zo_126 (zkb zk_cX3_patternAt zn_cX3_patternAt (by decide +kernel))
theorem dX3_patternAt_28 : decode cX3_patternAt 28 = .ok (.iadd, 1) := zo_96 (zkb zk_cX3_patternAt zn_cX3_patternAt (by decide +kernel))
theorem dX3_patternAt_29 : decode cX3_patternAt 29 = .ok (.invokevirtual 113, 3) := zo_182 (b1 := 0) (b2 := 113) (zkb3 zk_cX3_patternAt zn_cX3_patternAt (by decide +kernel)) rfl
theorem dX3_patternAt_32 : decode cX3_patternAt 32 = .ok (.ireturn, 1) := zo_172 (zkb zk_cX3_patternAt zn_cX3_patternAt (by decide +kernel))
def kn_cX3_drawText : Nat := 0xb1a6ffa7010484cfffa70106844f7e0f101d0700a77a071d0900997e047a6406150710051560061560680415061008101100b42a3000a20610061506360305368400b61c7100b660041560687a061c28101b1a00b42a2a5900a2281004150436034400b8031100b42a3e3e00b607101a00b42a
theorem zk_cX3_drawText : zkd cX3_drawText.data.toList kn_cX3_drawText = true := by decide +kernel
theorem zn_cX3_drawText : cX3_drawText.data.toList.length = 115 := by decide +kernel
theorem dX3_drawText_0 : decode cX3_drawText 0 = .ok (.aload_n 0, 1) := zo_42 (zkb zk_cX3_drawText zn_cX3_drawText (by decide +kernel))
theorem dX3_drawText_1 : decode cX3_drawText 1 = .ok (.getfield 26, 3) := zo_180 (b1 := 0) (b2 := 26) (zkb3 zk_cX3_drawText zn_cX3_drawText (by decide +kernel)) rfl
theorem dX3_drawText_4 : decode cX3_drawText 4 = .ok (.bipush 7, 2) := zo_16 (b1 := 7) (zkb2 zk_cX3_drawText zn_cX3_drawText (by decide +kernel)) rfl
theorem dX3_drawText_6 : decode cX3_drawText 6 = .ok (.invokevirtual 62, 3) := zo_182 (b1 := 0) (b2 := 62) (zkb3 zk_cX3_drawText zn_cX3_drawText (by decide +kernel)) rfl
theorem dX3_drawText_9 : decode cX3_drawText 9 = .ok (.istore_n 3, 1) := zo_62 (zkb zk_cX3_drawText zn_cX3_drawText (by decide +kernel))
theorem dX3_drawText_10 : decode cX3_drawText 10 = .ok (.aload_n 0, 1) := zo_42 (zkb zk_cX3_drawText zn_cX3_drawText (by decide +kernel))
theorem dX3_drawText_11 : decode cX3_drawText 11 = .ok (.getfield 17, 3) := zo_180 (b1 := 0) (b2 := 17) (zkb3 zk_cX3_drawText zn_cX3_drawText (by decide +kernel)) rfl
theorem dX3_drawText_14 : decode cX3_drawText 14 = .ok (.iconst 0, 1) := zo_3 (zkb zk_cX3_drawText zn_cX3_drawText (by decide +kernel))
theorem dX3_drawText_15 : decode cX3_drawText 15 = .ok (.invokestatic 68, 3) := zo_184 (b1 := 0) (b2 := 68) (zkb3 zk_cX3_drawText zn_cX3_drawText (by decide +kernel)) rfl
theorem dX3_drawText_18 : decode cX3_drawText 18 = .ok (.iconst 0, 1) := zo_3 (zkb zk_cX3_drawText zn_cX3_drawText (by decide +kernel))
theorem dX3_drawText_19 : decode cX3_drawText 19 = .ok (.istore 4, 2) := zo_54 (b1 := 4) (zkb2 zk_cX3_drawText zn_cX3_drawText (by decide +kernel))
theorem dX3_drawText_21 : decode cX3_drawText 21 = .ok (.iload 4, 2) := zo_21 (b1 := 4) (zkb2 zk_cX3_drawText zn_cX3_drawText (by decide +kernel))
theorem dX3_drawText_23 : decode cX3_drawText 23 = .ok (.bipush 40, 2) := zo_16 (b1 := 40) (zkb2 zk_cX3_drawText zn_cX3_drawText (by decide +kernel)) rfl
theorem dX3_drawText_25 : decode cX3_drawText 25 = .ok (.if_icmp .ge 89, 3) := zo_162 (b1 := 0) (b2 := 89) (zkb3 zk_cX3_drawText zn_cX3_drawText (by decide +kernel)) rfl
theorem dX3_drawText_28 : decode cX3_drawText 28 = .ok (.aload_n 0, 1) := zo_42 (zkb zk_cX3_drawText zn_cX3_drawText (by decide +kernel))
theorem dX3_drawText_29 : decode cX3_drawText 29 = .ok (.aload_n 0, 1) := zo_42 (zkb zk_cX3_drawText zn_cX3_drawText (by decide +kernel))
theorem dX3_drawText_30 : decode cX3_drawText 30 = .ok (.getfield 26, 3) := zo_180 (b1 := 0) (b2 := 26) (zkb3 zk_cX3_drawText zn_cX3_drawText (by decide +kernel)) rfl
theorem dX3_drawText_33 : decode cX3_drawText 33 = .ok (.iload_n 1, 1) := zo_27 (zkb zk_cX3_drawText zn_cX3_drawText (by decide +kernel))
theorem dX3_drawText_34 : decode cX3_drawText 34 = .ok (.bipush 40, 2) := zo_16 (b1 := 40) (zkb2 zk_cX3_drawText zn_cX3_drawText (by decide +kernel)) rfl
theorem dX3_drawText_36 : decode cX3_drawText 36 = .ok (.iload_n 2, 1) := zo_28 (zkb zk_cX3_drawText zn_cX3_drawText (by decide +kernel))
theorem dX3_drawText_37 : decode cX3_drawText 37 = .ok (.iconst 3, 1) := zo_6 (zkb zk_cX3_drawText zn_cX3_drawText (by decide +kernel))
theorem dX3_drawText_38 : decode cX3_drawText 38 = .ok (.ishr, 1) := zo_122 (zkb zk_cX3_drawText zn_cX3_drawText (by decide +kernel))
theorem dX3_drawText_39 : decode cX3_drawText 39 = .ok (.imul, 1) := zo_104 (zkb zk_cX3_drawText zn_cX3_drawText (by decide +kernel))
theorem dX3_drawText_40 : decode cX3_drawText 40 = .ok (.iadd, 1) := zo_96 (zkb zk_cX3_drawText zn_cX3_drawText (by decide +kernel))
theorem dX3_drawText_41 : decode cX3_drawText 41 = .ok (.iload 4, 2) := zo_21 (b1 := 4) (zkb2 zk_cX3_drawText zn_cX3_drawText (by decide +kernel))
theorem dX3_drawText_43 : decode cX3_drawText 43 = .ok (.iadd, 1) := zo_96 (zkb zk_cX3_drawText zn_cX3_drawText (by decide +kernel))
theorem dX3_drawText_44 : decode cX3_drawText 44 = .ok (.invokevirtual 113, 3) := zo_182 (b1 := 0) (b2 := 113) (zkb3 zk_cX3_drawText zn_cX3_drawText (by decide +kernel)) rfl
theorem dX3_drawText_47 : decode cX3_drawText 47 = .ok (.iload_n 2, 1) := zo_28 (zkb zk_cX3_drawText zn_cX3_drawText (by decide +kernel))
theorem dX3_drawText_48 : decode cX3_drawText 48 = .ok (.invokevirtual 132, 3) := zo_182 (b1 := 0) (b2 := 132) (zkb3 zk_cX3_drawText zn_cX3_drawText (by decide +kernel)) rfl
theorem dX3_drawText_51 : decode cX3_drawText 51 = .ok (.istore 5, 2) := zo_54 (b1 := 5) (zkb2 zk_cX3_drawText zn_cX3_drawText (by decide +kernel))
theorem dX3_drawText_53 : decode cX3_drawText 53 = .ok (.iconst 0, 1) := zo_3 (zkb zk_cX3_drawText zn_cX3_drawText (by decide +kernel))
theorem dX3_drawText_54 : decode cX3_drawText 54 = .ok (.istore 6, 2) := zo_54 (b1 := 6) (zkb2 zk_cX3_drawText zn_cX3_drawText (by decide +kernel))
theorem dX3_drawText_56 : decode cX3_drawText 56 = .ok (.iload 6, 2) := zo_21 (b1 := 6) (zkb2 zk_cX3_drawText zn_cX3_drawText (by decide +kernel))
theorem dX3_drawText_58 : decode cX3_drawText 58 = .ok (.bipush 6, 2) := zo_16 (b1 := 6) (zkb2 zk_cX3_drawText zn_cX3_drawText (by decide +kernel)) rfl
theorem dX3_drawText_60 : decode cX3_drawText 60 = .ok (.if_icmp .ge 48, 3) := zo_162 (b1 := 0) (b2 := 48) (zkb3 zk_cX3_drawText zn_cX3_drawText (by decide +kernel)) rfl
theorem dX3_drawText_63 : decode cX3_drawText 63 = .ok (.aload_n 0, 1) := zo_42 (zkb zk_cX3_drawText zn_cX3_drawText (by decide +kernel))
theorem dX3_drawText_64 : decode cX3_drawText 64 = .ok (.getfield 17, 3) := zo_180 (b1 := 0) (b2 := 17) (zkb3 zk_cX3_drawText zn_cX3_drawText (by decide +kernel)) rfl
theorem dX3_drawText_67 : decode cX3_drawText 67 = .ok (.bipush 8, 2) := zo_16 (b1 := 8) (zkb2 zk_cX3_drawText zn_cX3_drawText (by decide +kernel)) rfl
theorem dX3_drawText_69 : decode cX3_drawText 69 = .ok (.bipush 6, 2) := zo_16 (b1 := 6) (zkb2 zk_cX3_drawText zn_cX3_drawText (by decide +kernel)) rfl
theorem dX3_drawText_71 : decode cX3_drawText 71 = .ok (.iload 4, 2) := zo_21 (b1 := 4) (zkb2 zk_cX3_drawText zn_cX3_drawText (by decide +kernel))
theorem dX3_drawText_73 : decode cX3_drawText 73 = .ok (.imul, 1) := zo_104 (zkb zk_cX3_drawText zn_cX3_drawText (by decide +kernel))
theorem dX3_drawText_74 : decode cX3_drawText 74 = .ok (.iadd, 1) := zo_96 (zkb zk_cX3_drawText zn_cX3_drawText (by decide +kernel))
theorem dX3_drawText_75 : decode cX3_drawText 75 = .ok (.iload 6, 2) := zo_21 (b1 := 6) (zkb2 zk_cX3_drawText zn_cX3_drawText (by decide +kernel))
theorem dX3_drawText_77 : decode cX3_drawText 77 = .ok (.iadd, 1) := zo_96 (zkb zk_cX3_drawText zn_cX3_drawText (by decide +kernel))
theorem dX3_drawText_78 : decode cX3_drawText 78 = .ok (.iload 5, 2) := zo_21 (b1 := 5) (zkb2 zk_cX3_drawText zn_cX3_drawText (by decide +kernel))
theorem dX3_drawText_80 : decode cX3_drawText 80 = .ok (.bipush 7, 2) := zo_16 (b1 := 7) (zkb2 zk_cX3_drawText zn_cX3_drawText (by decide +kernel)) rfl
theorem dX3_drawText_82 : decode cX3_drawText 82 = .ok (.iload 6, 2) := zo_21 (b1 := 6) (zkb2 zk_cX3_drawText zn_cX3_drawText (by decide +kernel))
theorem dX3_drawText_84 : decode cX3_drawText 84 = .ok (.isub, 1) := zo_100 (zkb zk_cX3_drawText zn_cX3_drawText (by decide +kernel))
theorem dX3_drawText_85 : decode cX3_drawText 85 = .ok (.ishr, 1) := zo_122 (zkb zk_cX3_drawText zn_cX3_drawText (by decide +kernel))
theorem dX3_drawText_86 : decode cX3_drawText 86 = .ok (.iconst 1, 1) := zo_4 (zkb zk_cX3_drawText zn_cX3_drawText (by decide +kernel))
theorem dX3_drawText_87 : decode cX3_drawText 87 = .ok (.iand, 1) := zo_126 (zkb zk_cX3_drawText zn_cX3_drawText (by decide +kernel))
theorem dX3_drawText_88 : decode cX3_drawText 88 = .ok (.ifCond .eq 9, 3) := zo_153 (b1 := 0) (b2 := 9) (zkb3 zk_cX3_drawText zn_cX3_drawText (by decide +kernel)) rfl
theorem dX3_drawText_91 : decode cX3_drawText 91 = .ok (.iload_n 3, 1) := zo_29 (zkb zk_cX3_drawText zn_cX3_drawText (by decide +kernel))
theorem dX3_drawText_92 : decode cX3_drawText 92 = .ok (.iconst 4, 1) := zo_7 (zkb zk_cX3_drawText zn_cX3_drawText (by decide +kernel))
theorem dX3_drawText_93 : decode cX3_drawText 93 = .ok (.ishr, 1) := zo_122 (zkb zk_cX3_drawText zn_cX3_drawText (by decide +kernel))
theorem dX3_drawText_94 : decode cX3_drawText 94 = .ok (.goto 7, 3) := zo_167 (b1 := 0) (b2 := 7) (zkb3 zk_cX3_drawText zn_cX3_drawText (by decide +kernel)) rfl
theorem dX3_drawText_97 : decode cX3_drawText 97 = .ok (.iload_n 3, 1) := zo_29 (zkb zk_cX3_drawText zn_cX3_drawText (by decide +kernel))
theorem dX3_drawText_98 : decode cX3_drawText 98 = .ok (.bipush 15, 2) := zo_16 (b1 := 15) (zkb2 zk_cX3_drawText zn_cX3_drawText (by decide +kernel)) rfl
theorem dX3_drawText_100 : decode cX3_drawText 100 = .ok (.iand, 1) := zo_126 (zkb zk_cX3_drawText zn_cX3_drawText (by decide +kernel))
theorem dX3_drawText_101 : decode cX3_drawText 101 = .ok (.iastore, 1) := zo_79 (zkb zk_cX3_drawText zn_cX3_drawText (by decide +kernel))
theorem dX3_drawText_102 : decode cX3_drawText 102 = .ok (.iinc 6 1, 3) := zo_132 (b1 := 6) (b2 := 1) (zkb3 zk_cX3_drawText zn_cX3_drawText (by decide +kernel)) rfl
theorem dX3_drawText_105 : decode cX3_drawText 105 = .ok (.goto (-49), 3) := zo_167 (b1 := 255) (b2 := 207) (zkb3 zk_cX3_drawText zn_cX3_drawText (by decide +kernel)) rfl
theorem dX3_drawText_108 : decode cX3_drawText 108 = .ok (.iinc 4 1, 3) := zo_132 (b1 := 4) (b2 := 1) (zkb3 zk_cX3_drawText zn_cX3_drawText (by decide +kernel)) rfl
theorem dX3_drawText_111 : decode cX3_drawText 111 = .ok (.goto (-90), 3) := zo_167 (b1 := 255) (b2 := 166) (zkb3 zk_cX3_drawText zn_cX3_drawText (by decide +kernel)) rfl
theorem dX3_drawText_114 : decode cX3_drawText 114 = .ok (.return_, 1) := zo_177 (zkb zk_cX3_drawText zn_cX3_drawText (by decide +kernel))
def kn_cX3_drawPattern : Nat := 0xb1cdffa70104844f7e0f101d0700a77a071d0900997e047a64041507101c6004151b1100b42a2800a20001116004151b3200a208100415043603
theorem zk_cX3_drawPattern : zkd cX3_drawPattern.data.toList kn_cX3_drawPattern = true := by decide +kernel
theorem zn_cX3_drawPattern : cX3_drawPattern.data.toList.length = 58 := by decide +kernel
theorem dX3_drawPattern_0 : decode cX3_drawPattern 0 = .ok (.iconst 0, 1) := zo_3 (zkb zk_cX3_drawPattern zn_cX3_drawPattern (by decide +kernel))
theorem dX3_drawPattern_1 : decode cX3_drawPattern 1 = .ok (.istore 4, 2) := zo_54 (b1 := 4) (zkb2 zk_cX3_drawPattern zn_cX3_drawPattern (by decide +kernel))
theorem dX3_drawPattern_3 : decode cX3_drawPattern 3 = .ok (.iload 4, 2) := zo_21 (b1 := 4) (zkb2 zk_cX3_drawPattern zn_cX3_drawPattern (by decide +kernel))
theorem dX3_drawPattern_5 : decode cX3_drawPattern 5 = .ok (.bipush 8, 2) := zo_16 (b1 := 8) (zkb2 zk_cX3_drawPattern zn_cX3_drawPattern (by decide +kernel)) rfl
theorem dX3_drawPattern_7 : decode cX3_drawPattern 7 = .ok (.if_icmp .ge 50, 3) := zo_162 (b1 := 0) (b2 := 50) (zkb3 zk_cX3_drawPattern zn_cX3_drawPattern (by decide +kernel)) rfl
theorem dX3_drawPattern_10 : decode cX3_drawPattern 10 = .ok (.iload_n 1, 1) := zo_27 (zkb zk_cX3_drawPattern zn_cX3_drawPattern (by decide +kernel))
theorem dX3_drawPattern_11 : decode cX3_drawPattern 11 = .ok (.iload 4, 2) := zo_21 (b1 := 4) (zkb2 zk_cX3_drawPattern zn_cX3_drawPattern (by decide +kernel))
theorem dX3_drawPattern_13 : decode cX3_drawPattern 13 = .ok (.iadd, 1) := zo_96 (zkb zk_cX3_drawPattern zn_cX3_drawPattern (by decide +kernel))
theorem dX3_drawPattern_14 : decode cX3_drawPattern 14 = .ok (.sipush 256, 3) := zo_17 (b1 := 1) (b2 := 0) (zkb3 zk_cX3_drawPattern zn_cX3_drawPattern (by decide +kernel)) rfl
theorem dX3_drawPattern_17 : decode cX3_drawPattern 17 = .ok (.if_icmp .ge 40, 3) := zo_162 (b1 := 0) (b2 := 40) (zkb3 zk_cX3_drawPattern zn_cX3_drawPattern (by decide +kernel)) rfl
theorem dX3_drawPattern_20 : decode cX3_drawPattern 20 = .ok (.aload_n 0, 1) := zo_42 (zkb zk_cX3_drawPattern zn_cX3_drawPattern (by decide +kernel))
theorem dX3_drawPattern_21 : decode cX3_drawPattern 21 = .ok (.getfield 17, 3) := zo_180 (b1 := 0) (b2 := 17) (zkb3 zk_cX3_drawPattern zn_cX3_drawPattern (by decide +kernel)) rfl
theorem dX3_drawPattern_24 : decode cX3_drawPattern 24 = .ok (.iload_n 1, 1) := zo_27 (zkb zk_cX3_drawPattern zn_cX3_drawPattern (by decide +kernel))
theorem dX3_drawPattern_25 : decode cX3_drawPattern 25 = .ok (.iload 4, 2) := zo_21 (b1 := 4) (zkb2 zk_cX3_drawPattern zn_cX3_drawPattern (by decide +kernel))
theorem dX3_drawPattern_27 : decode cX3_drawPattern 27 = .ok (.iadd, 1) := zo_96 (zkb zk_cX3_drawPattern zn_cX3_drawPattern (by decide +kernel))
theorem dX3_drawPattern_28 : decode cX3_drawPattern 28 = .ok (.iload_n 2, 1) := zo_28 (zkb zk_cX3_drawPattern zn_cX3_drawPattern (by decide +kernel))
theorem dX3_drawPattern_29 : decode cX3_drawPattern 29 = .ok (.bipush 7, 2) := zo_16 (b1 := 7) (zkb2 zk_cX3_drawPattern zn_cX3_drawPattern (by decide +kernel)) rfl
theorem dX3_drawPattern_31 : decode cX3_drawPattern 31 = .ok (.iload 4, 2) := zo_21 (b1 := 4) (zkb2 zk_cX3_drawPattern zn_cX3_drawPattern (by decide +kernel))
theorem dX3_drawPattern_33 : decode cX3_drawPattern 33 = .ok (.isub, 1) := zo_100 (zkb zk_cX3_drawPattern zn_cX3_drawPattern (by decide +kernel))
theorem dX3_drawPattern_34 : decode cX3_drawPattern 34 = .ok (.ishr, 1) := zo_122 (zkb zk_cX3_drawPattern zn_cX3_drawPattern (by decide +kernel))
theorem dX3_drawPattern_35 : decode cX3_drawPattern 35 = .ok (.iconst 1, 1) := zo_4 (zkb zk_cX3_drawPattern zn_cX3_drawPattern (by decide +kernel))
theorem dX3_drawPattern_36 : decode cX3_drawPattern 36 = .ok (.iand, 1) := zo_126 (zkb zk_cX3_drawPattern zn_cX3_drawPattern (by decide +kernel))
theorem dX3_drawPattern_37 : decode cX3_drawPattern 37 = .ok (.ifCond .eq 9, 3) := zo_153 (b1 := 0) (b2 := 9) (zkb3 zk_cX3_drawPattern zn_cX3_drawPattern (by decide +kernel)) rfl
theorem dX3_drawPattern_40 : decode cX3_drawPattern 40 = .ok (.iload_n 3, 1) := zo_29 (zkb zk_cX3_drawPattern zn_cX3_drawPattern (by decide +kernel))
theorem dX3_drawPattern_41 : decode cX3_drawPattern 41 = .ok (.iconst 4, 1) := zo_7 (zkb zk_cX3_drawPattern zn_cX3_drawPattern (by decide +kernel))
theorem dX3_drawPattern_42 : decode cX3_drawPattern 42 = .ok (.ishr, 1) := zo_122 (zkb zk_cX3_drawPattern zn_cX3_drawPattern (by decide +kernel))
theorem dX3_drawPattern_43 : decode cX3_drawPattern 43 = .ok (.goto 7, 3) := zo_167 (b1 := 0) (b2 := 7) (zkb3 zk_cX3_drawPattern zn_cX3_drawPattern (by decide +kernel)) rfl
theorem dX3_drawPattern_46 : decode cX3_drawPattern 46 = .ok (.iload_n 3, 1) := zo_29 (zkb zk_cX3_drawPattern zn_cX3_drawPattern (by decide +kernel))
theorem dX3_drawPattern_47 : decode cX3_drawPattern 47 = .ok (.bipush 15, 2) := zo_16 (b1 := 15) (zkb2 zk_cX3_drawPattern zn_cX3_drawPattern (by decide +kernel)) rfl
theorem dX3_drawPattern_49 : decode cX3_drawPattern 49 = .ok (.iand, 1) := zo_126 (zkb zk_cX3_drawPattern zn_cX3_drawPattern (by decide +kernel))
theorem dX3_drawPattern_50 : decode cX3_drawPattern 50 = .ok (.iastore, 1) := zo_79 (zkb zk_cX3_drawPattern zn_cX3_drawPattern (by decide +kernel))
theorem dX3_drawPattern_51 : decode cX3_drawPattern 51 = .ok (.iinc 4 1, 3) := zo_132 (b1 := 4) (b2 := 1) (zkb3 zk_cX3_drawPattern zn_cX3_drawPattern (by decide +kernel)) rfl
theorem dX3_drawPattern_54 : decode cX3_drawPattern 54 = .ok (.goto (-51), 3) := zo_167 (b1 := 255) (b2 := 205) (zkb3 zk_cX3_drawPattern zn_cX3_drawPattern (by decide +kernel)) rfl
theorem dX3_drawPattern_57 : decode cX3_drawPattern 57 = .ok (.return_, 1) := zo_177 (zkb zk_cX3_drawPattern zn_cX3_drawPattern (by decide +kernel))
def kn_cX3_drawThird : Nat := 0xb18700b67100b6601d606807150810687a071004150020111a00b42a08151b2a08367100b6601d606806150810687e047a0505150020111a00b42a07367e600710687e7f10041508101c06367e60ff0011687e0605150001111c05363e00b6071a00b42a04363e00b6061a00b42a
theorem zk_cX3_drawThird : zkd cX3_drawThird.data.toList kn_cX3_drawThird = true := by decide +kernel
theorem zn_cX3_drawThird : cX3_drawThird.data.toList.length = 110 := by decide +kernel
theorem dX3_drawThird_0 : decode cX3_drawThird 0 = .ok (.aload_n 0, 1) := zo_42 (zkb zk_cX3_drawThird zn_cX3_drawThird (by decide +kernel))
theorem dX3_drawThird_1 : decode cX3_drawThird 1 = .ok (.getfield 26, 3) := zo_180 (b1 := 0) (b2 := 26) (zkb3 zk_cX3_drawThird zn_cX3_drawThird (by decide +kernel)) rfl
theorem dX3_drawThird_4 : decode cX3_drawThird 4 = .ok (.iconst 3, 1) := zo_6 (zkb zk_cX3_drawThird zn_cX3_drawThird (by decide +kernel))
theorem dX3_drawThird_5 : decode cX3_drawThird 5 = .ok (.invokevirtual 62, 3) := zo_182 (b1 := 0) (b2 := 62) (zkb3 zk_cX3_drawThird zn_cX3_drawThird (by decide +kernel)) rfl
theorem dX3_drawThird_8 : decode cX3_drawThird 8 = .ok (.istore 4, 2) := zo_54 (b1 := 4) (zkb2 zk_cX3_drawThird zn_cX3_drawThird (by decide +kernel))
theorem dX3_drawThird_10 : decode cX3_drawThird 10 = .ok (.aload_n 0, 1) := zo_42 (zkb zk_cX3_drawThird zn_cX3_drawThird (by decide +kernel))
theorem dX3_drawThird_11 : decode cX3_drawThird 11 = .ok (.getfield 26, 3) := zo_180 (b1 := 0) (b2 := 26) (zkb3 zk_cX3_drawThird zn_cX3_drawThird (by decide +kernel)) rfl
theorem dX3_drawThird_14 : decode cX3_drawThird 14 = .ok (.iconst 4, 1) := zo_7 (zkb zk_cX3_drawThird zn_cX3_drawThird (by decide +kernel))
theorem dX3_drawThird_15 : decode cX3_drawThird 15 = .ok (.invokevirtual 62, 3) := zo_182 (b1 := 0) (b2 := 62) (zkb3 zk_cX3_drawThird zn_cX3_drawThird (by decide +kernel)) rfl
theorem dX3_drawThird_18 : decode cX3_drawThird 18 = .ok (.istore 5, 2) := zo_54 (b1 := 5) (zkb2 zk_cX3_drawThird zn_cX3_drawThird (by decide +kernel))
theorem dX3_drawThird_20 : decode cX3_drawThird 20 = .ok (.iload_n 2, 1) := zo_28 (zkb zk_cX3_drawThird zn_cX3_drawThird (by decide +kernel))
theorem dX3_drawThird_21 : decode cX3_drawThird 21 = .ok (.sipush 256, 3) := zo_17 (b1 := 1) (b2 := 0) (zkb3 zk_cX3_drawThird zn_cX3_drawThird (by decide +kernel)) rfl
theorem dX3_drawThird_24 : decode cX3_drawThird 24 = .ok (.iload 5, 2) := zo_21 (b1 := 5) (zkb2 zk_cX3_drawThird zn_cX3_drawThird (by decide +kernel))
theorem dX3_drawThird_26 : decode cX3_drawThird 26 = .ok (.iconst 3, 1) := zo_6 (zkb zk_cX3_drawThird zn_cX3_drawThird (by decide +kernel))
theorem dX3_drawThird_27 : decode cX3_drawThird 27 = .ok (.iand, 1) := zo_126 (zkb zk_cX3_drawThird zn_cX3_drawThird (by decide +kernel))
theorem dX3_drawThird_28 : decode cX3_drawThird 28 = .ok (.imul, 1) := zo_104 (zkb zk_cX3_drawThird zn_cX3_drawThird (by decide +kernel))
theorem dX3_drawThird_29 : decode cX3_drawThird 29 = .ok (.sipush 255, 3) := zo_17 (b1 := 0) (b2 := 255) (zkb3 zk_cX3_drawThird zn_cX3_drawThird (by decide +kernel)) rfl
theorem dX3_drawThird_32 : decode cX3_drawThird 32 = .ok (.iadd, 1) := zo_96 (zkb zk_cX3_drawThird zn_cX3_drawThird (by decide +kernel))
theorem dX3_drawThird_33 : decode cX3_drawThird 33 = .ok (.iand, 1) := zo_126 (zkb zk_cX3_drawThird zn_cX3_drawThird (by decide +kernel))
theorem dX3_drawThird_34 : decode cX3_drawThird 34 = .ok (.istore 6, 2) := zo_54 (b1 := 6) (zkb2 zk_cX3_drawThird zn_cX3_drawThird (by decide +kernel))
theorem dX3_drawThird_36 : decode cX3_drawThird 36 = .ok (.iload_n 2, 1) := zo_28 (zkb zk_cX3_drawThird zn_cX3_drawThird (by decide +kernel))
theorem dX3_drawThird_37 : decode cX3_drawThird 37 = .ok (.bipush 8, 2) := zo_16 (b1 := 8) (zkb2 zk_cX3_drawThird zn_cX3_drawThird (by decide +kernel)) rfl
theorem dX3_drawThird_39 : decode cX3_drawThird 39 = .ok (.iload 4, 2) := zo_21 (b1 := 4) (zkb2 zk_cX3_drawThird zn_cX3_drawThird (by decide +kernel))
theorem dX3_drawThird_41 : decode cX3_drawThird 41 = .ok (.bipush 127, 2) := zo_16 (b1 := 127) (zkb2 zk_cX3_drawThird zn_cX3_drawThird (by decide +kernel)) rfl
theorem dX3_drawThird_43 : decode cX3_drawThird 43 = .ok (.iand, 1) := zo_126 (zkb zk_cX3_drawThird zn_cX3_drawThird (by decide +kernel))
theorem dX3_drawThird_44 : decode cX3_drawThird 44 = .ok (.imul, 1) := zo_104 (zkb zk_cX3_drawThird zn_cX3_drawThird (by decide +kernel))
theorem dX3_drawThird_45 : decode cX3_drawThird 45 = .ok (.bipush 7, 2) := zo_16 (b1 := 7) (zkb2 zk_cX3_drawThird zn_cX3_drawThird (by decide +kernel)) rfl
theorem dX3_drawThird_47 : decode cX3_drawThird 47 = .ok (.iadd, 1) := zo_96 (zkb zk_cX3_drawThird zn_cX3_drawThird (by decide +kernel))
theorem dX3_drawThird_48 : decode cX3_drawThird 48 = .ok (.iand, 1) := zo_126 (zkb zk_cX3_drawThird zn_cX3_drawThird (by decide +kernel))
theorem dX3_drawThird_49 : decode cX3_drawThird 49 = .ok (.istore 7, 2) := zo_54 (b1 := 7) (zkb2 zk_cX3_drawThird zn_cX3_drawThird (by decide +kernel))
theorem dX3_drawThird_51 : decode cX3_drawThird 51 = .ok (.aload_n 0, 1) := zo_42 (zkb zk_cX3_drawThird zn_cX3_drawThird (by decide +kernel))
theorem dX3_drawThird_52 : decode cX3_drawThird 52 = .ok (.getfield 26, 3) := zo_180 (b1 := 0) (b2 := 26) (zkb3 zk_cX3_drawThird zn_cX3_drawThird (by decide +kernel)) rfl
theorem dX3_drawThird_55 : decode cX3_drawThird 55 = .ok (.sipush 8192, 3) := zo_17 (b1 := 32) (b2 := 0) (zkb3 zk_cX3_drawThird zn_cX3_drawThird (by decide +kernel)) rfl
theorem dX3_drawThird_58 : decode cX3_drawThird 58 = .ok (.iload 5, 2) := zo_21 (b1 := 5) (zkb2 zk_cX3_drawThird zn_cX3_drawThird (by decide +kernel))
theorem dX3_drawThird_60 : decode cX3_drawThird 60 = .ok (.iconst 2, 1) := zo_5 (zkb zk_cX3_drawThird zn_cX3_drawThird (by decide +kernel))
theorem dX3_drawThird_61 : decode cX3_drawThird 61 = .ok (.ishr, 1) := zo_122 (zkb zk_cX3_drawThird zn_cX3_drawThird (by decide +kernel))
theorem dX3_drawThird_62 : decode cX3_drawThird 62 = .ok (.iconst 1, 1) := zo_4 (zkb zk_cX3_drawThird zn_cX3_drawThird (by decide +kernel))
theorem dX3_drawThird_63 : decode cX3_drawThird 63 = .ok (.iand, 1) := zo_126 (zkb zk_cX3_drawThird zn_cX3_drawThird (by decide +kernel))
theorem dX3_drawThird_64 : decode cX3_drawThird 64 = .ok (.imul, 1) := zo_104 (zkb zk_cX3_drawThird zn_cX3_drawThird (by decide +kernel))
theorem dX3_drawThird_65 : decode cX3_drawThird 65 = .ok (.bipush 8, 2) := zo_16 (b1 := 8) (zkb2 zk_cX3_drawThird zn_cX3_drawThird (by decide +kernel)) rfl
theorem dX3_drawThird_67 : decode cX3_drawThird 67 = .ok (.iload 6, 2) := zo_21 (b1 := 6) (zkb2 zk_cX3_drawThird zn_cX3_drawThird (by decide +kernel))
theorem dX3_drawThird_69 : decode cX3_drawThird 69 = .ok (.imul, 1) := zo_104 (zkb zk_cX3_drawThird zn_cX3_drawThird (by decide +kernel))
theorem dX3_drawThird_70 : decode cX3_drawThird 70 = .ok (.iadd, 1) := zo_96 (zkb zk_cX3_drawThird zn_cX3_drawThird (by decide +kernel))
theorem dX3_drawThird_71 : decode cX3_drawThird 71 = .ok (.iload_n 3, 1) := zo_29 (zkb zk_cX3_drawThird zn_cX3_drawThird (by decide +kernel))
theorem dX3_drawThird_72 : decode cX3_drawThird 72 = .ok (.iadd, 1) := zo_96 (zkb zk_cX3_drawThird zn_cX3_drawThird (by decide +kernel))
theorem dX3_drawThird_73 : decode cX3_drawThird 73 = .ok (.invokevirtual 113, 3) := zo_182 (b1 := 0) (b2 := 113) (zkb3 zk_cX3_drawThird zn_cX3_drawThird (by decide +kernel)) rfl
theorem dX3_drawThird_76 : decode cX3_drawThird 76 = .ok (.istore 8, 2) := zo_54 (b1 := 8) (zkb2 zk_cX3_drawThird zn_cX3_drawThird (by decide +kernel))
theorem dX3_drawThird_78 : decode cX3_drawThird 78 = .ok (.aload_n 0, 1) := zo_42 (zkb zk_cX3_drawThird zn_cX3_drawThird (by decide +kernel))
theorem dX3_drawThird_79 : decode cX3_drawThird 79 = .ok (.iload_n 1, 1) := zo_27 (zkb zk_cX3_drawThird zn_cX3_drawThird (by decide +kernel))
theorem dX3_drawThird_80 : decode cX3_drawThird 80 = .ok (.iload 8, 2) := zo_21 (b1 := 8) (zkb2 zk_cX3_drawThird zn_cX3_drawThird (by decide +kernel))
theorem dX3_drawThird_82 : decode cX3_drawThird 82 = .ok (.aload_n 0, 1) := zo_42 (zkb zk_cX3_drawThird zn_cX3_drawThird (by decide +kernel))
theorem dX3_drawThird_83 : decode cX3_drawThird 83 = .ok (.getfield 26, 3) := zo_180 (b1 := 0) (b2 := 26) (zkb3 zk_cX3_drawThird zn_cX3_drawThird (by decide +kernel)) rfl
theorem dX3_drawThird_86 : decode cX3_drawThird 86 = .ok (.sipush 8192, 3) := zo_17 (b1 := 32) (b2 := 0) (zkb3 zk_cX3_drawThird zn_cX3_drawThird (by decide +kernel)) rfl
theorem dX3_drawThird_89 : decode cX3_drawThird 89 = .ok (.iload 4, 2) := zo_21 (b1 := 4) (zkb2 zk_cX3_drawThird zn_cX3_drawThird (by decide +kernel))
theorem dX3_drawThird_91 : decode cX3_drawThird 91 = .ok (.bipush 7, 2) := zo_16 (b1 := 7) (zkb2 zk_cX3_drawThird zn_cX3_drawThird (by decide +kernel)) rfl
theorem dX3_drawThird_93 : decode cX3_drawThird 93 = .ok (.ishr, 1) := zo_122 (zkb zk_cX3_drawThird zn_cX3_drawThird (by decide +kernel))
theorem dX3_drawThird_94 : decode cX3_drawThird 94 = .ok (.imul, 1) := zo_104 (zkb zk_cX3_drawThird zn_cX3_drawThird (by decide +kernel))
theorem dX3_drawThird_95 : decode cX3_drawThird 95 = .ok (.bipush 8, 2) := zo_16 (b1 := 8) (zkb2 zk_cX3_drawThird zn_cX3_drawThird (by decide +kernel)) rfl
theorem dX3_drawThird_97 : decode cX3_drawThird 97 = .ok (.iload 7, 2) := zo_21 (b1 := 7) (zkb2 zk_cX3_drawThird zn_cX3_drawThird (by decide +kernel))
theorem dX3_drawThird_99 : decode cX3_drawThird 99 = .ok (.imul, 1) := zo_104 (zkb zk_cX3_drawThird zn_cX3_drawThird (by decide +kernel))
theorem dX3_drawThird_100 : decode cX3_drawThird 100 = .ok (.iadd, 1) := zo_96 (zkb zk_cX3_drawThird zn_cX3_drawThird (by decide +kernel))
theorem dX3_drawThird_101 : decode cX3_drawThird 101 = .ok (.iload_n 3, 1) := zo_29 (zkb zk_cX3_drawThird zn_cX3_drawThird (by decide +kernel))
theorem dX3_drawThird_102 : decode cX3_drawThird 102 = .ok (.iadd, 1) := zo_96 (zkb zk_cX3_drawThird zn_cX3_drawThird (by decide +kernel))
theorem dX3_drawThird_103 : decode cX3_drawThird 103 = .ok (.invokevirtual 113, 3) := zo_182 (b1 := 0) (b2 := 113) (zkb3 zk_cX3_drawThird zn_cX3_drawThird (by decide +kernel)) rfl
theorem dX3_drawThird_106 : decode cX3_drawThird 106 = .ok (.invokevirtual 135, 3) := zo_182 (b1 := 0) (b2 := 135) (zkb3 zk_cX3_drawThird zn_cX3_drawThird (by decide +kernel)) rfl
theorem dX3_drawThird_109 : decode cX3_drawThird 109 = .ok (.return_, 1) := zo_177 (zkb zk_cX3_drawThird zn_cX3_drawThird (by decide +kernel))
def kn_cX3_drawBlocks : Nat := 0xb18700b67100b604151a00b42af000111b2a0436607e047a051d60687e067a061d0560681c0810687e07103e00b6071a00b42a000811
theorem zk_cX3_drawBlocks : zkd cX3_drawBlocks.data.toList kn_cX3_drawBlocks = true := by decide +kernel
theorem zn_cX3_drawBlocks : cX3_drawBlocks.data.toList.length = 54 := by decide +kernel
theorem dX3_drawBlocks_0 : decode cX3_drawBlocks 0 = .ok (.sipush 2048, 3) := zo_17 (b1 := 8) (b2 := 0) (zkb3 zk_cX3_drawBlocks zn_cX3_drawBlocks (by decide +kernel)) rfl
theorem dX3_drawBlocks_3 : decode cX3_drawBlocks 3 = .ok (.aload_n 0, 1) := zo_42 (zkb zk_cX3_drawBlocks zn_cX3_drawBlocks (by decide +kernel))
theorem dX3_drawBlocks_4 : decode cX3_drawBlocks 4 = .ok (.getfield 26, 3) := zo_180 (b1 := 0) (b2 := 26) (zkb3 zk_cX3_drawBlocks zn_cX3_drawBlocks (by decide +kernel)) rfl
theorem dX3_drawBlocks_7 : decode cX3_drawBlocks 7 = .ok (.iconst 4, 1) := zo_7 (zkb zk_cX3_drawBlocks zn_cX3_drawBlocks (by decide +kernel))
theorem dX3_drawBlocks_8 : decode cX3_drawBlocks 8 = .ok (.invokevirtual 62, 3) := zo_182 (b1 := 0) (b2 := 62) (zkb3 zk_cX3_drawBlocks zn_cX3_drawBlocks (by decide +kernel)) rfl
theorem dX3_drawBlocks_11 : decode cX3_drawBlocks 11 = .ok (.bipush 7, 2) := zo_16 (b1 := 7) (zkb2 zk_cX3_drawBlocks zn_cX3_drawBlocks (by decide +kernel)) rfl
theorem dX3_drawBlocks_13 : decode cX3_drawBlocks 13 = .ok (.iand, 1) := zo_126 (zkb zk_cX3_drawBlocks zn_cX3_drawBlocks (by decide +kernel))
theorem dX3_drawBlocks_14 : decode cX3_drawBlocks 14 = .ok (.imul, 1) := zo_104 (zkb zk_cX3_drawBlocks zn_cX3_drawBlocks (by decide +kernel))
theorem dX3_drawBlocks_15 : decode cX3_drawBlocks 15 = .ok (.bipush 8, 2) := zo_16 (b1 := 8) (zkb2 zk_cX3_drawBlocks zn_cX3_drawBlocks (by decide +kernel)) rfl
theorem dX3_drawBlocks_17 : decode cX3_drawBlocks 17 = .ok (.iload_n 2, 1) := zo_28 (zkb zk_cX3_drawBlocks zn_cX3_drawBlocks (by decide +kernel))
theorem dX3_drawBlocks_18 : decode cX3_drawBlocks 18 = .ok (.imul, 1) := zo_104 (zkb zk_cX3_drawBlocks zn_cX3_drawBlocks (by decide +kernel))
theorem dX3_drawBlocks_19 : decode cX3_drawBlocks 19 = .ok (.iadd, 1) := zo_96 (zkb zk_cX3_drawBlocks zn_cX3_drawBlocks (by decide +kernel))
theorem dX3_drawBlocks_20 : decode cX3_drawBlocks 20 = .ok (.iconst 2, 1) := zo_5 (zkb zk_cX3_drawBlocks zn_cX3_drawBlocks (by decide +kernel))
theorem dX3_drawBlocks_21 : decode cX3_drawBlocks 21 = .ok (.iload_n 3, 1) := zo_29 (zkb zk_cX3_drawBlocks zn_cX3_drawBlocks (by decide +kernel))
theorem dX3_drawBlocks_22 : decode cX3_drawBlocks 22 = .ok (.iconst 3, 1) := zo_6 (zkb zk_cX3_drawBlocks zn_cX3_drawBlocks (by decide +kernel))
theorem dX3_drawBlocks_23 : decode cX3_drawBlocks 23 = .ok (.ishr, 1) := zo_122 (zkb zk_cX3_drawBlocks zn_cX3_drawBlocks (by decide +kernel))
theorem dX3_drawBlocks_24 : decode cX3_drawBlocks 24 = .ok (.iconst 3, 1) := zo_6 (zkb zk_cX3_drawBlocks zn_cX3_drawBlocks (by decide +kernel))
theorem dX3_drawBlocks_25 : decode cX3_drawBlocks 25 = .ok (.iand, 1) := zo_126 (zkb zk_cX3_drawBlocks zn_cX3_drawBlocks (by decide +kernel))
theorem dX3_drawBlocks_26 : decode cX3_drawBlocks 26 = .ok (.imul, 1) := zo_104 (zkb zk_cX3_drawBlocks zn_cX3_drawBlocks (by decide +kernel))
theorem dX3_drawBlocks_27 : decode cX3_drawBlocks 27 = .ok (.iadd, 1) := zo_96 (zkb zk_cX3_drawBlocks zn_cX3_drawBlocks (by decide +kernel))
theorem dX3_drawBlocks_28 : decode cX3_drawBlocks 28 = .ok (.iload_n 3, 1) := zo_29 (zkb zk_cX3_drawBlocks zn_cX3_drawBlocks (by decide +kernel))
theorem dX3_drawBlocks_29 : decode cX3_drawBlocks 29 = .ok (.iconst 2, 1) := zo_5 (zkb zk_cX3_drawBlocks zn_cX3_drawBlocks (by decide +kernel))
theorem dX3_drawBlocks_30 : decode cX3_drawBlocks 30 = .ok (.ishr, 1) := zo_122 (zkb zk_cX3_drawBlocks zn_cX3_drawBlocks (by decide +kernel))
theorem dX3_drawBlocks_31 : decode cX3_drawBlocks 31 = .ok (.iconst 1, 1) := zo_4 (zkb zk_cX3_drawBlocks zn_cX3_drawBlocks (by decide +kernel))
theorem dX3_drawBlocks_32 : decode cX3_drawBlocks 32 = .ok (.iand, 1) := zo_126 (zkb zk_cX3_drawBlocks zn_cX3_drawBlocks (by decide +kernel))
theorem dX3_drawBlocks_33 : decode cX3_drawBlocks 33 = .ok (.iadd, 1) := zo_96 (zkb zk_cX3_drawBlocks zn_cX3_drawBlocks (by decide +kernel))
theorem dX3_drawBlocks_34 : decode cX3_drawBlocks 34 = .ok (.istore 4, 2) := zo_54 (b1 := 4) (zkb2 zk_cX3_drawBlocks zn_cX3_drawBlocks (by decide +kernel))
theorem dX3_drawBlocks_36 : decode cX3_drawBlocks 36 = .ok (.aload_n 0, 1) := zo_42 (zkb zk_cX3_drawBlocks zn_cX3_drawBlocks (by decide +kernel))
theorem dX3_drawBlocks_37 : decode cX3_drawBlocks 37 = .ok (.iload_n 1, 1) := zo_27 (zkb zk_cX3_drawBlocks zn_cX3_drawBlocks (by decide +kernel))
theorem dX3_drawBlocks_38 : decode cX3_drawBlocks 38 = .ok (.sipush 240, 3) := zo_17 (b1 := 0) (b2 := 240) (zkb3 zk_cX3_drawBlocks zn_cX3_drawBlocks (by decide +kernel)) rfl
theorem dX3_drawBlocks_41 : decode cX3_drawBlocks 41 = .ok (.aload_n 0, 1) := zo_42 (zkb zk_cX3_drawBlocks zn_cX3_drawBlocks (by decide +kernel))
theorem dX3_drawBlocks_42 : decode cX3_drawBlocks 42 = .ok (.getfield 26, 3) := zo_180 (b1 := 0) (b2 := 26) (zkb3 zk_cX3_drawBlocks zn_cX3_drawBlocks (by decide +kernel)) rfl
theorem dX3_drawBlocks_45 : decode cX3_drawBlocks 45 = .ok (.iload 4, 2) := zo_21 (b1 := 4) (zkb2 zk_cX3_drawBlocks zn_cX3_drawBlocks (by decide +kernel))
theorem dX3_drawBlocks_47 : decode cX3_drawBlocks 47 = .ok (.invokevirtual 113, 3) := zo_182 (b1 := 0) (b2 := 113) (zkb3 zk_cX3_drawBlocks zn_cX3_drawBlocks (by decide +kernel)) rfl
theorem dX3_drawBlocks_50 : decode cX3_drawBlocks 50 = .ok (.invokevirtual 135, 3) := zo_182 (b1 := 0) (b2 := 135) (zkb3 zk_cX3_drawBlocks zn_cX3_drawBlocks (by decide +kernel)) rfl
theorem dX3_drawBlocks_53 : decode cX3_drawBlocks 53 = .ok (.return_, 1) := zo_177 (zkb zk_cX3_drawBlocks zn_cX3_drawBlocks (by decide +kernel))
def kn_cX3_drawOldSprites : Nat := 0xb1d7ffa70104844f7e0f102e04151400b42a04151100b42a14009e7e0f102e04151400b42a2700a20001110415043603aeffa70104849400b6071505152a1100a79100b604151a00b42a0f00a4071d0103841f009b071507367800b606151b2a3300a70600a0d00011061506367100b605151a00b42a053660680415071c5100a2201004150436033e033d687e7f103e00b6081a00b42a8000114400b8031400b42a
theorem zk_cX3_drawOldSprites : zkd cX3_drawOldSprites.data.toList kn_cX3_drawOldSprites = true := by decide +kernel
theorem zn_cX3_drawOldSprites : cX3_drawOldSprites.data.toList.length = 162 := by decide +kernel
theorem dX3_drawOldSprites_0 : decode cX3_drawOldSprites 0 = .ok (.aload_n 0, 1) := zo_42 (zkb zk_cX3_drawOldSprites zn_cX3_drawOldSprites (by decide +kernel))
theorem dX3_drawOldSprites_1 : decode cX3_drawOldSprites 1 = .ok (.getfield 20, 3) := zo_180 (b1 := 0) (b2 := 20) (zkb3 zk_cX3_drawOldSprites zn_cX3_drawOldSprites (by decide +kernel)) rfl
theorem dX3_drawOldSprites_4 : decode cX3_drawOldSprites 4 = .ok (.iconst 0, 1) := zo_3 (zkb zk_cX3_drawOldSprites zn_cX3_drawOldSprites (by decide +kernel))
theorem dX3_drawOldSprites_5 : decode cX3_drawOldSprites 5 = .ok (.invokestatic 68, 3) := zo_184 (b1 := 0) (b2 := 68) (zkb3 zk_cX3_drawOldSprites zn_cX3_drawOldSprites (by decide +kernel)) rfl
theorem dX3_drawOldSprites_8 : decode cX3_drawOldSprites 8 = .ok (.sipush 128, 3) := zo_17 (b1 := 0) (b2 := 128) (zkb3 zk_cX3_drawOldSprites zn_cX3_drawOldSprites (by decide +kernel)) rfl
theorem dX3_drawOldSprites_11 : decode cX3_drawOldSprites 11 = .ok (.aload_n 0, 1) := zo_42 (zkb zk_cX3_drawOldSprites zn_cX3_drawOldSprites (by decide +kernel))
theorem dX3_drawOldSprites_12 : decode cX3_drawOldSprites 12 = .ok (.getfield 26, 3) := zo_180 (b1 := 0) (b2 := 26) (zkb3 zk_cX3_drawOldSprites zn_cX3_drawOldSprites (by decide +kernel)) rfl
theorem dX3_drawOldSprites_15 : decode cX3_drawOldSprites 15 = .ok (.iconst 5, 1) := zo_8 (zkb zk_cX3_drawOldSprites zn_cX3_drawOldSprites (by decide +kernel))
theorem dX3_drawOldSprites_16 : decode cX3_drawOldSprites 16 = .ok (.invokevirtual 62, 3) := zo_182 (b1 := 0) (b2 := 62) (zkb3 zk_cX3_drawOldSprites zn_cX3_drawOldSprites (by decide +kernel)) rfl
theorem dX3_drawOldSprites_19 : decode cX3_drawOldSprites 19 = .ok (.bipush 127, 2) := zo_16 (b1 := 127) (zkb2 zk_cX3_drawOldSprites zn_cX3_drawOldSprites (by decide +kernel)) rfl
theorem dX3_drawOldSprites_21 : decode cX3_drawOldSprites 21 = .ok (.iand, 1) := zo_126 (zkb zk_cX3_drawOldSprites zn_cX3_drawOldSprites (by decide +kernel))
theorem dX3_drawOldSprites_22 : decode cX3_drawOldSprites 22 = .ok (.imul, 1) := zo_104 (zkb zk_cX3_drawOldSprites zn_cX3_drawOldSprites (by decide +kernel))
theorem dX3_drawOldSprites_23 : decode cX3_drawOldSprites 23 = .ok (.istore_n 2, 1) := zo_61 (zkb zk_cX3_drawOldSprites zn_cX3_drawOldSprites (by decide +kernel))
theorem dX3_drawOldSprites_24 : decode cX3_drawOldSprites 24 = .ok (.iconst 0, 1) := zo_3 (zkb zk_cX3_drawOldSprites zn_cX3_drawOldSprites (by decide +kernel))
theorem dX3_drawOldSprites_25 : decode cX3_drawOldSprites 25 = .ok (.istore_n 3, 1) := zo_62 (zkb zk_cX3_drawOldSprites zn_cX3_drawOldSprites (by decide +kernel))
theorem dX3_drawOldSprites_26 : decode cX3_drawOldSprites 26 = .ok (.iconst 0, 1) := zo_3 (zkb zk_cX3_drawOldSprites zn_cX3_drawOldSprites (by decide +kernel))
theorem dX3_drawOldSprites_27 : decode cX3_drawOldSprites 27 = .ok (.istore 4, 2) := zo_54 (b1 := 4) (zkb2 zk_cX3_drawOldSprites zn_cX3_drawOldSprites (by decide +kernel))
theorem dX3_drawOldSprites_29 : decode cX3_drawOldSprites 29 = .ok (.iload 4, 2) := zo_21 (b1 := 4) (zkb2 zk_cX3_drawOldSprites zn_cX3_drawOldSprites (by decide +kernel))
theorem dX3_drawOldSprites_31 : decode cX3_drawOldSprites 31 = .ok (.bipush 32, 2) := zo_16 (b1 := 32) (zkb2 zk_cX3_drawOldSprites zn_cX3_drawOldSprites (by decide +kernel)) rfl
theorem dX3_drawOldSprites_33 : decode cX3_drawOldSprites 33 = .ok (.if_icmp .ge 81, 3) := zo_162 (b1 := 0) (b2 := 81) (zkb3 zk_cX3_drawOldSprites zn_cX3_drawOldSprites (by decide +kernel)) rfl
theorem dX3_drawOldSprites_36 : decode cX3_drawOldSprites 36 = .ok (.iload_n 2, 1) := zo_28 (zkb zk_cX3_drawOldSprites zn_cX3_drawOldSprites (by decide +kernel))
theorem dX3_drawOldSprites_37 : decode cX3_drawOldSprites 37 = .ok (.iconst 4, 1) := zo_7 (zkb zk_cX3_drawOldSprites zn_cX3_drawOldSprites (by decide +kernel))
theorem dX3_drawOldSprites_38 : decode cX3_drawOldSprites 38 = .ok (.iload 4, 2) := zo_21 (b1 := 4) (zkb2 zk_cX3_drawOldSprites zn_cX3_drawOldSprites (by decide +kernel))
theorem dX3_drawOldSprites_40 : decode cX3_drawOldSprites 40 = .ok (.imul, 1) := zo_104 (zkb zk_cX3_drawOldSprites zn_cX3_drawOldSprites (by decide +kernel))
theorem dX3_drawOldSprites_41 : decode cX3_drawOldSprites 41 = .ok (.iadd, 1) := zo_96 (zkb zk_cX3_drawOldSprites zn_cX3_drawOldSprites (by decide +kernel))
theorem dX3_drawOldSprites_42 : decode cX3_drawOldSprites 42 = .ok (.istore 5, 2) := zo_54 (b1 := 5) (zkb2 zk_cX3_drawOldSprites zn_cX3_drawOldSprites (by decide +kernel))
theorem dX3_drawOldSprites_44 : decode cX3_drawOldSprites 44 = .ok (.aload_n 0, 1) := zo_42 (zkb zk_cX3_drawOldSprites zn_cX3_drawOldSprites (by decide +kernel))
theorem dX3_drawOldSprites_45 : decode cX3_drawOldSprites 45 = .ok (.getfield 26, 3) := zo_180 (b1 := 0) (b2 := 26) (zkb3 zk_cX3_drawOldSprites zn_cX3_drawOldSprites (by decide +kernel)) rfl
theorem dX3_drawOldSprites_48 : decode cX3_drawOldSprites 48 = .ok (.iload 5, 2) := zo_21 (b1 := 5) (zkb2 zk_cX3_drawOldSprites zn_cX3_drawOldSprites (by decide +kernel))
theorem dX3_drawOldSprites_50 : decode cX3_drawOldSprites 50 = .ok (.invokevirtual 113, 3) := zo_182 (b1 := 0) (b2 := 113) (zkb3 zk_cX3_drawOldSprites zn_cX3_drawOldSprites (by decide +kernel)) rfl
theorem dX3_drawOldSprites_53 : decode cX3_drawOldSprites 53 = .ok (.istore 6, 2) := zo_54 (b1 := 6) (zkb2 zk_cX3_drawOldSprites zn_cX3_drawOldSprites (by decide +kernel))
theorem dX3_drawOldSprites_55 : decode cX3_drawOldSprites 55 = .ok (.iload 6, 2) := zo_21 (b1 := 6) (zkb2 zk_cX3_drawOldSprites zn_cX3_drawOldSprites (by decide +kernel))
theorem dX3_drawOldSprites_57 : decode cX3_drawOldSprites 57 = .ok (.sipush 208, 3) := zo_17 (b1 := 0) (b2 := 208) (zkb3 zk_cX3_drawOldSprites zn_cX3_drawOldSprites (by decide +kernel)) rfl
theorem dX3_drawOldSprites_60 : decode cX3_drawOldSprites 60 = .ok (.if_icmp .ne 6, 3) := zo_160 (b1 := 0) (b2 := 6) (zkb3 zk_cX3_drawOldSprites zn_cX3_drawOldSprites (by decide +kernel)) rfl
theorem dX3_drawOldSprites_63 : decode cX3_drawOldSprites 63 = .ok (.goto 51, 3) := zo_167 (b1 := 0) (b2 := 51) (zkb3 zk_cX3_drawOldSprites zn_cX3_drawOldSprites (by decide +kernel)) rfl
theorem dX3_drawOldSprites_66 : decode cX3_drawOldSprites 66 = .ok (.aload_n 0, 1) := zo_42 (zkb zk_cX3_drawOldSprites zn_cX3_drawOldSprites (by decide +kernel))
theorem dX3_drawOldSprites_67 : decode cX3_drawOldSprites 67 = .ok (.iload_n 1, 1) := zo_27 (zkb zk_cX3_drawOldSprites zn_cX3_drawOldSprites (by decide +kernel))
theorem dX3_drawOldSprites_68 : decode cX3_drawOldSprites 68 = .ok (.iload 6, 2) := zo_21 (b1 := 6) (zkb2 zk_cX3_drawOldSprites zn_cX3_drawOldSprites (by decide +kernel))
theorem dX3_drawOldSprites_70 : decode cX3_drawOldSprites 70 = .ok (.invokevirtual 120, 3) := zo_182 (b1 := 0) (b2 := 120) (zkb3 zk_cX3_drawOldSprites zn_cX3_drawOldSprites (by decide +kernel)) rfl
theorem dX3_drawOldSprites_73 : decode cX3_drawOldSprites 73 = .ok (.istore 7, 2) := zo_54 (b1 := 7) (zkb2 zk_cX3_drawOldSprites zn_cX3_drawOldSprites (by decide +kernel))
theorem dX3_drawOldSprites_75 : decode cX3_drawOldSprites 75 = .ok (.iload 7, 2) := zo_21 (b1 := 7) (zkb2 zk_cX3_drawOldSprites zn_cX3_drawOldSprites (by decide +kernel))
theorem dX3_drawOldSprites_77 : decode cX3_drawOldSprites 77 = .ok (.ifCond .lt 31, 3) := zo_155 (b1 := 0) (b2 := 31) (zkb3 zk_cX3_drawOldSprites zn_cX3_drawOldSprites (by decide +kernel)) rfl
theorem dX3_drawOldSprites_80 : decode cX3_drawOldSprites 80 = .ok (.iinc 3 1, 3) := zo_132 (b1 := 3) (b2 := 1) (zkb3 zk_cX3_drawOldSprites zn_cX3_drawOldSprites (by decide +kernel)) rfl
theorem dX3_drawOldSprites_83 : decode cX3_drawOldSprites 83 = .ok (.iload_n 3, 1) := zo_29 (zkb zk_cX3_drawOldSprites zn_cX3_drawOldSprites (by decide +kernel))
theorem dX3_drawOldSprites_84 : decode cX3_drawOldSprites 84 = .ok (.iconst 4, 1) := zo_7 (zkb zk_cX3_drawOldSprites zn_cX3_drawOldSprites (by decide +kernel))
theorem dX3_drawOldSprites_85 : decode cX3_drawOldSprites 85 = .ok (.if_icmp .le 15, 3) := zo_164 (b1 := 0) (b2 := 15) (zkb3 zk_cX3_drawOldSprites zn_cX3_drawOldSprites (by decide +kernel)) rfl
theorem dX3_drawOldSprites_88 : decode cX3_drawOldSprites 88 = .ok (.aload_n 0, 1) := zo_42 (zkb zk_cX3_drawOldSprites zn_cX3_drawOldSprites (by decide +kernel))
theorem dX3_drawOldSprites_89 : decode cX3_drawOldSprites 89 = .ok (.getfield 26, 3) := zo_180 (b1 := 0) (b2 := 26) (zkb3 zk_cX3_drawOldSprites zn_cX3_drawOldSprites (by decide +kernel)) rfl
theorem dX3_drawOldSprites_92 : decode cX3_drawOldSprites 92 = .ok (.iload 4, 2) := zo_21 (b1 := 4) (zkb2 zk_cX3_drawOldSprites zn_cX3_drawOldSprites (by decide +kernel))
theorem dX3_drawOldSprites_94 : decode cX3_drawOldSprites 94 = .ok (.invokevirtual 145, 3) := zo_182 (b1 := 0) (b2 := 145) (zkb3 zk_cX3_drawOldSprites zn_cX3_drawOldSprites (by decide +kernel)) rfl
theorem dX3_drawOldSprites_97 : decode cX3_drawOldSprites 97 = .ok (.goto 17, 3) := zo_167 (b1 := 0) (b2 := 17) (zkb3 zk_cX3_drawOldSprites zn_cX3_drawOldSprites (by decide +kernel)) rfl
theorem dX3_drawOldSprites_100 : decode cX3_drawOldSprites 100 = .ok (.aload_n 0, 1) := zo_42 (zkb zk_cX3_drawOldSprites zn_cX3_drawOldSprites (by decide +kernel))
theorem dX3_drawOldSprites_101 : decode cX3_drawOldSprites 101 = .ok (.iload 5, 2) := zo_21 (b1 := 5) (zkb2 zk_cX3_drawOldSprites zn_cX3_drawOldSprites (by decide +kernel))
theorem dX3_drawOldSprites_103 : decode cX3_drawOldSprites 103 = .ok (.iload 7, 2) := zo_21 (b1 := 7) (zkb2 zk_cX3_drawOldSprites zn_cX3_drawOldSprites (by decide +kernel))
theorem dX3_drawOldSprites_105 : decode cX3_drawOldSprites 105 = .ok (.invokevirtual 148, 3) := zo_182 (b1 := 0) (b2 := 148) (zkb3 zk_cX3_drawOldSprites zn_cX3_drawOldSprites (by decide +kernel)) rfl
theorem dX3_drawOldSprites_108 : decode cX3_drawOldSprites 108 = .ok (.iinc 4 1, 3) := zo_132 (b1 := 4) (b2 := 1) (zkb3 zk_cX3_drawOldSprites zn_cX3_drawOldSprites (by decide +kernel)) rfl
theorem dX3_drawOldSprites_111 : decode cX3_drawOldSprites 111 = .ok (.goto (-82), 3) := zo_167 (b1 := 255) (b2 := 174) (zkb3 zk_cX3_drawOldSprites zn_cX3_drawOldSprites (by decide +kernel)) rfl
theorem dX3_drawOldSprites_114 : decode cX3_drawOldSprites 114 = .ok (.iconst 0, 1) := zo_3 (zkb zk_cX3_drawOldSprites zn_cX3_drawOldSprites (by decide +kernel))
theorem dX3_drawOldSprites_115 : decode cX3_drawOldSprites 115 = .ok (.istore 4, 2) := zo_54 (b1 := 4) (zkb2 zk_cX3_drawOldSprites zn_cX3_drawOldSprites (by decide +kernel))
theorem dX3_drawOldSprites_117 : decode cX3_drawOldSprites 117 = .ok (.iload 4, 2) := zo_21 (b1 := 4) (zkb2 zk_cX3_drawOldSprites zn_cX3_drawOldSprites (by decide +kernel))
theorem dX3_drawOldSprites_119 : decode cX3_drawOldSprites 119 = .ok (.sipush 256, 3) := zo_17 (b1 := 1) (b2 := 0) (zkb3 zk_cX3_drawOldSprites zn_cX3_drawOldSprites (by decide +kernel)) rfl
theorem dX3_drawOldSprites_122 : decode cX3_drawOldSprites 122 = .ok (.if_icmp .ge 39, 3) := zo_162 (b1 := 0) (b2 := 39) (zkb3 zk_cX3_drawOldSprites zn_cX3_drawOldSprites (by decide +kernel)) rfl
theorem dX3_drawOldSprites_125 : decode cX3_drawOldSprites 125 = .ok (.aload_n 0, 1) := zo_42 (zkb zk_cX3_drawOldSprites zn_cX3_drawOldSprites (by decide +kernel))
theorem dX3_drawOldSprites_126 : decode cX3_drawOldSprites 126 = .ok (.getfield 20, 3) := zo_180 (b1 := 0) (b2 := 20) (zkb3 zk_cX3_drawOldSprites zn_cX3_drawOldSprites (by decide +kernel)) rfl
theorem dX3_drawOldSprites_129 : decode cX3_drawOldSprites 129 = .ok (.iload 4, 2) := zo_21 (b1 := 4) (zkb2 zk_cX3_drawOldSprites zn_cX3_drawOldSprites (by decide +kernel))
theorem dX3_drawOldSprites_131 : decode cX3_drawOldSprites 131 = .ok (.iaload, 1) := zo_46 (zkb zk_cX3_drawOldSprites zn_cX3_drawOldSprites (by decide +kernel))
theorem dX3_drawOldSprites_132 : decode cX3_drawOldSprites 132 = .ok (.bipush 15, 2) := zo_16 (b1 := 15) (zkb2 zk_cX3_drawOldSprites zn_cX3_drawOldSprites (by decide +kernel)) rfl
theorem dX3_drawOldSprites_134 : decode cX3_drawOldSprites 134 = .ok (.iand, 1) := zo_126 (zkb zk_cX3_drawOldSprites zn_cX3_drawOldSprites (by decide +kernel))
theorem dX3_drawOldSprites_135 : decode cX3_drawOldSprites 135 = .ok (.ifCond .le 20, 3) := zo_158 (b1 := 0) (b2 := 20) (zkb3 zk_cX3_drawOldSprites zn_cX3_drawOldSprites (by decide +kernel)) rfl
theorem dX3_drawOldSprites_138 : decode cX3_drawOldSprites 138 = .ok (.aload_n 0, 1) := zo_42 (zkb zk_cX3_drawOldSprites zn_cX3_drawOldSprites (by decide +kernel))
theorem dX3_drawOldSprites_139 : decode cX3_drawOldSprites 139 = .ok (.getfield 17, 3) := zo_180 (b1 := 0) (b2 := 17) (zkb3 zk_cX3_drawOldSprites zn_cX3_drawOldSprites (by decide +kernel)) rfl
theorem dX3_drawOldSprites_142 : decode cX3_drawOldSprites 142 = .ok (.iload 4, 2) := zo_21 (b1 := 4) (zkb2 zk_cX3_drawOldSprites zn_cX3_drawOldSprites (by decide +kernel))
theorem dX3_drawOldSprites_144 : decode cX3_drawOldSprites 144 = .ok (.aload_n 0, 1) := zo_42 (zkb zk_cX3_drawOldSprites zn_cX3_drawOldSprites (by decide +kernel))
theorem dX3_drawOldSprites_145 : decode cX3_drawOldSprites 145 = .ok (.getfield 20, 3) := zo_180 (b1 := 0) (b2 := 20) (zkb3 zk_cX3_drawOldSprites zn_cX3_drawOldSprites (by decide +kernel)) rfl
theorem dX3_drawOldSprites_148 : decode cX3_drawOldSprites 148 = .ok (.iload 4, 2) := zo_21 (b1 := 4) (zkb2 zk_cX3_drawOldSprites zn_cX3_drawOldSprites (by decide +kernel))
theorem dX3_drawOldSprites_150 : decode cX3_drawOldSprites 150 = .ok (.iaload, 1) := zo_46 (zkb zk_cX3_drawOldSprites zn_cX3_drawOldSprites (by decide +kernel))
theorem dX3_drawOldSprites_151 : decode cX3_drawOldSprites 151 = .ok (.bipush 15, 2) := zo_16 (b1 := 15) (zkb2 zk_cX3_drawOldSprites zn_cX3_drawOldSprites (by decide +kernel)) rfl
theorem dX3_drawOldSprites_153 : decode cX3_drawOldSprites 153 = .ok (.iand, 1) := zo_126 (zkb zk_cX3_drawOldSprites zn_cX3_drawOldSprites (by decide +kernel))
theorem dX3_drawOldSprites_154 : decode cX3_drawOldSprites 154 = .ok (.iastore, 1) := zo_79 (zkb zk_cX3_drawOldSprites zn_cX3_drawOldSprites (by decide +kernel))
theorem dX3_drawOldSprites_155 : decode cX3_drawOldSprites 155 = .ok (.iinc 4 1, 3) := zo_132 (b1 := 4) (b2 := 1) (zkb3 zk_cX3_drawOldSprites zn_cX3_drawOldSprites (by decide +kernel)) rfl
theorem dX3_drawOldSprites_158 : decode cX3_drawOldSprites 158 = .ok (.goto (-41), 3) := zo_167 (b1 := 255) (b2 := 215) (zkb3 zk_cX3_drawOldSprites zn_cX3_drawOldSprites (by decide +kernel)) rfl
theorem dX3_drawOldSprites_161 : decode cX3_drawOldSprites 161 = .ok (.return_, 1) := zo_177 (zkb zk_cX3_drawOldSprites zn_cX3_drawOldSprites (by decide +kernel))
def kn_cX3_drawOldSprite : Nat := 0xb1bbffa7010b849700b67e0f101d0c152a0d00a20001110c1515009b0c151a00997e047a647a07150b150f100a150c36600b1504153700a278071508100500a7101008009908150b150b36030a3680030400a77100b660101009151a00b42a12009908157808107100b609151a00b42a0936601c606805150500a77efc1005150b009908150810687e07103e00b606101a00b42a0008110836030400a7040700997e05061507367e04061506363e00b6041a00b42a05367100b660051b1a00b42a043664030400a720100800997e8000111d7100b660041b1a00b42a3e7100b660061b1a00b42a
theorem zk_cX3_drawOldSprite : zkd cX3_drawOldSprite.data.toList kn_cX3_drawOldSprite = true := by decide +kernel
theorem zn_cX3_drawOldSprite : cX3_drawOldSprite.data.toList.length = 231 := by decide +kernel
theorem dX3_drawOldSprite_0 : decode cX3_drawOldSprite 0 = .ok (.aload_n 0, 1) := zo_42 (zkb zk_cX3_drawOldSprite zn_cX3_drawOldSprite (by decide +kernel))
theorem dX3_drawOldSprite_1 : decode cX3_drawOldSprite 1 = .ok (.getfield 26, 3) := zo_180 (b1 := 0) (b2 := 26) (zkb3 zk_cX3_drawOldSprite zn_cX3_drawOldSprite (by decide +kernel)) rfl
theorem dX3_drawOldSprite_4 : decode cX3_drawOldSprite 4 = .ok (.iload_n 1, 1) := zo_27 (zkb zk_cX3_drawOldSprite zn_cX3_drawOldSprite (by decide +kernel))
theorem dX3_drawOldSprite_5 : decode cX3_drawOldSprite 5 = .ok (.iconst 3, 1) := zo_6 (zkb zk_cX3_drawOldSprite zn_cX3_drawOldSprite (by decide +kernel))
theorem dX3_drawOldSprite_6 : decode cX3_drawOldSprite 6 = .ok (.iadd, 1) := zo_96 (zkb zk_cX3_drawOldSprite zn_cX3_drawOldSprite (by decide +kernel))
theorem dX3_drawOldSprite_7 : decode cX3_drawOldSprite 7 = .ok (.invokevirtual 113, 3) := zo_182 (b1 := 0) (b2 := 113) (zkb3 zk_cX3_drawOldSprite zn_cX3_drawOldSprite (by decide +kernel)) rfl
theorem dX3_drawOldSprite_10 : decode cX3_drawOldSprite 10 = .ok (.istore_n 3, 1) := zo_62 (zkb zk_cX3_drawOldSprite zn_cX3_drawOldSprite (by decide +kernel))
theorem dX3_drawOldSprite_11 : decode cX3_drawOldSprite 11 = .ok (.aload_n 0, 1) := zo_42 (zkb zk_cX3_drawOldSprite zn_cX3_drawOldSprite (by decide +kernel))
theorem dX3_drawOldSprite_12 : decode cX3_drawOldSprite 12 = .ok (.getfield 26, 3) := zo_180 (b1 := 0) (b2 := 26) (zkb3 zk_cX3_drawOldSprite zn_cX3_drawOldSprite (by decide +kernel)) rfl
theorem dX3_drawOldSprite_15 : decode cX3_drawOldSprite 15 = .ok (.iload_n 1, 1) := zo_27 (zkb zk_cX3_drawOldSprite zn_cX3_drawOldSprite (by decide +kernel))
theorem dX3_drawOldSprite_16 : decode cX3_drawOldSprite 16 = .ok (.iconst 1, 1) := zo_4 (zkb zk_cX3_drawOldSprite zn_cX3_drawOldSprite (by decide +kernel))
theorem dX3_drawOldSprite_17 : decode cX3_drawOldSprite 17 = .ok (.iadd, 1) := zo_96 (zkb zk_cX3_drawOldSprite zn_cX3_drawOldSprite (by decide +kernel))
theorem dX3_drawOldSprite_18 : decode cX3_drawOldSprite 18 = .ok (.invokevirtual 113, 3) := zo_182 (b1 := 0) (b2 := 113) (zkb3 zk_cX3_drawOldSprite zn_cX3_drawOldSprite (by decide +kernel)) rfl
theorem dX3_drawOldSprite_21 : decode cX3_drawOldSprite 21 = .ok (.iload_n 3, 1) := zo_29 (zkb zk_cX3_drawOldSprite zn_cX3_drawOldSprite (by decide +kernel))
theorem dX3_drawOldSprite_22 : decode cX3_drawOldSprite 22 = .ok (.sipush 128, 3) := zo_17 (b1 := 0) (b2 := 128) (zkb3 zk_cX3_drawOldSprite zn_cX3_drawOldSprite (by decide +kernel)) rfl
theorem dX3_drawOldSprite_25 : decode cX3_drawOldSprite 25 = .ok (.iand, 1) := zo_126 (zkb zk_cX3_drawOldSprite zn_cX3_drawOldSprite (by decide +kernel))
theorem dX3_drawOldSprite_26 : decode cX3_drawOldSprite 26 = .ok (.ifCond .eq 8, 3) := zo_153 (b1 := 0) (b2 := 8) (zkb3 zk_cX3_drawOldSprite zn_cX3_drawOldSprite (by decide +kernel)) rfl
theorem dX3_drawOldSprite_29 : decode cX3_drawOldSprite 29 = .ok (.bipush 32, 2) := zo_16 (b1 := 32) (zkb2 zk_cX3_drawOldSprite zn_cX3_drawOldSprite (by decide +kernel)) rfl
theorem dX3_drawOldSprite_31 : decode cX3_drawOldSprite 31 = .ok (.goto 4, 3) := zo_167 (b1 := 0) (b2 := 4) (zkb3 zk_cX3_drawOldSprite zn_cX3_drawOldSprite (by decide +kernel)) rfl
theorem dX3_drawOldSprite_34 : decode cX3_drawOldSprite 34 = .ok (.iconst 0, 1) := zo_3 (zkb zk_cX3_drawOldSprite zn_cX3_drawOldSprite (by decide +kernel))
theorem dX3_drawOldSprite_35 : decode cX3_drawOldSprite 35 = .ok (.isub, 1) := zo_100 (zkb zk_cX3_drawOldSprite zn_cX3_drawOldSprite (by decide +kernel))
theorem dX3_drawOldSprite_36 : decode cX3_drawOldSprite 36 = .ok (.istore 4, 2) := zo_54 (b1 := 4) (zkb2 zk_cX3_drawOldSprite zn_cX3_drawOldSprite (by decide +kernel))
theorem dX3_drawOldSprite_38 : decode cX3_drawOldSprite 38 = .ok (.aload_n 0, 1) := zo_42 (zkb zk_cX3_drawOldSprite zn_cX3_drawOldSprite (by decide +kernel))
theorem dX3_drawOldSprite_39 : decode cX3_drawOldSprite 39 = .ok (.getfield 26, 3) := zo_180 (b1 := 0) (b2 := 26) (zkb3 zk_cX3_drawOldSprite zn_cX3_drawOldSprite (by decide +kernel)) rfl
theorem dX3_drawOldSprite_42 : decode cX3_drawOldSprite 42 = .ok (.iload_n 1, 1) := zo_27 (zkb zk_cX3_drawOldSprite zn_cX3_drawOldSprite (by decide +kernel))
theorem dX3_drawOldSprite_43 : decode cX3_drawOldSprite 43 = .ok (.iconst 2, 1) := zo_5 (zkb zk_cX3_drawOldSprite zn_cX3_drawOldSprite (by decide +kernel))
theorem dX3_drawOldSprite_44 : decode cX3_drawOldSprite 44 = .ok (.iadd, 1) := zo_96 (zkb zk_cX3_drawOldSprite zn_cX3_drawOldSprite (by decide +kernel))
theorem dX3_drawOldSprite_45 : decode cX3_drawOldSprite 45 = .ok (.invokevirtual 113, 3) := zo_182 (b1 := 0) (b2 := 113) (zkb3 zk_cX3_drawOldSprite zn_cX3_drawOldSprite (by decide +kernel)) rfl
theorem dX3_drawOldSprite_48 : decode cX3_drawOldSprite 48 = .ok (.istore 5, 2) := zo_54 (b1 := 5) (zkb2 zk_cX3_drawOldSprite zn_cX3_drawOldSprite (by decide +kernel))
theorem dX3_drawOldSprite_50 : decode cX3_drawOldSprite 50 = .ok (.aload_n 0, 1) := zo_42 (zkb zk_cX3_drawOldSprite zn_cX3_drawOldSprite (by decide +kernel))
theorem dX3_drawOldSprite_51 : decode cX3_drawOldSprite 51 = .ok (.getfield 26, 3) := zo_180 (b1 := 0) (b2 := 26) (zkb3 zk_cX3_drawOldSprite zn_cX3_drawOldSprite (by decide +kernel)) rfl
theorem dX3_drawOldSprite_54 : decode cX3_drawOldSprite 54 = .ok (.iconst 1, 1) := zo_4 (zkb zk_cX3_drawOldSprite zn_cX3_drawOldSprite (by decide +kernel))
theorem dX3_drawOldSprite_55 : decode cX3_drawOldSprite 55 = .ok (.invokevirtual 62, 3) := zo_182 (b1 := 0) (b2 := 62) (zkb3 zk_cX3_drawOldSprite zn_cX3_drawOldSprite (by decide +kernel)) rfl
theorem dX3_drawOldSprite_58 : decode cX3_drawOldSprite 58 = .ok (.istore 6, 2) := zo_54 (b1 := 6) (zkb2 zk_cX3_drawOldSprite zn_cX3_drawOldSprite (by decide +kernel))
theorem dX3_drawOldSprite_60 : decode cX3_drawOldSprite 60 = .ok (.iload 6, 2) := zo_21 (b1 := 6) (zkb2 zk_cX3_drawOldSprite zn_cX3_drawOldSprite (by decide +kernel))
theorem dX3_drawOldSprite_62 : decode cX3_drawOldSprite 62 = .ok (.iconst 1, 1) := zo_4 (zkb zk_cX3_drawOldSprite zn_cX3_drawOldSprite (by decide +kernel))
theorem dX3_drawOldSprite_63 : decode cX3_drawOldSprite 63 = .ok (.iand, 1) := zo_126 (zkb zk_cX3_drawOldSprite zn_cX3_drawOldSprite (by decide +kernel))
theorem dX3_drawOldSprite_64 : decode cX3_drawOldSprite 64 = .ok (.istore 7, 2) := zo_54 (b1 := 7) (zkb2 zk_cX3_drawOldSprite zn_cX3_drawOldSprite (by decide +kernel))
theorem dX3_drawOldSprite_66 : decode cX3_drawOldSprite 66 = .ok (.iload 6, 2) := zo_21 (b1 := 6) (zkb2 zk_cX3_drawOldSprite zn_cX3_drawOldSprite (by decide +kernel))
theorem dX3_drawOldSprite_68 : decode cX3_drawOldSprite 68 = .ok (.iconst 2, 1) := zo_5 (zkb zk_cX3_drawOldSprite zn_cX3_drawOldSprite (by decide +kernel))
theorem dX3_drawOldSprite_69 : decode cX3_drawOldSprite 69 = .ok (.iand, 1) := zo_126 (zkb zk_cX3_drawOldSprite zn_cX3_drawOldSprite (by decide +kernel))
theorem dX3_drawOldSprite_70 : decode cX3_drawOldSprite 70 = .ok (.ifCond .eq 7, 3) := zo_153 (b1 := 0) (b2 := 7) (zkb3 zk_cX3_drawOldSprite zn_cX3_drawOldSprite (by decide +kernel)) rfl
theorem dX3_drawOldSprite_73 : decode cX3_drawOldSprite 73 = .ok (.iconst 1, 1) := zo_4 (zkb zk_cX3_drawOldSprite zn_cX3_drawOldSprite (by decide +kernel))
theorem dX3_drawOldSprite_74 : decode cX3_drawOldSprite 74 = .ok (.goto 4, 3) := zo_167 (b1 := 0) (b2 := 4) (zkb3 zk_cX3_drawOldSprite zn_cX3_drawOldSprite (by decide +kernel)) rfl
theorem dX3_drawOldSprite_77 : decode cX3_drawOldSprite 77 = .ok (.iconst 0, 1) := zo_3 (zkb zk_cX3_drawOldSprite zn_cX3_drawOldSprite (by decide +kernel))
theorem dX3_drawOldSprite_78 : decode cX3_drawOldSprite 78 = .ok (.istore 8, 2) := zo_54 (b1 := 8) (zkb2 zk_cX3_drawOldSprite zn_cX3_drawOldSprite (by decide +kernel))
theorem dX3_drawOldSprite_80 : decode cX3_drawOldSprite 80 = .ok (.sipush 2048, 3) := zo_17 (b1 := 8) (b2 := 0) (zkb3 zk_cX3_drawOldSprite zn_cX3_drawOldSprite (by decide +kernel)) rfl
theorem dX3_drawOldSprite_83 : decode cX3_drawOldSprite 83 = .ok (.aload_n 0, 1) := zo_42 (zkb zk_cX3_drawOldSprite zn_cX3_drawOldSprite (by decide +kernel))
theorem dX3_drawOldSprite_84 : decode cX3_drawOldSprite 84 = .ok (.getfield 26, 3) := zo_180 (b1 := 0) (b2 := 26) (zkb3 zk_cX3_drawOldSprite zn_cX3_drawOldSprite (by decide +kernel)) rfl
theorem dX3_drawOldSprite_87 : decode cX3_drawOldSprite 87 = .ok (.bipush 6, 2) := zo_16 (b1 := 6) (zkb2 zk_cX3_drawOldSprite zn_cX3_drawOldSprite (by decide +kernel)) rfl
theorem dX3_drawOldSprite_89 : decode cX3_drawOldSprite 89 = .ok (.invokevirtual 62, 3) := zo_182 (b1 := 0) (b2 := 62) (zkb3 zk_cX3_drawOldSprite zn_cX3_drawOldSprite (by decide +kernel)) rfl
theorem dX3_drawOldSprite_92 : decode cX3_drawOldSprite 92 = .ok (.bipush 7, 2) := zo_16 (b1 := 7) (zkb2 zk_cX3_drawOldSprite zn_cX3_drawOldSprite (by decide +kernel)) rfl
theorem dX3_drawOldSprite_94 : decode cX3_drawOldSprite 94 = .ok (.iand, 1) := zo_126 (zkb zk_cX3_drawOldSprite zn_cX3_drawOldSprite (by decide +kernel))
theorem dX3_drawOldSprite_95 : decode cX3_drawOldSprite 95 = .ok (.imul, 1) := zo_104 (zkb zk_cX3_drawOldSprite zn_cX3_drawOldSprite (by decide +kernel))
theorem dX3_drawOldSprite_96 : decode cX3_drawOldSprite 96 = .ok (.bipush 8, 2) := zo_16 (b1 := 8) (zkb2 zk_cX3_drawOldSprite zn_cX3_drawOldSprite (by decide +kernel)) rfl
theorem dX3_drawOldSprite_98 : decode cX3_drawOldSprite 98 = .ok (.iload 8, 2) := zo_21 (b1 := 8) (zkb2 zk_cX3_drawOldSprite zn_cX3_drawOldSprite (by decide +kernel))
theorem dX3_drawOldSprite_100 : decode cX3_drawOldSprite 100 = .ok (.ifCond .eq 11, 3) := zo_153 (b1 := 0) (b2 := 11) (zkb3 zk_cX3_drawOldSprite zn_cX3_drawOldSprite (by decide +kernel)) rfl
theorem dX3_drawOldSprite_103 : decode cX3_drawOldSprite 103 = .ok (.iload 5, 2) := zo_21 (b1 := 5) (zkb2 zk_cX3_drawOldSprite zn_cX3_drawOldSprite (by decide +kernel))
theorem dX3_drawOldSprite_105 : decode cX3_drawOldSprite 105 = .ok (.bipush (-4), 2) := zo_16 (b1 := 252) (zkb2 zk_cX3_drawOldSprite zn_cX3_drawOldSprite (by decide +kernel)) rfl
theorem dX3_drawOldSprite_107 : decode cX3_drawOldSprite 107 = .ok (.iand, 1) := zo_126 (zkb zk_cX3_drawOldSprite zn_cX3_drawOldSprite (by decide +kernel))
theorem dX3_drawOldSprite_108 : decode cX3_drawOldSprite 108 = .ok (.goto 5, 3) := zo_167 (b1 := 0) (b2 := 5) (zkb3 zk_cX3_drawOldSprite zn_cX3_drawOldSprite (by decide +kernel)) rfl
theorem dX3_drawOldSprite_111 : decode cX3_drawOldSprite 111 = .ok (.iload 5, 2) := zo_21 (b1 := 5) (zkb2 zk_cX3_drawOldSprite zn_cX3_drawOldSprite (by decide +kernel))
theorem dX3_drawOldSprite_113 : decode cX3_drawOldSprite 113 = .ok (.imul, 1) := zo_104 (zkb zk_cX3_drawOldSprite zn_cX3_drawOldSprite (by decide +kernel))
theorem dX3_drawOldSprite_114 : decode cX3_drawOldSprite 114 = .ok (.iadd, 1) := zo_96 (zkb zk_cX3_drawOldSprite zn_cX3_drawOldSprite (by decide +kernel))
theorem dX3_drawOldSprite_115 : decode cX3_drawOldSprite 115 = .ok (.iload_n 2, 1) := zo_28 (zkb zk_cX3_drawOldSprite zn_cX3_drawOldSprite (by decide +kernel))
theorem dX3_drawOldSprite_116 : decode cX3_drawOldSprite 116 = .ok (.iadd, 1) := zo_96 (zkb zk_cX3_drawOldSprite zn_cX3_drawOldSprite (by decide +kernel))
theorem dX3_drawOldSprite_117 : decode cX3_drawOldSprite 117 = .ok (.istore 9, 2) := zo_54 (b1 := 9) (zkb2 zk_cX3_drawOldSprite zn_cX3_drawOldSprite (by decide +kernel))
theorem dX3_drawOldSprite_119 : decode cX3_drawOldSprite 119 = .ok (.aload_n 0, 1) := zo_42 (zkb zk_cX3_drawOldSprite zn_cX3_drawOldSprite (by decide +kernel))
theorem dX3_drawOldSprite_120 : decode cX3_drawOldSprite 120 = .ok (.getfield 26, 3) := zo_180 (b1 := 0) (b2 := 26) (zkb3 zk_cX3_drawOldSprite zn_cX3_drawOldSprite (by decide +kernel)) rfl
theorem dX3_drawOldSprite_123 : decode cX3_drawOldSprite 123 = .ok (.iload 9, 2) := zo_21 (b1 := 9) (zkb2 zk_cX3_drawOldSprite zn_cX3_drawOldSprite (by decide +kernel))
theorem dX3_drawOldSprite_125 : decode cX3_drawOldSprite 125 = .ok (.invokevirtual 113, 3) := zo_182 (b1 := 0) (b2 := 113) (zkb3 zk_cX3_drawOldSprite zn_cX3_drawOldSprite (by decide +kernel)) rfl
theorem dX3_drawOldSprite_128 : decode cX3_drawOldSprite 128 = .ok (.bipush 8, 2) := zo_16 (b1 := 8) (zkb2 zk_cX3_drawOldSprite zn_cX3_drawOldSprite (by decide +kernel)) rfl
theorem dX3_drawOldSprite_130 : decode cX3_drawOldSprite 130 = .ok (.ishl, 1) := zo_120 (zkb zk_cX3_drawOldSprite zn_cX3_drawOldSprite (by decide +kernel))
theorem dX3_drawOldSprite_131 : decode cX3_drawOldSprite 131 = .ok (.iload 8, 2) := zo_21 (b1 := 8) (zkb2 zk_cX3_drawOldSprite zn_cX3_drawOldSprite (by decide +kernel))
theorem dX3_drawOldSprite_133 : decode cX3_drawOldSprite 133 = .ok (.ifCond .eq 18, 3) := zo_153 (b1 := 0) (b2 := 18) (zkb3 zk_cX3_drawOldSprite zn_cX3_drawOldSprite (by decide +kernel)) rfl
theorem dX3_drawOldSprite_136 : decode cX3_drawOldSprite 136 = .ok (.aload_n 0, 1) := zo_42 (zkb zk_cX3_drawOldSprite zn_cX3_drawOldSprite (by decide +kernel))
theorem dX3_drawOldSprite_137 : decode cX3_drawOldSprite 137 = .ok (.getfield 26, 3) := zo_180 (b1 := 0) (b2 := 26) (zkb3 zk_cX3_drawOldSprite zn_cX3_drawOldSprite (by decide +kernel)) rfl
theorem dX3_drawOldSprite_140 : decode cX3_drawOldSprite 140 = .ok (.iload 9, 2) := zo_21 (b1 := 9) (zkb2 zk_cX3_drawOldSprite zn_cX3_drawOldSprite (by decide +kernel))
theorem dX3_drawOldSprite_142 : decode cX3_drawOldSprite 142 = .ok (.bipush 16, 2) := zo_16 (b1 := 16) (zkb2 zk_cX3_drawOldSprite zn_cX3_drawOldSprite (by decide +kernel)) rfl
theorem dX3_drawOldSprite_144 : decode cX3_drawOldSprite 144 = .ok (.iadd, 1) := zo_96 (zkb zk_cX3_drawOldSprite zn_cX3_drawOldSprite (by decide +kernel))
theorem dX3_drawOldSprite_145 : decode cX3_drawOldSprite 145 = .ok (.invokevirtual 113, 3) := zo_182 (b1 := 0) (b2 := 113) (zkb3 zk_cX3_drawOldSprite zn_cX3_drawOldSprite (by decide +kernel)) rfl
theorem dX3_drawOldSprite_148 : decode cX3_drawOldSprite 148 = .ok (.goto 4, 3) := zo_167 (b1 := 0) (b2 := 4) (zkb3 zk_cX3_drawOldSprite zn_cX3_drawOldSprite (by decide +kernel)) rfl
theorem dX3_drawOldSprite_151 : decode cX3_drawOldSprite 151 = .ok (.iconst 0, 1) := zo_3 (zkb zk_cX3_drawOldSprite zn_cX3_drawOldSprite (by decide +kernel))
theorem dX3_drawOldSprite_152 : decode cX3_drawOldSprite 152 = .ok (.ior, 1) := zo_128 (zkb zk_cX3_drawOldSprite zn_cX3_drawOldSprite (by decide +kernel))
theorem dX3_drawOldSprite_153 : decode cX3_drawOldSprite 153 = .ok (.istore 10, 2) := zo_54 (b1 := 10) (zkb2 zk_cX3_drawOldSprite zn_cX3_drawOldSprite (by decide +kernel))
theorem dX3_drawOldSprite_155 : decode cX3_drawOldSprite 155 = .ok (.iconst 0, 1) := zo_3 (zkb zk_cX3_drawOldSprite zn_cX3_drawOldSprite (by decide +kernel))
theorem dX3_drawOldSprite_156 : decode cX3_drawOldSprite 156 = .ok (.istore 11, 2) := zo_54 (b1 := 11) (zkb2 zk_cX3_drawOldSprite zn_cX3_drawOldSprite (by decide +kernel))
theorem dX3_drawOldSprite_158 : decode cX3_drawOldSprite 158 = .ok (.iload 11, 2) := zo_21 (b1 := 11) (zkb2 zk_cX3_drawOldSprite zn_cX3_drawOldSprite (by decide +kernel))
theorem dX3_drawOldSprite_160 : decode cX3_drawOldSprite 160 = .ok (.iload 8, 2) := zo_21 (b1 := 8) (zkb2 zk_cX3_drawOldSprite zn_cX3_drawOldSprite (by decide +kernel))
theorem dX3_drawOldSprite_162 : decode cX3_drawOldSprite 162 = .ok (.ifCond .eq 8, 3) := zo_153 (b1 := 0) (b2 := 8) (zkb3 zk_cX3_drawOldSprite zn_cX3_drawOldSprite (by decide +kernel)) rfl
theorem dX3_drawOldSprite_165 : decode cX3_drawOldSprite 165 = .ok (.bipush 16, 2) := zo_16 (b1 := 16) (zkb2 zk_cX3_drawOldSprite zn_cX3_drawOldSprite (by decide +kernel)) rfl
theorem dX3_drawOldSprite_167 : decode cX3_drawOldSprite 167 = .ok (.goto 5, 3) := zo_167 (b1 := 0) (b2 := 5) (zkb3 zk_cX3_drawOldSprite zn_cX3_drawOldSprite (by decide +kernel)) rfl
theorem dX3_drawOldSprite_170 : decode cX3_drawOldSprite 170 = .ok (.bipush 8, 2) := zo_16 (b1 := 8) (zkb2 zk_cX3_drawOldSprite zn_cX3_drawOldSprite (by decide +kernel)) rfl
theorem dX3_drawOldSprite_172 : decode cX3_drawOldSprite 172 = .ok (.iload 7, 2) := zo_21 (b1 := 7) (zkb2 zk_cX3_drawOldSprite zn_cX3_drawOldSprite (by decide +kernel))
theorem dX3_drawOldSprite_174 : decode cX3_drawOldSprite 174 = .ok (.ishl, 1) := zo_120 (zkb zk_cX3_drawOldSprite zn_cX3_drawOldSprite (by decide +kernel))
theorem dX3_drawOldSprite_175 : decode cX3_drawOldSprite 175 = .ok (.if_icmp .ge 55, 3) := zo_162 (b1 := 0) (b2 := 55) (zkb3 zk_cX3_drawOldSprite zn_cX3_drawOldSprite (by decide +kernel)) rfl
theorem dX3_drawOldSprite_178 : decode cX3_drawOldSprite 178 = .ok (.iload 4, 2) := zo_21 (b1 := 4) (zkb2 zk_cX3_drawOldSprite zn_cX3_drawOldSprite (by decide +kernel))
theorem dX3_drawOldSprite_180 : decode cX3_drawOldSprite 180 = .ok (.iload 11, 2) := zo_21 (b1 := 11) (zkb2 zk_cX3_drawOldSprite zn_cX3_drawOldSprite (by decide +kernel))
theorem dX3_drawOldSprite_182 : decode cX3_drawOldSprite 182 = .ok (.iadd, 1) := zo_96 (zkb zk_cX3_drawOldSprite zn_cX3_drawOldSprite (by decide +kernel))
theorem dX3_drawOldSprite_183 : decode cX3_drawOldSprite 183 = .ok (.istore 12, 2) := zo_54 (b1 := 12) (zkb2 zk_cX3_drawOldSprite zn_cX3_drawOldSprite (by decide +kernel))
theorem dX3_drawOldSprite_185 : decode cX3_drawOldSprite 185 = .ok (.iload 10, 2) := zo_21 (b1 := 10) (zkb2 zk_cX3_drawOldSprite zn_cX3_drawOldSprite (by decide +kernel))
theorem dX3_drawOldSprite_187 : decode cX3_drawOldSprite 187 = .ok (.bipush 15, 2) := zo_16 (b1 := 15) (zkb2 zk_cX3_drawOldSprite zn_cX3_drawOldSprite (by decide +kernel)) rfl
theorem dX3_drawOldSprite_189 : decode cX3_drawOldSprite 189 = .ok (.iload 11, 2) := zo_21 (b1 := 11) (zkb2 zk_cX3_drawOldSprite zn_cX3_drawOldSprite (by decide +kernel))
theorem dX3_drawOldSprite_191 : decode cX3_drawOldSprite 191 = .ok (.iload 7, 2) := zo_21 (b1 := 7) (zkb2 zk_cX3_drawOldSprite zn_cX3_drawOldSprite (by decide +kernel))
theorem dX3_drawOldSprite_193 : decode cX3_drawOldSprite 193 = .ok (.ishr, 1) := zo_122 (zkb zk_cX3_drawOldSprite zn_cX3_drawOldSprite (by decide +kernel))
theorem dX3_drawOldSprite_194 : decode cX3_drawOldSprite 194 = .ok (.isub, 1) := zo_100 (zkb zk_cX3_drawOldSprite zn_cX3_drawOldSprite (by decide +kernel))
theorem dX3_drawOldSprite_195 : decode cX3_drawOldSprite 195 = .ok (.ishr, 1) := zo_122 (zkb zk_cX3_drawOldSprite zn_cX3_drawOldSprite (by decide +kernel))
theorem dX3_drawOldSprite_196 : decode cX3_drawOldSprite 196 = .ok (.iconst 1, 1) := zo_4 (zkb zk_cX3_drawOldSprite zn_cX3_drawOldSprite (by decide +kernel))
theorem dX3_drawOldSprite_197 : decode cX3_drawOldSprite 197 = .ok (.iand, 1) := zo_126 (zkb zk_cX3_drawOldSprite zn_cX3_drawOldSprite (by decide +kernel))
theorem dX3_drawOldSprite_198 : decode cX3_drawOldSprite 198 = .ok (.ifCond .eq 26, 3) := zo_153 (b1 := 0) (b2 := 26) (zkb3 zk_cX3_drawOldSprite zn_cX3_drawOldSprite (by decide +kernel)) rfl
theorem dX3_drawOldSprite_201 : decode cX3_drawOldSprite 201 = .ok (.iload 12, 2) := zo_21 (b1 := 12) (zkb2 zk_cX3_drawOldSprite zn_cX3_drawOldSprite (by decide +kernel))
theorem dX3_drawOldSprite_203 : decode cX3_drawOldSprite 203 = .ok (.ifCond .lt 21, 3) := zo_155 (b1 := 0) (b2 := 21) (zkb3 zk_cX3_drawOldSprite zn_cX3_drawOldSprite (by decide +kernel)) rfl
theorem dX3_drawOldSprite_206 : decode cX3_drawOldSprite 206 = .ok (.iload 12, 2) := zo_21 (b1 := 12) (zkb2 zk_cX3_drawOldSprite zn_cX3_drawOldSprite (by decide +kernel))
theorem dX3_drawOldSprite_208 : decode cX3_drawOldSprite 208 = .ok (.sipush 256, 3) := zo_17 (b1 := 1) (b2 := 0) (zkb3 zk_cX3_drawOldSprite zn_cX3_drawOldSprite (by decide +kernel)) rfl
theorem dX3_drawOldSprite_211 : decode cX3_drawOldSprite 211 = .ok (.if_icmp .ge 13, 3) := zo_162 (b1 := 0) (b2 := 13) (zkb3 zk_cX3_drawOldSprite zn_cX3_drawOldSprite (by decide +kernel)) rfl
theorem dX3_drawOldSprite_214 : decode cX3_drawOldSprite 214 = .ok (.aload_n 0, 1) := zo_42 (zkb zk_cX3_drawOldSprite zn_cX3_drawOldSprite (by decide +kernel))
theorem dX3_drawOldSprite_215 : decode cX3_drawOldSprite 215 = .ok (.iload 12, 2) := zo_21 (b1 := 12) (zkb2 zk_cX3_drawOldSprite zn_cX3_drawOldSprite (by decide +kernel))
theorem dX3_drawOldSprite_217 : decode cX3_drawOldSprite 217 = .ok (.iload_n 3, 1) := zo_29 (zkb zk_cX3_drawOldSprite zn_cX3_drawOldSprite (by decide +kernel))
theorem dX3_drawOldSprite_218 : decode cX3_drawOldSprite 218 = .ok (.bipush 15, 2) := zo_16 (b1 := 15) (zkb2 zk_cX3_drawOldSprite zn_cX3_drawOldSprite (by decide +kernel)) rfl
theorem dX3_drawOldSprite_220 : decode cX3_drawOldSprite 220 = .ok (.iand, 1) := zo_126 (zkb zk_cX3_drawOldSprite zn_cX3_drawOldSprite (by decide +kernel))
theorem dX3_drawOldSprite_221 : decode cX3_drawOldSprite 221 = .ok (.invokevirtual 151, 3) := zo_182 (b1 := 0) (b2 := 151) (zkb3 zk_cX3_drawOldSprite zn_cX3_drawOldSprite (by decide +kernel)) rfl
theorem dX3_drawOldSprite_224 : decode cX3_drawOldSprite 224 = .ok (.iinc 11 1, 3) := zo_132 (b1 := 11) (b2 := 1) (zkb3 zk_cX3_drawOldSprite zn_cX3_drawOldSprite (by decide +kernel)) rfl
theorem dX3_drawOldSprite_227 : decode cX3_drawOldSprite 227 = .ok (.goto (-69), 3) := zo_167 (b1 := 255) (b2 := 187) (zkb3 zk_cX3_drawOldSprite zn_cX3_drawOldSprite (by decide +kernel)) rfl
theorem dX3_drawOldSprite_230 : decode cX3_drawOldSprite 230 = .ok (.return_, 1) := zo_177 (zkb zk_cX3_drawOldSprite zn_cX3_drawOldSprite (by decide +kernel))
def kn_cX3_takeDot : Nat := 0xb14f801c0001111b1400b42a0e009a7e0f102e1b1400b42a7b00b620101a00b42a0c00992e1b1400b42a
theorem zk_cX3_takeDot : zkd cX3_takeDot.data.toList kn_cX3_takeDot = true := by decide +kernel
theorem zn_cX3_takeDot : cX3_takeDot.data.toList.length = 42 := by decide +kernel
theorem dX3_takeDot_0 : decode cX3_takeDot 0 = .ok (.aload_n 0, 1) := zo_42 (zkb zk_cX3_takeDot zn_cX3_takeDot (by decide +kernel))
theorem dX3_takeDot_1 : decode cX3_takeDot 1 = .ok (.getfield 20, 3) := zo_180 (b1 := 0) (b2 := 20) (zkb3 zk_cX3_takeDot zn_cX3_takeDot (by decide +kernel)) rfl
theorem dX3_takeDot_4 : decode cX3_takeDot 4 = .ok (.iload_n 1, 1) := zo_27 (zkb zk_cX3_takeDot zn_cX3_takeDot (by decide +kernel))
theorem dX3_takeDot_5 : decode cX3_takeDot 5 = .ok (.iaload, 1) := zo_46 (zkb zk_cX3_takeDot zn_cX3_takeDot (by decide +kernel))
theorem dX3_takeDot_6 : decode cX3_takeDot 6 = .ok (.ifCond .eq 12, 3) := zo_153 (b1 := 0) (b2 := 12) (zkb3 zk_cX3_takeDot zn_cX3_takeDot (by decide +kernel)) rfl
theorem dX3_takeDot_9 : decode cX3_takeDot 9 = .ok (.aload_n 0, 1) := zo_42 (zkb zk_cX3_takeDot zn_cX3_takeDot (by decide +kernel))
theorem dX3_takeDot_10 : decode cX3_takeDot 10 = .ok (.getfield 26, 3) := zo_180 (b1 := 0) (b2 := 26) (zkb3 zk_cX3_takeDot zn_cX3_takeDot (by decide +kernel)) rfl
theorem dX3_takeDot_13 : decode cX3_takeDot 13 = .ok (.bipush 32, 2) := zo_16 (b1 := 32) (zkb2 zk_cX3_takeDot zn_cX3_takeDot (by decide +kernel)) rfl
theorem dX3_takeDot_15 : decode cX3_takeDot 15 = .ok (.invokevirtual 123, 3) := zo_182 (b1 := 0) (b2 := 123) (zkb3 zk_cX3_takeDot zn_cX3_takeDot (by decide +kernel)) rfl
theorem dX3_takeDot_18 : decode cX3_takeDot 18 = .ok (.aload_n 0, 1) := zo_42 (zkb zk_cX3_takeDot zn_cX3_takeDot (by decide +kernel))
theorem dX3_takeDot_19 : decode cX3_takeDot 19 = .ok (.getfield 20, 3) := zo_180 (b1 := 0) (b2 := 20) (zkb3 zk_cX3_takeDot zn_cX3_takeDot (by decide +kernel)) rfl
theorem dX3_takeDot_22 : decode cX3_takeDot 22 = .ok (.iload_n 1, 1) := zo_27 (zkb zk_cX3_takeDot zn_cX3_takeDot (by decide +kernel))
theorem dX3_takeDot_23 : decode cX3_takeDot 23 = .ok (.iaload, 1) := zo_46 (zkb zk_cX3_takeDot zn_cX3_takeDot (by decide +kernel))
theorem dX3_takeDot_24 : decode cX3_takeDot 24 = .ok (.bipush 15, 2) := zo_16 (b1 := 15) (zkb2 zk_cX3_takeDot zn_cX3_takeDot (by decide +kernel)) rfl
theorem dX3_takeDot_26 : decode cX3_takeDot 26 = .ok (.iand, 1) := zo_126 (zkb zk_cX3_takeDot zn_cX3_takeDot (by decide +kernel))
theorem dX3_takeDot_27 : decode cX3_takeDot 27 = .ok (.ifCond .ne 14, 3) := zo_154 (b1 := 0) (b2 := 14) (zkb3 zk_cX3_takeDot zn_cX3_takeDot (by decide +kernel)) rfl
theorem dX3_takeDot_30 : decode cX3_takeDot 30 = .ok (.aload_n 0, 1) := zo_42 (zkb zk_cX3_takeDot zn_cX3_takeDot (by decide +kernel))
theorem dX3_takeDot_31 : decode cX3_takeDot 31 = .ok (.getfield 20, 3) := zo_180 (b1 := 0) (b2 := 20) (zkb3 zk_cX3_takeDot zn_cX3_takeDot (by decide +kernel)) rfl
theorem dX3_takeDot_34 : decode cX3_takeDot 34 = .ok (.iload_n 1, 1) := zo_27 (zkb zk_cX3_takeDot zn_cX3_takeDot (by decide +kernel))
theorem dX3_takeDot_35 : decode cX3_takeDot 35 = .ok (.sipush 256, 3) := zo_17 (b1 := 1) (b2 := 0) (zkb3 zk_cX3_takeDot zn_cX3_takeDot (by decide +kernel)) rfl
theorem dX3_takeDot_38 : decode cX3_takeDot 38 = .ok (.iload_n 2, 1) := zo_28 (zkb zk_cX3_takeDot zn_cX3_takeDot (by decide +kernel))
theorem dX3_takeDot_39 : decode cX3_takeDot 39 = .ok (.ior, 1) := zo_128 (zkb zk_cX3_takeDot zn_cX3_takeDot (by decide +kernel))
theorem dX3_takeDot_40 : decode cX3_takeDot 40 = .ok (.iastore, 1) := zo_79 (zkb zk_cX3_takeDot zn_cX3_takeDot (by decide +kernel))
theorem dX3_takeDot_41 : decode cX3_takeDot 41 = .ok (.return_, 1) := zo_177 (zkb zk_cX3_takeDot zn_cX3_takeDot (by decide +kernel))
def kn_cX4_clear : Nat := 0xb14f0306100900b42a4f03080900b42a4fff0011070900b42a4f03060900b42a4fff0011050900b42a4f7f10040900b42a4fff0011030900b42a
theorem zk_cX4_clear : zkd cX4_clear.data.toList kn_cX4_clear = true := by decide +kernel
theorem zn_cX4_clear : cX4_clear.data.toList.length = 58 := by decide +kernel
theorem dX4_clear_0 : decode cX4_clear 0 = .ok (.aload_n 0, 1) := zo_42 (zkb zk_cX4_clear zn_cX4_clear (by decide +kernel))
theorem dX4_clear_1 : decode cX4_clear 1 = .ok (.getfield 9, 3) := zo_180 (b1 := 0) (b2 := 9) (zkb3 zk_cX4_clear zn_cX4_clear (by decide +kernel)) rfl
theorem dX4_clear_4 : decode cX4_clear 4 = .ok (.iconst 0, 1) := zo_3 (zkb zk_cX4_clear zn_cX4_clear (by decide +kernel))
theorem dX4_clear_5 : decode cX4_clear 5 = .ok (.sipush 255, 3) := zo_17 (b1 := 0) (b2 := 255) (zkb3 zk_cX4_clear zn_cX4_clear (by decide +kernel)) rfl
theorem dX4_clear_8 : decode cX4_clear 8 = .ok (.iastore, 1) := zo_79 (zkb zk_cX4_clear zn_cX4_clear (by decide +kernel))
theorem dX4_clear_9 : decode cX4_clear 9 = .ok (.aload_n 0, 1) := zo_42 (zkb zk_cX4_clear zn_cX4_clear (by decide +kernel))
theorem dX4_clear_10 : decode cX4_clear 10 = .ok (.getfield 9, 3) := zo_180 (b1 := 0) (b2 := 9) (zkb3 zk_cX4_clear zn_cX4_clear (by decide +kernel)) rfl
theorem dX4_clear_13 : decode cX4_clear 13 = .ok (.iconst 1, 1) := zo_4 (zkb zk_cX4_clear zn_cX4_clear (by decide +kernel))
theorem dX4_clear_14 : decode cX4_clear 14 = .ok (.bipush 127, 2) := zo_16 (b1 := 127) (zkb2 zk_cX4_clear zn_cX4_clear (by decide +kernel)) rfl
theorem dX4_clear_16 : decode cX4_clear 16 = .ok (.iastore, 1) := zo_79 (zkb zk_cX4_clear zn_cX4_clear (by decide +kernel))
theorem dX4_clear_17 : decode cX4_clear 17 = .ok (.aload_n 0, 1) := zo_42 (zkb zk_cX4_clear zn_cX4_clear (by decide +kernel))
theorem dX4_clear_18 : decode cX4_clear 18 = .ok (.getfield 9, 3) := zo_180 (b1 := 0) (b2 := 9) (zkb3 zk_cX4_clear zn_cX4_clear (by decide +kernel)) rfl
theorem dX4_clear_21 : decode cX4_clear 21 = .ok (.iconst 2, 1) := zo_5 (zkb zk_cX4_clear zn_cX4_clear (by decide +kernel))
theorem dX4_clear_22 : decode cX4_clear 22 = .ok (.sipush 255, 3) := zo_17 (b1 := 0) (b2 := 255) (zkb3 zk_cX4_clear zn_cX4_clear (by decide +kernel)) rfl
theorem dX4_clear_25 : decode cX4_clear 25 = .ok (.iastore, 1) := zo_79 (zkb zk_cX4_clear zn_cX4_clear (by decide +kernel))
theorem dX4_clear_26 : decode cX4_clear 26 = .ok (.aload_n 0, 1) := zo_42 (zkb zk_cX4_clear zn_cX4_clear (by decide +kernel))
theorem dX4_clear_27 : decode cX4_clear 27 = .ok (.getfield 9, 3) := zo_180 (b1 := 0) (b2 := 9) (zkb3 zk_cX4_clear zn_cX4_clear (by decide +kernel)) rfl
theorem dX4_clear_30 : decode cX4_clear 30 = .ok (.iconst 3, 1) := zo_6 (zkb zk_cX4_clear zn_cX4_clear (by decide +kernel))
theorem dX4_clear_31 : decode cX4_clear 31 = .ok (.iconst 0, 1) := zo_3 (zkb zk_cX4_clear zn_cX4_clear (by decide +kernel))
theorem dX4_clear_32 : decode cX4_clear 32 = .ok (.iastore, 1) := zo_79 (zkb zk_cX4_clear zn_cX4_clear (by decide +kernel))
theorem dX4_clear_33 : decode cX4_clear 33 = .ok (.aload_n 0, 1) := zo_42 (zkb zk_cX4_clear zn_cX4_clear (by decide +kernel))
theorem dX4_clear_34 : decode cX4_clear 34 = .ok (.getfield 9, 3) := zo_180 (b1 := 0) (b2 := 9) (zkb3 zk_cX4_clear zn_cX4_clear (by decide +kernel)) rfl
theorem dX4_clear_37 : decode cX4_clear 37 = .ok (.iconst 4, 1) := zo_7 (zkb zk_cX4_clear zn_cX4_clear (by decide +kernel))
theorem dX4_clear_38 : decode cX4_clear 38 = .ok (.sipush 255, 3) := zo_17 (b1 := 0) (b2 := 255) (zkb3 zk_cX4_clear zn_cX4_clear (by decide +kernel)) rfl
theorem dX4_clear_41 : decode cX4_clear 41 = .ok (.iastore, 1) := zo_79 (zkb zk_cX4_clear zn_cX4_clear (by decide +kernel))
theorem dX4_clear_42 : decode cX4_clear 42 = .ok (.aload_n 0, 1) := zo_42 (zkb zk_cX4_clear zn_cX4_clear (by decide +kernel))
theorem dX4_clear_43 : decode cX4_clear 43 = .ok (.getfield 9, 3) := zo_180 (b1 := 0) (b2 := 9) (zkb3 zk_cX4_clear zn_cX4_clear (by decide +kernel)) rfl
theorem dX4_clear_46 : decode cX4_clear 46 = .ok (.iconst 5, 1) := zo_8 (zkb zk_cX4_clear zn_cX4_clear (by decide +kernel))
theorem dX4_clear_47 : decode cX4_clear 47 = .ok (.iconst 0, 1) := zo_3 (zkb zk_cX4_clear zn_cX4_clear (by decide +kernel))
theorem dX4_clear_48 : decode cX4_clear 48 = .ok (.iastore, 1) := zo_79 (zkb zk_cX4_clear zn_cX4_clear (by decide +kernel))
theorem dX4_clear_49 : decode cX4_clear 49 = .ok (.aload_n 0, 1) := zo_42 (zkb zk_cX4_clear zn_cX4_clear (by decide +kernel))
theorem dX4_clear_50 : decode cX4_clear 50 = .ok (.getfield 9, 3) := zo_180 (b1 := 0) (b2 := 9) (zkb3 zk_cX4_clear zn_cX4_clear (by decide +kernel)) rfl
theorem dX4_clear_53 : decode cX4_clear 53 = .ok (.bipush 6, 2) := zo_16 (b1 := 6) (zkb2 zk_cX4_clear zn_cX4_clear (by decide +kernel)) rfl
theorem dX4_clear_55 : decode cX4_clear 55 = .ok (.iconst 0, 1) := zo_3 (zkb zk_cX4_clear zn_cX4_clear (by decide +kernel))
theorem dX4_clear_56 : decode cX4_clear 56 = .ok (.iastore, 1) := zo_79 (zkb zk_cX4_clear zn_cX4_clear (by decide +kernel))
theorem dX4_clear_57 : decode cX4_clear 57 = .ok (.return_, 1) := zo_177 (zkb zk_cX4_clear zn_cX4_clear (by decide +kernel))
def kn_cX4_keep : Nat := 0xb12300b80c10030d00b42a030900b42a
theorem zk_cX4_keep : zkd cX4_keep.data.toList kn_cX4_keep = true := by decide +kernel
theorem zn_cX4_keep : cX4_keep.data.toList.length = 16 := by decide +kernel
theorem dX4_keep_0 : decode cX4_keep 0 = .ok (.aload_n 0, 1) := zo_42 (zkb zk_cX4_keep zn_cX4_keep (by decide +kernel))
theorem dX4_keep_1 : decode cX4_keep 1 = .ok (.getfield 9, 3) := zo_180 (b1 := 0) (b2 := 9) (zkb3 zk_cX4_keep zn_cX4_keep (by decide +kernel)) rfl
theorem dX4_keep_4 : decode cX4_keep 4 = .ok (.iconst 0, 1) := zo_3 (zkb zk_cX4_keep zn_cX4_keep (by decide +kernel))
theorem dX4_keep_5 : decode cX4_keep 5 = .ok (.aload_n 0, 1) := zo_42 (zkb zk_cX4_keep zn_cX4_keep (by decide +kernel))
theorem dX4_keep_6 : decode cX4_keep 6 = .ok (.getfield 13, 3) := zo_180 (b1 := 0) (b2 := 13) (zkb3 zk_cX4_keep zn_cX4_keep (by decide +kernel)) rfl
theorem dX4_keep_9 : decode cX4_keep 9 = .ok (.iconst 0, 1) := zo_3 (zkb zk_cX4_keep zn_cX4_keep (by decide +kernel))
theorem dX4_keep_10 : decode cX4_keep 10 = .ok (.bipush 12, 2) := zo_16 (b1 := 12) (zkb2 zk_cX4_keep zn_cX4_keep (by decide +kernel)) rfl
theorem dX4_keep_12 : decode cX4_keep 12 = .ok (.invokestatic 35, 3) := zo_184 (b1 := 0) (b2 := 35) (zkb3 zk_cX4_keep zn_cX4_keep (by decide +kernel)) rfl
theorem dX4_keep_15 : decode cX4_keep 15 = .ok (.return_, 1) := zo_177 (zkb zk_cX4_keep zn_cX4_keep (by decide +kernel))
def kn_cX4_bringBack : Nat := 0xb12300b80c10030900b42a030d00b42a
theorem zk_cX4_bringBack : zkd cX4_bringBack.data.toList kn_cX4_bringBack = true := by decide +kernel
theorem zn_cX4_bringBack : cX4_bringBack.data.toList.length = 16 := by decide +kernel
theorem dX4_bringBack_0 : decode cX4_bringBack 0 = .ok (.aload_n 0, 1) := zo_42 (zkb zk_cX4_bringBack zn_cX4_bringBack (by decide +kernel))
theorem dX4_bringBack_1 : decode cX4_bringBack 1 = .ok (.getfield 13, 3) := zo_180 (b1 := 0) (b2 := 13) (zkb3 zk_cX4_bringBack zn_cX4_bringBack (by decide +kernel)) rfl
theorem dX4_bringBack_4 : decode cX4_bringBack 4 = .ok (.iconst 0, 1) := zo_3 (zkb zk_cX4_bringBack zn_cX4_bringBack (by decide +kernel))
theorem dX4_bringBack_5 : decode cX4_bringBack 5 = .ok (.aload_n 0, 1) := zo_42 (zkb zk_cX4_bringBack zn_cX4_bringBack (by decide +kernel))
theorem dX4_bringBack_6 : decode cX4_bringBack 6 = .ok (.getfield 9, 3) := zo_180 (b1 := 0) (b2 := 9) (zkb3 zk_cX4_bringBack zn_cX4_bringBack (by decide +kernel)) rfl
theorem dX4_bringBack_9 : decode cX4_bringBack 9 = .ok (.iconst 0, 1) := zo_3 (zkb zk_cX4_bringBack zn_cX4_bringBack (by decide +kernel))
theorem dX4_bringBack_10 : decode cX4_bringBack 10 = .ok (.bipush 12, 2) := zo_16 (b1 := 12) (zkb2 zk_cX4_bringBack zn_cX4_bringBack (by decide +kernel)) rfl
theorem dX4_bringBack_12 : decode cX4_bringBack 12 = .ok (.invokestatic 35, 3) := zo_184 (b1 := 0) (b2 := 35) (zkb3 zk_cX4_bringBack zn_cX4_bringBack (by decide +kernel)) rfl
theorem dX4_bringBack_15 : decode cX4_bringBack 15 = .ok (.return_, 1) := zo_177 (zkb zk_cX4_bringBack zn_cX4_bringBack (by decide +kernel))
def kn_cX4_value : Nat := 0xac030400a72e1b0900b42a0c00a20c101b12009b1b
theorem zk_cX4_value : zkd cX4_value.data.toList kn_cX4_value = true := by decide +kernel
theorem zn_cX4_value : cX4_value.data.toList.length = 21 := by decide +kernel
theorem dX4_value_0 : decode cX4_value 0 = .ok (.iload_n 1, 1) := zo_27 (zkb zk_cX4_value zn_cX4_value (by decide +kernel))
theorem dX4_value_1 : decode cX4_value 1 = .ok (.ifCond .lt 18, 3) := zo_155 (b1 := 0) (b2 := 18) (zkb3 zk_cX4_value zn_cX4_value (by decide +kernel)) rfl
theorem dX4_value_4 : decode cX4_value 4 = .ok (.iload_n 1, 1) := zo_27 (zkb zk_cX4_value zn_cX4_value (by decide +kernel))
theorem dX4_value_5 : decode cX4_value 5 = .ok (.bipush 12, 2) := zo_16 (b1 := 12) (zkb2 zk_cX4_value zn_cX4_value (by decide +kernel)) rfl
theorem dX4_value_7 : decode cX4_value 7 = .ok (.if_icmp .ge 12, 3) := zo_162 (b1 := 0) (b2 := 12) (zkb3 zk_cX4_value zn_cX4_value (by decide +kernel)) rfl
theorem dX4_value_10 : decode cX4_value 10 = .ok (.aload_n 0, 1) := zo_42 (zkb zk_cX4_value zn_cX4_value (by decide +kernel))
theorem dX4_value_11 : decode cX4_value 11 = .ok (.getfield 9, 3) := zo_180 (b1 := 0) (b2 := 9) (zkb3 zk_cX4_value zn_cX4_value (by decide +kernel)) rfl
theorem dX4_value_14 : decode cX4_value 14 = .ok (.iload_n 1, 1) := zo_27 (zkb zk_cX4_value zn_cX4_value (by decide +kernel))
theorem dX4_value_15 : decode cX4_value 15 = .ok (.iaload, 1) := zo_46 (zkb zk_cX4_value zn_cX4_value (by decide +kernel))
theorem dX4_value_16 : decode cX4_value 16 = .ok (.goto 4, 3) := zo_167 (b1 := 0) (b2 := 4) (zkb3 zk_cX4_value zn_cX4_value (by decide +kernel)) rfl
theorem dX4_value_19 : decode cX4_value 19 = .ok (.iconst 0, 1) := zo_3 (zkb zk_cX4_value zn_cX4_value (by decide +kernel))
theorem dX4_value_20 : decode cX4_value 20 = .ok (.ireturn, 1) := zo_172 (zkb zk_cX4_value zn_cX4_value (by decide +kernel))
def kn_cX4_canPress : Nat := 0xac030400a7040700a33f101b0d009b1b1100a3041a16009b1a
theorem zk_cX4_canPress : zkd cX4_canPress.data.toList kn_cX4_canPress = true := by decide +kernel
theorem zn_cX4_canPress : cX4_canPress.data.toList.length = 25 := by decide +kernel
theorem dX4_canPress_0 : decode cX4_canPress 0 = .ok (.iload_n 0, 1) := zo_26 (zkb zk_cX4_canPress zn_cX4_canPress (by decide +kernel))
theorem dX4_canPress_1 : decode cX4_canPress 1 = .ok (.ifCond .lt 22, 3) := zo_155 (b1 := 0) (b2 := 22) (zkb3 zk_cX4_canPress zn_cX4_canPress (by decide +kernel)) rfl
theorem dX4_canPress_4 : decode cX4_canPress 4 = .ok (.iload_n 0, 1) := zo_26 (zkb zk_cX4_canPress zn_cX4_canPress (by decide +kernel))
theorem dX4_canPress_5 : decode cX4_canPress 5 = .ok (.iconst 1, 1) := zo_4 (zkb zk_cX4_canPress zn_cX4_canPress (by decide +kernel))
theorem dX4_canPress_6 : decode cX4_canPress 6 = .ok (.if_icmp .gt 17, 3) := zo_163 (b1 := 0) (b2 := 17) (zkb3 zk_cX4_canPress zn_cX4_canPress (by decide +kernel)) rfl
theorem dX4_canPress_9 : decode cX4_canPress 9 = .ok (.iload_n 1, 1) := zo_27 (zkb zk_cX4_canPress zn_cX4_canPress (by decide +kernel))
theorem dX4_canPress_10 : decode cX4_canPress 10 = .ok (.ifCond .lt 13, 3) := zo_155 (b1 := 0) (b2 := 13) (zkb3 zk_cX4_canPress zn_cX4_canPress (by decide +kernel)) rfl
theorem dX4_canPress_13 : decode cX4_canPress 13 = .ok (.iload_n 1, 1) := zo_27 (zkb zk_cX4_canPress zn_cX4_canPress (by decide +kernel))
theorem dX4_canPress_14 : decode cX4_canPress 14 = .ok (.bipush 63, 2) := zo_16 (b1 := 63) (zkb2 zk_cX4_canPress zn_cX4_canPress (by decide +kernel)) rfl
theorem dX4_canPress_16 : decode cX4_canPress 16 = .ok (.if_icmp .gt 7, 3) := zo_163 (b1 := 0) (b2 := 7) (zkb3 zk_cX4_canPress zn_cX4_canPress (by decide +kernel)) rfl
theorem dX4_canPress_19 : decode cX4_canPress 19 = .ok (.iconst 1, 1) := zo_4 (zkb zk_cX4_canPress zn_cX4_canPress (by decide +kernel))
theorem dX4_canPress_20 : decode cX4_canPress 20 = .ok (.goto 4, 3) := zo_167 (b1 := 0) (b2 := 4) (zkb3 zk_cX4_canPress zn_cX4_canPress (by decide +kernel)) rfl
theorem dX4_canPress_23 : decode cX4_canPress 23 = .ok (.iconst 0, 1) := zo_3 (zkb zk_cX4_canPress zn_cX4_canPress (by decide +kernel))
theorem dX4_canPress_24 : decode cX4_canPress 24 = .ok (.ireturn, 1) := zo_172 (zkb zk_cX4_canPress zn_cX4_canPress (by decide +kernel))
def kn_cX4_holdStart : Nat := 0xb14f030400a7040700991b09100900b42a
theorem zk_cX4_holdStart : zkd cX4_holdStart.data.toList kn_cX4_holdStart = true := by decide +kernel
theorem zn_cX4_holdStart : cX4_holdStart.data.toList.length = 17 := by decide +kernel
theorem dX4_holdStart_0 : decode cX4_holdStart 0 = .ok (.aload_n 0, 1) := zo_42 (zkb zk_cX4_holdStart zn_cX4_holdStart (by decide +kernel))
theorem dX4_holdStart_1 : decode cX4_holdStart 1 = .ok (.getfield 9, 3) := zo_180 (b1 := 0) (b2 := 9) (zkb3 zk_cX4_holdStart zn_cX4_holdStart (by decide +kernel)) rfl
theorem dX4_holdStart_4 : decode cX4_holdStart 4 = .ok (.bipush 9, 2) := zo_16 (b1 := 9) (zkb2 zk_cX4_holdStart zn_cX4_holdStart (by decide +kernel)) rfl
theorem dX4_holdStart_6 : decode cX4_holdStart 6 = .ok (.iload_n 1, 1) := zo_27 (zkb zk_cX4_holdStart zn_cX4_holdStart (by decide +kernel))
theorem dX4_holdStart_7 : decode cX4_holdStart 7 = .ok (.ifCond .eq 7, 3) := zo_153 (b1 := 0) (b2 := 7) (zkb3 zk_cX4_holdStart zn_cX4_holdStart (by decide +kernel)) rfl
theorem dX4_holdStart_10 : decode cX4_holdStart 10 = .ok (.iconst 1, 1) := zo_4 (zkb zk_cX4_holdStart zn_cX4_holdStart (by decide +kernel))
theorem dX4_holdStart_11 : decode cX4_holdStart 11 = .ok (.goto 4, 3) := zo_167 (b1 := 0) (b2 := 4) (zkb3 zk_cX4_holdStart zn_cX4_holdStart (by decide +kernel)) rfl
theorem dX4_holdStart_14 : decode cX4_holdStart 14 = .ok (.iconst 0, 1) := zo_3 (zkb zk_cX4_holdStart zn_cX4_holdStart (by decide +kernel))
theorem dX4_holdStart_15 : decode cX4_holdStart 15 = .ok (.iastore, 1) := zo_79 (zkb zk_cX4_holdStart zn_cX4_holdStart (by decide +kernel))
theorem dX4_holdStart_16 : decode cX4_holdStart 16 = .ok (.return_, 1) := zo_177 (zkb zk_cX4_holdStart zn_cX4_holdStart (by decide +kernel))
def kn_cX4_moveLine : Nat := 0xb12900b6030400a7040700991c607e041b0a102a
theorem zk_cX4_moveLine : zkd cX4_moveLine.data.toList kn_cX4_moveLine = true := by decide +kernel
theorem zn_cX4_moveLine : cX4_moveLine.data.toList.length = 20 := by decide +kernel
theorem dX4_moveLine_0 : decode cX4_moveLine 0 = .ok (.aload_n 0, 1) := zo_42 (zkb zk_cX4_moveLine zn_cX4_moveLine (by decide +kernel))
theorem dX4_moveLine_1 : decode cX4_moveLine 1 = .ok (.bipush 10, 2) := zo_16 (b1 := 10) (zkb2 zk_cX4_moveLine zn_cX4_moveLine (by decide +kernel)) rfl
theorem dX4_moveLine_3 : decode cX4_moveLine 3 = .ok (.iload_n 1, 1) := zo_27 (zkb zk_cX4_moveLine zn_cX4_moveLine (by decide +kernel))
theorem dX4_moveLine_4 : decode cX4_moveLine 4 = .ok (.iconst 1, 1) := zo_4 (zkb zk_cX4_moveLine zn_cX4_moveLine (by decide +kernel))
theorem dX4_moveLine_5 : decode cX4_moveLine 5 = .ok (.iand, 1) := zo_126 (zkb zk_cX4_moveLine zn_cX4_moveLine (by decide +kernel))
theorem dX4_moveLine_6 : decode cX4_moveLine 6 = .ok (.iadd, 1) := zo_96 (zkb zk_cX4_moveLine zn_cX4_moveLine (by decide +kernel))
theorem dX4_moveLine_7 : decode cX4_moveLine 7 = .ok (.iload_n 2, 1) := zo_28 (zkb zk_cX4_moveLine zn_cX4_moveLine (by decide +kernel))
theorem dX4_moveLine_8 : decode cX4_moveLine 8 = .ok (.ifCond .eq 7, 3) := zo_153 (b1 := 0) (b2 := 7) (zkb3 zk_cX4_moveLine zn_cX4_moveLine (by decide +kernel)) rfl
theorem dX4_moveLine_11 : decode cX4_moveLine 11 = .ok (.iconst 1, 1) := zo_4 (zkb zk_cX4_moveLine zn_cX4_moveLine (by decide +kernel))
theorem dX4_moveLine_12 : decode cX4_moveLine 12 = .ok (.goto 4, 3) := zo_167 (b1 := 0) (b2 := 4) (zkb3 zk_cX4_moveLine zn_cX4_moveLine (by decide +kernel)) rfl
theorem dX4_moveLine_15 : decode cX4_moveLine 15 = .ok (.iconst 0, 1) := zo_3 (zkb zk_cX4_moveLine zn_cX4_moveLine (by decide +kernel))
theorem dX4_moveLine_16 : decode cX4_moveLine 16 = .ok (.invokevirtual 41, 3) := zo_182 (b1 := 0) (b2 := 41) (zkb3 zk_cX4_moveLine zn_cX4_moveLine (by decide +kernel)) rfl
theorem dX4_moveLine_19 : decode cX4_moveLine 19 = .ok (.return_, 1) := zo_177 (zkb zk_cX4_moveLine zn_cX4_moveLine (by decide +kernel))
def kn_cX4_lines : Nat := 0xac8078041d1c3e2e0b100900b42a0a00a77e047a07101b0c009a7e08101b3d2e0a100900b42a0a00a77e047a081b0b009a7e051b3c2e030900b42a
theorem zk_cX4_lines : zkd cX4_lines.data.toList kn_cX4_lines = true := by decide +kernel
theorem zn_cX4_lines : cX4_lines.data.toList.length = 59 := by decide +kernel
theorem dX4_lines_0 : decode cX4_lines 0 = .ok (.aload_n 0, 1) := zo_42 (zkb zk_cX4_lines zn_cX4_lines (by decide +kernel))
theorem dX4_lines_1 : decode cX4_lines 1 = .ok (.getfield 9, 3) := zo_180 (b1 := 0) (b2 := 9) (zkb3 zk_cX4_lines zn_cX4_lines (by decide +kernel)) rfl
theorem dX4_lines_4 : decode cX4_lines 4 = .ok (.iconst 0, 1) := zo_3 (zkb zk_cX4_lines zn_cX4_lines (by decide +kernel))
theorem dX4_lines_5 : decode cX4_lines 5 = .ok (.iaload, 1) := zo_46 (zkb zk_cX4_lines zn_cX4_lines (by decide +kernel))
theorem dX4_lines_6 : decode cX4_lines 6 = .ok (.istore_n 1, 1) := zo_60 (zkb zk_cX4_lines zn_cX4_lines (by decide +kernel))
theorem dX4_lines_7 : decode cX4_lines 7 = .ok (.iload_n 1, 1) := zo_27 (zkb zk_cX4_lines zn_cX4_lines (by decide +kernel))
theorem dX4_lines_8 : decode cX4_lines 8 = .ok (.iconst 2, 1) := zo_5 (zkb zk_cX4_lines zn_cX4_lines (by decide +kernel))
theorem dX4_lines_9 : decode cX4_lines 9 = .ok (.iand, 1) := zo_126 (zkb zk_cX4_lines zn_cX4_lines (by decide +kernel))
theorem dX4_lines_10 : decode cX4_lines 10 = .ok (.ifCond .ne 11, 3) := zo_154 (b1 := 0) (b2 := 11) (zkb3 zk_cX4_lines zn_cX4_lines (by decide +kernel)) rfl
theorem dX4_lines_13 : decode cX4_lines 13 = .ok (.iload_n 1, 1) := zo_27 (zkb zk_cX4_lines zn_cX4_lines (by decide +kernel))
theorem dX4_lines_14 : decode cX4_lines 14 = .ok (.iconst 5, 1) := zo_8 (zkb zk_cX4_lines zn_cX4_lines (by decide +kernel))
theorem dX4_lines_15 : decode cX4_lines 15 = .ok (.ishr, 1) := zo_122 (zkb zk_cX4_lines zn_cX4_lines (by decide +kernel))
theorem dX4_lines_16 : decode cX4_lines 16 = .ok (.iconst 1, 1) := zo_4 (zkb zk_cX4_lines zn_cX4_lines (by decide +kernel))
theorem dX4_lines_17 : decode cX4_lines 17 = .ok (.iand, 1) := zo_126 (zkb zk_cX4_lines zn_cX4_lines (by decide +kernel))
theorem dX4_lines_18 : decode cX4_lines 18 = .ok (.goto 10, 3) := zo_167 (b1 := 0) (b2 := 10) (zkb3 zk_cX4_lines zn_cX4_lines (by decide +kernel)) rfl
theorem dX4_lines_21 : decode cX4_lines 21 = .ok (.aload_n 0, 1) := zo_42 (zkb zk_cX4_lines zn_cX4_lines (by decide +kernel))
theorem dX4_lines_22 : decode cX4_lines 22 = .ok (.getfield 9, 3) := zo_180 (b1 := 0) (b2 := 9) (zkb3 zk_cX4_lines zn_cX4_lines (by decide +kernel)) rfl
theorem dX4_lines_25 : decode cX4_lines 25 = .ok (.bipush 10, 2) := zo_16 (b1 := 10) (zkb2 zk_cX4_lines zn_cX4_lines (by decide +kernel)) rfl
theorem dX4_lines_27 : decode cX4_lines 27 = .ok (.iaload, 1) := zo_46 (zkb zk_cX4_lines zn_cX4_lines (by decide +kernel))
theorem dX4_lines_28 : decode cX4_lines 28 = .ok (.istore_n 2, 1) := zo_61 (zkb zk_cX4_lines zn_cX4_lines (by decide +kernel))
theorem dX4_lines_29 : decode cX4_lines 29 = .ok (.iload_n 1, 1) := zo_27 (zkb zk_cX4_lines zn_cX4_lines (by decide +kernel))
theorem dX4_lines_30 : decode cX4_lines 30 = .ok (.bipush 8, 2) := zo_16 (b1 := 8) (zkb2 zk_cX4_lines zn_cX4_lines (by decide +kernel)) rfl
theorem dX4_lines_32 : decode cX4_lines 32 = .ok (.iand, 1) := zo_126 (zkb zk_cX4_lines zn_cX4_lines (by decide +kernel))
theorem dX4_lines_33 : decode cX4_lines 33 = .ok (.ifCond .ne 12, 3) := zo_154 (b1 := 0) (b2 := 12) (zkb3 zk_cX4_lines zn_cX4_lines (by decide +kernel)) rfl
theorem dX4_lines_36 : decode cX4_lines 36 = .ok (.iload_n 1, 1) := zo_27 (zkb zk_cX4_lines zn_cX4_lines (by decide +kernel))
theorem dX4_lines_37 : decode cX4_lines 37 = .ok (.bipush 7, 2) := zo_16 (b1 := 7) (zkb2 zk_cX4_lines zn_cX4_lines (by decide +kernel)) rfl
theorem dX4_lines_39 : decode cX4_lines 39 = .ok (.ishr, 1) := zo_122 (zkb zk_cX4_lines zn_cX4_lines (by decide +kernel))
theorem dX4_lines_40 : decode cX4_lines 40 = .ok (.iconst 1, 1) := zo_4 (zkb zk_cX4_lines zn_cX4_lines (by decide +kernel))
theorem dX4_lines_41 : decode cX4_lines 41 = .ok (.iand, 1) := zo_126 (zkb zk_cX4_lines zn_cX4_lines (by decide +kernel))
theorem dX4_lines_42 : decode cX4_lines 42 = .ok (.goto 10, 3) := zo_167 (b1 := 0) (b2 := 10) (zkb3 zk_cX4_lines zn_cX4_lines (by decide +kernel)) rfl
theorem dX4_lines_45 : decode cX4_lines 45 = .ok (.aload_n 0, 1) := zo_42 (zkb zk_cX4_lines zn_cX4_lines (by decide +kernel))
theorem dX4_lines_46 : decode cX4_lines 46 = .ok (.getfield 9, 3) := zo_180 (b1 := 0) (b2 := 9) (zkb3 zk_cX4_lines zn_cX4_lines (by decide +kernel)) rfl
theorem dX4_lines_49 : decode cX4_lines 49 = .ok (.bipush 11, 2) := zo_16 (b1 := 11) (zkb2 zk_cX4_lines zn_cX4_lines (by decide +kernel)) rfl
theorem dX4_lines_51 : decode cX4_lines 51 = .ok (.iaload, 1) := zo_46 (zkb zk_cX4_lines zn_cX4_lines (by decide +kernel))
theorem dX4_lines_52 : decode cX4_lines 52 = .ok (.istore_n 3, 1) := zo_62 (zkb zk_cX4_lines zn_cX4_lines (by decide +kernel))
theorem dX4_lines_53 : decode cX4_lines 53 = .ok (.iload_n 2, 1) := zo_28 (zkb zk_cX4_lines zn_cX4_lines (by decide +kernel))
theorem dX4_lines_54 : decode cX4_lines 54 = .ok (.iload_n 3, 1) := zo_29 (zkb zk_cX4_lines zn_cX4_lines (by decide +kernel))
theorem dX4_lines_55 : decode cX4_lines 55 = .ok (.iconst 1, 1) := zo_4 (zkb zk_cX4_lines zn_cX4_lines (by decide +kernel))
theorem dX4_lines_56 : decode cX4_lines 56 = .ok (.ishl, 1) := zo_120 (zkb zk_cX4_lines zn_cX4_lines (by decide +kernel))
theorem dX4_lines_57 : decode cX4_lines 57 = .ok (.ior, 1) := zo_128 (zkb zk_cX4_lines zn_cX4_lines (by decide +kernel))
theorem dX4_lines_58 : decode cX4_lines 58 = .ok (.ireturn, 1) := zo_172 (zkb zk_cX4_lines zn_cX4_lines (by decide +kernel))
def kn_cX4_changeLines : Nat := 0xb14f3100b61400b42a06100900b42a1100997e82021d2d00b62a4f1c1b0900b42a3e2d00b62a
theorem zk_cX4_changeLines : zkd cX4_changeLines.data.toList kn_cX4_changeLines = true := by decide +kernel
theorem zn_cX4_changeLines : cX4_changeLines.data.toList.length = 38 := by decide +kernel
theorem dX4_changeLines_0 : decode cX4_changeLines 0 = .ok (.aload_n 0, 1) := zo_42 (zkb zk_cX4_changeLines zn_cX4_changeLines (by decide +kernel))
theorem dX4_changeLines_1 : decode cX4_changeLines 1 = .ok (.invokevirtual 45, 3) := zo_182 (b1 := 0) (b2 := 45) (zkb3 zk_cX4_changeLines zn_cX4_changeLines (by decide +kernel)) rfl
theorem dX4_changeLines_4 : decode cX4_changeLines 4 = .ok (.istore_n 3, 1) := zo_62 (zkb zk_cX4_changeLines zn_cX4_changeLines (by decide +kernel))
theorem dX4_changeLines_5 : decode cX4_changeLines 5 = .ok (.aload_n 0, 1) := zo_42 (zkb zk_cX4_changeLines zn_cX4_changeLines (by decide +kernel))
theorem dX4_changeLines_6 : decode cX4_changeLines 6 = .ok (.getfield 9, 3) := zo_180 (b1 := 0) (b2 := 9) (zkb3 zk_cX4_changeLines zn_cX4_changeLines (by decide +kernel)) rfl
theorem dX4_changeLines_9 : decode cX4_changeLines 9 = .ok (.iload_n 1, 1) := zo_27 (zkb zk_cX4_changeLines zn_cX4_changeLines (by decide +kernel))
theorem dX4_changeLines_10 : decode cX4_changeLines 10 = .ok (.iload_n 2, 1) := zo_28 (zkb zk_cX4_changeLines zn_cX4_changeLines (by decide +kernel))
theorem dX4_changeLines_11 : decode cX4_changeLines 11 = .ok (.iastore, 1) := zo_79 (zkb zk_cX4_changeLines zn_cX4_changeLines (by decide +kernel))
theorem dX4_changeLines_12 : decode cX4_changeLines 12 = .ok (.aload_n 0, 1) := zo_42 (zkb zk_cX4_changeLines zn_cX4_changeLines (by decide +kernel))
theorem dX4_changeLines_13 : decode cX4_changeLines 13 = .ok (.invokevirtual 45, 3) := zo_182 (b1 := 0) (b2 := 45) (zkb3 zk_cX4_changeLines zn_cX4_changeLines (by decide +kernel)) rfl
theorem dX4_changeLines_16 : decode cX4_changeLines 16 = .ok (.iload_n 3, 1) := zo_29 (zkb zk_cX4_changeLines zn_cX4_changeLines (by decide +kernel))
theorem dX4_changeLines_17 : decode cX4_changeLines 17 = .ok (.iconst (-1), 1) := zo_2 (zkb zk_cX4_changeLines zn_cX4_changeLines (by decide +kernel))
theorem dX4_changeLines_18 : decode cX4_changeLines 18 = .ok (.ixor, 1) := zo_130 (zkb zk_cX4_changeLines zn_cX4_changeLines (by decide +kernel))
theorem dX4_changeLines_19 : decode cX4_changeLines 19 = .ok (.iand, 1) := zo_126 (zkb zk_cX4_changeLines zn_cX4_changeLines (by decide +kernel))
theorem dX4_changeLines_20 : decode cX4_changeLines 20 = .ok (.ifCond .eq 17, 3) := zo_153 (b1 := 0) (b2 := 17) (zkb3 zk_cX4_changeLines zn_cX4_changeLines (by decide +kernel)) rfl
theorem dX4_changeLines_23 : decode cX4_changeLines 23 = .ok (.aload_n 0, 1) := zo_42 (zkb zk_cX4_changeLines zn_cX4_changeLines (by decide +kernel))
theorem dX4_changeLines_24 : decode cX4_changeLines 24 = .ok (.getfield 9, 3) := zo_180 (b1 := 0) (b2 := 9) (zkb3 zk_cX4_changeLines zn_cX4_changeLines (by decide +kernel)) rfl
theorem dX4_changeLines_27 : decode cX4_changeLines 27 = .ok (.bipush 6, 2) := zo_16 (b1 := 6) (zkb2 zk_cX4_changeLines zn_cX4_changeLines (by decide +kernel)) rfl
theorem dX4_changeLines_29 : decode cX4_changeLines 29 = .ok (.aload_n 0, 1) := zo_42 (zkb zk_cX4_changeLines zn_cX4_changeLines (by decide +kernel))
theorem dX4_changeLines_30 : decode cX4_changeLines 30 = .ok (.getfield 20, 3) := zo_180 (b1 := 0) (b2 := 20) (zkb3 zk_cX4_changeLines zn_cX4_changeLines (by decide +kernel)) rfl
theorem dX4_changeLines_33 : decode cX4_changeLines 33 = .ok (.invokevirtual 49, 3) := zo_182 (b1 := 0) (b2 := 49) (zkb3 zk_cX4_changeLines zn_cX4_changeLines (by decide +kernel)) rfl
theorem dX4_changeLines_36 : decode cX4_changeLines 36 = .ok (.iastore, 1) := zo_79 (zkb zk_cX4_changeLines zn_cX4_changeLines (by decide +kernel))
theorem dX4_changeLines_37 : decode cX4_changeLines 37 = .ok (.return_, 1) := zo_177 (zkb zk_cX4_changeLines zn_cX4_changeLines (by decide +kernel))
def kn_cX4_readEvenPads : Nat := 0xac1b0400a78078047e10102e030900b42a7edf101b16009a7e042e030900b42a3c7eff00118202807806102e08100900b42a2e07100900b42a
theorem zk_cX4_readEvenPads : zkd cX4_readEvenPads.data.toList kn_cX4_readEvenPads = true := by decide +kernel
theorem zn_cX4_readEvenPads : cX4_readEvenPads.data.toList.length = 57 := by decide +kernel
theorem dX4_readEvenPads_0 : decode cX4_readEvenPads 0 = .ok (.aload_n 0, 1) := zo_42 (zkb zk_cX4_readEvenPads zn_cX4_readEvenPads (by decide +kernel))
theorem dX4_readEvenPads_1 : decode cX4_readEvenPads 1 = .ok (.getfield 9, 3) := zo_180 (b1 := 0) (b2 := 9) (zkb3 zk_cX4_readEvenPads zn_cX4_readEvenPads (by decide +kernel)) rfl
theorem dX4_readEvenPads_4 : decode cX4_readEvenPads 4 = .ok (.bipush 7, 2) := zo_16 (b1 := 7) (zkb2 zk_cX4_readEvenPads zn_cX4_readEvenPads (by decide +kernel)) rfl
theorem dX4_readEvenPads_6 : decode cX4_readEvenPads 6 = .ok (.iaload, 1) := zo_46 (zkb zk_cX4_readEvenPads zn_cX4_readEvenPads (by decide +kernel))
theorem dX4_readEvenPads_7 : decode cX4_readEvenPads 7 = .ok (.aload_n 0, 1) := zo_42 (zkb zk_cX4_readEvenPads zn_cX4_readEvenPads (by decide +kernel))
theorem dX4_readEvenPads_8 : decode cX4_readEvenPads 8 = .ok (.getfield 9, 3) := zo_180 (b1 := 0) (b2 := 9) (zkb3 zk_cX4_readEvenPads zn_cX4_readEvenPads (by decide +kernel)) rfl
theorem dX4_readEvenPads_11 : decode cX4_readEvenPads 11 = .ok (.bipush 8, 2) := zo_16 (b1 := 8) (zkb2 zk_cX4_readEvenPads zn_cX4_readEvenPads (by decide +kernel)) rfl
theorem dX4_readEvenPads_13 : decode cX4_readEvenPads 13 = .ok (.iaload, 1) := zo_46 (zkb zk_cX4_readEvenPads zn_cX4_readEvenPads (by decide +kernel))
theorem dX4_readEvenPads_14 : decode cX4_readEvenPads 14 = .ok (.bipush 6, 2) := zo_16 (b1 := 6) (zkb2 zk_cX4_readEvenPads zn_cX4_readEvenPads (by decide +kernel)) rfl
theorem dX4_readEvenPads_16 : decode cX4_readEvenPads 16 = .ok (.ishl, 1) := zo_120 (zkb zk_cX4_readEvenPads zn_cX4_readEvenPads (by decide +kernel))
theorem dX4_readEvenPads_17 : decode cX4_readEvenPads 17 = .ok (.ior, 1) := zo_128 (zkb zk_cX4_readEvenPads zn_cX4_readEvenPads (by decide +kernel))
theorem dX4_readEvenPads_18 : decode cX4_readEvenPads 18 = .ok (.iconst (-1), 1) := zo_2 (zkb zk_cX4_readEvenPads zn_cX4_readEvenPads (by decide +kernel))
theorem dX4_readEvenPads_19 : decode cX4_readEvenPads 19 = .ok (.ixor, 1) := zo_130 (zkb zk_cX4_readEvenPads zn_cX4_readEvenPads (by decide +kernel))
theorem dX4_readEvenPads_20 : decode cX4_readEvenPads 20 = .ok (.sipush 255, 3) := zo_17 (b1 := 0) (b2 := 255) (zkb3 zk_cX4_readEvenPads zn_cX4_readEvenPads (by decide +kernel)) rfl
theorem dX4_readEvenPads_23 : decode cX4_readEvenPads 23 = .ok (.iand, 1) := zo_126 (zkb zk_cX4_readEvenPads zn_cX4_readEvenPads (by decide +kernel))
theorem dX4_readEvenPads_24 : decode cX4_readEvenPads 24 = .ok (.istore_n 1, 1) := zo_60 (zkb zk_cX4_readEvenPads zn_cX4_readEvenPads (by decide +kernel))
theorem dX4_readEvenPads_25 : decode cX4_readEvenPads 25 = .ok (.aload_n 0, 1) := zo_42 (zkb zk_cX4_readEvenPads zn_cX4_readEvenPads (by decide +kernel))
theorem dX4_readEvenPads_26 : decode cX4_readEvenPads 26 = .ok (.getfield 9, 3) := zo_180 (b1 := 0) (b2 := 9) (zkb3 zk_cX4_readEvenPads zn_cX4_readEvenPads (by decide +kernel)) rfl
theorem dX4_readEvenPads_29 : decode cX4_readEvenPads 29 = .ok (.iconst 0, 1) := zo_3 (zkb zk_cX4_readEvenPads zn_cX4_readEvenPads (by decide +kernel))
theorem dX4_readEvenPads_30 : decode cX4_readEvenPads 30 = .ok (.iaload, 1) := zo_46 (zkb zk_cX4_readEvenPads zn_cX4_readEvenPads (by decide +kernel))
theorem dX4_readEvenPads_31 : decode cX4_readEvenPads 31 = .ok (.iconst 1, 1) := zo_4 (zkb zk_cX4_readEvenPads zn_cX4_readEvenPads (by decide +kernel))
theorem dX4_readEvenPads_32 : decode cX4_readEvenPads 32 = .ok (.iand, 1) := zo_126 (zkb zk_cX4_readEvenPads zn_cX4_readEvenPads (by decide +kernel))
theorem dX4_readEvenPads_33 : decode cX4_readEvenPads 33 = .ok (.ifCond .ne 22, 3) := zo_154 (b1 := 0) (b2 := 22) (zkb3 zk_cX4_readEvenPads zn_cX4_readEvenPads (by decide +kernel)) rfl
theorem dX4_readEvenPads_36 : decode cX4_readEvenPads 36 = .ok (.iload_n 1, 1) := zo_27 (zkb zk_cX4_readEvenPads zn_cX4_readEvenPads (by decide +kernel))
theorem dX4_readEvenPads_37 : decode cX4_readEvenPads 37 = .ok (.bipush (-33), 2) := zo_16 (b1 := 223) (zkb2 zk_cX4_readEvenPads zn_cX4_readEvenPads (by decide +kernel)) rfl
theorem dX4_readEvenPads_39 : decode cX4_readEvenPads 39 = .ok (.iand, 1) := zo_126 (zkb zk_cX4_readEvenPads zn_cX4_readEvenPads (by decide +kernel))
theorem dX4_readEvenPads_40 : decode cX4_readEvenPads 40 = .ok (.aload_n 0, 1) := zo_42 (zkb zk_cX4_readEvenPads zn_cX4_readEvenPads (by decide +kernel))
theorem dX4_readEvenPads_41 : decode cX4_readEvenPads 41 = .ok (.getfield 9, 3) := zo_180 (b1 := 0) (b2 := 9) (zkb3 zk_cX4_readEvenPads zn_cX4_readEvenPads (by decide +kernel)) rfl
theorem dX4_readEvenPads_44 : decode cX4_readEvenPads 44 = .ok (.iconst 0, 1) := zo_3 (zkb zk_cX4_readEvenPads zn_cX4_readEvenPads (by decide +kernel))
theorem dX4_readEvenPads_45 : decode cX4_readEvenPads 45 = .ok (.iaload, 1) := zo_46 (zkb zk_cX4_readEvenPads zn_cX4_readEvenPads (by decide +kernel))
theorem dX4_readEvenPads_46 : decode cX4_readEvenPads 46 = .ok (.bipush 16, 2) := zo_16 (b1 := 16) (zkb2 zk_cX4_readEvenPads zn_cX4_readEvenPads (by decide +kernel)) rfl
theorem dX4_readEvenPads_48 : decode cX4_readEvenPads 48 = .ok (.iand, 1) := zo_126 (zkb zk_cX4_readEvenPads zn_cX4_readEvenPads (by decide +kernel))
theorem dX4_readEvenPads_49 : decode cX4_readEvenPads 49 = .ok (.iconst 1, 1) := zo_4 (zkb zk_cX4_readEvenPads zn_cX4_readEvenPads (by decide +kernel))
theorem dX4_readEvenPads_50 : decode cX4_readEvenPads 50 = .ok (.ishl, 1) := zo_120 (zkb zk_cX4_readEvenPads zn_cX4_readEvenPads (by decide +kernel))
theorem dX4_readEvenPads_51 : decode cX4_readEvenPads 51 = .ok (.ior, 1) := zo_128 (zkb zk_cX4_readEvenPads zn_cX4_readEvenPads (by decide +kernel))
theorem dX4_readEvenPads_52 : decode cX4_readEvenPads 52 = .ok (.goto 4, 3) := zo_167 (b1 := 0) (b2 := 4) (zkb3 zk_cX4_readEvenPads zn_cX4_readEvenPads (by decide +kernel)) rfl
theorem dX4_readEvenPads_55 : decode cX4_readEvenPads 55 = .ok (.iload_n 1, 1) := zo_27 (zkb zk_cX4_readEvenPads zn_cX4_readEvenPads (by decide +kernel))
theorem dX4_readEvenPads_56 : decode cX4_readEvenPads 56 = .ok (.ireturn, 1) := zo_172 (zkb zk_cX4_readEvenPads zn_cX4_readEvenPads (by decide +kernel))
def kn_cX9_markFifth : Nat := 0xb14f807e1f101b8040107ea000112e0f101000b42a0f101000b42a1d009a7e40102e0f101000b42a
theorem zk_cX9_markFifth : zkd cX9_markFifth.data.toList kn_cX9_markFifth = true := by decide +kernel
theorem zn_cX9_markFifth : cX9_markFifth.data.toList.length = 40 := by decide +kernel
theorem dX9_markFifth_0 : decode cX9_markFifth 0 = .ok (.aload_n 0, 1) := zo_42 (zkb zk_cX9_markFifth zn_cX9_markFifth (by decide +kernel))
theorem dX9_markFifth_1 : decode cX9_markFifth 1 = .ok (.getfield 16, 3) := zo_180 (b1 := 0) (b2 := 16) (zkb3 zk_cX9_markFifth zn_cX9_markFifth (by decide +kernel)) rfl
theorem dX9_markFifth_4 : decode cX9_markFifth 4 = .ok (.bipush 15, 2) := zo_16 (b1 := 15) (zkb2 zk_cX9_markFifth zn_cX9_markFifth (by decide +kernel)) rfl
theorem dX9_markFifth_6 : decode cX9_markFifth 6 = .ok (.iaload, 1) := zo_46 (zkb zk_cX9_markFifth zn_cX9_markFifth (by decide +kernel))
theorem dX9_markFifth_7 : decode cX9_markFifth 7 = .ok (.bipush 64, 2) := zo_16 (b1 := 64) (zkb2 zk_cX9_markFifth zn_cX9_markFifth (by decide +kernel)) rfl
theorem dX9_markFifth_9 : decode cX9_markFifth 9 = .ok (.iand, 1) := zo_126 (zkb zk_cX9_markFifth zn_cX9_markFifth (by decide +kernel))
theorem dX9_markFifth_10 : decode cX9_markFifth 10 = .ok (.ifCond .ne 29, 3) := zo_154 (b1 := 0) (b2 := 29) (zkb3 zk_cX9_markFifth zn_cX9_markFifth (by decide +kernel)) rfl
theorem dX9_markFifth_13 : decode cX9_markFifth 13 = .ok (.aload_n 0, 1) := zo_42 (zkb zk_cX9_markFifth zn_cX9_markFifth (by decide +kernel))
theorem dX9_markFifth_14 : decode cX9_markFifth 14 = .ok (.getfield 16, 3) := zo_180 (b1 := 0) (b2 := 16) (zkb3 zk_cX9_markFifth zn_cX9_markFifth (by decide +kernel)) rfl
theorem dX9_markFifth_17 : decode cX9_markFifth 17 = .ok (.bipush 15, 2) := zo_16 (b1 := 15) (zkb2 zk_cX9_markFifth zn_cX9_markFifth (by decide +kernel)) rfl
theorem dX9_markFifth_19 : decode cX9_markFifth 19 = .ok (.aload_n 0, 1) := zo_42 (zkb zk_cX9_markFifth zn_cX9_markFifth (by decide +kernel))
theorem dX9_markFifth_20 : decode cX9_markFifth 20 = .ok (.getfield 16, 3) := zo_180 (b1 := 0) (b2 := 16) (zkb3 zk_cX9_markFifth zn_cX9_markFifth (by decide +kernel)) rfl
theorem dX9_markFifth_23 : decode cX9_markFifth 23 = .ok (.bipush 15, 2) := zo_16 (b1 := 15) (zkb2 zk_cX9_markFifth zn_cX9_markFifth (by decide +kernel)) rfl
theorem dX9_markFifth_25 : decode cX9_markFifth 25 = .ok (.iaload, 1) := zo_46 (zkb zk_cX9_markFifth zn_cX9_markFifth (by decide +kernel))
theorem dX9_markFifth_26 : decode cX9_markFifth 26 = .ok (.sipush 160, 3) := zo_17 (b1 := 0) (b2 := 160) (zkb3 zk_cX9_markFifth zn_cX9_markFifth (by decide +kernel)) rfl
theorem dX9_markFifth_29 : decode cX9_markFifth 29 = .ok (.iand, 1) := zo_126 (zkb zk_cX9_markFifth zn_cX9_markFifth (by decide +kernel))
theorem dX9_markFifth_30 : decode cX9_markFifth 30 = .ok (.bipush 64, 2) := zo_16 (b1 := 64) (zkb2 zk_cX9_markFifth zn_cX9_markFifth (by decide +kernel)) rfl
theorem dX9_markFifth_32 : decode cX9_markFifth 32 = .ok (.ior, 1) := zo_128 (zkb zk_cX9_markFifth zn_cX9_markFifth (by decide +kernel))
theorem dX9_markFifth_33 : decode cX9_markFifth 33 = .ok (.iload_n 1, 1) := zo_27 (zkb zk_cX9_markFifth zn_cX9_markFifth (by decide +kernel))
theorem dX9_markFifth_34 : decode cX9_markFifth 34 = .ok (.bipush 31, 2) := zo_16 (b1 := 31) (zkb2 zk_cX9_markFifth zn_cX9_markFifth (by decide +kernel)) rfl
theorem dX9_markFifth_36 : decode cX9_markFifth 36 = .ok (.iand, 1) := zo_126 (zkb zk_cX9_markFifth zn_cX9_markFifth (by decide +kernel))
theorem dX9_markFifth_37 : decode cX9_markFifth 37 = .ok (.ior, 1) := zo_128 (zkb zk_cX9_markFifth zn_cX9_markFifth (by decide +kernel))
theorem dX9_markFifth_38 : decode cX9_markFifth 38 = .ok (.iastore, 1) := zo_79 (zkb zk_cX9_markFifth zn_cX9_markFifth (by decide +kernel))
theorem dX9_markFifth_39 : decode cX9_markFifth 39 = .ok (.return_, 1) := zo_177 (zkb zk_cX9_markFifth zn_cX9_markFifth (by decide +kernel))
def kn_cX9_hCount : Nat := 0xac1b0400a76055101b0a00a19400111b3c6c0768062e15101000b42a
theorem zk_cX9_hCount : zkd cX9_hCount.data.toList kn_cX9_hCount = true := by decide +kernel
theorem zn_cX9_hCount : cX9_hCount.data.toList.length = 28 := by decide +kernel
theorem dX9_hCount_0 : decode cX9_hCount 0 = .ok (.aload_n 0, 1) := zo_42 (zkb zk_cX9_hCount zn_cX9_hCount (by decide +kernel))
theorem dX9_hCount_1 : decode cX9_hCount 1 = .ok (.getfield 16, 3) := zo_180 (b1 := 0) (b2 := 16) (zkb3 zk_cX9_hCount zn_cX9_hCount (by decide +kernel)) rfl
theorem dX9_hCount_4 : decode cX9_hCount 4 = .ok (.bipush 21, 2) := zo_16 (b1 := 21) (zkb2 zk_cX9_hCount zn_cX9_hCount (by decide +kernel)) rfl
theorem dX9_hCount_6 : decode cX9_hCount 6 = .ok (.iaload, 1) := zo_46 (zkb zk_cX9_hCount zn_cX9_hCount (by decide +kernel))
theorem dX9_hCount_7 : decode cX9_hCount 7 = .ok (.iconst 3, 1) := zo_6 (zkb zk_cX9_hCount zn_cX9_hCount (by decide +kernel))
theorem dX9_hCount_8 : decode cX9_hCount 8 = .ok (.imul, 1) := zo_104 (zkb zk_cX9_hCount zn_cX9_hCount (by decide +kernel))
theorem dX9_hCount_9 : decode cX9_hCount 9 = .ok (.iconst 4, 1) := zo_7 (zkb zk_cX9_hCount zn_cX9_hCount (by decide +kernel))
theorem dX9_hCount_10 : decode cX9_hCount 10 = .ok (.idiv, 1) := zo_108 (zkb zk_cX9_hCount zn_cX9_hCount (by decide +kernel))
theorem dX9_hCount_11 : decode cX9_hCount 11 = .ok (.istore_n 1, 1) := zo_60 (zkb zk_cX9_hCount zn_cX9_hCount (by decide +kernel))
theorem dX9_hCount_12 : decode cX9_hCount 12 = .ok (.iload_n 1, 1) := zo_27 (zkb zk_cX9_hCount zn_cX9_hCount (by decide +kernel))
theorem dX9_hCount_13 : decode cX9_hCount 13 = .ok (.sipush 148, 3) := zo_17 (b1 := 0) (b2 := 148) (zkb3 zk_cX9_hCount zn_cX9_hCount (by decide +kernel)) rfl
theorem dX9_hCount_16 : decode cX9_hCount 16 = .ok (.if_icmp .lt 10, 3) := zo_161 (b1 := 0) (b2 := 10) (zkb3 zk_cX9_hCount zn_cX9_hCount (by decide +kernel)) rfl
theorem dX9_hCount_19 : decode cX9_hCount 19 = .ok (.iload_n 1, 1) := zo_27 (zkb zk_cX9_hCount zn_cX9_hCount (by decide +kernel))
theorem dX9_hCount_20 : decode cX9_hCount 20 = .ok (.bipush 85, 2) := zo_16 (b1 := 85) (zkb2 zk_cX9_hCount zn_cX9_hCount (by decide +kernel)) rfl
theorem dX9_hCount_22 : decode cX9_hCount 22 = .ok (.iadd, 1) := zo_96 (zkb zk_cX9_hCount zn_cX9_hCount (by decide +kernel))
theorem dX9_hCount_23 : decode cX9_hCount 23 = .ok (.goto 4, 3) := zo_167 (b1 := 0) (b2 := 4) (zkb3 zk_cX9_hCount zn_cX9_hCount (by decide +kernel)) rfl
theorem dX9_hCount_26 : decode cX9_hCount 26 = .ok (.iload_n 1, 1) := zo_27 (zkb zk_cX9_hCount zn_cX9_hCount (by decide +kernel))
theorem dX9_hCount_27 : decode cX9_hCount 27 = .ok (.ireturn, 1) := zo_172 (zkb zk_cX9_hCount zn_cX9_hCount (by decide +kernel))
def kn_cX10_value : Nat := 0xac2e1b0900b42a0900a77e1f122e42100900b42a1000a042101bac030500a11001111b0a009b1b
theorem zk_cX10_value : zkd cX10_value.data.toList kn_cX10_value = true := by decide +kernel
theorem zn_cX10_value : cX10_value.data.toList.length = 39 := by decide +kernel
theorem dX10_value_0 : decode cX10_value 0 = .ok (.iload_n 1, 1) := zo_27 (zkb zk_cX10_value zn_cX10_value (by decide +kernel))
theorem dX10_value_1 : decode cX10_value 1 = .ok (.ifCond .lt 10, 3) := zo_155 (b1 := 0) (b2 := 10) (zkb3 zk_cX10_value zn_cX10_value (by decide +kernel)) rfl
theorem dX10_value_4 : decode cX10_value 4 = .ok (.iload_n 1, 1) := zo_27 (zkb zk_cX10_value zn_cX10_value (by decide +kernel))
theorem dX10_value_5 : decode cX10_value 5 = .ok (.sipush 272, 3) := zo_17 (b1 := 1) (b2 := 16) (zkb3 zk_cX10_value zn_cX10_value (by decide +kernel)) rfl
theorem dX10_value_8 : decode cX10_value 8 = .ok (.if_icmp .lt 5, 3) := zo_161 (b1 := 0) (b2 := 5) (zkb3 zk_cX10_value zn_cX10_value (by decide +kernel)) rfl
theorem dX10_value_11 : decode cX10_value 11 = .ok (.iconst 0, 1) := zo_3 (zkb zk_cX10_value zn_cX10_value (by decide +kernel))
theorem dX10_value_12 : decode cX10_value 12 = .ok (.ireturn, 1) := zo_172 (zkb zk_cX10_value zn_cX10_value (by decide +kernel))
theorem dX10_value_13 : decode cX10_value 13 = .ok (.iload_n 1, 1) := zo_27 (zkb zk_cX10_value zn_cX10_value (by decide +kernel))
theorem dX10_value_14 : decode cX10_value 14 = .ok (.bipush 66, 2) := zo_16 (b1 := 66) (zkb2 zk_cX10_value zn_cX10_value (by decide +kernel)) rfl
theorem dX10_value_16 : decode cX10_value 16 = .ok (.if_icmp .ne 16, 3) := zo_160 (b1 := 0) (b2 := 16) (zkb3 zk_cX10_value zn_cX10_value (by decide +kernel)) rfl
theorem dX10_value_19 : decode cX10_value 19 = .ok (.aload_n 0, 1) := zo_42 (zkb zk_cX10_value zn_cX10_value (by decide +kernel))
theorem dX10_value_20 : decode cX10_value 20 = .ok (.getfield 9, 3) := zo_180 (b1 := 0) (b2 := 9) (zkb3 zk_cX10_value zn_cX10_value (by decide +kernel)) rfl
theorem dX10_value_23 : decode cX10_value 23 = .ok (.bipush 66, 2) := zo_16 (b1 := 66) (zkb2 zk_cX10_value zn_cX10_value (by decide +kernel)) rfl
theorem dX10_value_25 : decode cX10_value 25 = .ok (.iaload, 1) := zo_46 (zkb zk_cX10_value zn_cX10_value (by decide +kernel))
theorem dX10_value_26 : decode cX10_value 26 = .ok (.ldc 31, 2) := zo_18 (b1 := 31) (zkb2 zk_cX10_value zn_cX10_value (by decide +kernel))
theorem dX10_value_28 : decode cX10_value 28 = .ok (.iand, 1) := zo_126 (zkb zk_cX10_value zn_cX10_value (by decide +kernel))
theorem dX10_value_29 : decode cX10_value 29 = .ok (.goto 9, 3) := zo_167 (b1 := 0) (b2 := 9) (zkb3 zk_cX10_value zn_cX10_value (by decide +kernel)) rfl
theorem dX10_value_32 : decode cX10_value 32 = .ok (.aload_n 0, 1) := zo_42 (zkb zk_cX10_value zn_cX10_value (by decide +kernel))
theorem dX10_value_33 : decode cX10_value 33 = .ok (.getfield 9, 3) := zo_180 (b1 := 0) (b2 := 9) (zkb3 zk_cX10_value zn_cX10_value (by decide +kernel)) rfl
theorem dX10_value_36 : decode cX10_value 36 = .ok (.iload_n 1, 1) := zo_27 (zkb zk_cX10_value zn_cX10_value (by decide +kernel))
theorem dX10_value_37 : decode cX10_value 37 = .ok (.iaload, 1) := zo_46 (zkb zk_cX10_value zn_cX10_value (by decide +kernel))
theorem dX10_value_38 : decode cX10_value 38 = .ok (.ireturn, 1) := zo_172 (zkb zk_cX10_value zn_cX10_value (by decide +kernel))
def kn_cJ7_rangeCheck_23922 : Nat := 0xb1bf4600b71c594400bb0c00a41a1cbf4600b71b594400bb0c009c1bbf4100b73d00b63200b63b123600b61c3200b639123600b61b3200b630122f00b7592d00bb592b00bb2c00a41c1b
theorem zk_cJ7_rangeCheck_23922 : zkd cJ7_rangeCheck_23922.data.toList kn_cJ7_rangeCheck_23922 = true := by decide +kernel
theorem zn_cJ7_rangeCheck_23922 : cJ7_rangeCheck_23922.data.toList.length = 74 := by decide +kernel
theorem dJ7_rangeCheck_23922_0 : decode cJ7_rangeCheck_23922 0 = .ok (.iload_n 1, 1) := zo_27 (zkb zk_cJ7_rangeCheck_23922 zn_cJ7_rangeCheck_23922 (by decide +kernel))
theorem dJ7_rangeCheck_23922_1 : decode cJ7_rangeCheck_23922 1 = .ok (.iload_n 2, 1) := zo_28 (zkb zk_cJ7_rangeCheck_23922 zn_cJ7_rangeCheck_23922 (by decide +kernel))
theorem dJ7_rangeCheck_23922_2 : decode cJ7_rangeCheck_23922 2 = .ok (.if_icmp .le 44, 3) := zo_164 (b1 := 0) (b2 := 44) (zkb3 zk_cJ7_rangeCheck_23922 zn_cJ7_rangeCheck_23922 (by decide +kernel)) rfl
theorem dJ7_rangeCheck_23922_5 : decode cJ7_rangeCheck_23922 5 = .ok (.new 43, 3) := zo_187 (b1 := 0) (b2 := 43) (zkb3 zk_cJ7_rangeCheck_23922 zn_cJ7_rangeCheck_23922 (by decide +kernel)) rfl
theorem dJ7_rangeCheck_23922_8 : decode cJ7_rangeCheck_23922 8 = .ok (.dup, 1) := zo_89 (zkb zk_cJ7_rangeCheck_23922 zn_cJ7_rangeCheck_23922 (by decide +kernel))
theorem dJ7_rangeCheck_23922_9 : decode cJ7_rangeCheck_23922 9 = .ok (.new 45, 3) := zo_187 (b1 := 0) (b2 := 45) (zkb3 zk_cJ7_rangeCheck_23922 zn_cJ7_rangeCheck_23922 (by decide +kernel)) rfl
theorem dJ7_rangeCheck_23922_12 : decode cJ7_rangeCheck_23922 12 = .ok (.dup, 1) := zo_89 (zkb zk_cJ7_rangeCheck_23922 zn_cJ7_rangeCheck_23922 (by decide +kernel))
theorem dJ7_rangeCheck_23922_13 : decode cJ7_rangeCheck_23922 13 = .ok (.invokespecial 47, 3) := zo_183 (b1 := 0) (b2 := 47) (zkb3 zk_cJ7_rangeCheck_23922 zn_cJ7_rangeCheck_23922 (by decide +kernel)) rfl
theorem dJ7_rangeCheck_23922_16 : decode cJ7_rangeCheck_23922 16 = .ok (.ldc 48, 2) := zo_18 (b1 := 48) (zkb2 zk_cJ7_rangeCheck_23922 zn_cJ7_rangeCheck_23922 (by decide +kernel))
theorem dJ7_rangeCheck_23922_18 : decode cJ7_rangeCheck_23922 18 = .ok (.invokevirtual 50, 3) := zo_182 (b1 := 0) (b2 := 50) (zkb3 zk_cJ7_rangeCheck_23922 zn_cJ7_rangeCheck_23922 (by decide +kernel)) rfl
theorem dJ7_rangeCheck_23922_21 : decode cJ7_rangeCheck_23922 21 = .ok (.iload_n 1, 1) := zo_27 (zkb zk_cJ7_rangeCheck_23922 zn_cJ7_rangeCheck_23922 (by decide +kernel))
theorem dJ7_rangeCheck_23922_22 : decode cJ7_rangeCheck_23922 22 = .ok (.invokevirtual 54, 3) := zo_182 (b1 := 0) (b2 := 54) (zkb3 zk_cJ7_rangeCheck_23922 zn_cJ7_rangeCheck_23922 (by decide +kernel)) rfl
theorem dJ7_rangeCheck_23922_25 : decode cJ7_rangeCheck_23922 25 = .ok (.ldc 57, 2) := zo_18 (b1 := 57) (zkb2 zk_cJ7_rangeCheck_23922 zn_cJ7_rangeCheck_23922 (by decide +kernel))
theorem dJ7_rangeCheck_23922_27 : decode cJ7_rangeCheck_23922 27 = .ok (.invokevirtual 50, 3) := zo_182 (b1 := 0) (b2 := 50) (zkb3 zk_cJ7_rangeCheck_23922 zn_cJ7_rangeCheck_23922 (by decide +kernel)) rfl
theorem dJ7_rangeCheck_23922_30 : decode cJ7_rangeCheck_23922 30 = .ok (.iload_n 2, 1) := zo_28 (zkb zk_cJ7_rangeCheck_23922 zn_cJ7_rangeCheck_23922 (by decide +kernel))
theorem dJ7_rangeCheck_23922_31 : decode cJ7_rangeCheck_23922 31 = .ok (.invokevirtual 54, 3) := zo_182 (b1 := 0) (b2 := 54) (zkb3 zk_cJ7_rangeCheck_23922 zn_cJ7_rangeCheck_23922 (by decide +kernel)) rfl
theorem dJ7_rangeCheck_23922_34 : decode cJ7_rangeCheck_23922 34 = .ok (.ldc 59, 2) := zo_18 (b1 := 59) (zkb2 zk_cJ7_rangeCheck_23922 zn_cJ7_rangeCheck_23922 (by decide +kernel))
theorem dJ7_rangeCheck_23922_36 : decode cJ7_rangeCheck_23922 36 = .ok (.invokevirtual 50, 3) := zo_182 (b1 := 0) (b2 := 50) (zkb3 zk_cJ7_rangeCheck_23922 zn_cJ7_rangeCheck_23922 (by decide +kernel)) rfl
theorem dJ7_rangeCheck_23922_39 : decode cJ7_rangeCheck_23922 39 = .ok (.invokevirtual 61, 3) := zo_182 (b1 := 0) (b2 := 61) (zkb3 zk_cJ7_rangeCheck_23922 zn_cJ7_rangeCheck_23922 (by decide +kernel)) rfl
theorem dJ7_rangeCheck_23922_42 : decode cJ7_rangeCheck_23922 42 = .ok (.invokespecial 65, 3) := zo_183 (b1 := 0) (b2 := 65) (zkb3 zk_cJ7_rangeCheck_23922 zn_cJ7_rangeCheck_23922 (by decide +kernel)) rfl
theorem dJ7_rangeCheck_23922_45 : decode cJ7_rangeCheck_23922 45 = .ok (.athrow, 1) := zo_191 (zkb zk_cJ7_rangeCheck_23922 zn_cJ7_rangeCheck_23922 (by decide +kernel))
theorem dJ7_rangeCheck_23922_46 : decode cJ7_rangeCheck_23922 46 = .ok (.iload_n 1, 1) := zo_27 (zkb zk_cJ7_rangeCheck_23922 zn_cJ7_rangeCheck_23922 (by decide +kernel))
theorem dJ7_rangeCheck_23922_47 : decode cJ7_rangeCheck_23922 47 = .ok (.ifCond .ge 12, 3) := zo_156 (b1 := 0) (b2 := 12) (zkb3 zk_cJ7_rangeCheck_23922 zn_cJ7_rangeCheck_23922 (by decide +kernel)) rfl
theorem dJ7_rangeCheck_23922_50 : decode cJ7_rangeCheck_23922 50 = .ok (.new 68, 3) := zo_187 (b1 := 0) (b2 := 68) (zkb3 zk_cJ7_rangeCheck_23922 zn_cJ7_rangeCheck_23922 (by decide +kernel)) rfl
theorem dJ7_rangeCheck_23922_53 : decode cJ7_rangeCheck_23922 53 = .ok (.dup, 1) := zo_89 (zkb zk_cJ7_rangeCheck_23922 zn_cJ7_rangeCheck_23922 (by decide +kernel))
theorem dJ7_rangeCheck_23922_54 : decode cJ7_rangeCheck_23922 54 = .ok (.iload_n 1, 1) := zo_27 (zkb zk_cJ7_rangeCheck_23922 zn_cJ7_rangeCheck_23922 (by decide +kernel))
theorem dJ7_rangeCheck_23922_55 : decode cJ7_rangeCheck_23922 55 = .ok (.invokespecial 70, 3) := zo_183 (b1 := 0) (b2 := 70) (zkb3 zk_cJ7_rangeCheck_23922 zn_cJ7_rangeCheck_23922 (by decide +kernel)) rfl
theorem dJ7_rangeCheck_23922_58 : decode cJ7_rangeCheck_23922 58 = .ok (.athrow, 1) := zo_191 (zkb zk_cJ7_rangeCheck_23922 zn_cJ7_rangeCheck_23922 (by decide +kernel))
theorem dJ7_rangeCheck_23922_59 : decode cJ7_rangeCheck_23922 59 = .ok (.iload_n 2, 1) := zo_28 (zkb zk_cJ7_rangeCheck_23922 zn_cJ7_rangeCheck_23922 (by decide +kernel))
theorem dJ7_rangeCheck_23922_60 : decode cJ7_rangeCheck_23922 60 = .ok (.iload_n 0, 1) := zo_26 (zkb zk_cJ7_rangeCheck_23922 zn_cJ7_rangeCheck_23922 (by decide +kernel))
theorem dJ7_rangeCheck_23922_61 : decode cJ7_rangeCheck_23922 61 = .ok (.if_icmp .le 12, 3) := zo_164 (b1 := 0) (b2 := 12) (zkb3 zk_cJ7_rangeCheck_23922 zn_cJ7_rangeCheck_23922 (by decide +kernel)) rfl
theorem dJ7_rangeCheck_23922_64 : decode cJ7_rangeCheck_23922 64 = .ok (.new 68, 3) := zo_187 (b1 := 0) (b2 := 68) (zkb3 zk_cJ7_rangeCheck_23922 zn_cJ7_rangeCheck_23922 (by decide +kernel)) rfl
theorem dJ7_rangeCheck_23922_67 : decode cJ7_rangeCheck_23922 67 = .ok (.dup, 1) := zo_89 (zkb zk_cJ7_rangeCheck_23922 zn_cJ7_rangeCheck_23922 (by decide +kernel))
theorem dJ7_rangeCheck_23922_68 : decode cJ7_rangeCheck_23922 68 = .ok (.iload_n 2, 1) := zo_28 (zkb zk_cJ7_rangeCheck_23922 zn_cJ7_rangeCheck_23922 (by decide +kernel))
theorem dJ7_rangeCheck_23922_69 : decode cJ7_rangeCheck_23922 69 = .ok (.invokespecial 70, 3) := zo_183 (b1 := 0) (b2 := 70) (zkb3 zk_cJ7_rangeCheck_23922 zn_cJ7_rangeCheck_23922 (by decide +kernel)) rfl
theorem dJ7_rangeCheck_23922_72 : decode cJ7_rangeCheck_23922 72 = .ok (.athrow, 1) := zo_191 (zkb zk_cJ7_rangeCheck_23922 zn_cJ7_rangeCheck_23922 (by decide +kernel))
theorem dJ7_rangeCheck_23922_73 : decode cJ7_rangeCheck_23922 73 = .ok (.return_, 1) := zo_177 (zkb zk_cJ7_rangeCheck_23922 zn_cJ7_rangeCheck_23922 (by decide +kernel))
def kn_cJ7_fill_fda19 : Nat := 0xb1f2ffa70104844f1d04152a0e00a21c041504361b0d00b81c1bbe2a
theorem zk_cJ7_fill_fda19 : zkd cJ7_fill_fda19.data.toList kn_cJ7_fill_fda19 = true := by decide +kernel
theorem zn_cJ7_fill_fda19 : cJ7_fill_fda19.data.toList.length = 28 := by decide +kernel
theorem dJ7_fill_fda19_0 : decode cJ7_fill_fda19 0 = .ok (.aload_n 0, 1) := zo_42 (zkb zk_cJ7_fill_fda19 zn_cJ7_fill_fda19 (by decide +kernel))
theorem dJ7_fill_fda19_1 : decode cJ7_fill_fda19 1 = .ok (.arraylength, 1) := zo_190 (zkb zk_cJ7_fill_fda19 zn_cJ7_fill_fda19 (by decide +kernel))
theorem dJ7_fill_fda19_2 : decode cJ7_fill_fda19 2 = .ok (.iload_n 1, 1) := zo_27 (zkb zk_cJ7_fill_fda19 zn_cJ7_fill_fda19 (by decide +kernel))
theorem dJ7_fill_fda19_3 : decode cJ7_fill_fda19 3 = .ok (.iload_n 2, 1) := zo_28 (zkb zk_cJ7_fill_fda19 zn_cJ7_fill_fda19 (by decide +kernel))
theorem dJ7_fill_fda19_4 : decode cJ7_fill_fda19 4 = .ok (.invokestatic 13, 3) := zo_184 (b1 := 0) (b2 := 13) (zkb3 zk_cJ7_fill_fda19 zn_cJ7_fill_fda19 (by decide +kernel)) rfl
theorem dJ7_fill_fda19_7 : decode cJ7_fill_fda19 7 = .ok (.iload_n 1, 1) := zo_27 (zkb zk_cJ7_fill_fda19 zn_cJ7_fill_fda19 (by decide +kernel))
theorem dJ7_fill_fda19_8 : decode cJ7_fill_fda19 8 = .ok (.istore 4, 2) := zo_54 (b1 := 4) (zkb2 zk_cJ7_fill_fda19 zn_cJ7_fill_fda19 (by decide +kernel))
theorem dJ7_fill_fda19_10 : decode cJ7_fill_fda19 10 = .ok (.iload 4, 2) := zo_21 (b1 := 4) (zkb2 zk_cJ7_fill_fda19 zn_cJ7_fill_fda19 (by decide +kernel))
theorem dJ7_fill_fda19_12 : decode cJ7_fill_fda19 12 = .ok (.iload_n 2, 1) := zo_28 (zkb zk_cJ7_fill_fda19 zn_cJ7_fill_fda19 (by decide +kernel))
theorem dJ7_fill_fda19_13 : decode cJ7_fill_fda19 13 = .ok (.if_icmp .ge 14, 3) := zo_162 (b1 := 0) (b2 := 14) (zkb3 zk_cJ7_fill_fda19 zn_cJ7_fill_fda19 (by decide +kernel)) rfl
theorem dJ7_fill_fda19_16 : decode cJ7_fill_fda19 16 = .ok (.aload_n 0, 1) := zo_42 (zkb zk_cJ7_fill_fda19 zn_cJ7_fill_fda19 (by decide +kernel))
theorem dJ7_fill_fda19_17 : decode cJ7_fill_fda19 17 = .ok (.iload 4, 2) := zo_21 (b1 := 4) (zkb2 zk_cJ7_fill_fda19 zn_cJ7_fill_fda19 (by decide +kernel))
theorem dJ7_fill_fda19_19 : decode cJ7_fill_fda19 19 = .ok (.iload_n 3, 1) := zo_29 (zkb zk_cJ7_fill_fda19 zn_cJ7_fill_fda19 (by decide +kernel))
theorem dJ7_fill_fda19_20 : decode cJ7_fill_fda19 20 = .ok (.iastore, 1) := zo_79 (zkb zk_cJ7_fill_fda19 zn_cJ7_fill_fda19 (by decide +kernel))
theorem dJ7_fill_fda19_21 : decode cJ7_fill_fda19 21 = .ok (.iinc 4 1, 3) := zo_132 (b1 := 4) (b2 := 1) (zkb3 zk_cJ7_fill_fda19 zn_cJ7_fill_fda19 (by decide +kernel)) rfl
theorem dJ7_fill_fda19_24 : decode cJ7_fill_fda19 24 = .ok (.goto (-14), 3) := zo_167 (b1 := 255) (b2 := 242) (zkb3 zk_cJ7_fill_fda19 zn_cJ7_fill_fda19 (by decide +kernel)) rfl
theorem dJ7_fill_fda19_27 : decode cJ7_fill_fda19 27 = .ok (.return_, 1) := zo_177 (zkb zk_cJ7_fill_fda19 zn_cJ7_fill_fda19 (by decide +kernel))
def rmX3_drawSprite : Room := { frames := 2, cells := 0, slots := 0, locals := 42 }
def wzX3_drawSprite : List Cond := .code yX3_drawSprite cX3_drawSprite 10 none :: wsL_law
theorem hinX3_drawSprite_X30 : ∀ w ∈ wsX30, w ∈ wzX3_drawSprite := fun w h => List.mem_cons_of_mem _ (inlX3 w h)
def fX3_drawSprite_190 (k111 : zSt → Int32 → Int32 → Int32 → Option (zSt)) (σ : zSt) (x3 : Int32) (x6 : Int32) (x7 : Int32) : Option (zSt) :=
  zbv (x7 + 1) (fun v1 =>
  k111 σ x3 x6 v1)
def fX3_drawSprite_111_body (k111 : zSt → Int32 → Int32 → Int32 → Option (zSt)) (σ : zSt) (x3 : Int32) (x6 : Int32) (x7 : Int32) : Option (zSt) :=
  if (8 <<< (x6 &&& 31)) ≤ x7 then some σ else
  zbv (x3 + x7) (fun v2 =>
  zbi (fX3_numberIn σ (zgi σ 3 7) (x7 >>> (x6 &&& 31))) (fun σ3 v4 =>
  if v4 ≤ 0 then fX3_drawSprite_190 k111 σ3 x3 x6 x7 else
  if v2 < 0 then fX3_drawSprite_190 k111 σ3 x3 x6 x7 else
  if 256 ≤ v2 then fX3_drawSprite_190 k111 σ3 x3 x6 x7 else
  zck (zin v2 256) (
  if (zgi σ3 28 v2.toNatClampNeg) ≤ 0 then zck (zin v2 256) (zbv (zsi σ3 28 (v2.toNatClampNeg) v4) (fun σ5 =>
  fX3_drawSprite_190 k111 σ5 x3 x6 x7)) else
  zbu (fX9_mark σ3 32) (fun σ6 =>
  fX3_drawSprite_190 k111 σ6 x3 x6 x7))))
def fX3_drawSprite_111  : Nat → zSt → Int32 → Int32 → Int32 → Option (zSt)
  | 0, _, _, _, _ => none
  | n + 1, σ, x3, x6, x7 => fX3_drawSprite_111_body (fX3_drawSprite_111  n) σ x3 x6 x7
def fX3_drawSprite_100  (σ : zSt) (x2 : Int32) (x3 : Int32) (x6 : Int32) (s0 : Int32) (s1 : Int32) : Option (zSt) :=
  zbu (fX3_takePlanes σ ((s1 * s0) + (4 * x2))) (fun σ7 =>
  fX3_drawSprite_111 zfuel σ7 x3 x6 0)
def fX3_drawSprite_61  (σ : zSt) (x2 : Int32) (x3 : Int32) (s0 : Int32) (s1 : Int32) : Option (zSt) :=
  zbv (s1 + s0) (fun v8 =>
  zbi (fX9_held σ 1) (fun σ9 v10 =>
  zbv (v10 &&& 1) (fun v11 =>
  if (v10 &&& 2) = 0 then fX3_drawSprite_100 σ9 x2 x3 v11 v8 32 else
  fX3_drawSprite_100 σ9 x2 x3 v11 (v8 &&& (-2)) 32)))
def fX3_drawSprite_28  (σ : zSt) (x1 : Int32) (x2 : Int32) (s0 : Int32) (s1 : Int32) : Option (zSt) :=
  zbv (s1 - s0) (fun v12 =>
  zbi (fX9_vramByte σ (x1 + 1)) (fun σ13 v14 =>
  zbi (fX9_held σ13 6) (fun σ15 v16 =>
  if (v16 &&& 4) = 0 then fX3_drawSprite_61 σ15 x2 v12 0 v14 else
  fX3_drawSprite_61 σ15 x2 v12 256 v14)))
def fX3_drawSprite  (σ : zSt) (x1 : Int32) (x2 : Int32) : Option (zSt) :=
  zbi (fX9_vramByte σ x1) (fun σ17 v18 =>
  zbi (fX9_held σ17 0) (fun σ19 v20 =>
  if (v20 &&& 8) = 0 then fX3_drawSprite_28 σ19 x1 x2 0 v18 else
  fX3_drawSprite_28 σ19 x1 x2 8 v18))
set_option maxRecDepth 20000 in
set_option maxHeartbeats 4000000 in
theorem bX3_drawSprite_190 {st : Nat → Nat} {p : Program} {l : Launch} {e : Env} {s : State} {m : MethodId} {args : Array Value} {below : List Frame} {meth : Method} {c : Code} {D : va_G} {A : Nat → Prop} {ad : Nat → Nat} {cy : Nat → ClassId} (hC : zC p m c cX3_drawSprite 10 s args wzX3_drawSprite RX3 meth none) {k111 : zSt → Int32 → Int32 → Int32 → Option (zSt)} {res : zSt} (hk111 : ∀ (H : Heap) (locs : List Loc) (σ : zSt) (ls : Array Slot) (x3 : Int32) (x6 : Int32) (x7 : Int32), zI st D (tC cy) (wC ad cy σ) A s H locs → lv_has ls 10 [(0, .ref (ad 3)), (3, .int x3), (6, .int x6), (7, .int x7)] → k111 σ x3 x6 x7 = some res → W p l e rmX3_drawSprite s m args below meth c H locs 0 0 (zQu below args s D (tC cy) (wC ad cy) A res) (F0 m 111 ls [])) {H : Heap} {locs : List Loc} {σ : zSt} {ls : Array Slot} {x3 : Int32} {x6 : Int32} {x7 : Int32} (hI : zI st D (tC cy) (wC ad cy σ) A s H locs) (hl : lv_has ls 10 [(0, .ref (ad 3)), (3, .int x3), (6, .int x6), (7, .int x7)]) (hf : fX3_drawSprite_190 k111 σ x3 x6 x7 = some res) : W p l e rmX3_drawSprite s m args below meth c H locs 0 0 (zQu below args s D (tC cy) (wC ad cy) A res) (F0 m 190 ls []) := by
  have hx := hC.1
  have hb := hC.2.1
  unfold fX3_drawSprite_190 at hf
  obtain ⟨v1, ev1⟩ : ∃ z : Int32, z = x7 + 1 := ⟨_, rfl⟩
  replace hf := zbv_use ev1 hf
  refine lv_iinc (v := v1) (lv' := [(7, .int v1), (0, .ref (ad 3)), (3, .int x3), (6, .int x6)]) hx hb dX3_drawSprite_190 hl (k := 3) rfl (by rw [ev1]; rfl) (by decide) rfl (fun ls hl => ?_)
  refine lv_goto (tgt := 111) hx hb dX3_drawSprite_193 (by decide) ?_
  exact hk111 _ _ _ _ _ _ _ hI (lv_sub hl [1, 2, 3, 0] rfl) hf
set_option maxRecDepth 20000 in
set_option maxHeartbeats 4000000 in
theorem bX3_drawSprite_111_body {st : Nat → Nat} {p : Program} {l : Launch} {e : Env} {s : State} {m : MethodId} {args : Array Value} {below : List Frame} {meth : Method} {c : Code} {D : va_G} {A : Nat → Prop} {ad : Nat → Nat} {cy : Nat → ClassId} (hC : zC p m c cX3_drawSprite 10 s args wzX3_drawSprite RX3 meth none) {k111 : zSt → Int32 → Int32 → Int32 → Option (zSt)} {res : zSt} (hk111 : ∀ (H : Heap) (locs : List Loc) (σ : zSt) (ls : Array Slot) (x3 : Int32) (x6 : Int32) (x7 : Int32), zI st D (tC cy) (wC ad cy σ) A s H locs → lv_has ls 10 [(0, .ref (ad 3)), (3, .int x3), (6, .int x6), (7, .int x7)] → k111 σ x3 x6 x7 = some res → W p l e rmX3_drawSprite s m args below meth c H locs 0 0 (zQu below args s D (tC cy) (wC ad cy) A res) (F0 m 111 ls [])) {H : Heap} {locs : List Loc} {σ : zSt} {ls : Array Slot} {x3 : Int32} {x6 : Int32} {x7 : Int32} (hI : zI st D (tC cy) (wC ad cy σ) A s H locs) (hl : lv_has ls 10 [(0, .ref (ad 3)), (3, .int x3), (6, .int x6), (7, .int x7)]) (hf : fX3_drawSprite_111_body k111 σ x3 x6 x7 = some res) : W p l e rmX3_drawSprite s m args below meth c H locs 0 0 (zQu below args s D (tC cy) (wC ad cy) A res) (F0 m 111 ls []) := by
  have hx := hC.1
  have hb := hC.2.1
  unfold fX3_drawSprite_111_body at hf
  refine lv_iload hx hb dX3_drawSprite_111 (lv_at hl 3 rfl) ?_
  refine lv_bipush (v := 8) hx hb dX3_drawSprite_113 (by decide) ?_
  refine lv_iload hx hb dX3_drawSprite_115 (lv_at hl 2 rfl) ?_
  refine lv_ishl hx hb dX3_drawSprite_117 ?_
  refine lv_icmp_ge (tgt := 196) hx hb dX3_drawSprite_118 (by decide) (fun q => ?_) (fun q => ?_)
  · replace hf := zif_t q hf
    exact z_return hC hI hf dX3_drawSprite_196
  replace hf := zif_f q hf
  refine lv_iload_n hx hb dX3_drawSprite_121 rfl (lv_at hl 1 rfl) ?_
  refine lv_iload hx hb dX3_drawSprite_122 (lv_at hl 3 rfl) ?_
  refine lv_iadd hx hb dX3_drawSprite_124 ?_
  refine lv_topi (fun v2 ev2 => ?_)
  replace hf := zbv_use ev2 hf
  refine lv_istore (lv' := [(8, .int v2), (0, .ref (ad 3)), (3, .int x3), (6, .int x6), (7, .int x7)]) hx hb dX3_drawSprite_125 hl (by decide) rfl (fun ls hl => ?_)
  refine lv_aload_n hx hb dX3_drawSprite_127 rfl (lv_at hl 1 rfl) ?_
  refine z_get hC hI hinX3_drawSprite_X30 3 (wC_e3 ad cy σ) rfl 7 (by decide) (List.mem_cons_of_mem _ zw36_8) rfl dX3_drawSprite_128 ?_
  refine lv_iload hx hb dX3_drawSprite_131 (lv_at hl 4 rfl) ?_
  refine lv_iload hx hb dX3_drawSprite_133 (lv_at hl 3 rfl) ?_
  refine lv_ishr hx hb dX3_drawSprite_135 ?_
  obtain ⟨σ3, v4, g3, hf⟩ := zbi_use hf
  refine z_callSi (As := [.int (zgi σ 3 7), .int (x7 >>> (x6 &&& 31))]) (rest := []) hC hI (cX3_numberIn_met st l D ad cy σ (zgi σ 3 7) (x7 >>> (x6 &&& 31)) _ g3) (zgS zw36_22 zw36_23 zw2_5 zw37_0) rfl ⟨rfl, rfl⟩ 2 hdX3_numberIn ⟨Nat.le_of_ble_eq_true rfl, Nat.le_of_ble_eq_true rfl⟩ rfl hl rfl (Nat.le_of_ble_eq_true rfl) dX3_drawSprite_136 ⟨Nat.zero_le _, Nat.zero_le _⟩ (fun H locs hI => ?_)
  refine lv_istore (lv' := [(9, .int v4), (8, .int v2), (0, .ref (ad 3)), (3, .int x3), (6, .int x6), (7, .int x7)]) hx hb dX3_drawSprite_139 hl (by decide) rfl (fun ls hl => ?_)
  refine lv_iload hx hb dX3_drawSprite_141 (lv_at hl 0 rfl) ?_
  refine lv_if_le (tgt := 190) hx hb dX3_drawSprite_143 (by decide) (fun q => ?_) (fun q => ?_)
  · replace hf := zif_t q hf
    exact bX3_drawSprite_190 hC hk111 hI (lv_sub hl [2, 3, 4, 5] rfl) hf
  replace hf := zif_f q hf
  refine lv_iload hx hb dX3_drawSprite_146 (lv_at hl 1 rfl) ?_
  refine lv_if_lt (tgt := 190) hx hb dX3_drawSprite_148 (by decide) (fun q => ?_) (fun q => ?_)
  · replace hf := zif_t q hf
    exact bX3_drawSprite_190 hC hk111 hI (lv_sub hl [2, 3, 4, 5] rfl) hf
  replace hf := zif_f q hf
  refine lv_iload hx hb dX3_drawSprite_151 (lv_at hl 1 rfl) ?_
  refine lv_sipush (v := 256) hx hb dX3_drawSprite_153 (by decide) ?_
  refine lv_icmp_ge (tgt := 190) hx hb dX3_drawSprite_156 (by decide) (fun q => ?_) (fun q => ?_)
  · replace hf := zif_t q hf
    exact bX3_drawSprite_190 hC hk111 hI (lv_sub hl [2, 3, 4, 5] rfl) hf
  replace hf := zif_f q hf
  refine lv_aload_n hx hb dX3_drawSprite_159 rfl (lv_at hl 2 rfl) ?_
  refine z_get hC hI hinX3_drawSprite_X30 3 (wC_e3 ad cy σ3) rfl 5 (by decide) (List.mem_cons_of_mem _ zw4_20) rfl dX3_drawSprite_160 ?_
  refine lv_iload hx hb dX3_drawSprite_163 (lv_at hl 1 rfl) ?_
  obtain ⟨q, hf⟩ := zck_use hf
  refine z_iald hC hI 28 15 (wC_e28 ad cy σ3) (tC_t28 cy) q dX3_drawSprite_165 ?_
  refine lv_if_le (tgt := 181) hx hb dX3_drawSprite_166 (by decide) (fun q => ?_) (fun q => ?_)
  · replace hf := zif_t q hf
    refine lv_aload_n hx hb dX3_drawSprite_181 rfl (lv_at hl 2 rfl) ?_
    refine z_get hC hI hinX3_drawSprite_X30 3 (wC_e3 ad cy σ3) rfl 5 (by decide) (List.mem_cons_of_mem _ zw4_20) rfl dX3_drawSprite_182 ?_
    refine lv_iload hx hb dX3_drawSprite_185 (lv_at hl 1 rfl) ?_
    refine lv_iload hx hb dX3_drawSprite_187 (lv_at hl 0 rfl) ?_
    obtain ⟨q, hf⟩ := zck_use hf
    obtain ⟨σ5, eσ5⟩ : ∃ z, z = zsi σ3 28 (v2.toNatClampNeg) v4 := ⟨_, rfl⟩
    replace hf := zbv_use eσ5 hf
    refine z_iast hC hI 28 15 (wC_e28 ad cy σ3) (tC_t28 cy) q ((wC_s28 ad cy σ3 _ _).trans (congrArg (wC ad cy) eσ5.symm)) dX3_drawSprite_189 (fun H locs hI => ?_)
    exact bX3_drawSprite_190 hC hk111 hI (lv_sub hl [2, 3, 4, 5] rfl) hf
  replace hf := zif_f q hf
  refine lv_aload_n hx hb dX3_drawSprite_169 rfl (lv_at hl 2 rfl) ?_
  refine z_get hC hI hinX3_drawSprite_X30 3 (wC_e3 ad cy σ3) rfl 0 (by decide) (List.mem_cons_of_mem _ zw4_22) rfl dX3_drawSprite_170 ?_
  refine lv_bipush (v := 32) hx hb dX3_drawSprite_173 (by decide) ?_
  obtain ⟨σ6, g6, hf⟩ := zbu_use hf
  refine z_callVu (As := [.int 32]) (rest := []) hC hI (cX9_mark_met st l D ad cy σ3 32 _ g6) (zgV zw37_10 zw37_11 zw37_12 zw2_1 zw37_13) rfl ⟨rfl, rfl⟩ 1 hdX9_mark ⟨Nat.le_of_ble_eq_true rfl, Nat.le_of_ble_eq_true rfl⟩ rfl rfl (wC_e2 ad cy σ3) rfl hl rfl (Nat.le_of_ble_eq_true rfl) dX3_drawSprite_175 ⟨Nat.zero_le _, Nat.zero_le _⟩ (fun H locs hI => ?_)
  refine lv_goto (tgt := 190) hx hb dX3_drawSprite_178 (by decide) ?_
  exact bX3_drawSprite_190 hC hk111 hI (lv_sub hl [2, 3, 4, 5] rfl) hf
theorem blX3_drawSprite_111 {st : Nat → Nat} {p : Program} {l : Launch} {e : Env} {s : State} {m : MethodId} {args : Array Value} {below : List Frame} {meth : Method} {c : Code} {D : va_G} {A : Nat → Prop} {ad : Nat → Nat} {cy : Nat → ClassId} (hC : zC p m c cX3_drawSprite 10 s args wzX3_drawSprite RX3 meth none)  {res : zSt} : ∀ (n : Nat) (H : Heap) (locs : List Loc) (σ : zSt) (ls : Array Slot) (x3 : Int32) (x6 : Int32) (x7 : Int32), zI st D (tC cy) (wC ad cy σ) A s H locs → lv_has ls 10 [(0, .ref (ad 3)), (3, .int x3), (6, .int x6), (7, .int x7)] → fX3_drawSprite_111  n σ x3 x6 x7 = some res → W p l e rmX3_drawSprite s m args below meth c H locs 0 0 (zQu below args s D (tC cy) (wC ad cy) A res) (F0 m 111 ls []) := by
  intro n
  induction n with
  | zero => intro H locs σ ls x3 x6 x7 hI hl hf; cases hf
  | succ n ih => intro H locs σ ls x3 x6 x7 hI hl hf; exact bX3_drawSprite_111_body hC ih hI hl hf
set_option maxRecDepth 20000 in
set_option maxHeartbeats 4000000 in
theorem bX3_drawSprite_100 {st : Nat → Nat} {p : Program} {l : Launch} {e : Env} {s : State} {m : MethodId} {args : Array Value} {below : List Frame} {meth : Method} {c : Code} {D : va_G} {A : Nat → Prop} {ad : Nat → Nat} {cy : Nat → ClassId} (hC : zC p m c cX3_drawSprite 10 s args wzX3_drawSprite RX3 meth none)  {res : zSt} {H : Heap} {locs : List Loc} {σ : zSt} {ls : Array Slot} {x2 : Int32} {x3 : Int32} {x6 : Int32} {s0 : Int32} {s1 : Int32} (hI : zI st D (tC cy) (wC ad cy σ) A s H locs) (hl : lv_has ls 10 [(0, .ref (ad 3)), (2, .int x2), (3, .int x3), (6, .int x6)]) (hf : fX3_drawSprite_100  σ x2 x3 x6 s0 s1 = some res) : W p l e rmX3_drawSprite s m args below meth c H locs 0 0 (zQu below args s D (tC cy) (wC ad cy) A res) (F0 m 100 ls [.int s0, .int s1, .ref (ad 3)]) := by
  have hx := hC.1
  have hb := hC.2.1
  unfold fX3_drawSprite_100 at hf
  refine lv_imul hx hb dX3_drawSprite_100 ?_
  refine lv_iconst (v := 4) hx hb dX3_drawSprite_101 (by decide) ?_
  refine lv_iload_n hx hb dX3_drawSprite_102 rfl (lv_at hl 1 rfl) ?_
  refine lv_imul hx hb dX3_drawSprite_103 ?_
  refine lv_iadd hx hb dX3_drawSprite_104 ?_
  obtain ⟨σ7, g7, hf⟩ := zbu_use hf
  refine z_callVu (As := [.int ((s1 * s0) + (4 * x2))]) (rest := []) hC hI (cX3_takePlanes_met st l D ad cy σ ((s1 * s0) + (4 * x2)) _ g7) (zgV zw36_18 zw36_19 zw36_20 zw2_5 zw36_21) rfl ⟨rfl, rfl⟩ 1 hdX3_takePlanes ⟨Nat.le_of_ble_eq_true rfl, Nat.le_of_ble_eq_true rfl⟩ rfl rfl (wC_e3 ad cy σ) rfl hl rfl (Nat.le_of_ble_eq_true rfl) dX3_drawSprite_105 ⟨Nat.zero_le _, Nat.zero_le _⟩ (fun H locs hI => ?_)
  refine lv_iconst (v := 0) hx hb dX3_drawSprite_108 (by decide) ?_
  refine lv_istore (lv' := [(7, .int 0), (0, .ref (ad 3)), (2, .int x2), (3, .int x3), (6, .int x6)]) hx hb dX3_drawSprite_109 hl (by decide) rfl (fun ls hl => ?_)
  exact blX3_drawSprite_111 hC  zfuel _ _ _ _ _ _ _ hI (lv_sub hl [1, 3, 4, 0] rfl) hf
set_option maxRecDepth 20000 in
set_option maxHeartbeats 4000000 in
theorem bX3_drawSprite_61 {st : Nat → Nat} {p : Program} {l : Launch} {e : Env} {s : State} {m : MethodId} {args : Array Value} {below : List Frame} {meth : Method} {c : Code} {D : va_G} {A : Nat → Prop} {ad : Nat → Nat} {cy : Nat → ClassId} (hC : zC p m c cX3_drawSprite 10 s args wzX3_drawSprite RX3 meth none)  {res : zSt} {H : Heap} {locs : List Loc} {σ : zSt} {ls : Array Slot} {x2 : Int32} {x3 : Int32} {s0 : Int32} {s1 : Int32} (hI : zI st D (tC cy) (wC ad cy σ) A s H locs) (hl : lv_has ls 10 [(0, .ref (ad 3)), (2, .int x2), (3, .int x3)]) (hf : fX3_drawSprite_61  σ x2 x3 s0 s1 = some res) : W p l e rmX3_drawSprite s m args below meth c H locs 0 0 (zQu below args s D (tC cy) (wC ad cy) A res) (F0 m 61 ls [.int s0, .int s1]) := by
  have hx := hC.1
  have hb := hC.2.1
  unfold fX3_drawSprite_61 at hf
  refine lv_iadd hx hb dX3_drawSprite_61 ?_
  refine lv_topi (fun v8 ev8 => ?_)
  replace hf := zbv_use ev8 hf
  refine lv_istore (lv' := [(4, .int v8), (0, .ref (ad 3)), (2, .int x2), (3, .int x3)]) hx hb dX3_drawSprite_62 hl (by decide) rfl (fun ls hl => ?_)
  refine lv_aload_n hx hb dX3_drawSprite_64 rfl (lv_at hl 1 rfl) ?_
  refine z_get hC hI hinX3_drawSprite_X30 3 (wC_e3 ad cy σ) rfl 0 (by decide) (List.mem_cons_of_mem _ zw4_22) rfl dX3_drawSprite_65 ?_
  refine lv_iconst (v := 1) hx hb dX3_drawSprite_68 (by decide) ?_
  obtain ⟨σ9, v10, g9, hf⟩ := zbi_use hf
  refine z_callVi (As := [.int 1]) (rest := []) hC hI (cX9_held_met st l D ad cy σ 1 _ g9) (zgV zw35_21 zw35_13 zw35_14 zw2_1 zw35_15) rfl ⟨rfl, rfl⟩ 1 hdX9_held ⟨Nat.le_of_ble_eq_true rfl, Nat.le_of_ble_eq_true rfl⟩ rfl rfl (wC_e2 ad cy σ) rfl hl rfl (Nat.le_of_ble_eq_true rfl) dX3_drawSprite_69 ⟨Nat.zero_le _, Nat.zero_le _⟩ (fun H locs hI => ?_)
  refine lv_istore (lv' := [(5, .int v10), (4, .int v8), (0, .ref (ad 3)), (2, .int x2), (3, .int x3)]) hx hb dX3_drawSprite_72 hl (by decide) rfl (fun ls hl => ?_)
  refine lv_iload hx hb dX3_drawSprite_74 (lv_at hl 0 rfl) ?_
  refine lv_iconst (v := 1) hx hb dX3_drawSprite_76 (by decide) ?_
  refine lv_iand hx hb dX3_drawSprite_77 ?_
  refine lv_topi (fun v11 ev11 => ?_)
  replace hf := zbv_use ev11 hf
  refine lv_istore (lv' := [(6, .int v11), (5, .int v10), (4, .int v8), (0, .ref (ad 3)), (2, .int x2), (3, .int x3)]) hx hb dX3_drawSprite_78 hl (by decide) rfl (fun ls hl => ?_)
  refine lv_aload_n hx hb dX3_drawSprite_80 rfl (lv_at hl 3 rfl) ?_
  refine lv_bipush (v := 32) hx hb dX3_drawSprite_81 (by decide) ?_
  refine lv_iload hx hb dX3_drawSprite_83 (lv_at hl 1 rfl) ?_
  refine lv_iconst (v := 2) hx hb dX3_drawSprite_85 (by decide) ?_
  refine lv_iand hx hb dX3_drawSprite_86 ?_
  refine lv_if_eq (tgt := 98) hx hb dX3_drawSprite_87 (by decide) (fun q => ?_) (fun q => ?_)
  · replace hf := zif_t q hf
    refine lv_iload hx hb dX3_drawSprite_98 (lv_at hl 2 rfl) ?_
    exact bX3_drawSprite_100 hC  hI (lv_sub hl [3, 4, 5, 0] rfl) hf
  replace hf := zif_f q hf
  refine lv_iload hx hb dX3_drawSprite_90 (lv_at hl 2 rfl) ?_
  refine lv_bipush (v := (-2)) hx hb dX3_drawSprite_92 (by decide) ?_
  refine lv_iand hx hb dX3_drawSprite_94 ?_
  refine lv_goto (tgt := 100) hx hb dX3_drawSprite_95 (by decide) ?_
  exact bX3_drawSprite_100 hC  hI (lv_sub hl [3, 4, 5, 0] rfl) hf
set_option maxRecDepth 20000 in
set_option maxHeartbeats 4000000 in
theorem bX3_drawSprite_28 {st : Nat → Nat} {p : Program} {l : Launch} {e : Env} {s : State} {m : MethodId} {args : Array Value} {below : List Frame} {meth : Method} {c : Code} {D : va_G} {A : Nat → Prop} {ad : Nat → Nat} {cy : Nat → ClassId} (hC : zC p m c cX3_drawSprite 10 s args wzX3_drawSprite RX3 meth none)  {res : zSt} {H : Heap} {locs : List Loc} {σ : zSt} {ls : Array Slot} {x1 : Int32} {x2 : Int32} {s0 : Int32} {s1 : Int32} (hI : zI st D (tC cy) (wC ad cy σ) A s H locs) (hl : lv_has ls 10 [(0, .ref (ad 3)), (1, .int x1), (2, .int x2)]) (hf : fX3_drawSprite_28  σ x1 x2 s0 s1 = some res) : W p l e rmX3_drawSprite s m args below meth c H locs 0 0 (zQu below args s D (tC cy) (wC ad cy) A res) (F0 m 28 ls [.int s0, .int s1]) := by
  have hx := hC.1
  have hb := hC.2.1
  unfold fX3_drawSprite_28 at hf
  refine lv_isub hx hb dX3_drawSprite_28 ?_
  refine lv_topi (fun v12 ev12 => ?_)
  replace hf := zbv_use ev12 hf
  refine lv_istore_n (lv' := [(3, .int v12), (0, .ref (ad 3)), (1, .int x1), (2, .int x2)]) hx hb dX3_drawSprite_29 rfl hl (by decide) rfl (fun ls hl => ?_)
  refine lv_aload_n hx hb dX3_drawSprite_30 rfl (lv_at hl 1 rfl) ?_
  refine z_get hC hI hinX3_drawSprite_X30 3 (wC_e3 ad cy σ) rfl 0 (by decide) (List.mem_cons_of_mem _ zw4_22) rfl dX3_drawSprite_31 ?_
  refine lv_iload_n hx hb dX3_drawSprite_34 rfl (lv_at hl 2 rfl) ?_
  refine lv_iconst (v := 1) hx hb dX3_drawSprite_35 (by decide) ?_
  refine lv_iadd hx hb dX3_drawSprite_36 ?_
  obtain ⟨σ13, v14, g13, hf⟩ := zbi_use hf
  refine z_callVi (As := [.int (x1 + 1)]) (rest := []) hC hI (cX9_vramByte_met st l D ad cy σ (x1 + 1) _ g13) (zgV zw36_14 zw36_15 zw36_16 zw2_1 zw36_17) rfl ⟨rfl, rfl⟩ 1 hdX9_vramByte ⟨Nat.le_of_ble_eq_true rfl, Nat.le_of_ble_eq_true rfl⟩ rfl rfl (wC_e2 ad cy σ) rfl hl rfl (Nat.le_of_ble_eq_true rfl) dX3_drawSprite_37 ⟨Nat.zero_le _, Nat.zero_le _⟩ (fun H locs hI => ?_)
  refine lv_aload_n hx hb dX3_drawSprite_40 rfl (lv_at hl 1 rfl) ?_
  refine z_get hC hI hinX3_drawSprite_X30 3 (wC_e3 ad cy σ13) rfl 0 (by decide) (List.mem_cons_of_mem _ zw4_22) rfl dX3_drawSprite_41 ?_
  refine lv_bipush (v := 6) hx hb dX3_drawSprite_44 (by decide) ?_
  obtain ⟨σ15, v16, g15, hf⟩ := zbi_use hf
  refine z_callVi (As := [.int 6]) (rest := [.int v14]) hC hI (cX9_held_met st l D ad cy σ13 6 _ g15) (zgV zw35_21 zw35_13 zw35_14 zw2_1 zw35_15) rfl ⟨rfl, rfl⟩ 1 hdX9_held ⟨Nat.le_of_ble_eq_true rfl, Nat.le_of_ble_eq_true rfl⟩ rfl rfl (wC_e2 ad cy σ13) rfl hl rfl (Nat.le_of_ble_eq_true rfl) dX3_drawSprite_46 ⟨Nat.zero_le _, Nat.zero_le _⟩ (fun H locs hI => ?_)
  refine lv_iconst (v := 4) hx hb dX3_drawSprite_49 (by decide) ?_
  refine lv_iand hx hb dX3_drawSprite_50 ?_
  refine lv_if_eq (tgt := 60) hx hb dX3_drawSprite_51 (by decide) (fun q => ?_) (fun q => ?_)
  · replace hf := zif_t q hf
    refine lv_iconst (v := 0) hx hb dX3_drawSprite_60 (by decide) ?_
    exact bX3_drawSprite_61 hC  hI (lv_sub hl [1, 3, 0] rfl) hf
  replace hf := zif_f q hf
  refine lv_sipush (v := 256) hx hb dX3_drawSprite_54 (by decide) ?_
  refine lv_goto (tgt := 61) hx hb dX3_drawSprite_57 (by decide) ?_
  exact bX3_drawSprite_61 hC  hI (lv_sub hl [1, 3, 0] rfl) hf
set_option maxRecDepth 20000 in
set_option maxHeartbeats 4000000 in
theorem bX3_drawSprite {st : Nat → Nat} {p : Program} {l : Launch} {e : Env} {s : State} {m : MethodId} {args : Array Value} {below : List Frame} {meth : Method} {c : Code} {D : va_G} {A : Nat → Prop} {ad : Nat → Nat} {cy : Nat → ClassId} (hC : zC p m c cX3_drawSprite 10 s args wzX3_drawSprite RX3 meth none)  {res : zSt} {H : Heap} {locs : List Loc} {σ : zSt} {ls : Array Slot} {x1 : Int32} {x2 : Int32} (hI : zI st D (tC cy) (wC ad cy σ) A s H locs) (hl : lv_has ls 10 [(0, .ref (ad 3)), (1, .int x1), (2, .int x2)]) (hf : fX3_drawSprite  σ x1 x2 = some res) : W p l e rmX3_drawSprite s m args below meth c H locs 0 0 (zQu below args s D (tC cy) (wC ad cy) A res) (F0 m 0 ls []) := by
  have hx := hC.1
  have hb := hC.2.1
  unfold fX3_drawSprite at hf
  refine lv_aload_n hx hb dX3_drawSprite_0 rfl (lv_at hl 0 rfl) ?_
  refine z_get hC hI hinX3_drawSprite_X30 3 (wC_e3 ad cy σ) rfl 0 (by decide) (List.mem_cons_of_mem _ zw4_22) rfl dX3_drawSprite_1 ?_
  refine lv_iload_n hx hb dX3_drawSprite_4 rfl (lv_at hl 1 rfl) ?_
  obtain ⟨σ17, v18, g17, hf⟩ := zbi_use hf
  refine z_callVi (As := [.int x1]) (rest := []) hC hI (cX9_vramByte_met st l D ad cy σ x1 _ g17) (zgV zw36_14 zw36_15 zw36_16 zw2_1 zw36_17) rfl ⟨rfl, rfl⟩ 1 hdX9_vramByte ⟨Nat.le_of_ble_eq_true rfl, Nat.le_of_ble_eq_true rfl⟩ rfl rfl (wC_e2 ad cy σ) rfl hl rfl (Nat.le_of_ble_eq_true rfl) dX3_drawSprite_5 ⟨Nat.zero_le _, Nat.zero_le _⟩ (fun H locs hI => ?_)
  refine lv_aload_n hx hb dX3_drawSprite_8 rfl (lv_at hl 0 rfl) ?_
  refine z_get hC hI hinX3_drawSprite_X30 3 (wC_e3 ad cy σ17) rfl 0 (by decide) (List.mem_cons_of_mem _ zw4_22) rfl dX3_drawSprite_9 ?_
  refine lv_iconst (v := 0) hx hb dX3_drawSprite_12 (by decide) ?_
  obtain ⟨σ19, v20, g19, hf⟩ := zbi_use hf
  refine z_callVi (As := [.int 0]) (rest := [.int v18]) hC hI (cX9_held_met st l D ad cy σ17 0 _ g19) (zgV zw35_21 zw35_13 zw35_14 zw2_1 zw35_15) rfl ⟨rfl, rfl⟩ 1 hdX9_held ⟨Nat.le_of_ble_eq_true rfl, Nat.le_of_ble_eq_true rfl⟩ rfl rfl (wC_e2 ad cy σ17) rfl hl rfl (Nat.le_of_ble_eq_true rfl) dX3_drawSprite_13 ⟨Nat.zero_le _, Nat.zero_le _⟩ (fun H locs hI => ?_)
  refine lv_bipush (v := 8) hx hb dX3_drawSprite_16 (by decide) ?_
  refine lv_iand hx hb dX3_drawSprite_18 ?_
  refine lv_if_eq (tgt := 27) hx hb dX3_drawSprite_19 (by decide) (fun q => ?_) (fun q => ?_)
  · replace hf := zif_t q hf
    refine lv_iconst (v := 0) hx hb dX3_drawSprite_27 (by decide) ?_
    exact bX3_drawSprite_28 hC  hI hl hf
  replace hf := zif_f q hf
  refine lv_bipush (v := 8) hx hb dX3_drawSprite_22 (by decide) ?_
  refine lv_goto (tgt := 28) hx hb dX3_drawSprite_24 (by decide) ?_
  exact bX3_drawSprite_28 hC  hI hl hf
set_option maxRecDepth 20000 in
theorem cX3_drawSprite_met (st : Nat → Nat) (l : Launch) (D : va_G) (ad : Nat → Nat) (cy : Nat → ClassId) (σ : zSt) (x1 : Int32) (x2 : Int32) (res : zSt) (hf : fX3_drawSprite σ x1 x2 = some res) (sz : Nat) : zMu st l yX3_drawSprite wzX3_drawSprite rmX3_drawSprite [.ref (ad 3), .int x1, .int x2] D (tC cy) (wC ad cy) sz σ res :=
  zMu.of (cc := cX3_drawSprite) (maxL := 10) (ret := none) (by decide) rfl (Nat.le_of_ble_eq_true rfl) (fun p e s m args below meth c hC A hI ls hl => bX3_drawSprite hC hI hl hf)
theorem hdX3_drawSprite : yX3_drawSprite.cls = RX3 ∧ yX3_drawSprite.cls ≠ "java/lang/invoke/MethodHandle" ∧ yX3_drawSprite.cls ≠ "java/lang/invoke/VarHandle" ∧ (parseMethodDescriptor yX3_drawSprite.desc).map (fun d => d.parameters.length) = some 2 := by decide +kernel
def rmX3_drawSprites : Room := { frames := 3, cells := 0, slots := 0, locals := 71 }
def wzX3_drawSprites : List Cond := .code yX3_drawSprites cX3_drawSprites 8 none :: wsL_law
theorem hinX3_drawSprites_X30 : ∀ w ∈ wsX30, w ∈ wzX3_drawSprites := fun w h => List.mem_cons_of_mem _ (inlX3 w h)
def fX3_drawSprites_196 (k147 : zSt → Int32 → Option (zSt)) (σ : zSt) (x5 : Int32) : Option (zSt) :=
  zbv (x5 + 1) (fun v1 =>
  k147 σ v1)
def fX3_drawSprites_147_body (k147 : zSt → Int32 → Option (zSt)) (σ : zSt) (x5 : Int32) : Option (zSt) :=
  if 256 ≤ x5 then some σ else
  zck (zin x5 256) (
  if (zgi σ 28 x5.toNatClampNeg) ≤ 0 then fX3_drawSprites_196 k147 σ x5 else
  zck (zin x5 256) (
  if ((zgi σ 27 x5.toNatClampNeg) &&& 256) = 0 then zck (zin x5 256) (
  zck (zin x5 256) (zbv (zsi σ 27 (x5.toNatClampNeg) (16 + (zgi σ 28 x5.toNatClampNeg))) (fun σ2 =>
  fX3_drawSprites_196 k147 σ2 x5))) else
  fX3_drawSprites_196 k147 σ x5))
def fX3_drawSprites_147  : Nat → zSt → Int32 → Option (zSt)
  | 0, _, _ => none
  | n + 1, σ, x5 => fX3_drawSprites_147_body (fX3_drawSprites_147  n) σ x5
def fX3_drawSprites_144  (σ : zSt)  : Option (zSt) :=
  fX3_drawSprites_147 zfuel σ 0
def fX3_drawSprites_138 (k51 : zSt → Int32 → Int32 → Int32 → Int32 → Int32 → Option (zSt)) (σ : zSt) (x1 : Int32) (x2 : Int32) (x3 : Int32) (x4 : Int32) (x5 : Int32) : Option (zSt) :=
  zbv (x5 + 1) (fun v3 =>
  k51 σ x1 x2 x3 x4 v3)
def fX3_drawSprites_86 (k51 : zSt → Int32 → Int32 → Int32 → Int32 → Int32 → Option (zSt)) (σ : zSt) (x1 : Int32) (x2 : Int32) (x3 : Int32) (x4 : Int32) (x5 : Int32) (x6 : Int32) : Option (zSt) :=
  zbi (fX3_rowOfSprite σ x1 x6) (fun σ4 v5 =>
  if v5 < 0 then fX3_drawSprites_138 k51 σ4 x1 x2 x3 x4 x5 else
  zbv (x4 + 1) (fun v6 =>
  if v6 ≤ 8 then zbu (fX3_drawSprite σ4 ((x2 + 128) + (2 * x5)) v5) (fun σ7 =>
  fX3_drawSprites_138 k51 σ7 x1 x2 x3 v6 x5) else
  zbu (fX9_mark σ4 64) (fun σ8 =>
  fX3_drawSprites_144 σ8)))
def fX3_drawSprites_51_body (k51 : zSt → Int32 → Int32 → Int32 → Int32 → Int32 → Option (zSt)) (σ : zSt) (x1 : Int32) (x2 : Int32) (x3 : Int32) (x4 : Int32) (x5 : Int32) : Option (zSt) :=
  if 64 ≤ x5 then fX3_drawSprites_144 σ else
  zbi (fX9_vramByte σ (x2 + x5)) (fun σ9 v10 =>
  if x3 = 0 then fX3_drawSprites_86 k51 σ9 x1 x2 x3 x4 x5 v10 else
  if v10 = 208 then fX3_drawSprites_144 σ9 else
  fX3_drawSprites_86 k51 σ9 x1 x2 x3 x4 x5 v10)
def fX3_drawSprites_51  : Nat → zSt → Int32 → Int32 → Int32 → Int32 → Int32 → Option (zSt)
  | 0, _, _, _, _, _, _ => none
  | n + 1, σ, x1, x2, x3, x4, x5 => fX3_drawSprites_51_body (fX3_drawSprites_51  n) σ x1 x2 x3 x4 x5
def fX3_drawSprites_44  (σ : zSt) (x1 : Int32) (x2 : Int32) (s0 : Int32) : Option (zSt) :=
  fX3_drawSprites_51 zfuel σ x1 x2 s0 0 0
def fX3_drawSprites  (σ : zSt) (x1 : Int32) : Option (zSt) :=
  zbu (fJ7_fill_53178_k28 σ 0) (fun σ11 =>
  zbi (fX9_held σ11 5) (fun σ12 v13 =>
  zbv (256 * ((v13 >>> ((1 : Int32) &&& 31)) &&& 63)) (fun v14 =>
  zbi (fX9_height σ12 ) (fun σ15 v16 =>
  if v16 = 192 then fX3_drawSprites_44 σ15 x1 v14 1 else
  fX3_drawSprites_44 σ15 x1 v14 0))))
set_option maxRecDepth 20000 in
set_option maxHeartbeats 4000000 in
theorem bX3_drawSprites_196 {st : Nat → Nat} {p : Program} {l : Launch} {e : Env} {s : State} {m : MethodId} {args : Array Value} {below : List Frame} {meth : Method} {c : Code} {D : va_G} {A : Nat → Prop} {ad : Nat → Nat} {cy : Nat → ClassId} (hC : zC p m c cX3_drawSprites 8 s args wzX3_drawSprites RX3 meth none) {k147 : zSt → Int32 → Option (zSt)} {res : zSt} (hk147 : ∀ (H : Heap) (locs : List Loc) (σ : zSt) (ls : Array Slot) (x5 : Int32), zI st D (tC cy) (wC ad cy σ) A s H locs → lv_has ls 8 [(0, .ref (ad 3)), (5, .int x5)] → k147 σ x5 = some res → W p l e rmX3_drawSprites s m args below meth c H locs 0 0 (zQu below args s D (tC cy) (wC ad cy) A res) (F0 m 147 ls [])) {H : Heap} {locs : List Loc} {σ : zSt} {ls : Array Slot} {x5 : Int32} (hI : zI st D (tC cy) (wC ad cy σ) A s H locs) (hl : lv_has ls 8 [(0, .ref (ad 3)), (5, .int x5)]) (hf : fX3_drawSprites_196 k147 σ x5 = some res) : W p l e rmX3_drawSprites s m args below meth c H locs 0 0 (zQu below args s D (tC cy) (wC ad cy) A res) (F0 m 196 ls []) := by
  have hx := hC.1
  have hb := hC.2.1
  unfold fX3_drawSprites_196 at hf
  obtain ⟨v1, ev1⟩ : ∃ z : Int32, z = x5 + 1 := ⟨_, rfl⟩
  replace hf := zbv_use ev1 hf
  refine lv_iinc (v := v1) (lv' := [(5, .int v1), (0, .ref (ad 3))]) hx hb dX3_drawSprites_196 hl (k := 1) rfl (by rw [ev1]; rfl) (by decide) rfl (fun ls hl => ?_)
  refine lv_goto (tgt := 147) hx hb dX3_drawSprites_199 (by decide) ?_
  exact hk147 _ _ _ _ _ hI (lv_sub hl [1, 0] rfl) hf
set_option maxRecDepth 20000 in
set_option maxHeartbeats 4000000 in
theorem bX3_drawSprites_147_body {st : Nat → Nat} {p : Program} {l : Launch} {e : Env} {s : State} {m : MethodId} {args : Array Value} {below : List Frame} {meth : Method} {c : Code} {D : va_G} {A : Nat → Prop} {ad : Nat → Nat} {cy : Nat → ClassId} (hC : zC p m c cX3_drawSprites 8 s args wzX3_drawSprites RX3 meth none) {k147 : zSt → Int32 → Option (zSt)} {res : zSt} (hk147 : ∀ (H : Heap) (locs : List Loc) (σ : zSt) (ls : Array Slot) (x5 : Int32), zI st D (tC cy) (wC ad cy σ) A s H locs → lv_has ls 8 [(0, .ref (ad 3)), (5, .int x5)] → k147 σ x5 = some res → W p l e rmX3_drawSprites s m args below meth c H locs 0 0 (zQu below args s D (tC cy) (wC ad cy) A res) (F0 m 147 ls [])) {H : Heap} {locs : List Loc} {σ : zSt} {ls : Array Slot} {x5 : Int32} (hI : zI st D (tC cy) (wC ad cy σ) A s H locs) (hl : lv_has ls 8 [(0, .ref (ad 3)), (5, .int x5)]) (hf : fX3_drawSprites_147_body k147 σ x5 = some res) : W p l e rmX3_drawSprites s m args below meth c H locs 0 0 (zQu below args s D (tC cy) (wC ad cy) A res) (F0 m 147 ls []) := by
  have hx := hC.1
  have hb := hC.2.1
  unfold fX3_drawSprites_147_body at hf
  refine lv_iload hx hb dX3_drawSprites_147 (lv_at hl 1 rfl) ?_
  refine lv_sipush (v := 256) hx hb dX3_drawSprites_149 (by decide) ?_
  refine lv_icmp_ge (tgt := 202) hx hb dX3_drawSprites_152 (by decide) (fun q => ?_) (fun q => ?_)
  · replace hf := zif_t q hf
    exact z_return hC hI hf dX3_drawSprites_202
  replace hf := zif_f q hf
  refine lv_aload_n hx hb dX3_drawSprites_155 rfl (lv_at hl 0 rfl) ?_
  refine z_get hC hI hinX3_drawSprites_X30 3 (wC_e3 ad cy σ) rfl 5 (by decide) (List.mem_cons_of_mem _ zw4_20) rfl dX3_drawSprites_156 ?_
  refine lv_iload hx hb dX3_drawSprites_159 (lv_at hl 1 rfl) ?_
  obtain ⟨q, hf⟩ := zck_use hf
  refine z_iald hC hI 28 15 (wC_e28 ad cy σ) (tC_t28 cy) q dX3_drawSprites_161 ?_
  refine lv_if_le (tgt := 196) hx hb dX3_drawSprites_162 (by decide) (fun q => ?_) (fun q => ?_)
  · replace hf := zif_t q hf
    exact bX3_drawSprites_196 hC hk147 hI hl hf
  replace hf := zif_f q hf
  refine lv_aload_n hx hb dX3_drawSprites_165 rfl (lv_at hl 0 rfl) ?_
  refine z_get hC hI hinX3_drawSprites_X30 3 (wC_e3 ad cy σ) rfl 4 (by decide) (List.mem_cons_of_mem _ zw4_19) rfl dX3_drawSprites_166 ?_
  refine lv_iload hx hb dX3_drawSprites_169 (lv_at hl 1 rfl) ?_
  obtain ⟨q, hf⟩ := zck_use hf
  refine z_iald hC hI 27 14 (wC_e27 ad cy σ) (tC_t27 cy) q dX3_drawSprites_171 ?_
  refine lv_sipush (v := 256) hx hb dX3_drawSprites_172 (by decide) ?_
  refine lv_iand hx hb dX3_drawSprites_175 ?_
  refine lv_if_ne (tgt := 196) hx hb dX3_drawSprites_176 (by decide) (fun q => ?_) (fun q => ?_)
  · replace hf := zif_f q hf
    exact bX3_drawSprites_196 hC hk147 hI hl hf
  replace hf := zif_t q hf
  refine lv_aload_n hx hb dX3_drawSprites_179 rfl (lv_at hl 0 rfl) ?_
  refine z_get hC hI hinX3_drawSprites_X30 3 (wC_e3 ad cy σ) rfl 4 (by decide) (List.mem_cons_of_mem _ zw4_19) rfl dX3_drawSprites_180 ?_
  refine lv_iload hx hb dX3_drawSprites_183 (lv_at hl 1 rfl) ?_
  refine lv_bipush (v := 16) hx hb dX3_drawSprites_185 (by decide) ?_
  refine lv_aload_n hx hb dX3_drawSprites_187 rfl (lv_at hl 0 rfl) ?_
  refine z_get hC hI hinX3_drawSprites_X30 3 (wC_e3 ad cy σ) rfl 5 (by decide) (List.mem_cons_of_mem _ zw4_20) rfl dX3_drawSprites_188 ?_
  refine lv_iload hx hb dX3_drawSprites_191 (lv_at hl 1 rfl) ?_
  obtain ⟨q, hf⟩ := zck_use hf
  refine z_iald hC hI 28 15 (wC_e28 ad cy σ) (tC_t28 cy) q dX3_drawSprites_193 ?_
  refine lv_iadd hx hb dX3_drawSprites_194 ?_
  obtain ⟨q, hf⟩ := zck_use hf
  obtain ⟨σ2, eσ2⟩ : ∃ z, z = zsi σ 27 (x5.toNatClampNeg) (16 + (zgi σ 28 x5.toNatClampNeg)) := ⟨_, rfl⟩
  replace hf := zbv_use eσ2 hf
  refine z_iast hC hI 27 14 (wC_e27 ad cy σ) (tC_t27 cy) q ((wC_s27 ad cy σ _ _).trans (congrArg (wC ad cy) eσ2.symm)) dX3_drawSprites_195 (fun H locs hI => ?_)
  exact bX3_drawSprites_196 hC hk147 hI hl hf
theorem blX3_drawSprites_147 {st : Nat → Nat} {p : Program} {l : Launch} {e : Env} {s : State} {m : MethodId} {args : Array Value} {below : List Frame} {meth : Method} {c : Code} {D : va_G} {A : Nat → Prop} {ad : Nat → Nat} {cy : Nat → ClassId} (hC : zC p m c cX3_drawSprites 8 s args wzX3_drawSprites RX3 meth none)  {res : zSt} : ∀ (n : Nat) (H : Heap) (locs : List Loc) (σ : zSt) (ls : Array Slot) (x5 : Int32), zI st D (tC cy) (wC ad cy σ) A s H locs → lv_has ls 8 [(0, .ref (ad 3)), (5, .int x5)] → fX3_drawSprites_147  n σ x5 = some res → W p l e rmX3_drawSprites s m args below meth c H locs 0 0 (zQu below args s D (tC cy) (wC ad cy) A res) (F0 m 147 ls []) := by
  intro n
  induction n with
  | zero => intro H locs σ ls x5 hI hl hf; cases hf
  | succ n ih => intro H locs σ ls x5 hI hl hf; exact bX3_drawSprites_147_body hC ih hI hl hf
set_option maxRecDepth 20000 in
set_option maxHeartbeats 4000000 in
theorem bX3_drawSprites_144 {st : Nat → Nat} {p : Program} {l : Launch} {e : Env} {s : State} {m : MethodId} {args : Array Value} {below : List Frame} {meth : Method} {c : Code} {D : va_G} {A : Nat → Prop} {ad : Nat → Nat} {cy : Nat → ClassId} (hC : zC p m c cX3_drawSprites 8 s args wzX3_drawSprites RX3 meth none)  {res : zSt} {H : Heap} {locs : List Loc} {σ : zSt} {ls : Array Slot}  (hI : zI st D (tC cy) (wC ad cy σ) A s H locs) (hl : lv_has ls 8 [(0, .ref (ad 3))]) (hf : fX3_drawSprites_144  σ  = some res) : W p l e rmX3_drawSprites s m args below meth c H locs 0 0 (zQu below args s D (tC cy) (wC ad cy) A res) (F0 m 144 ls []) := by
  have hx := hC.1
  have hb := hC.2.1
  unfold fX3_drawSprites_144 at hf
  refine lv_iconst (v := 0) hx hb dX3_drawSprites_144 (by decide) ?_
  refine lv_istore (lv' := [(5, .int 0), (0, .ref (ad 3))]) hx hb dX3_drawSprites_145 hl (by decide) rfl (fun ls hl => ?_)
  exact blX3_drawSprites_147 hC  zfuel _ _ _ _ _ hI (lv_sub hl [1, 0] rfl) hf
set_option maxRecDepth 20000 in
set_option maxHeartbeats 4000000 in
theorem bX3_drawSprites_138 {st : Nat → Nat} {p : Program} {l : Launch} {e : Env} {s : State} {m : MethodId} {args : Array Value} {below : List Frame} {meth : Method} {c : Code} {D : va_G} {A : Nat → Prop} {ad : Nat → Nat} {cy : Nat → ClassId} (hC : zC p m c cX3_drawSprites 8 s args wzX3_drawSprites RX3 meth none) {k51 : zSt → Int32 → Int32 → Int32 → Int32 → Int32 → Option (zSt)} {res : zSt} (hk51 : ∀ (H : Heap) (locs : List Loc) (σ : zSt) (ls : Array Slot) (x1 : Int32) (x2 : Int32) (x3 : Int32) (x4 : Int32) (x5 : Int32), zI st D (tC cy) (wC ad cy σ) A s H locs → lv_has ls 8 [(0, .ref (ad 3)), (1, .int x1), (2, .int x2), (3, .int x3), (4, .int x4), (5, .int x5)] → k51 σ x1 x2 x3 x4 x5 = some res → W p l e rmX3_drawSprites s m args below meth c H locs 0 0 (zQu below args s D (tC cy) (wC ad cy) A res) (F0 m 51 ls [])) {H : Heap} {locs : List Loc} {σ : zSt} {ls : Array Slot} {x1 : Int32} {x2 : Int32} {x3 : Int32} {x4 : Int32} {x5 : Int32} (hI : zI st D (tC cy) (wC ad cy σ) A s H locs) (hl : lv_has ls 8 [(0, .ref (ad 3)), (1, .int x1), (2, .int x2), (3, .int x3), (4, .int x4), (5, .int x5)]) (hf : fX3_drawSprites_138 k51 σ x1 x2 x3 x4 x5 = some res) : W p l e rmX3_drawSprites s m args below meth c H locs 0 0 (zQu below args s D (tC cy) (wC ad cy) A res) (F0 m 138 ls []) := by
  have hx := hC.1
  have hb := hC.2.1
  unfold fX3_drawSprites_138 at hf
  obtain ⟨v3, ev3⟩ : ∃ z : Int32, z = x5 + 1 := ⟨_, rfl⟩
  replace hf := zbv_use ev3 hf
  refine lv_iinc (v := v3) (lv' := [(5, .int v3), (0, .ref (ad 3)), (1, .int x1), (2, .int x2), (3, .int x3), (4, .int x4)]) hx hb dX3_drawSprites_138 hl (k := 5) rfl (by rw [ev3]; rfl) (by decide) rfl (fun ls hl => ?_)
  refine lv_goto (tgt := 51) hx hb dX3_drawSprites_141 (by decide) ?_
  exact hk51 _ _ _ _ _ _ _ _ _ hI (lv_sub hl [1, 2, 3, 4, 5, 0] rfl) hf
set_option maxRecDepth 20000 in
set_option maxHeartbeats 4000000 in
theorem bX3_drawSprites_86 {st : Nat → Nat} {p : Program} {l : Launch} {e : Env} {s : State} {m : MethodId} {args : Array Value} {below : List Frame} {meth : Method} {c : Code} {D : va_G} {A : Nat → Prop} {ad : Nat → Nat} {cy : Nat → ClassId} (hC : zC p m c cX3_drawSprites 8 s args wzX3_drawSprites RX3 meth none) {k51 : zSt → Int32 → Int32 → Int32 → Int32 → Int32 → Option (zSt)} {res : zSt} (hk51 : ∀ (H : Heap) (locs : List Loc) (σ : zSt) (ls : Array Slot) (x1 : Int32) (x2 : Int32) (x3 : Int32) (x4 : Int32) (x5 : Int32), zI st D (tC cy) (wC ad cy σ) A s H locs → lv_has ls 8 [(0, .ref (ad 3)), (1, .int x1), (2, .int x2), (3, .int x3), (4, .int x4), (5, .int x5)] → k51 σ x1 x2 x3 x4 x5 = some res → W p l e rmX3_drawSprites s m args below meth c H locs 0 0 (zQu below args s D (tC cy) (wC ad cy) A res) (F0 m 51 ls [])) {H : Heap} {locs : List Loc} {σ : zSt} {ls : Array Slot} {x1 : Int32} {x2 : Int32} {x3 : Int32} {x4 : Int32} {x5 : Int32} {x6 : Int32} (hI : zI st D (tC cy) (wC ad cy σ) A s H locs) (hl : lv_has ls 8 [(0, .ref (ad 3)), (1, .int x1), (2, .int x2), (3, .int x3), (4, .int x4), (5, .int x5), (6, .int x6)]) (hf : fX3_drawSprites_86 k51 σ x1 x2 x3 x4 x5 x6 = some res) : W p l e rmX3_drawSprites s m args below meth c H locs 0 0 (zQu below args s D (tC cy) (wC ad cy) A res) (F0 m 86 ls []) := by
  have hx := hC.1
  have hb := hC.2.1
  unfold fX3_drawSprites_86 at hf
  refine lv_aload_n hx hb dX3_drawSprites_86 rfl (lv_at hl 0 rfl) ?_
  refine lv_iload_n hx hb dX3_drawSprites_87 rfl (lv_at hl 1 rfl) ?_
  refine lv_iload hx hb dX3_drawSprites_88 (lv_at hl 6 rfl) ?_
  obtain ⟨σ4, v5, g4, hf⟩ := zbi_use hf
  refine z_callVi (As := [.int x1, .int x6]) (rest := []) hC hI (cX3_rowOfSprite_met st l D ad cy σ x1 x6 _ g4) (zgV zw37_6 zw37_7 zw37_8 zw2_5 zw37_9) rfl ⟨rfl, rfl⟩ 2 hdX3_rowOfSprite ⟨Nat.le_of_ble_eq_true rfl, Nat.le_of_ble_eq_true rfl⟩ rfl rfl (wC_e3 ad cy σ) rfl hl rfl (Nat.le_of_ble_eq_true rfl) dX3_drawSprites_90 ⟨Nat.zero_le _, Nat.zero_le _⟩ (fun H locs hI => ?_)
  refine lv_istore (lv' := [(7, .int v5), (0, .ref (ad 3)), (1, .int x1), (2, .int x2), (3, .int x3), (4, .int x4), (5, .int x5), (6, .int x6)]) hx hb dX3_drawSprites_93 hl (by decide) rfl (fun ls hl => ?_)
  refine lv_iload hx hb dX3_drawSprites_95 (lv_at hl 0 rfl) ?_
  refine lv_if_lt (tgt := 138) hx hb dX3_drawSprites_97 (by decide) (fun q => ?_) (fun q => ?_)
  · replace hf := zif_t q hf
    exact bX3_drawSprites_138 hC hk51 hI (lv_sub hl [1, 2, 3, 4, 5, 6] rfl) hf
  replace hf := zif_f q hf
  obtain ⟨v6, ev6⟩ : ∃ z : Int32, z = x4 + 1 := ⟨_, rfl⟩
  replace hf := zbv_use ev6 hf
  refine lv_iinc (v := v6) (lv' := [(4, .int v6), (7, .int v5), (0, .ref (ad 3)), (1, .int x1), (2, .int x2), (3, .int x3), (5, .int x5), (6, .int x6)]) hx hb dX3_drawSprites_100 hl (k := 5) rfl (by rw [ev6]; rfl) (by decide) rfl (fun ls hl => ?_)
  refine lv_iload hx hb dX3_drawSprites_103 (lv_at hl 0 rfl) ?_
  refine lv_bipush (v := 8) hx hb dX3_drawSprites_105 (by decide) ?_
  refine lv_icmp_le (tgt := 122) hx hb dX3_drawSprites_107 (by decide) (fun q => ?_) (fun q => ?_)
  · replace hf := zif_t q hf
    refine lv_aload_n hx hb dX3_drawSprites_122 rfl (lv_at hl 2 rfl) ?_
    refine lv_iload_n hx hb dX3_drawSprites_123 rfl (lv_at hl 4 rfl) ?_
    refine lv_sipush (v := 128) hx hb dX3_drawSprites_124 (by decide) ?_
    refine lv_iadd hx hb dX3_drawSprites_127 ?_
    refine lv_iconst (v := 2) hx hb dX3_drawSprites_128 (by decide) ?_
    refine lv_iload hx hb dX3_drawSprites_129 (lv_at hl 6 rfl) ?_
    refine lv_imul hx hb dX3_drawSprites_131 ?_
    refine lv_iadd hx hb dX3_drawSprites_132 ?_
    refine lv_iload hx hb dX3_drawSprites_133 (lv_at hl 1 rfl) ?_
    obtain ⟨σ7, g7, hf⟩ := zbu_use hf
    refine z_callVu (As := [.int ((x2 + 128) + (2 * x5)), .int v5]) (rest := []) hC hI (cX3_drawSprite_met st l D ad cy σ4 ((x2 + 128) + (2 * x5)) v5 _ g7) (zgV zw37_14 zw37_15 zw37_16 zw2_5 zw37_17) rfl ⟨rfl, rfl⟩ 2 hdX3_drawSprite ⟨Nat.le_of_ble_eq_true rfl, Nat.le_of_ble_eq_true rfl⟩ rfl rfl (wC_e3 ad cy σ4) rfl hl rfl (Nat.le_of_ble_eq_true rfl) dX3_drawSprites_135 ⟨Nat.zero_le _, Nat.zero_le _⟩ (fun H locs hI => ?_)
    exact bX3_drawSprites_138 hC hk51 hI (lv_sub hl [2, 3, 4, 5, 0, 6] rfl) hf
  replace hf := zif_f q hf
  refine lv_aload_n hx hb dX3_drawSprites_110 rfl (lv_at hl 2 rfl) ?_
  refine z_get hC hI hinX3_drawSprites_X30 3 (wC_e3 ad cy σ4) rfl 0 (by decide) (List.mem_cons_of_mem _ zw4_22) rfl dX3_drawSprites_111 ?_
  refine lv_bipush (v := 64) hx hb dX3_drawSprites_114 (by decide) ?_
  obtain ⟨σ8, g8, hf⟩ := zbu_use hf
  refine z_callVu (As := [.int 64]) (rest := []) hC hI (cX9_mark_met st l D ad cy σ4 64 _ g8) (zgV zw37_10 zw37_11 zw37_12 zw2_1 zw37_13) rfl ⟨rfl, rfl⟩ 1 hdX9_mark ⟨Nat.le_of_ble_eq_true rfl, Nat.le_of_ble_eq_true rfl⟩ rfl rfl (wC_e2 ad cy σ4) rfl hl rfl (Nat.le_of_ble_eq_true rfl) dX3_drawSprites_116 ⟨Nat.zero_le _, Nat.zero_le _⟩ (fun H locs hI => ?_)
  refine lv_goto (tgt := 144) hx hb dX3_drawSprites_119 (by decide) ?_
  exact bX3_drawSprites_144 hC  hI (lv_sub hl [2] rfl) hf
set_option maxRecDepth 20000 in
set_option maxHeartbeats 4000000 in
theorem bX3_drawSprites_51_body {st : Nat → Nat} {p : Program} {l : Launch} {e : Env} {s : State} {m : MethodId} {args : Array Value} {below : List Frame} {meth : Method} {c : Code} {D : va_G} {A : Nat → Prop} {ad : Nat → Nat} {cy : Nat → ClassId} (hC : zC p m c cX3_drawSprites 8 s args wzX3_drawSprites RX3 meth none) {k51 : zSt → Int32 → Int32 → Int32 → Int32 → Int32 → Option (zSt)} {res : zSt} (hk51 : ∀ (H : Heap) (locs : List Loc) (σ : zSt) (ls : Array Slot) (x1 : Int32) (x2 : Int32) (x3 : Int32) (x4 : Int32) (x5 : Int32), zI st D (tC cy) (wC ad cy σ) A s H locs → lv_has ls 8 [(0, .ref (ad 3)), (1, .int x1), (2, .int x2), (3, .int x3), (4, .int x4), (5, .int x5)] → k51 σ x1 x2 x3 x4 x5 = some res → W p l e rmX3_drawSprites s m args below meth c H locs 0 0 (zQu below args s D (tC cy) (wC ad cy) A res) (F0 m 51 ls [])) {H : Heap} {locs : List Loc} {σ : zSt} {ls : Array Slot} {x1 : Int32} {x2 : Int32} {x3 : Int32} {x4 : Int32} {x5 : Int32} (hI : zI st D (tC cy) (wC ad cy σ) A s H locs) (hl : lv_has ls 8 [(0, .ref (ad 3)), (1, .int x1), (2, .int x2), (3, .int x3), (4, .int x4), (5, .int x5)]) (hf : fX3_drawSprites_51_body k51 σ x1 x2 x3 x4 x5 = some res) : W p l e rmX3_drawSprites s m args below meth c H locs 0 0 (zQu below args s D (tC cy) (wC ad cy) A res) (F0 m 51 ls []) := by
  have hx := hC.1
  have hb := hC.2.1
  unfold fX3_drawSprites_51_body at hf
  refine lv_iload hx hb dX3_drawSprites_51 (lv_at hl 5 rfl) ?_
  refine lv_bipush (v := 64) hx hb dX3_drawSprites_53 (by decide) ?_
  refine lv_icmp_ge (tgt := 144) hx hb dX3_drawSprites_55 (by decide) (fun q => ?_) (fun q => ?_)
  · replace hf := zif_t q hf
    exact bX3_drawSprites_144 hC  hI (lv_sub hl [0] rfl) hf
  replace hf := zif_f q hf
  refine lv_aload_n hx hb dX3_drawSprites_58 rfl (lv_at hl 0 rfl) ?_
  refine z_get hC hI hinX3_drawSprites_X30 3 (wC_e3 ad cy σ) rfl 0 (by decide) (List.mem_cons_of_mem _ zw4_22) rfl dX3_drawSprites_59 ?_
  refine lv_iload_n hx hb dX3_drawSprites_62 rfl (lv_at hl 2 rfl) ?_
  refine lv_iload hx hb dX3_drawSprites_63 (lv_at hl 5 rfl) ?_
  refine lv_iadd hx hb dX3_drawSprites_65 ?_
  obtain ⟨σ9, v10, g9, hf⟩ := zbi_use hf
  refine z_callVi (As := [.int (x2 + x5)]) (rest := []) hC hI (cX9_vramByte_met st l D ad cy σ (x2 + x5) _ g9) (zgV zw36_14 zw36_15 zw36_16 zw2_1 zw36_17) rfl ⟨rfl, rfl⟩ 1 hdX9_vramByte ⟨Nat.le_of_ble_eq_true rfl, Nat.le_of_ble_eq_true rfl⟩ rfl rfl (wC_e2 ad cy σ) rfl hl rfl (Nat.le_of_ble_eq_true rfl) dX3_drawSprites_66 ⟨Nat.zero_le _, Nat.zero_le _⟩ (fun H locs hI => ?_)
  refine lv_istore (lv' := [(6, .int v10), (0, .ref (ad 3)), (1, .int x1), (2, .int x2), (3, .int x3), (4, .int x4), (5, .int x5)]) hx hb dX3_drawSprites_69 hl (by decide) rfl (fun ls hl => ?_)
  refine lv_iload_n hx hb dX3_drawSprites_71 rfl (lv_at hl 4 rfl) ?_
  refine lv_if_eq (tgt := 86) hx hb dX3_drawSprites_72 (by decide) (fun q => ?_) (fun q => ?_)
  · replace hf := zif_t q hf
    exact bX3_drawSprites_86 hC hk51 hI (lv_sub hl [1, 2, 3, 4, 5, 6, 0] rfl) hf
  replace hf := zif_f q hf
  refine lv_iload hx hb dX3_drawSprites_75 (lv_at hl 0 rfl) ?_
  refine lv_sipush (v := 208) hx hb dX3_drawSprites_77 (by decide) ?_
  refine lv_icmp_ne (tgt := 86) hx hb dX3_drawSprites_80 (by decide) (fun q => ?_) (fun q => ?_)
  · replace hf := zif_f q hf
    exact bX3_drawSprites_86 hC hk51 hI (lv_sub hl [1, 2, 3, 4, 5, 6, 0] rfl) hf
  replace hf := zif_t q hf
  refine lv_goto (tgt := 144) hx hb dX3_drawSprites_83 (by decide) ?_
  exact bX3_drawSprites_144 hC  hI (lv_sub hl [1] rfl) hf
theorem blX3_drawSprites_51 {st : Nat → Nat} {p : Program} {l : Launch} {e : Env} {s : State} {m : MethodId} {args : Array Value} {below : List Frame} {meth : Method} {c : Code} {D : va_G} {A : Nat → Prop} {ad : Nat → Nat} {cy : Nat → ClassId} (hC : zC p m c cX3_drawSprites 8 s args wzX3_drawSprites RX3 meth none)  {res : zSt} : ∀ (n : Nat) (H : Heap) (locs : List Loc) (σ : zSt) (ls : Array Slot) (x1 : Int32) (x2 : Int32) (x3 : Int32) (x4 : Int32) (x5 : Int32), zI st D (tC cy) (wC ad cy σ) A s H locs → lv_has ls 8 [(0, .ref (ad 3)), (1, .int x1), (2, .int x2), (3, .int x3), (4, .int x4), (5, .int x5)] → fX3_drawSprites_51  n σ x1 x2 x3 x4 x5 = some res → W p l e rmX3_drawSprites s m args below meth c H locs 0 0 (zQu below args s D (tC cy) (wC ad cy) A res) (F0 m 51 ls []) := by
  intro n
  induction n with
  | zero => intro H locs σ ls x1 x2 x3 x4 x5 hI hl hf; cases hf
  | succ n ih => intro H locs σ ls x1 x2 x3 x4 x5 hI hl hf; exact bX3_drawSprites_51_body hC ih hI hl hf
set_option maxRecDepth 20000 in
set_option maxHeartbeats 4000000 in
theorem bX3_drawSprites_44 {st : Nat → Nat} {p : Program} {l : Launch} {e : Env} {s : State} {m : MethodId} {args : Array Value} {below : List Frame} {meth : Method} {c : Code} {D : va_G} {A : Nat → Prop} {ad : Nat → Nat} {cy : Nat → ClassId} (hC : zC p m c cX3_drawSprites 8 s args wzX3_drawSprites RX3 meth none)  {res : zSt} {H : Heap} {locs : List Loc} {σ : zSt} {ls : Array Slot} {x1 : Int32} {x2 : Int32} {s0 : Int32} (hI : zI st D (tC cy) (wC ad cy σ) A s H locs) (hl : lv_has ls 8 [(0, .ref (ad 3)), (1, .int x1), (2, .int x2)]) (hf : fX3_drawSprites_44  σ x1 x2 s0 = some res) : W p l e rmX3_drawSprites s m args below meth c H locs 0 0 (zQu below args s D (tC cy) (wC ad cy) A res) (F0 m 44 ls [.int s0]) := by
  have hx := hC.1
  have hb := hC.2.1
  unfold fX3_drawSprites_44 at hf
  refine lv_istore_n (lv' := [(3, .int s0), (0, .ref (ad 3)), (1, .int x1), (2, .int x2)]) hx hb dX3_drawSprites_44 rfl hl (by decide) rfl (fun ls hl => ?_)
  refine lv_iconst (v := 0) hx hb dX3_drawSprites_45 (by decide) ?_
  refine lv_istore (lv' := [(4, .int 0), (3, .int s0), (0, .ref (ad 3)), (1, .int x1), (2, .int x2)]) hx hb dX3_drawSprites_46 hl (by decide) rfl (fun ls hl => ?_)
  refine lv_iconst (v := 0) hx hb dX3_drawSprites_48 (by decide) ?_
  refine lv_istore (lv' := [(5, .int 0), (4, .int 0), (3, .int s0), (0, .ref (ad 3)), (1, .int x1), (2, .int x2)]) hx hb dX3_drawSprites_49 hl (by decide) rfl (fun ls hl => ?_)
  exact blX3_drawSprites_51 hC  zfuel _ _ _ _ _ _ _ _ _ hI (lv_sub hl [3, 4, 5, 2, 1, 0] rfl) hf
set_option maxRecDepth 20000 in
set_option maxHeartbeats 4000000 in
theorem bX3_drawSprites {st : Nat → Nat} {p : Program} {l : Launch} {e : Env} {s : State} {m : MethodId} {args : Array Value} {below : List Frame} {meth : Method} {c : Code} {D : va_G} {A : Nat → Prop} {ad : Nat → Nat} {cy : Nat → ClassId} (hC : zC p m c cX3_drawSprites 8 s args wzX3_drawSprites RX3 meth none)  {res : zSt} {H : Heap} {locs : List Loc} {σ : zSt} {ls : Array Slot} {x1 : Int32} (hI : zI st D (tC cy) (wC ad cy σ) A s H locs) (hl : lv_has ls 8 [(0, .ref (ad 3)), (1, .int x1)]) (hf : fX3_drawSprites  σ x1 = some res) : W p l e rmX3_drawSprites s m args below meth c H locs 0 0 (zQu below args s D (tC cy) (wC ad cy) A res) (F0 m 0 ls []) := by
  have hx := hC.1
  have hb := hC.2.1
  unfold fX3_drawSprites at hf
  refine lv_aload_n hx hb dX3_drawSprites_0 rfl (lv_at hl 0 rfl) ?_
  refine z_get hC hI hinX3_drawSprites_X30 3 (wC_e3 ad cy σ) rfl 5 (by decide) (List.mem_cons_of_mem _ zw4_20) rfl dX3_drawSprites_1 ?_
  refine lv_iconst (v := 0) hx hb dX3_drawSprites_4 (by decide) ?_
  obtain ⟨σ11, g11, hf⟩ := zbu_use hf
  refine z_callSu (As := [.ref (ad 28), .int 0]) (rest := []) hC hI (cJ7_fill_53178_k28_met st l D ad cy σ 0 _ g11) (zgS zw36_2 zw5_12 zw5_13 zw5_14) rfl ⟨rfl, rfl⟩ 2 hdJ7_fill_53178_k28 ⟨Nat.le_of_ble_eq_true rfl, Nat.le_of_ble_eq_true rfl⟩ rfl hl rfl (Nat.le_of_ble_eq_true rfl) dX3_drawSprites_5 ⟨Nat.zero_le _, Nat.zero_le _⟩ (fun H locs hI => ?_)
  refine lv_sipush (v := 256) hx hb dX3_drawSprites_8 (by decide) ?_
  refine lv_aload_n hx hb dX3_drawSprites_11 rfl (lv_at hl 0 rfl) ?_
  refine z_get hC hI hinX3_drawSprites_X30 3 (wC_e3 ad cy σ11) rfl 0 (by decide) (List.mem_cons_of_mem _ zw4_22) rfl dX3_drawSprites_12 ?_
  refine lv_iconst (v := 5) hx hb dX3_drawSprites_15 (by decide) ?_
  obtain ⟨σ12, v13, g12, hf⟩ := zbi_use hf
  refine z_callVi (As := [.int 5]) (rest := [.int 256]) hC hI (cX9_held_met st l D ad cy σ11 5 _ g12) (zgV zw35_21 zw35_13 zw35_14 zw2_1 zw35_15) rfl ⟨rfl, rfl⟩ 1 hdX9_held ⟨Nat.le_of_ble_eq_true rfl, Nat.le_of_ble_eq_true rfl⟩ rfl rfl (wC_e2 ad cy σ11) rfl hl rfl (Nat.le_of_ble_eq_true rfl) dX3_drawSprites_16 ⟨Nat.zero_le _, Nat.zero_le _⟩ (fun H locs hI => ?_)
  refine lv_iconst (v := 1) hx hb dX3_drawSprites_19 (by decide) ?_
  refine lv_ishr hx hb dX3_drawSprites_20 ?_
  refine lv_bipush (v := 63) hx hb dX3_drawSprites_21 (by decide) ?_
  refine lv_iand hx hb dX3_drawSprites_23 ?_
  refine lv_imul hx hb dX3_drawSprites_24 ?_
  refine lv_topi (fun v14 ev14 => ?_)
  replace hf := zbv_use ev14 hf
  refine lv_istore_n (lv' := [(2, .int v14), (0, .ref (ad 3)), (1, .int x1)]) hx hb dX3_drawSprites_25 rfl hl (by decide) rfl (fun ls hl => ?_)
  refine lv_aload_n hx hb dX3_drawSprites_26 rfl (lv_at hl 1 rfl) ?_
  refine z_get hC hI hinX3_drawSprites_X30 3 (wC_e3 ad cy σ12) rfl 0 (by decide) (List.mem_cons_of_mem _ zw4_22) rfl dX3_drawSprites_27 ?_
  obtain ⟨σ15, v16, g15, hf⟩ := zbi_use hf
  refine z_callVi (As := []) (rest := []) hC hI (cX9_height_met st l D ad cy σ12  _ g15) (zgV zw36_9 zw25_17 zw25_18 zw2_1 zw25_19) rfl ⟨rfl, rfl⟩ 0 hdX9_height ⟨Nat.le_of_ble_eq_true rfl, Nat.le_of_ble_eq_true rfl⟩ rfl rfl (wC_e2 ad cy σ12) rfl hl rfl (Nat.le_of_ble_eq_true rfl) dX3_drawSprites_30 ⟨Nat.zero_le _, Nat.zero_le _⟩ (fun H locs hI => ?_)
  refine lv_sipush (v := 192) hx hb dX3_drawSprites_33 (by decide) ?_
  refine lv_icmp_ne (tgt := 43) hx hb dX3_drawSprites_36 (by decide) (fun q => ?_) (fun q => ?_)
  · replace hf := zif_f q hf
    refine lv_iconst (v := 0) hx hb dX3_drawSprites_43 (by decide) ?_
    exact bX3_drawSprites_44 hC  hI (lv_sub hl [1, 2, 0] rfl) hf
  replace hf := zif_t q hf
  refine lv_iconst (v := 1) hx hb dX3_drawSprites_39 (by decide) ?_
  refine lv_goto (tgt := 44) hx hb dX3_drawSprites_40 (by decide) ?_
  exact bX3_drawSprites_44 hC  hI (lv_sub hl [1, 2, 0] rfl) hf
set_option maxRecDepth 20000 in
theorem cX3_drawSprites_met (st : Nat → Nat) (l : Launch) (D : va_G) (ad : Nat → Nat) (cy : Nat → ClassId) (σ : zSt) (x1 : Int32) (res : zSt) (hf : fX3_drawSprites σ x1 = some res) (sz : Nat) : zMu st l yX3_drawSprites wzX3_drawSprites rmX3_drawSprites [.ref (ad 3), .int x1] D (tC cy) (wC ad cy) sz σ res :=
  zMu.of (cc := cX3_drawSprites) (maxL := 8) (ret := none) (by decide) rfl (Nat.le_of_ble_eq_true rfl) (fun p e s m args below meth c hC A hI ls hl => bX3_drawSprites hC hI hl hf)
theorem hdX3_drawSprites : yX3_drawSprites.cls = RX3 ∧ yX3_drawSprites.cls ≠ "java/lang/invoke/MethodHandle" ∧ yX3_drawSprites.cls ≠ "java/lang/invoke/VarHandle" ∧ (parseMethodDescriptor yX3_drawSprites.desc).map (fun d => d.parameters.length) = some 1 := by decide +kernel
def rmJ7_rangeCheck_23922 : Room := { frames := 0, cells := 0, slots := 0, locals := 0 }
def wzJ7_rangeCheck_23922 : List Cond := .code yJ7_rangeCheck_23922 cJ7_rangeCheck_23922 3 none :: wsL_law
def fJ7_rangeCheck_23922  (σ : zSt) (x0 : Int32) (x1 : Int32) (x2 : Int32) : Option (zSt) :=
  if x1 ≤ x2 then if 0 ≤ x1 then if x2 ≤ x0 then some σ else
  none else
  none else
  none
set_option maxRecDepth 20000 in
set_option maxHeartbeats 4000000 in
theorem bJ7_rangeCheck_23922 {st : Nat → Nat} {p : Program} {l : Launch} {e : Env} {s : State} {m : MethodId} {args : Array Value} {below : List Frame} {meth : Method} {c : Code} {D : va_G} {A : Nat → Prop} {ad : Nat → Nat} {cy : Nat → ClassId} (hC : zC p m c cJ7_rangeCheck_23922 3 s args wzJ7_rangeCheck_23922 RJ7 meth none)  {res : zSt} {H : Heap} {locs : List Loc} {σ : zSt} {ls : Array Slot} {x0 : Int32} {x1 : Int32} {x2 : Int32} (hI : zI st D (tC cy) (wC ad cy σ) A s H locs) (hl : lv_has ls 3 [(0, .int x0), (1, .int x1), (2, .int x2)]) (hf : fJ7_rangeCheck_23922  σ x0 x1 x2 = some res) : W p l e rmJ7_rangeCheck_23922 s m args below meth c H locs 0 0 (zQu below args s D (tC cy) (wC ad cy) A res) (F0 m 0 ls []) := by
  have hx := hC.1
  have hb := hC.2.1
  unfold fJ7_rangeCheck_23922 at hf
  refine lv_iload_n hx hb dJ7_rangeCheck_23922_0 rfl (lv_at hl 1 rfl) ?_
  refine lv_iload_n hx hb dJ7_rangeCheck_23922_1 rfl (lv_at hl 2 rfl) ?_
  refine lv_icmp_le (tgt := 46) hx hb dJ7_rangeCheck_23922_2 (by decide) (fun q => ?_) (fun q => ?_)
  · replace hf := zif_t q hf
    refine lv_iload_n hx hb dJ7_rangeCheck_23922_46 rfl (lv_at hl 1 rfl) ?_
    refine lv_if_ge (tgt := 59) hx hb dJ7_rangeCheck_23922_47 (by decide) (fun q => ?_) (fun q => ?_)
    · replace hf := zif_t q hf
      refine lv_iload_n hx hb dJ7_rangeCheck_23922_59 rfl (lv_at hl 2 rfl) ?_
      refine lv_iload_n hx hb dJ7_rangeCheck_23922_60 rfl (lv_at hl 0 rfl) ?_
      refine lv_icmp_le (tgt := 73) hx hb dJ7_rangeCheck_23922_61 (by decide) (fun q => ?_) (fun q => ?_)
      · replace hf := zif_t q hf
        exact z_return hC hI hf dJ7_rangeCheck_23922_73
      replace hf := zif_f q hf
      cases hf
    replace hf := zif_f q hf
    cases hf
  replace hf := zif_f q hf
  cases hf
set_option maxRecDepth 20000 in
theorem cJ7_rangeCheck_23922_met (st : Nat → Nat) (l : Launch) (D : va_G) (ad : Nat → Nat) (cy : Nat → ClassId) (σ : zSt) (x0 : Int32) (x1 : Int32) (x2 : Int32) (res : zSt) (hf : fJ7_rangeCheck_23922 σ x0 x1 x2 = some res) (sz : Nat) : zMu st l yJ7_rangeCheck_23922 wzJ7_rangeCheck_23922 rmJ7_rangeCheck_23922 [.int x0, .int x1, .int x2] D (tC cy) (wC ad cy) sz σ res :=
  zMu.of (cc := cJ7_rangeCheck_23922) (maxL := 3) (ret := none) (by decide) rfl (Nat.le_of_ble_eq_true rfl) (fun p e s m args below meth c hC A hI ls hl => bJ7_rangeCheck_23922 hC hI hl hf)
theorem hdJ7_rangeCheck_23922 : yJ7_rangeCheck_23922.cls ≠ "java/lang/invoke/MethodHandle" ∧ yJ7_rangeCheck_23922.cls ≠ "java/lang/invoke/VarHandle" ∧ (parseMethodDescriptor yJ7_rangeCheck_23922.desc).map (fun d => d.parameters.length) = some 3 := by decide +kernel
def rmJ7_fill_fda19_k27 : Room := { frames := 1, cells := 0, slots := 0, locals := 22 }
def wzJ7_fill_fda19 : List Cond := .code yJ7_fill_fda19 cJ7_fill_fda19 5 none :: wsL_law
def fJ7_fill_fda19_k27_10_body (k10 : zSt → Int32 → Int32 → Int32 → Option (zSt)) (σ : zSt) (x2 : Int32) (x3 : Int32) (x4 : Int32) : Option (zSt) :=
  if x2 ≤ x4 then some σ else
  zck (zin x4 256) (zbv (zsi σ 27 (x4.toNatClampNeg) x3) (fun σ1 =>
  zbv (x4 + 1) (fun v2 =>
  k10 σ1 x2 x3 v2)))
def fJ7_fill_fda19_k27_10  : Nat → zSt → Int32 → Int32 → Int32 → Option (zSt)
  | 0, _, _, _, _ => none
  | n + 1, σ, x2, x3, x4 => fJ7_fill_fda19_k27_10_body (fJ7_fill_fda19_k27_10  n) σ x2 x3 x4
def fJ7_fill_fda19_k27  (σ : zSt) (x1 : Int32) (x2 : Int32) (x3 : Int32) : Option (zSt) :=
  zbu (fJ7_rangeCheck_23922 σ 256 x1 x2) (fun σ3 =>
  fJ7_fill_fda19_k27_10 zfuel σ3 x2 x3 x1)
set_option maxRecDepth 20000 in
set_option maxHeartbeats 4000000 in
theorem bJ7_fill_fda19_k27_10_body {st : Nat → Nat} {p : Program} {l : Launch} {e : Env} {s : State} {m : MethodId} {args : Array Value} {below : List Frame} {meth : Method} {c : Code} {D : va_G} {A : Nat → Prop} {ad : Nat → Nat} {cy : Nat → ClassId} (hC : zC p m c cJ7_fill_fda19 5 s args wzJ7_fill_fda19 RJ7 meth none) {k10 : zSt → Int32 → Int32 → Int32 → Option (zSt)} {res : zSt} (hk10 : ∀ (H : Heap) (locs : List Loc) (σ : zSt) (ls : Array Slot) (x2 : Int32) (x3 : Int32) (x4 : Int32), zI st D (tC cy) (wC ad cy σ) A s H locs → lv_has ls 5 [(0, .ref (ad 27)), (2, .int x2), (3, .int x3), (4, .int x4)] → k10 σ x2 x3 x4 = some res → W p l e rmJ7_fill_fda19_k27 s m args below meth c H locs 0 0 (zQu below args s D (tC cy) (wC ad cy) A res) (F0 m 10 ls [])) {H : Heap} {locs : List Loc} {σ : zSt} {ls : Array Slot} {x2 : Int32} {x3 : Int32} {x4 : Int32} (hI : zI st D (tC cy) (wC ad cy σ) A s H locs) (hl : lv_has ls 5 [(0, .ref (ad 27)), (2, .int x2), (3, .int x3), (4, .int x4)]) (hf : fJ7_fill_fda19_k27_10_body k10 σ x2 x3 x4 = some res) : W p l e rmJ7_fill_fda19_k27 s m args below meth c H locs 0 0 (zQu below args s D (tC cy) (wC ad cy) A res) (F0 m 10 ls []) := by
  have hx := hC.1
  have hb := hC.2.1
  unfold fJ7_fill_fda19_k27_10_body at hf
  refine lv_iload hx hb dJ7_fill_fda19_10 (lv_at hl 3 rfl) ?_
  refine lv_iload_n hx hb dJ7_fill_fda19_12 rfl (lv_at hl 1 rfl) ?_
  refine lv_icmp_ge (tgt := 27) hx hb dJ7_fill_fda19_13 (by decide) (fun q => ?_) (fun q => ?_)
  · replace hf := zif_t q hf
    exact z_return hC hI hf dJ7_fill_fda19_27
  replace hf := zif_f q hf
  refine lv_aload_n hx hb dJ7_fill_fda19_16 rfl (lv_at hl 0 rfl) ?_
  refine lv_iload hx hb dJ7_fill_fda19_17 (lv_at hl 3 rfl) ?_
  refine lv_iload_n hx hb dJ7_fill_fda19_19 rfl (lv_at hl 2 rfl) ?_
  obtain ⟨q, hf⟩ := zck_use hf
  obtain ⟨σ1, eσ1⟩ : ∃ z, z = zsi σ 27 (x4.toNatClampNeg) x3 := ⟨_, rfl⟩
  replace hf := zbv_use eσ1 hf
  refine z_iast hC hI 27 14 (wC_e27 ad cy σ) (tC_t27 cy) q ((wC_s27 ad cy σ _ _).trans (congrArg (wC ad cy) eσ1.symm)) dJ7_fill_fda19_20 (fun H locs hI => ?_)
  obtain ⟨v2, ev2⟩ : ∃ z : Int32, z = x4 + 1 := ⟨_, rfl⟩
  replace hf := zbv_use ev2 hf
  refine lv_iinc (v := v2) (lv' := [(4, .int v2), (0, .ref (ad 27)), (2, .int x2), (3, .int x3)]) hx hb dJ7_fill_fda19_21 hl (k := 3) rfl (by rw [ev2]; rfl) (by decide) rfl (fun ls hl => ?_)
  refine lv_goto (tgt := 10) hx hb dJ7_fill_fda19_24 (by decide) ?_
  exact hk10 _ _ _ _ _ _ _ hI (lv_sub hl [1, 2, 3, 0] rfl) hf
theorem blJ7_fill_fda19_k27_10 {st : Nat → Nat} {p : Program} {l : Launch} {e : Env} {s : State} {m : MethodId} {args : Array Value} {below : List Frame} {meth : Method} {c : Code} {D : va_G} {A : Nat → Prop} {ad : Nat → Nat} {cy : Nat → ClassId} (hC : zC p m c cJ7_fill_fda19 5 s args wzJ7_fill_fda19 RJ7 meth none)  {res : zSt} : ∀ (n : Nat) (H : Heap) (locs : List Loc) (σ : zSt) (ls : Array Slot) (x2 : Int32) (x3 : Int32) (x4 : Int32), zI st D (tC cy) (wC ad cy σ) A s H locs → lv_has ls 5 [(0, .ref (ad 27)), (2, .int x2), (3, .int x3), (4, .int x4)] → fJ7_fill_fda19_k27_10  n σ x2 x3 x4 = some res → W p l e rmJ7_fill_fda19_k27 s m args below meth c H locs 0 0 (zQu below args s D (tC cy) (wC ad cy) A res) (F0 m 10 ls []) := by
  intro n
  induction n with
  | zero => intro H locs σ ls x2 x3 x4 hI hl hf; cases hf
  | succ n ih => intro H locs σ ls x2 x3 x4 hI hl hf; exact bJ7_fill_fda19_k27_10_body hC ih hI hl hf
set_option maxRecDepth 20000 in
set_option maxHeartbeats 4000000 in
theorem bJ7_fill_fda19_k27 {st : Nat → Nat} {p : Program} {l : Launch} {e : Env} {s : State} {m : MethodId} {args : Array Value} {below : List Frame} {meth : Method} {c : Code} {D : va_G} {A : Nat → Prop} {ad : Nat → Nat} {cy : Nat → ClassId} (hC : zC p m c cJ7_fill_fda19 5 s args wzJ7_fill_fda19 RJ7 meth none)  {res : zSt} {H : Heap} {locs : List Loc} {σ : zSt} {ls : Array Slot} {x1 : Int32} {x2 : Int32} {x3 : Int32} (hI : zI st D (tC cy) (wC ad cy σ) A s H locs) (hl : lv_has ls 5 [(0, .ref (ad 27)), (1, .int x1), (2, .int x2), (3, .int x3)]) (hf : fJ7_fill_fda19_k27  σ x1 x2 x3 = some res) : W p l e rmJ7_fill_fda19_k27 s m args below meth c H locs 0 0 (zQu below args s D (tC cy) (wC ad cy) A res) (F0 m 0 ls []) := by
  have hx := hC.1
  have hb := hC.2.1
  unfold fJ7_fill_fda19_k27 at hf
  refine lv_aload_n hx hb dJ7_fill_fda19_0 rfl (lv_at hl 0 rfl) ?_
  refine z_alen (v := 256) hC hI 27 14 (wC_e27 ad cy σ) (tC_t27 cy) rfl dJ7_fill_fda19_1 ?_
  refine lv_iload_n hx hb dJ7_fill_fda19_2 rfl (lv_at hl 1 rfl) ?_
  refine lv_iload_n hx hb dJ7_fill_fda19_3 rfl (lv_at hl 2 rfl) ?_
  obtain ⟨σ3, g3, hf⟩ := zbu_use hf
  refine z_callSu (As := [.int 256, .int x1, .int x2]) (rest := []) hC hI (cJ7_rangeCheck_23922_met st l D ad cy σ 256 x1 x2 _ g3) (zgS zw5_18 zw5_19 zw5_13 zw5_20) rfl ⟨rfl, rfl⟩ 3 hdJ7_rangeCheck_23922 ⟨Nat.le_of_ble_eq_true rfl, Nat.le_of_ble_eq_true rfl⟩ rfl hl rfl (Nat.le_of_ble_eq_true rfl) dJ7_fill_fda19_4 ⟨Nat.zero_le _, Nat.zero_le _⟩ (fun H locs hI => ?_)
  refine lv_iload_n hx hb dJ7_fill_fda19_7 rfl (lv_at hl 1 rfl) ?_
  refine lv_istore (lv' := [(4, .int x1), (0, .ref (ad 27)), (1, .int x1), (2, .int x2), (3, .int x3)]) hx hb dJ7_fill_fda19_8 hl (by decide) rfl (fun ls hl => ?_)
  exact blJ7_fill_fda19_k27_10 hC  zfuel _ _ _ _ _ _ _ hI (lv_sub hl [1, 3, 4, 0] rfl) hf
set_option maxRecDepth 20000 in
theorem cJ7_fill_fda19_k27_met (st : Nat → Nat) (l : Launch) (D : va_G) (ad : Nat → Nat) (cy : Nat → ClassId) (σ : zSt) (x1 : Int32) (x2 : Int32) (x3 : Int32) (res : zSt) (hf : fJ7_fill_fda19_k27 σ x1 x2 x3 = some res) (sz : Nat) : zMu st l yJ7_fill_fda19 wzJ7_fill_fda19 rmJ7_fill_fda19_k27 [.ref (ad 27), .int x1, .int x2, .int x3] D (tC cy) (wC ad cy) sz σ res :=
  zMu.of (cc := cJ7_fill_fda19) (maxL := 5) (ret := none) (by decide) rfl (Nat.le_of_ble_eq_true rfl) (fun p e s m args below meth c hC A hI ls hl => bJ7_fill_fda19_k27 hC hI hl hf)
theorem hdJ7_fill_fda19_k27 : yJ7_fill_fda19.cls ≠ "java/lang/invoke/MethodHandle" ∧ yJ7_fill_fda19.cls ≠ "java/lang/invoke/VarHandle" ∧ (parseMethodDescriptor yJ7_fill_fda19.desc).map (fun d => d.parameters.length) = some 4 := by decide +kernel
def rmX3_patternAt : Room := { frames := 1, cells := 0, slots := 0, locals := 21 }
def wzX3_patternAt : List Cond := .code yX3_patternAt cX3_patternAt 3 (some .int) :: wsL_law
theorem hinX3_patternAt_X30 : ∀ w ∈ wsX30, w ∈ wzX3_patternAt := fun w h => List.mem_cons_of_mem _ (inlX3 w h)
def fX3_patternAt  (σ : zSt) (x1 : Int32) (x2 : Int32) : Option (zSt × Int32) :=
  zbi (fX9_held σ 4) (fun σ1 v2 =>
  zbi (fX9_vramByte σ1 (((2048 * (v2 &&& 7)) + (8 * x1)) + (x2 &&& 7))) (fun σ3 v4 =>
  some (σ3, v4)))
set_option maxRecDepth 20000 in
set_option maxHeartbeats 4000000 in
theorem bX3_patternAt {st : Nat → Nat} {p : Program} {l : Launch} {e : Env} {s : State} {m : MethodId} {args : Array Value} {below : List Frame} {meth : Method} {c : Code} {D : va_G} {A : Nat → Prop} {ad : Nat → Nat} {cy : Nat → ClassId} (hC : zC p m c cX3_patternAt 3 s args wzX3_patternAt RX3 meth (some .int))  {res : zSt × Int32} {H : Heap} {locs : List Loc} {σ : zSt} {ls : Array Slot} {x1 : Int32} {x2 : Int32} (hI : zI st D (tC cy) (wC ad cy σ) A s H locs) (hl : lv_has ls 3 [(0, .ref (ad 3)), (1, .int x1), (2, .int x2)]) (hf : fX3_patternAt  σ x1 x2 = some res) : W p l e rmX3_patternAt s m args below meth c H locs 0 0 (zQi below args s D (tC cy) (wC ad cy) A res) (F0 m 0 ls []) := by
  have hx := hC.1
  have hb := hC.2.1
  unfold fX3_patternAt at hf
  refine lv_aload_n hx hb dX3_patternAt_0 rfl (lv_at hl 0 rfl) ?_
  refine z_get hC hI hinX3_patternAt_X30 3 (wC_e3 ad cy σ) rfl 0 (by decide) (List.mem_cons_of_mem _ zw4_22) rfl dX3_patternAt_1 ?_
  refine lv_sipush (v := 2048) hx hb dX3_patternAt_4 (by decide) ?_
  refine lv_aload_n hx hb dX3_patternAt_7 rfl (lv_at hl 0 rfl) ?_
  refine z_get hC hI hinX3_patternAt_X30 3 (wC_e3 ad cy σ) rfl 0 (by decide) (List.mem_cons_of_mem _ zw4_22) rfl dX3_patternAt_8 ?_
  refine lv_iconst (v := 4) hx hb dX3_patternAt_11 (by decide) ?_
  obtain ⟨σ1, v2, g1, hf⟩ := zbi_use hf
  refine z_callVi (As := [.int 4]) (rest := [.int 2048, .ref (ad 2)]) hC hI (cX9_held_met st l D ad cy σ 4 _ g1) (zgV zw35_21 zw35_13 zw35_14 zw2_1 zw35_15) rfl ⟨rfl, rfl⟩ 1 hdX9_held ⟨Nat.le_of_ble_eq_true rfl, Nat.le_of_ble_eq_true rfl⟩ rfl rfl (wC_e2 ad cy σ) rfl hl rfl (Nat.le_of_ble_eq_true rfl) dX3_patternAt_12 ⟨Nat.zero_le _, Nat.zero_le _⟩ (fun H locs hI => ?_)
  refine lv_bipush (v := 7) hx hb dX3_patternAt_15 (by decide) ?_
  refine lv_iand hx hb dX3_patternAt_17 ?_
  refine lv_imul hx hb dX3_patternAt_18 ?_
  refine lv_bipush (v := 8) hx hb dX3_patternAt_19 (by decide) ?_
  refine lv_iload_n hx hb dX3_patternAt_21 rfl (lv_at hl 1 rfl) ?_
  refine lv_imul hx hb dX3_patternAt_22 ?_
  refine lv_iadd hx hb dX3_patternAt_23 ?_
  refine lv_iload_n hx hb dX3_patternAt_24 rfl (lv_at hl 2 rfl) ?_
  refine lv_bipush (v := 7) hx hb dX3_patternAt_25 (by decide) ?_
  refine lv_iand hx hb dX3_patternAt_27 ?_
  refine lv_iadd hx hb dX3_patternAt_28 ?_
  obtain ⟨σ3, v4, g3, hf⟩ := zbi_use hf
  refine z_callVi (As := [.int (((2048 * (v2 &&& 7)) + (8 * x1)) + (x2 &&& 7))]) (rest := []) hC hI (cX9_vramByte_met st l D ad cy σ1 (((2048 * (v2 &&& 7)) + (8 * x1)) + (x2 &&& 7)) _ g3) (zgV zw36_14 zw36_15 zw36_16 zw2_1 zw36_17) rfl ⟨rfl, rfl⟩ 1 hdX9_vramByte ⟨Nat.le_of_ble_eq_true rfl, Nat.le_of_ble_eq_true rfl⟩ rfl rfl (wC_e2 ad cy σ1) rfl hl rfl (Nat.le_of_ble_eq_true rfl) dX3_patternAt_29 ⟨Nat.zero_le _, Nat.zero_le _⟩ (fun H locs hI => ?_)
  exact z_ireturn hC hI hf dX3_patternAt_32
set_option maxRecDepth 20000 in
theorem cX3_patternAt_met (st : Nat → Nat) (l : Launch) (D : va_G) (ad : Nat → Nat) (cy : Nat → ClassId) (σ : zSt) (x1 : Int32) (x2 : Int32) (res : zSt × Int32) (hf : fX3_patternAt σ x1 x2 = some res) (sz : Nat) : zMi st l yX3_patternAt wzX3_patternAt rmX3_patternAt [.ref (ad 3), .int x1, .int x2] D (tC cy) (wC ad cy) sz σ res :=
  zMi.of (cc := cX3_patternAt) (maxL := 3) (ret := (some .int)) (by decide) rfl (Nat.le_of_ble_eq_true rfl) (fun p e s m args below meth c hC A hI ls hl => bX3_patternAt hC hI hl hf)
theorem hdX3_patternAt : yX3_patternAt.cls = RX3 ∧ yX3_patternAt.cls ≠ "java/lang/invoke/MethodHandle" ∧ yX3_patternAt.cls ≠ "java/lang/invoke/VarHandle" ∧ (parseMethodDescriptor yX3_patternAt.desc).map (fun d => d.parameters.length) = some 2 := by decide +kernel
def rmX3_drawText : Room := { frames := 2, cells := 0, slots := 0, locals := 43 }
def wzX3_drawText : List Cond := .code yX3_drawText cX3_drawText 7 none :: wsL_law
theorem hinX3_drawText_X30 : ∀ w ∈ wsX30, w ∈ wzX3_drawText := fun w h => List.mem_cons_of_mem _ (inlX3 w h)
def fX3_drawText_101 (k21 : zSt → Int32 → Int32 → Int32 → Int32 → Option (zSt)) (k56 : zSt → Int32 → Int32 → Int32 → Int32 → Int32 → Int32 → Option (zSt)) (σ : zSt) (x1 : Int32) (x2 : Int32) (x3 : Int32) (x4 : Int32) (x5 : Int32) (x6 : Int32) (s0 : Int32) (s1 : Int32) : Option (zSt) :=
  zck (zin s1 256) (zbv (zsi σ 27 (s1.toNatClampNeg) s0) (fun σ1 =>
  zbv (x6 + 1) (fun v2 =>
  k56 σ1 x1 x2 x3 x4 x5 v2)))
def fX3_drawText_56_body (k21 : zSt → Int32 → Int32 → Int32 → Int32 → Option (zSt)) (k56 : zSt → Int32 → Int32 → Int32 → Int32 → Int32 → Int32 → Option (zSt)) (σ : zSt) (x1 : Int32) (x2 : Int32) (x3 : Int32) (x4 : Int32) (x5 : Int32) (x6 : Int32) : Option (zSt) :=
  if 6 ≤ x6 then zbv (x4 + 1) (fun v3 =>
  k21 σ x1 x2 x3 v3) else
  if ((x5 >>> ((7 - x6) &&& 31)) &&& 1) = 0 then fX3_drawText_101 k21 k56 σ x1 x2 x3 x4 x5 x6 (x3 &&& 15) ((8 + (6 * x4)) + x6) else
  fX3_drawText_101 k21 k56 σ x1 x2 x3 x4 x5 x6 (x3 >>> ((4 : Int32) &&& 31)) ((8 + (6 * x4)) + x6)
def fX3_drawText_56 (k21 : zSt → Int32 → Int32 → Int32 → Int32 → Option (zSt)) : Nat → zSt → Int32 → Int32 → Int32 → Int32 → Int32 → Int32 → Option (zSt)
  | 0, _, _, _, _, _, _, _ => none
  | n + 1, σ, x1, x2, x3, x4, x5, x6 => fX3_drawText_56_body k21 (fX3_drawText_56 k21 n) σ x1 x2 x3 x4 x5 x6
def fX3_drawText_21_body (k21 : zSt → Int32 → Int32 → Int32 → Int32 → Option (zSt)) (σ : zSt) (x1 : Int32) (x2 : Int32) (x3 : Int32) (x4 : Int32) : Option (zSt) :=
  if 40 ≤ x4 then some σ else
  zbi (fX9_vramByte σ ((x1 + (40 * (x2 >>> ((3 : Int32) &&& 31)))) + x4)) (fun σ4 v5 =>
  zbi (fX3_patternAt σ4 v5 x2) (fun σ6 v7 =>
  fX3_drawText_56 k21 zfuel σ6 x1 x2 x3 x4 v7 0))
def fX3_drawText_21  : Nat → zSt → Int32 → Int32 → Int32 → Int32 → Option (zSt)
  | 0, _, _, _, _, _ => none
  | n + 1, σ, x1, x2, x3, x4 => fX3_drawText_21_body (fX3_drawText_21  n) σ x1 x2 x3 x4
def fX3_drawText  (σ : zSt) (x1 : Int32) (x2 : Int32) : Option (zSt) :=
  zbi (fX9_held σ 7) (fun σ8 v9 =>
  zbu (fJ7_fill_53178_k27 σ8 0) (fun σ10 =>
  fX3_drawText_21 zfuel σ10 x1 x2 v9 0))
set_option maxRecDepth 20000 in
set_option maxHeartbeats 4000000 in
theorem bX3_drawText_101 {st : Nat → Nat} {p : Program} {l : Launch} {e : Env} {s : State} {m : MethodId} {args : Array Value} {below : List Frame} {meth : Method} {c : Code} {D : va_G} {A : Nat → Prop} {ad : Nat → Nat} {cy : Nat → ClassId} (hC : zC p m c cX3_drawText 7 s args wzX3_drawText RX3 meth none) {k21 : zSt → Int32 → Int32 → Int32 → Int32 → Option (zSt)} {k56 : zSt → Int32 → Int32 → Int32 → Int32 → Int32 → Int32 → Option (zSt)} {res : zSt} (hk21 : ∀ (H : Heap) (locs : List Loc) (σ : zSt) (ls : Array Slot) (x1 : Int32) (x2 : Int32) (x3 : Int32) (x4 : Int32), zI st D (tC cy) (wC ad cy σ) A s H locs → lv_has ls 7 [(0, .ref (ad 3)), (1, .int x1), (2, .int x2), (3, .int x3), (4, .int x4)] → k21 σ x1 x2 x3 x4 = some res → W p l e rmX3_drawText s m args below meth c H locs 0 0 (zQu below args s D (tC cy) (wC ad cy) A res) (F0 m 21 ls [])) (hk56 : ∀ (H : Heap) (locs : List Loc) (σ : zSt) (ls : Array Slot) (x1 : Int32) (x2 : Int32) (x3 : Int32) (x4 : Int32) (x5 : Int32) (x6 : Int32), zI st D (tC cy) (wC ad cy σ) A s H locs → lv_has ls 7 [(0, .ref (ad 3)), (1, .int x1), (2, .int x2), (3, .int x3), (4, .int x4), (5, .int x5), (6, .int x6)] → k56 σ x1 x2 x3 x4 x5 x6 = some res → W p l e rmX3_drawText s m args below meth c H locs 0 0 (zQu below args s D (tC cy) (wC ad cy) A res) (F0 m 56 ls [])) {H : Heap} {locs : List Loc} {σ : zSt} {ls : Array Slot} {x1 : Int32} {x2 : Int32} {x3 : Int32} {x4 : Int32} {x5 : Int32} {x6 : Int32} {s0 : Int32} {s1 : Int32} (hI : zI st D (tC cy) (wC ad cy σ) A s H locs) (hl : lv_has ls 7 [(0, .ref (ad 3)), (1, .int x1), (2, .int x2), (3, .int x3), (4, .int x4), (5, .int x5), (6, .int x6)]) (hf : fX3_drawText_101 k21 k56 σ x1 x2 x3 x4 x5 x6 s0 s1 = some res) : W p l e rmX3_drawText s m args below meth c H locs 0 0 (zQu below args s D (tC cy) (wC ad cy) A res) (F0 m 101 ls [.int s0, .int s1, .ref (ad 27)]) := by
  have hx := hC.1
  have hb := hC.2.1
  unfold fX3_drawText_101 at hf
  obtain ⟨q, hf⟩ := zck_use hf
  obtain ⟨σ1, eσ1⟩ : ∃ z, z = zsi σ 27 (s1.toNatClampNeg) s0 := ⟨_, rfl⟩
  replace hf := zbv_use eσ1 hf
  refine z_iast hC hI 27 14 (wC_e27 ad cy σ) (tC_t27 cy) q ((wC_s27 ad cy σ _ _).trans (congrArg (wC ad cy) eσ1.symm)) dX3_drawText_101 (fun H locs hI => ?_)
  obtain ⟨v2, ev2⟩ : ∃ z : Int32, z = x6 + 1 := ⟨_, rfl⟩
  replace hf := zbv_use ev2 hf
  refine lv_iinc (v := v2) (lv' := [(6, .int v2), (0, .ref (ad 3)), (1, .int x1), (2, .int x2), (3, .int x3), (4, .int x4), (5, .int x5)]) hx hb dX3_drawText_102 hl (k := 6) rfl (by rw [ev2]; rfl) (by decide) rfl (fun ls hl => ?_)
  refine lv_goto (tgt := 56) hx hb dX3_drawText_105 (by decide) ?_
  exact hk56 _ _ _ _ _ _ _ _ _ _ hI (lv_sub hl [1, 2, 3, 4, 5, 6, 0] rfl) hf
set_option maxRecDepth 20000 in
set_option maxHeartbeats 4000000 in
theorem bX3_drawText_56_body {st : Nat → Nat} {p : Program} {l : Launch} {e : Env} {s : State} {m : MethodId} {args : Array Value} {below : List Frame} {meth : Method} {c : Code} {D : va_G} {A : Nat → Prop} {ad : Nat → Nat} {cy : Nat → ClassId} (hC : zC p m c cX3_drawText 7 s args wzX3_drawText RX3 meth none) {k21 : zSt → Int32 → Int32 → Int32 → Int32 → Option (zSt)} {k56 : zSt → Int32 → Int32 → Int32 → Int32 → Int32 → Int32 → Option (zSt)} {res : zSt} (hk21 : ∀ (H : Heap) (locs : List Loc) (σ : zSt) (ls : Array Slot) (x1 : Int32) (x2 : Int32) (x3 : Int32) (x4 : Int32), zI st D (tC cy) (wC ad cy σ) A s H locs → lv_has ls 7 [(0, .ref (ad 3)), (1, .int x1), (2, .int x2), (3, .int x3), (4, .int x4)] → k21 σ x1 x2 x3 x4 = some res → W p l e rmX3_drawText s m args below meth c H locs 0 0 (zQu below args s D (tC cy) (wC ad cy) A res) (F0 m 21 ls [])) (hk56 : ∀ (H : Heap) (locs : List Loc) (σ : zSt) (ls : Array Slot) (x1 : Int32) (x2 : Int32) (x3 : Int32) (x4 : Int32) (x5 : Int32) (x6 : Int32), zI st D (tC cy) (wC ad cy σ) A s H locs → lv_has ls 7 [(0, .ref (ad 3)), (1, .int x1), (2, .int x2), (3, .int x3), (4, .int x4), (5, .int x5), (6, .int x6)] → k56 σ x1 x2 x3 x4 x5 x6 = some res → W p l e rmX3_drawText s m args below meth c H locs 0 0 (zQu below args s D (tC cy) (wC ad cy) A res) (F0 m 56 ls [])) {H : Heap} {locs : List Loc} {σ : zSt} {ls : Array Slot} {x1 : Int32} {x2 : Int32} {x3 : Int32} {x4 : Int32} {x5 : Int32} {x6 : Int32} (hI : zI st D (tC cy) (wC ad cy σ) A s H locs) (hl : lv_has ls 7 [(0, .ref (ad 3)), (1, .int x1), (2, .int x2), (3, .int x3), (4, .int x4), (5, .int x5), (6, .int x6)]) (hf : fX3_drawText_56_body k21 k56 σ x1 x2 x3 x4 x5 x6 = some res) : W p l e rmX3_drawText s m args below meth c H locs 0 0 (zQu below args s D (tC cy) (wC ad cy) A res) (F0 m 56 ls []) := by
  have hx := hC.1
  have hb := hC.2.1
  unfold fX3_drawText_56_body at hf
  refine lv_iload hx hb dX3_drawText_56 (lv_at hl 6 rfl) ?_
  refine lv_bipush (v := 6) hx hb dX3_drawText_58 (by decide) ?_
  refine lv_icmp_ge (tgt := 108) hx hb dX3_drawText_60 (by decide) (fun q => ?_) (fun q => ?_)
  · replace hf := zif_t q hf
    obtain ⟨v3, ev3⟩ : ∃ z : Int32, z = x4 + 1 := ⟨_, rfl⟩
    replace hf := zbv_use ev3 hf
    refine lv_iinc (v := v3) (lv' := [(4, .int v3), (0, .ref (ad 3)), (1, .int x1), (2, .int x2), (3, .int x3), (5, .int x5), (6, .int x6)]) hx hb dX3_drawText_108 hl (k := 4) rfl (by rw [ev3]; rfl) (by decide) rfl (fun ls hl => ?_)
    refine lv_goto (tgt := 21) hx hb dX3_drawText_111 (by decide) ?_
    exact hk21 _ _ _ _ _ _ _ _ hI (lv_sub hl [1, 2, 3, 4, 0] rfl) hf
  replace hf := zif_f q hf
  refine lv_aload_n hx hb dX3_drawText_63 rfl (lv_at hl 0 rfl) ?_
  refine z_get hC hI hinX3_drawText_X30 3 (wC_e3 ad cy σ) rfl 4 (by decide) (List.mem_cons_of_mem _ zw4_19) rfl dX3_drawText_64 ?_
  refine lv_bipush (v := 8) hx hb dX3_drawText_67 (by decide) ?_
  refine lv_bipush (v := 6) hx hb dX3_drawText_69 (by decide) ?_
  refine lv_iload hx hb dX3_drawText_71 (lv_at hl 4 rfl) ?_
  refine lv_imul hx hb dX3_drawText_73 ?_
  refine lv_iadd hx hb dX3_drawText_74 ?_
  refine lv_iload hx hb dX3_drawText_75 (lv_at hl 6 rfl) ?_
  refine lv_iadd hx hb dX3_drawText_77 ?_
  refine lv_iload hx hb dX3_drawText_78 (lv_at hl 5 rfl) ?_
  refine lv_bipush (v := 7) hx hb dX3_drawText_80 (by decide) ?_
  refine lv_iload hx hb dX3_drawText_82 (lv_at hl 6 rfl) ?_
  refine lv_isub hx hb dX3_drawText_84 ?_
  refine lv_ishr hx hb dX3_drawText_85 ?_
  refine lv_iconst (v := 1) hx hb dX3_drawText_86 (by decide) ?_
  refine lv_iand hx hb dX3_drawText_87 ?_
  refine lv_if_eq (tgt := 97) hx hb dX3_drawText_88 (by decide) (fun q => ?_) (fun q => ?_)
  · replace hf := zif_t q hf
    refine lv_iload_n hx hb dX3_drawText_97 rfl (lv_at hl 3 rfl) ?_
    refine lv_bipush (v := 15) hx hb dX3_drawText_98 (by decide) ?_
    refine lv_iand hx hb dX3_drawText_100 ?_
    exact bX3_drawText_101 hC hk21 hk56 hI hl hf
  replace hf := zif_f q hf
  refine lv_iload_n hx hb dX3_drawText_91 rfl (lv_at hl 3 rfl) ?_
  refine lv_iconst (v := 4) hx hb dX3_drawText_92 (by decide) ?_
  refine lv_ishr hx hb dX3_drawText_93 ?_
  refine lv_goto (tgt := 101) hx hb dX3_drawText_94 (by decide) ?_
  exact bX3_drawText_101 hC hk21 hk56 hI hl hf
theorem blX3_drawText_56 {st : Nat → Nat} {p : Program} {l : Launch} {e : Env} {s : State} {m : MethodId} {args : Array Value} {below : List Frame} {meth : Method} {c : Code} {D : va_G} {A : Nat → Prop} {ad : Nat → Nat} {cy : Nat → ClassId} (hC : zC p m c cX3_drawText 7 s args wzX3_drawText RX3 meth none) {k21 : zSt → Int32 → Int32 → Int32 → Int32 → Option (zSt)} {res : zSt} (hk21 : ∀ (H : Heap) (locs : List Loc) (σ : zSt) (ls : Array Slot) (x1 : Int32) (x2 : Int32) (x3 : Int32) (x4 : Int32), zI st D (tC cy) (wC ad cy σ) A s H locs → lv_has ls 7 [(0, .ref (ad 3)), (1, .int x1), (2, .int x2), (3, .int x3), (4, .int x4)] → k21 σ x1 x2 x3 x4 = some res → W p l e rmX3_drawText s m args below meth c H locs 0 0 (zQu below args s D (tC cy) (wC ad cy) A res) (F0 m 21 ls [])) : ∀ (n : Nat) (H : Heap) (locs : List Loc) (σ : zSt) (ls : Array Slot) (x1 : Int32) (x2 : Int32) (x3 : Int32) (x4 : Int32) (x5 : Int32) (x6 : Int32), zI st D (tC cy) (wC ad cy σ) A s H locs → lv_has ls 7 [(0, .ref (ad 3)), (1, .int x1), (2, .int x2), (3, .int x3), (4, .int x4), (5, .int x5), (6, .int x6)] → fX3_drawText_56 k21 n σ x1 x2 x3 x4 x5 x6 = some res → W p l e rmX3_drawText s m args below meth c H locs 0 0 (zQu below args s D (tC cy) (wC ad cy) A res) (F0 m 56 ls []) := by
  intro n
  induction n with
  | zero => intro H locs σ ls x1 x2 x3 x4 x5 x6 hI hl hf; cases hf
  | succ n ih => intro H locs σ ls x1 x2 x3 x4 x5 x6 hI hl hf; exact bX3_drawText_56_body hC hk21 ih hI hl hf
set_option maxRecDepth 20000 in
set_option maxHeartbeats 4000000 in
theorem bX3_drawText_21_body {st : Nat → Nat} {p : Program} {l : Launch} {e : Env} {s : State} {m : MethodId} {args : Array Value} {below : List Frame} {meth : Method} {c : Code} {D : va_G} {A : Nat → Prop} {ad : Nat → Nat} {cy : Nat → ClassId} (hC : zC p m c cX3_drawText 7 s args wzX3_drawText RX3 meth none) {k21 : zSt → Int32 → Int32 → Int32 → Int32 → Option (zSt)} {res : zSt} (hk21 : ∀ (H : Heap) (locs : List Loc) (σ : zSt) (ls : Array Slot) (x1 : Int32) (x2 : Int32) (x3 : Int32) (x4 : Int32), zI st D (tC cy) (wC ad cy σ) A s H locs → lv_has ls 7 [(0, .ref (ad 3)), (1, .int x1), (2, .int x2), (3, .int x3), (4, .int x4)] → k21 σ x1 x2 x3 x4 = some res → W p l e rmX3_drawText s m args below meth c H locs 0 0 (zQu below args s D (tC cy) (wC ad cy) A res) (F0 m 21 ls [])) {H : Heap} {locs : List Loc} {σ : zSt} {ls : Array Slot} {x1 : Int32} {x2 : Int32} {x3 : Int32} {x4 : Int32} (hI : zI st D (tC cy) (wC ad cy σ) A s H locs) (hl : lv_has ls 7 [(0, .ref (ad 3)), (1, .int x1), (2, .int x2), (3, .int x3), (4, .int x4)]) (hf : fX3_drawText_21_body k21 σ x1 x2 x3 x4 = some res) : W p l e rmX3_drawText s m args below meth c H locs 0 0 (zQu below args s D (tC cy) (wC ad cy) A res) (F0 m 21 ls []) := by
  have hx := hC.1
  have hb := hC.2.1
  unfold fX3_drawText_21_body at hf
  refine lv_iload hx hb dX3_drawText_21 (lv_at hl 4 rfl) ?_
  refine lv_bipush (v := 40) hx hb dX3_drawText_23 (by decide) ?_
  refine lv_icmp_ge (tgt := 114) hx hb dX3_drawText_25 (by decide) (fun q => ?_) (fun q => ?_)
  · replace hf := zif_t q hf
    exact z_return hC hI hf dX3_drawText_114
  replace hf := zif_f q hf
  refine lv_aload_n hx hb dX3_drawText_28 rfl (lv_at hl 0 rfl) ?_
  refine lv_aload_n hx hb dX3_drawText_29 rfl (lv_at hl 0 rfl) ?_
  refine z_get hC hI hinX3_drawText_X30 3 (wC_e3 ad cy σ) rfl 0 (by decide) (List.mem_cons_of_mem _ zw4_22) rfl dX3_drawText_30 ?_
  refine lv_iload_n hx hb dX3_drawText_33 rfl (lv_at hl 1 rfl) ?_
  refine lv_bipush (v := 40) hx hb dX3_drawText_34 (by decide) ?_
  refine lv_iload_n hx hb dX3_drawText_36 rfl (lv_at hl 2 rfl) ?_
  refine lv_iconst (v := 3) hx hb dX3_drawText_37 (by decide) ?_
  refine lv_ishr hx hb dX3_drawText_38 ?_
  refine lv_imul hx hb dX3_drawText_39 ?_
  refine lv_iadd hx hb dX3_drawText_40 ?_
  refine lv_iload hx hb dX3_drawText_41 (lv_at hl 4 rfl) ?_
  refine lv_iadd hx hb dX3_drawText_43 ?_
  obtain ⟨σ4, v5, g4, hf⟩ := zbi_use hf
  refine z_callVi (As := [.int ((x1 + (40 * (x2 >>> ((3 : Int32) &&& 31)))) + x4)]) (rest := [.ref (ad 3)]) hC hI (cX9_vramByte_met st l D ad cy σ ((x1 + (40 * (x2 >>> ((3 : Int32) &&& 31)))) + x4) _ g4) (zgV zw36_14 zw36_15 zw36_16 zw2_1 zw36_17) rfl ⟨rfl, rfl⟩ 1 hdX9_vramByte ⟨Nat.le_of_ble_eq_true rfl, Nat.le_of_ble_eq_true rfl⟩ rfl rfl (wC_e2 ad cy σ) rfl hl rfl (Nat.le_of_ble_eq_true rfl) dX3_drawText_44 ⟨Nat.zero_le _, Nat.zero_le _⟩ (fun H locs hI => ?_)
  refine lv_iload_n hx hb dX3_drawText_47 rfl (lv_at hl 2 rfl) ?_
  obtain ⟨σ6, v7, g6, hf⟩ := zbi_use hf
  refine z_callVi (As := [.int v5, .int x2]) (rest := []) hC hI (cX3_patternAt_met st l D ad cy σ4 v5 x2 _ g6) (zgV zw38_3 zw38_4 zw38_5 zw2_5 zw38_6) rfl ⟨rfl, rfl⟩ 2 hdX3_patternAt ⟨Nat.le_of_ble_eq_true rfl, Nat.le_of_ble_eq_true rfl⟩ rfl rfl (wC_e3 ad cy σ4) rfl hl rfl (Nat.le_of_ble_eq_true rfl) dX3_drawText_48 ⟨Nat.zero_le _, Nat.zero_le _⟩ (fun H locs hI => ?_)
  refine lv_istore (lv' := [(5, .int v7), (0, .ref (ad 3)), (1, .int x1), (2, .int x2), (3, .int x3), (4, .int x4)]) hx hb dX3_drawText_51 hl (by decide) rfl (fun ls hl => ?_)
  refine lv_iconst (v := 0) hx hb dX3_drawText_53 (by decide) ?_
  refine lv_istore (lv' := [(6, .int 0), (5, .int v7), (0, .ref (ad 3)), (1, .int x1), (2, .int x2), (3, .int x3), (4, .int x4)]) hx hb dX3_drawText_54 hl (by decide) rfl (fun ls hl => ?_)
  exact blX3_drawText_56 hC hk21 zfuel _ _ _ _ _ _ _ _ _ _ hI (lv_sub hl [2, 3, 4, 5, 6, 1, 0] rfl) hf
theorem blX3_drawText_21 {st : Nat → Nat} {p : Program} {l : Launch} {e : Env} {s : State} {m : MethodId} {args : Array Value} {below : List Frame} {meth : Method} {c : Code} {D : va_G} {A : Nat → Prop} {ad : Nat → Nat} {cy : Nat → ClassId} (hC : zC p m c cX3_drawText 7 s args wzX3_drawText RX3 meth none)  {res : zSt} : ∀ (n : Nat) (H : Heap) (locs : List Loc) (σ : zSt) (ls : Array Slot) (x1 : Int32) (x2 : Int32) (x3 : Int32) (x4 : Int32), zI st D (tC cy) (wC ad cy σ) A s H locs → lv_has ls 7 [(0, .ref (ad 3)), (1, .int x1), (2, .int x2), (3, .int x3), (4, .int x4)] → fX3_drawText_21  n σ x1 x2 x3 x4 = some res → W p l e rmX3_drawText s m args below meth c H locs 0 0 (zQu below args s D (tC cy) (wC ad cy) A res) (F0 m 21 ls []) := by
  intro n
  induction n with
  | zero => intro H locs σ ls x1 x2 x3 x4 hI hl hf; cases hf
  | succ n ih => intro H locs σ ls x1 x2 x3 x4 hI hl hf; exact bX3_drawText_21_body hC ih hI hl hf
set_option maxRecDepth 20000 in
set_option maxHeartbeats 4000000 in
theorem bX3_drawText {st : Nat → Nat} {p : Program} {l : Launch} {e : Env} {s : State} {m : MethodId} {args : Array Value} {below : List Frame} {meth : Method} {c : Code} {D : va_G} {A : Nat → Prop} {ad : Nat → Nat} {cy : Nat → ClassId} (hC : zC p m c cX3_drawText 7 s args wzX3_drawText RX3 meth none)  {res : zSt} {H : Heap} {locs : List Loc} {σ : zSt} {ls : Array Slot} {x1 : Int32} {x2 : Int32} (hI : zI st D (tC cy) (wC ad cy σ) A s H locs) (hl : lv_has ls 7 [(0, .ref (ad 3)), (1, .int x1), (2, .int x2)]) (hf : fX3_drawText  σ x1 x2 = some res) : W p l e rmX3_drawText s m args below meth c H locs 0 0 (zQu below args s D (tC cy) (wC ad cy) A res) (F0 m 0 ls []) := by
  have hx := hC.1
  have hb := hC.2.1
  unfold fX3_drawText at hf
  refine lv_aload_n hx hb dX3_drawText_0 rfl (lv_at hl 0 rfl) ?_
  refine z_get hC hI hinX3_drawText_X30 3 (wC_e3 ad cy σ) rfl 0 (by decide) (List.mem_cons_of_mem _ zw4_22) rfl dX3_drawText_1 ?_
  refine lv_bipush (v := 7) hx hb dX3_drawText_4 (by decide) ?_
  obtain ⟨σ8, v9, g8, hf⟩ := zbi_use hf
  refine z_callVi (As := [.int 7]) (rest := []) hC hI (cX9_held_met st l D ad cy σ 7 _ g8) (zgV zw35_21 zw35_13 zw35_14 zw2_1 zw35_15) rfl ⟨rfl, rfl⟩ 1 hdX9_held ⟨Nat.le_of_ble_eq_true rfl, Nat.le_of_ble_eq_true rfl⟩ rfl rfl (wC_e2 ad cy σ) rfl hl rfl (Nat.le_of_ble_eq_true rfl) dX3_drawText_6 ⟨Nat.zero_le _, Nat.zero_le _⟩ (fun H locs hI => ?_)
  refine lv_istore_n (lv' := [(3, .int v9), (0, .ref (ad 3)), (1, .int x1), (2, .int x2)]) hx hb dX3_drawText_9 rfl hl (by decide) rfl (fun ls hl => ?_)
  refine lv_aload_n hx hb dX3_drawText_10 rfl (lv_at hl 1 rfl) ?_
  refine z_get hC hI hinX3_drawText_X30 3 (wC_e3 ad cy σ8) rfl 4 (by decide) (List.mem_cons_of_mem _ zw4_19) rfl dX3_drawText_11 ?_
  refine lv_iconst (v := 0) hx hb dX3_drawText_14 (by decide) ?_
  obtain ⟨σ10, g10, hf⟩ := zbu_use hf
  refine z_callSu (As := [.ref (ad 27), .int 0]) (rest := []) hC hI (cJ7_fill_53178_k27_met st l D ad cy σ8 0 _ g10) (zgS zw36_2 zw5_12 zw5_13 zw5_14) rfl ⟨rfl, rfl⟩ 2 hdJ7_fill_53178_k27 ⟨Nat.le_of_ble_eq_true rfl, Nat.le_of_ble_eq_true rfl⟩ rfl hl rfl (Nat.le_of_ble_eq_true rfl) dX3_drawText_15 ⟨Nat.zero_le _, Nat.zero_le _⟩ (fun H locs hI => ?_)
  refine lv_iconst (v := 0) hx hb dX3_drawText_18 (by decide) ?_
  refine lv_istore (lv' := [(4, .int 0), (3, .int v9), (0, .ref (ad 3)), (1, .int x1), (2, .int x2)]) hx hb dX3_drawText_19 hl (by decide) rfl (fun ls hl => ?_)
  exact blX3_drawText_21 hC  zfuel _ _ _ _ _ _ _ _ hI (lv_sub hl [2, 3, 4, 1, 0] rfl) hf
set_option maxRecDepth 20000 in
theorem cX3_drawText_met (st : Nat → Nat) (l : Launch) (D : va_G) (ad : Nat → Nat) (cy : Nat → ClassId) (σ : zSt) (x1 : Int32) (x2 : Int32) (res : zSt) (hf : fX3_drawText σ x1 x2 = some res) (sz : Nat) : zMu st l yX3_drawText wzX3_drawText rmX3_drawText [.ref (ad 3), .int x1, .int x2] D (tC cy) (wC ad cy) sz σ res :=
  zMu.of (cc := cX3_drawText) (maxL := 7) (ret := none) (by decide) rfl (Nat.le_of_ble_eq_true rfl) (fun p e s m args below meth c hC A hI ls hl => bX3_drawText hC hI hl hf)
theorem hdX3_drawText : yX3_drawText.cls = RX3 ∧ yX3_drawText.cls ≠ "java/lang/invoke/MethodHandle" ∧ yX3_drawText.cls ≠ "java/lang/invoke/VarHandle" ∧ (parseMethodDescriptor yX3_drawText.desc).map (fun d => d.parameters.length) = some 2 := by decide +kernel
def rmX3_drawPattern : Room := { frames := 0, cells := 0, slots := 0, locals := 0 }
def wzX3_drawPattern : List Cond := .code yX3_drawPattern cX3_drawPattern 5 none :: wsL_law
theorem hinX3_drawPattern_X30 : ∀ w ∈ wsX30, w ∈ wzX3_drawPattern := fun w h => List.mem_cons_of_mem _ (inlX3 w h)
def fX3_drawPattern_57  (σ : zSt)  : Option (zSt) :=
  some σ
def fX3_drawPattern_50 (k3 : zSt → Int32 → Int32 → Int32 → Int32 → Option (zSt)) (σ : zSt) (x1 : Int32) (x2 : Int32) (x3 : Int32) (x4 : Int32) (s0 : Int32) (s1 : Int32) : Option (zSt) :=
  zck (zin s1 256) (zbv (zsi σ 27 (s1.toNatClampNeg) s0) (fun σ1 =>
  zbv (x4 + 1) (fun v2 =>
  k3 σ1 x1 x2 x3 v2)))
def fX3_drawPattern_3_body (k3 : zSt → Int32 → Int32 → Int32 → Int32 → Option (zSt)) (σ : zSt) (x1 : Int32) (x2 : Int32) (x3 : Int32) (x4 : Int32) : Option (zSt) :=
  if 8 ≤ x4 then fX3_drawPattern_57 σ else
  if 256 ≤ (x1 + x4) then fX3_drawPattern_57 σ else
  if ((x2 >>> ((7 - x4) &&& 31)) &&& 1) = 0 then fX3_drawPattern_50 k3 σ x1 x2 x3 x4 (x3 &&& 15) (x1 + x4) else
  fX3_drawPattern_50 k3 σ x1 x2 x3 x4 (x3 >>> ((4 : Int32) &&& 31)) (x1 + x4)
def fX3_drawPattern_3  : Nat → zSt → Int32 → Int32 → Int32 → Int32 → Option (zSt)
  | 0, _, _, _, _, _ => none
  | n + 1, σ, x1, x2, x3, x4 => fX3_drawPattern_3_body (fX3_drawPattern_3  n) σ x1 x2 x3 x4
def fX3_drawPattern  (σ : zSt) (x1 : Int32) (x2 : Int32) (x3 : Int32) : Option (zSt) :=
  fX3_drawPattern_3 zfuel σ x1 x2 x3 0
set_option maxRecDepth 20000 in
set_option maxHeartbeats 4000000 in
theorem bX3_drawPattern_57 {st : Nat → Nat} {p : Program} {l : Launch} {e : Env} {s : State} {m : MethodId} {args : Array Value} {below : List Frame} {meth : Method} {c : Code} {D : va_G} {A : Nat → Prop} {ad : Nat → Nat} {cy : Nat → ClassId} (hC : zC p m c cX3_drawPattern 5 s args wzX3_drawPattern RX3 meth none)  {res : zSt} {H : Heap} {locs : List Loc} {σ : zSt} {ls : Array Slot}  (hI : zI st D (tC cy) (wC ad cy σ) A s H locs) (hl : lv_has ls 5 []) (hf : fX3_drawPattern_57  σ  = some res) : W p l e rmX3_drawPattern s m args below meth c H locs 0 0 (zQu below args s D (tC cy) (wC ad cy) A res) (F0 m 57 ls []) := by
  have hx := hC.1
  have hb := hC.2.1
  unfold fX3_drawPattern_57 at hf
  exact z_return hC hI hf dX3_drawPattern_57
set_option maxRecDepth 20000 in
set_option maxHeartbeats 4000000 in
theorem bX3_drawPattern_50 {st : Nat → Nat} {p : Program} {l : Launch} {e : Env} {s : State} {m : MethodId} {args : Array Value} {below : List Frame} {meth : Method} {c : Code} {D : va_G} {A : Nat → Prop} {ad : Nat → Nat} {cy : Nat → ClassId} (hC : zC p m c cX3_drawPattern 5 s args wzX3_drawPattern RX3 meth none) {k3 : zSt → Int32 → Int32 → Int32 → Int32 → Option (zSt)} {res : zSt} (hk3 : ∀ (H : Heap) (locs : List Loc) (σ : zSt) (ls : Array Slot) (x1 : Int32) (x2 : Int32) (x3 : Int32) (x4 : Int32), zI st D (tC cy) (wC ad cy σ) A s H locs → lv_has ls 5 [(0, .ref (ad 3)), (1, .int x1), (2, .int x2), (3, .int x3), (4, .int x4)] → k3 σ x1 x2 x3 x4 = some res → W p l e rmX3_drawPattern s m args below meth c H locs 0 0 (zQu below args s D (tC cy) (wC ad cy) A res) (F0 m 3 ls [])) {H : Heap} {locs : List Loc} {σ : zSt} {ls : Array Slot} {x1 : Int32} {x2 : Int32} {x3 : Int32} {x4 : Int32} {s0 : Int32} {s1 : Int32} (hI : zI st D (tC cy) (wC ad cy σ) A s H locs) (hl : lv_has ls 5 [(0, .ref (ad 3)), (1, .int x1), (2, .int x2), (3, .int x3), (4, .int x4)]) (hf : fX3_drawPattern_50 k3 σ x1 x2 x3 x4 s0 s1 = some res) : W p l e rmX3_drawPattern s m args below meth c H locs 0 0 (zQu below args s D (tC cy) (wC ad cy) A res) (F0 m 50 ls [.int s0, .int s1, .ref (ad 27)]) := by
  have hx := hC.1
  have hb := hC.2.1
  unfold fX3_drawPattern_50 at hf
  obtain ⟨q, hf⟩ := zck_use hf
  obtain ⟨σ1, eσ1⟩ : ∃ z, z = zsi σ 27 (s1.toNatClampNeg) s0 := ⟨_, rfl⟩
  replace hf := zbv_use eσ1 hf
  refine z_iast hC hI 27 14 (wC_e27 ad cy σ) (tC_t27 cy) q ((wC_s27 ad cy σ _ _).trans (congrArg (wC ad cy) eσ1.symm)) dX3_drawPattern_50 (fun H locs hI => ?_)
  obtain ⟨v2, ev2⟩ : ∃ z : Int32, z = x4 + 1 := ⟨_, rfl⟩
  replace hf := zbv_use ev2 hf
  refine lv_iinc (v := v2) (lv' := [(4, .int v2), (0, .ref (ad 3)), (1, .int x1), (2, .int x2), (3, .int x3)]) hx hb dX3_drawPattern_51 hl (k := 4) rfl (by rw [ev2]; rfl) (by decide) rfl (fun ls hl => ?_)
  refine lv_goto (tgt := 3) hx hb dX3_drawPattern_54 (by decide) ?_
  exact hk3 _ _ _ _ _ _ _ _ hI (lv_sub hl [1, 2, 3, 4, 0] rfl) hf
set_option maxRecDepth 20000 in
set_option maxHeartbeats 4000000 in
theorem bX3_drawPattern_3_body {st : Nat → Nat} {p : Program} {l : Launch} {e : Env} {s : State} {m : MethodId} {args : Array Value} {below : List Frame} {meth : Method} {c : Code} {D : va_G} {A : Nat → Prop} {ad : Nat → Nat} {cy : Nat → ClassId} (hC : zC p m c cX3_drawPattern 5 s args wzX3_drawPattern RX3 meth none) {k3 : zSt → Int32 → Int32 → Int32 → Int32 → Option (zSt)} {res : zSt} (hk3 : ∀ (H : Heap) (locs : List Loc) (σ : zSt) (ls : Array Slot) (x1 : Int32) (x2 : Int32) (x3 : Int32) (x4 : Int32), zI st D (tC cy) (wC ad cy σ) A s H locs → lv_has ls 5 [(0, .ref (ad 3)), (1, .int x1), (2, .int x2), (3, .int x3), (4, .int x4)] → k3 σ x1 x2 x3 x4 = some res → W p l e rmX3_drawPattern s m args below meth c H locs 0 0 (zQu below args s D (tC cy) (wC ad cy) A res) (F0 m 3 ls [])) {H : Heap} {locs : List Loc} {σ : zSt} {ls : Array Slot} {x1 : Int32} {x2 : Int32} {x3 : Int32} {x4 : Int32} (hI : zI st D (tC cy) (wC ad cy σ) A s H locs) (hl : lv_has ls 5 [(0, .ref (ad 3)), (1, .int x1), (2, .int x2), (3, .int x3), (4, .int x4)]) (hf : fX3_drawPattern_3_body k3 σ x1 x2 x3 x4 = some res) : W p l e rmX3_drawPattern s m args below meth c H locs 0 0 (zQu below args s D (tC cy) (wC ad cy) A res) (F0 m 3 ls []) := by
  have hx := hC.1
  have hb := hC.2.1
  unfold fX3_drawPattern_3_body at hf
  refine lv_iload hx hb dX3_drawPattern_3 (lv_at hl 4 rfl) ?_
  refine lv_bipush (v := 8) hx hb dX3_drawPattern_5 (by decide) ?_
  refine lv_icmp_ge (tgt := 57) hx hb dX3_drawPattern_7 (by decide) (fun q => ?_) (fun q => ?_)
  · replace hf := zif_t q hf
    exact bX3_drawPattern_57 hC  hI (lv_sub hl [] rfl) hf
  replace hf := zif_f q hf
  refine lv_iload_n hx hb dX3_drawPattern_10 rfl (lv_at hl 1 rfl) ?_
  refine lv_iload hx hb dX3_drawPattern_11 (lv_at hl 4 rfl) ?_
  refine lv_iadd hx hb dX3_drawPattern_13 ?_
  refine lv_sipush (v := 256) hx hb dX3_drawPattern_14 (by decide) ?_
  refine lv_icmp_ge (tgt := 57) hx hb dX3_drawPattern_17 (by decide) (fun q => ?_) (fun q => ?_)
  · replace hf := zif_t q hf
    exact bX3_drawPattern_57 hC  hI (lv_sub hl [] rfl) hf
  replace hf := zif_f q hf
  refine lv_aload_n hx hb dX3_drawPattern_20 rfl (lv_at hl 0 rfl) ?_
  refine z_get hC hI hinX3_drawPattern_X30 3 (wC_e3 ad cy σ) rfl 4 (by decide) (List.mem_cons_of_mem _ zw4_19) rfl dX3_drawPattern_21 ?_
  refine lv_iload_n hx hb dX3_drawPattern_24 rfl (lv_at hl 1 rfl) ?_
  refine lv_iload hx hb dX3_drawPattern_25 (lv_at hl 4 rfl) ?_
  refine lv_iadd hx hb dX3_drawPattern_27 ?_
  refine lv_iload_n hx hb dX3_drawPattern_28 rfl (lv_at hl 2 rfl) ?_
  refine lv_bipush (v := 7) hx hb dX3_drawPattern_29 (by decide) ?_
  refine lv_iload hx hb dX3_drawPattern_31 (lv_at hl 4 rfl) ?_
  refine lv_isub hx hb dX3_drawPattern_33 ?_
  refine lv_ishr hx hb dX3_drawPattern_34 ?_
  refine lv_iconst (v := 1) hx hb dX3_drawPattern_35 (by decide) ?_
  refine lv_iand hx hb dX3_drawPattern_36 ?_
  refine lv_if_eq (tgt := 46) hx hb dX3_drawPattern_37 (by decide) (fun q => ?_) (fun q => ?_)
  · replace hf := zif_t q hf
    refine lv_iload_n hx hb dX3_drawPattern_46 rfl (lv_at hl 3 rfl) ?_
    refine lv_bipush (v := 15) hx hb dX3_drawPattern_47 (by decide) ?_
    refine lv_iand hx hb dX3_drawPattern_49 ?_
    exact bX3_drawPattern_50 hC hk3 hI hl hf
  replace hf := zif_f q hf
  refine lv_iload_n hx hb dX3_drawPattern_40 rfl (lv_at hl 3 rfl) ?_
  refine lv_iconst (v := 4) hx hb dX3_drawPattern_41 (by decide) ?_
  refine lv_ishr hx hb dX3_drawPattern_42 ?_
  refine lv_goto (tgt := 50) hx hb dX3_drawPattern_43 (by decide) ?_
  exact bX3_drawPattern_50 hC hk3 hI hl hf
theorem blX3_drawPattern_3 {st : Nat → Nat} {p : Program} {l : Launch} {e : Env} {s : State} {m : MethodId} {args : Array Value} {below : List Frame} {meth : Method} {c : Code} {D : va_G} {A : Nat → Prop} {ad : Nat → Nat} {cy : Nat → ClassId} (hC : zC p m c cX3_drawPattern 5 s args wzX3_drawPattern RX3 meth none)  {res : zSt} : ∀ (n : Nat) (H : Heap) (locs : List Loc) (σ : zSt) (ls : Array Slot) (x1 : Int32) (x2 : Int32) (x3 : Int32) (x4 : Int32), zI st D (tC cy) (wC ad cy σ) A s H locs → lv_has ls 5 [(0, .ref (ad 3)), (1, .int x1), (2, .int x2), (3, .int x3), (4, .int x4)] → fX3_drawPattern_3  n σ x1 x2 x3 x4 = some res → W p l e rmX3_drawPattern s m args below meth c H locs 0 0 (zQu below args s D (tC cy) (wC ad cy) A res) (F0 m 3 ls []) := by
  intro n
  induction n with
  | zero => intro H locs σ ls x1 x2 x3 x4 hI hl hf; cases hf
  | succ n ih => intro H locs σ ls x1 x2 x3 x4 hI hl hf; exact bX3_drawPattern_3_body hC ih hI hl hf
set_option maxRecDepth 20000 in
set_option maxHeartbeats 4000000 in
theorem bX3_drawPattern {st : Nat → Nat} {p : Program} {l : Launch} {e : Env} {s : State} {m : MethodId} {args : Array Value} {below : List Frame} {meth : Method} {c : Code} {D : va_G} {A : Nat → Prop} {ad : Nat → Nat} {cy : Nat → ClassId} (hC : zC p m c cX3_drawPattern 5 s args wzX3_drawPattern RX3 meth none)  {res : zSt} {H : Heap} {locs : List Loc} {σ : zSt} {ls : Array Slot} {x1 : Int32} {x2 : Int32} {x3 : Int32} (hI : zI st D (tC cy) (wC ad cy σ) A s H locs) (hl : lv_has ls 5 [(0, .ref (ad 3)), (1, .int x1), (2, .int x2), (3, .int x3)]) (hf : fX3_drawPattern  σ x1 x2 x3 = some res) : W p l e rmX3_drawPattern s m args below meth c H locs 0 0 (zQu below args s D (tC cy) (wC ad cy) A res) (F0 m 0 ls []) := by
  have hx := hC.1
  have hb := hC.2.1
  unfold fX3_drawPattern at hf
  refine lv_iconst (v := 0) hx hb dX3_drawPattern_0 (by decide) ?_
  refine lv_istore (lv' := [(4, .int 0), (0, .ref (ad 3)), (1, .int x1), (2, .int x2), (3, .int x3)]) hx hb dX3_drawPattern_1 hl (by decide) rfl (fun ls hl => ?_)
  exact blX3_drawPattern_3 hC  zfuel _ _ _ _ _ _ _ _ hI (lv_sub hl [1, 2, 3, 4, 0] rfl) hf
set_option maxRecDepth 20000 in
theorem cX3_drawPattern_met (st : Nat → Nat) (l : Launch) (D : va_G) (ad : Nat → Nat) (cy : Nat → ClassId) (σ : zSt) (x1 : Int32) (x2 : Int32) (x3 : Int32) (res : zSt) (hf : fX3_drawPattern σ x1 x2 x3 = some res) (sz : Nat) : zMu st l yX3_drawPattern wzX3_drawPattern rmX3_drawPattern [.ref (ad 3), .int x1, .int x2, .int x3] D (tC cy) (wC ad cy) sz σ res :=
  zMu.of (cc := cX3_drawPattern) (maxL := 5) (ret := none) (by decide) rfl (Nat.le_of_ble_eq_true rfl) (fun p e s m args below meth c hC A hI ls hl => bX3_drawPattern hC hI hl hf)
theorem hdX3_drawPattern : yX3_drawPattern.cls = RX3 ∧ yX3_drawPattern.cls ≠ "java/lang/invoke/MethodHandle" ∧ yX3_drawPattern.cls ≠ "java/lang/invoke/VarHandle" ∧ (parseMethodDescriptor yX3_drawPattern.desc).map (fun d => d.parameters.length) = some 3 := by decide +kernel
def rmX3_drawBlocks : Room := { frames := 1, cells := 0, slots := 0, locals := 24 }
def wzX3_drawBlocks : List Cond := .code yX3_drawBlocks cX3_drawBlocks 5 none :: wsL_law
theorem hinX3_drawBlocks_X30 : ∀ w ∈ wsX30, w ∈ wzX3_drawBlocks := fun w h => List.mem_cons_of_mem _ (inlX3 w h)
def fX3_drawBlocks  (σ : zSt) (x1 : Int32) (x2 : Int32) (x3 : Int32) : Option (zSt) :=
  zbi (fX9_held σ 4) (fun σ1 v2 =>
  zbv ((((2048 * (v2 &&& 7)) + (8 * x2)) + (2 * ((x3 >>> ((3 : Int32) &&& 31)) &&& 3))) + ((x3 >>> ((2 : Int32) &&& 31)) &&& 1)) (fun v3 =>
  zbi (fX9_vramByte σ1 v3) (fun σ4 v5 =>
  zbu (fX3_drawPattern σ4 x1 240 v5) (fun σ6 =>
  some σ6))))
set_option maxRecDepth 20000 in
set_option maxHeartbeats 4000000 in
theorem bX3_drawBlocks {st : Nat → Nat} {p : Program} {l : Launch} {e : Env} {s : State} {m : MethodId} {args : Array Value} {below : List Frame} {meth : Method} {c : Code} {D : va_G} {A : Nat → Prop} {ad : Nat → Nat} {cy : Nat → ClassId} (hC : zC p m c cX3_drawBlocks 5 s args wzX3_drawBlocks RX3 meth none)  {res : zSt} {H : Heap} {locs : List Loc} {σ : zSt} {ls : Array Slot} {x1 : Int32} {x2 : Int32} {x3 : Int32} (hI : zI st D (tC cy) (wC ad cy σ) A s H locs) (hl : lv_has ls 5 [(0, .ref (ad 3)), (1, .int x1), (2, .int x2), (3, .int x3)]) (hf : fX3_drawBlocks  σ x1 x2 x3 = some res) : W p l e rmX3_drawBlocks s m args below meth c H locs 0 0 (zQu below args s D (tC cy) (wC ad cy) A res) (F0 m 0 ls []) := by
  have hx := hC.1
  have hb := hC.2.1
  unfold fX3_drawBlocks at hf
  refine lv_sipush (v := 2048) hx hb dX3_drawBlocks_0 (by decide) ?_
  refine lv_aload_n hx hb dX3_drawBlocks_3 rfl (lv_at hl 0 rfl) ?_
  refine z_get hC hI hinX3_drawBlocks_X30 3 (wC_e3 ad cy σ) rfl 0 (by decide) (List.mem_cons_of_mem _ zw4_22) rfl dX3_drawBlocks_4 ?_
  refine lv_iconst (v := 4) hx hb dX3_drawBlocks_7 (by decide) ?_
  obtain ⟨σ1, v2, g1, hf⟩ := zbi_use hf
  refine z_callVi (As := [.int 4]) (rest := [.int 2048]) hC hI (cX9_held_met st l D ad cy σ 4 _ g1) (zgV zw35_21 zw35_13 zw35_14 zw2_1 zw35_15) rfl ⟨rfl, rfl⟩ 1 hdX9_held ⟨Nat.le_of_ble_eq_true rfl, Nat.le_of_ble_eq_true rfl⟩ rfl rfl (wC_e2 ad cy σ) rfl hl rfl (Nat.le_of_ble_eq_true rfl) dX3_drawBlocks_8 ⟨Nat.zero_le _, Nat.zero_le _⟩ (fun H locs hI => ?_)
  refine lv_bipush (v := 7) hx hb dX3_drawBlocks_11 (by decide) ?_
  refine lv_iand hx hb dX3_drawBlocks_13 ?_
  refine lv_imul hx hb dX3_drawBlocks_14 ?_
  refine lv_bipush (v := 8) hx hb dX3_drawBlocks_15 (by decide) ?_
  refine lv_iload_n hx hb dX3_drawBlocks_17 rfl (lv_at hl 2 rfl) ?_
  refine lv_imul hx hb dX3_drawBlocks_18 ?_
  refine lv_iadd hx hb dX3_drawBlocks_19 ?_
  refine lv_iconst (v := 2) hx hb dX3_drawBlocks_20 (by decide) ?_
  refine lv_iload_n hx hb dX3_drawBlocks_21 rfl (lv_at hl 3 rfl) ?_
  refine lv_iconst (v := 3) hx hb dX3_drawBlocks_22 (by decide) ?_
  refine lv_ishr hx hb dX3_drawBlocks_23 ?_
  refine lv_iconst (v := 3) hx hb dX3_drawBlocks_24 (by decide) ?_
  refine lv_iand hx hb dX3_drawBlocks_25 ?_
  refine lv_imul hx hb dX3_drawBlocks_26 ?_
  refine lv_iadd hx hb dX3_drawBlocks_27 ?_
  refine lv_iload_n hx hb dX3_drawBlocks_28 rfl (lv_at hl 3 rfl) ?_
  refine lv_iconst (v := 2) hx hb dX3_drawBlocks_29 (by decide) ?_
  refine lv_ishr hx hb dX3_drawBlocks_30 ?_
  refine lv_iconst (v := 1) hx hb dX3_drawBlocks_31 (by decide) ?_
  refine lv_iand hx hb dX3_drawBlocks_32 ?_
  refine lv_iadd hx hb dX3_drawBlocks_33 ?_
  refine lv_topi (fun v3 ev3 => ?_)
  replace hf := zbv_use ev3 hf
  refine lv_istore (lv' := [(4, .int v3), (0, .ref (ad 3)), (1, .int x1), (2, .int x2), (3, .int x3)]) hx hb dX3_drawBlocks_34 hl (by decide) rfl (fun ls hl => ?_)
  refine lv_aload_n hx hb dX3_drawBlocks_36 rfl (lv_at hl 1 rfl) ?_
  refine lv_iload_n hx hb dX3_drawBlocks_37 rfl (lv_at hl 2 rfl) ?_
  refine lv_sipush (v := 240) hx hb dX3_drawBlocks_38 (by decide) ?_
  refine lv_aload_n hx hb dX3_drawBlocks_41 rfl (lv_at hl 1 rfl) ?_
  refine z_get hC hI hinX3_drawBlocks_X30 3 (wC_e3 ad cy σ1) rfl 0 (by decide) (List.mem_cons_of_mem _ zw4_22) rfl dX3_drawBlocks_42 ?_
  refine lv_iload hx hb dX3_drawBlocks_45 (lv_at hl 0 rfl) ?_
  obtain ⟨σ4, v5, g4, hf⟩ := zbi_use hf
  refine z_callVi (As := [.int v3]) (rest := [.int 240, .int x1, .ref (ad 3)]) hC hI (cX9_vramByte_met st l D ad cy σ1 v3 _ g4) (zgV zw36_14 zw36_15 zw36_16 zw2_1 zw36_17) rfl ⟨rfl, rfl⟩ 1 hdX9_vramByte ⟨Nat.le_of_ble_eq_true rfl, Nat.le_of_ble_eq_true rfl⟩ rfl rfl (wC_e2 ad cy σ1) rfl hl rfl (Nat.le_of_ble_eq_true rfl) dX3_drawBlocks_47 ⟨Nat.zero_le _, Nat.zero_le _⟩ (fun H locs hI => ?_)
  obtain ⟨σ6, g6, hf⟩ := zbu_use hf
  refine z_callVu (As := [.int x1, .int 240, .int v5]) (rest := []) hC hI (cX3_drawPattern_met st l D ad cy σ4 x1 240 v5 _ g6) (zgV zw38_7 zw38_8 zw38_9 zw2_5 zw38_10) rfl ⟨rfl, rfl⟩ 3 hdX3_drawPattern ⟨Nat.le_of_ble_eq_true rfl, Nat.le_of_ble_eq_true rfl⟩ rfl rfl (wC_e3 ad cy σ4) rfl hl rfl (Nat.le_of_ble_eq_true rfl) dX3_drawBlocks_50 ⟨Nat.zero_le _, Nat.zero_le _⟩ (fun H locs hI => ?_)
  exact z_return hC hI hf dX3_drawBlocks_53
set_option maxRecDepth 20000 in
theorem cX3_drawBlocks_met (st : Nat → Nat) (l : Launch) (D : va_G) (ad : Nat → Nat) (cy : Nat → ClassId) (σ : zSt) (x1 : Int32) (x2 : Int32) (x3 : Int32) (res : zSt) (hf : fX3_drawBlocks σ x1 x2 x3 = some res) (sz : Nat) : zMu st l yX3_drawBlocks wzX3_drawBlocks rmX3_drawBlocks [.ref (ad 3), .int x1, .int x2, .int x3] D (tC cy) (wC ad cy) sz σ res :=
  zMu.of (cc := cX3_drawBlocks) (maxL := 5) (ret := none) (by decide) rfl (Nat.le_of_ble_eq_true rfl) (fun p e s m args below meth c hC A hI ls hl => bX3_drawBlocks hC hI hl hf)
theorem hdX3_drawBlocks : yX3_drawBlocks.cls = RX3 ∧ yX3_drawBlocks.cls ≠ "java/lang/invoke/MethodHandle" ∧ yX3_drawBlocks.cls ≠ "java/lang/invoke/VarHandle" ∧ (parseMethodDescriptor yX3_drawBlocks.desc).map (fun d => d.parameters.length) = some 3 := by decide +kernel
def rmX3_drawThird : Room := { frames := 1, cells := 0, slots := 0, locals := 24 }
def wzX3_drawThird : List Cond := .code yX3_drawThird cX3_drawThird 9 none :: wsL_law
theorem hinX3_drawThird_X30 : ∀ w ∈ wsX30, w ∈ wzX3_drawThird := fun w h => List.mem_cons_of_mem _ (inlX3 w h)
def fX3_drawThird  (σ : zSt) (x1 : Int32) (x2 : Int32) (x3 : Int32) : Option (zSt) :=
  zbi (fX9_held σ 3) (fun σ1 v2 =>
  zbi (fX9_held σ1 4) (fun σ3 v4 =>
  zbv (x2 &&& ((256 * (v4 &&& 3)) + 255)) (fun v5 =>
  zbv (x2 &&& ((8 * (v2 &&& 127)) + 7)) (fun v6 =>
  zbi (fX9_vramByte σ3 (((8192 * ((v4 >>> ((2 : Int32) &&& 31)) &&& 1)) + (8 * v5)) + x3)) (fun σ7 v8 =>
  zbi (fX9_vramByte σ7 (((8192 * (v2 >>> ((7 : Int32) &&& 31))) + (8 * v6)) + x3)) (fun σ9 v10 =>
  zbu (fX3_drawPattern σ9 x1 v8 v10) (fun σ11 =>
  some σ11)))))))
set_option maxRecDepth 20000 in
set_option maxHeartbeats 4000000 in
theorem bX3_drawThird {st : Nat → Nat} {p : Program} {l : Launch} {e : Env} {s : State} {m : MethodId} {args : Array Value} {below : List Frame} {meth : Method} {c : Code} {D : va_G} {A : Nat → Prop} {ad : Nat → Nat} {cy : Nat → ClassId} (hC : zC p m c cX3_drawThird 9 s args wzX3_drawThird RX3 meth none)  {res : zSt} {H : Heap} {locs : List Loc} {σ : zSt} {ls : Array Slot} {x1 : Int32} {x2 : Int32} {x3 : Int32} (hI : zI st D (tC cy) (wC ad cy σ) A s H locs) (hl : lv_has ls 9 [(0, .ref (ad 3)), (1, .int x1), (2, .int x2), (3, .int x3)]) (hf : fX3_drawThird  σ x1 x2 x3 = some res) : W p l e rmX3_drawThird s m args below meth c H locs 0 0 (zQu below args s D (tC cy) (wC ad cy) A res) (F0 m 0 ls []) := by
  have hx := hC.1
  have hb := hC.2.1
  unfold fX3_drawThird at hf
  refine lv_aload_n hx hb dX3_drawThird_0 rfl (lv_at hl 0 rfl) ?_
  refine z_get hC hI hinX3_drawThird_X30 3 (wC_e3 ad cy σ) rfl 0 (by decide) (List.mem_cons_of_mem _ zw4_22) rfl dX3_drawThird_1 ?_
  refine lv_iconst (v := 3) hx hb dX3_drawThird_4 (by decide) ?_
  obtain ⟨σ1, v2, g1, hf⟩ := zbi_use hf
  refine z_callVi (As := [.int 3]) (rest := []) hC hI (cX9_held_met st l D ad cy σ 3 _ g1) (zgV zw35_21 zw35_13 zw35_14 zw2_1 zw35_15) rfl ⟨rfl, rfl⟩ 1 hdX9_held ⟨Nat.le_of_ble_eq_true rfl, Nat.le_of_ble_eq_true rfl⟩ rfl rfl (wC_e2 ad cy σ) rfl hl rfl (Nat.le_of_ble_eq_true rfl) dX3_drawThird_5 ⟨Nat.zero_le _, Nat.zero_le _⟩ (fun H locs hI => ?_)
  refine lv_istore (lv' := [(4, .int v2), (0, .ref (ad 3)), (1, .int x1), (2, .int x2), (3, .int x3)]) hx hb dX3_drawThird_8 hl (by decide) rfl (fun ls hl => ?_)
  refine lv_aload_n hx hb dX3_drawThird_10 rfl (lv_at hl 1 rfl) ?_
  refine z_get hC hI hinX3_drawThird_X30 3 (wC_e3 ad cy σ1) rfl 0 (by decide) (List.mem_cons_of_mem _ zw4_22) rfl dX3_drawThird_11 ?_
  refine lv_iconst (v := 4) hx hb dX3_drawThird_14 (by decide) ?_
  obtain ⟨σ3, v4, g3, hf⟩ := zbi_use hf
  refine z_callVi (As := [.int 4]) (rest := []) hC hI (cX9_held_met st l D ad cy σ1 4 _ g3) (zgV zw35_21 zw35_13 zw35_14 zw2_1 zw35_15) rfl ⟨rfl, rfl⟩ 1 hdX9_held ⟨Nat.le_of_ble_eq_true rfl, Nat.le_of_ble_eq_true rfl⟩ rfl rfl (wC_e2 ad cy σ1) rfl hl rfl (Nat.le_of_ble_eq_true rfl) dX3_drawThird_15 ⟨Nat.zero_le _, Nat.zero_le _⟩ (fun H locs hI => ?_)
  refine lv_istore (lv' := [(5, .int v4), (4, .int v2), (0, .ref (ad 3)), (1, .int x1), (2, .int x2), (3, .int x3)]) hx hb dX3_drawThird_18 hl (by decide) rfl (fun ls hl => ?_)
  refine lv_iload_n hx hb dX3_drawThird_20 rfl (lv_at hl 4 rfl) ?_
  refine lv_sipush (v := 256) hx hb dX3_drawThird_21 (by decide) ?_
  refine lv_iload hx hb dX3_drawThird_24 (lv_at hl 0 rfl) ?_
  refine lv_iconst (v := 3) hx hb dX3_drawThird_26 (by decide) ?_
  refine lv_iand hx hb dX3_drawThird_27 ?_
  refine lv_imul hx hb dX3_drawThird_28 ?_
  refine lv_sipush (v := 255) hx hb dX3_drawThird_29 (by decide) ?_
  refine lv_iadd hx hb dX3_drawThird_32 ?_
  refine lv_iand hx hb dX3_drawThird_33 ?_
  refine lv_topi (fun v5 ev5 => ?_)
  replace hf := zbv_use ev5 hf
  refine lv_istore (lv' := [(6, .int v5), (5, .int v4), (4, .int v2), (0, .ref (ad 3)), (1, .int x1), (2, .int x2), (3, .int x3)]) hx hb dX3_drawThird_34 hl (by decide) rfl (fun ls hl => ?_)
  refine lv_iload_n hx hb dX3_drawThird_36 rfl (lv_at hl 5 rfl) ?_
  refine lv_bipush (v := 8) hx hb dX3_drawThird_37 (by decide) ?_
  refine lv_iload hx hb dX3_drawThird_39 (lv_at hl 2 rfl) ?_
  refine lv_bipush (v := 127) hx hb dX3_drawThird_41 (by decide) ?_
  refine lv_iand hx hb dX3_drawThird_43 ?_
  refine lv_imul hx hb dX3_drawThird_44 ?_
  refine lv_bipush (v := 7) hx hb dX3_drawThird_45 (by decide) ?_
  refine lv_iadd hx hb dX3_drawThird_47 ?_
  refine lv_iand hx hb dX3_drawThird_48 ?_
  refine lv_topi (fun v6 ev6 => ?_)
  replace hf := zbv_use ev6 hf
  refine lv_istore (lv' := [(7, .int v6), (6, .int v5), (5, .int v4), (4, .int v2), (0, .ref (ad 3)), (1, .int x1), (2, .int x2), (3, .int x3)]) hx hb dX3_drawThird_49 hl (by decide) rfl (fun ls hl => ?_)
  refine lv_aload_n hx hb dX3_drawThird_51 rfl (lv_at hl 4 rfl) ?_
  refine z_get hC hI hinX3_drawThird_X30 3 (wC_e3 ad cy σ3) rfl 0 (by decide) (List.mem_cons_of_mem _ zw4_22) rfl dX3_drawThird_52 ?_
  refine lv_sipush (v := 8192) hx hb dX3_drawThird_55 (by decide) ?_
  refine lv_iload hx hb dX3_drawThird_58 (lv_at hl 2 rfl) ?_
  refine lv_iconst (v := 2) hx hb dX3_drawThird_60 (by decide) ?_
  refine lv_ishr hx hb dX3_drawThird_61 ?_
  refine lv_iconst (v := 1) hx hb dX3_drawThird_62 (by decide) ?_
  refine lv_iand hx hb dX3_drawThird_63 ?_
  refine lv_imul hx hb dX3_drawThird_64 ?_
  refine lv_bipush (v := 8) hx hb dX3_drawThird_65 (by decide) ?_
  refine lv_iload hx hb dX3_drawThird_67 (lv_at hl 1 rfl) ?_
  refine lv_imul hx hb dX3_drawThird_69 ?_
  refine lv_iadd hx hb dX3_drawThird_70 ?_
  refine lv_iload_n hx hb dX3_drawThird_71 rfl (lv_at hl 7 rfl) ?_
  refine lv_iadd hx hb dX3_drawThird_72 ?_
  obtain ⟨σ7, v8, g7, hf⟩ := zbi_use hf
  refine z_callVi (As := [.int (((8192 * ((v4 >>> ((2 : Int32) &&& 31)) &&& 1)) + (8 * v5)) + x3)]) (rest := []) hC hI (cX9_vramByte_met st l D ad cy σ3 (((8192 * ((v4 >>> ((2 : Int32) &&& 31)) &&& 1)) + (8 * v5)) + x3) _ g7) (zgV zw36_14 zw36_15 zw36_16 zw2_1 zw36_17) rfl ⟨rfl, rfl⟩ 1 hdX9_vramByte ⟨Nat.le_of_ble_eq_true rfl, Nat.le_of_ble_eq_true rfl⟩ rfl rfl (wC_e2 ad cy σ3) rfl hl rfl (Nat.le_of_ble_eq_true rfl) dX3_drawThird_73 ⟨Nat.zero_le _, Nat.zero_le _⟩ (fun H locs hI => ?_)
  refine lv_istore (lv' := [(8, .int v8), (7, .int v6), (6, .int v5), (5, .int v4), (4, .int v2), (0, .ref (ad 3)), (1, .int x1), (2, .int x2), (3, .int x3)]) hx hb dX3_drawThird_76 hl (by decide) rfl (fun ls hl => ?_)
  refine lv_aload_n hx hb dX3_drawThird_78 rfl (lv_at hl 5 rfl) ?_
  refine lv_iload_n hx hb dX3_drawThird_79 rfl (lv_at hl 6 rfl) ?_
  refine lv_iload hx hb dX3_drawThird_80 (lv_at hl 0 rfl) ?_
  refine lv_aload_n hx hb dX3_drawThird_82 rfl (lv_at hl 5 rfl) ?_
  refine z_get hC hI hinX3_drawThird_X30 3 (wC_e3 ad cy σ7) rfl 0 (by decide) (List.mem_cons_of_mem _ zw4_22) rfl dX3_drawThird_83 ?_
  refine lv_sipush (v := 8192) hx hb dX3_drawThird_86 (by decide) ?_
  refine lv_iload hx hb dX3_drawThird_89 (lv_at hl 4 rfl) ?_
  refine lv_bipush (v := 7) hx hb dX3_drawThird_91 (by decide) ?_
  refine lv_ishr hx hb dX3_drawThird_93 ?_
  refine lv_imul hx hb dX3_drawThird_94 ?_
  refine lv_bipush (v := 8) hx hb dX3_drawThird_95 (by decide) ?_
  refine lv_iload hx hb dX3_drawThird_97 (lv_at hl 1 rfl) ?_
  refine lv_imul hx hb dX3_drawThird_99 ?_
  refine lv_iadd hx hb dX3_drawThird_100 ?_
  refine lv_iload_n hx hb dX3_drawThird_101 rfl (lv_at hl 8 rfl) ?_
  refine lv_iadd hx hb dX3_drawThird_102 ?_
  obtain ⟨σ9, v10, g9, hf⟩ := zbi_use hf
  refine z_callVi (As := [.int (((8192 * (v2 >>> ((7 : Int32) &&& 31))) + (8 * v6)) + x3)]) (rest := [.int v8, .int x1, .ref (ad 3)]) hC hI (cX9_vramByte_met st l D ad cy σ7 (((8192 * (v2 >>> ((7 : Int32) &&& 31))) + (8 * v6)) + x3) _ g9) (zgV zw36_14 zw36_15 zw36_16 zw2_1 zw36_17) rfl ⟨rfl, rfl⟩ 1 hdX9_vramByte ⟨Nat.le_of_ble_eq_true rfl, Nat.le_of_ble_eq_true rfl⟩ rfl rfl (wC_e2 ad cy σ7) rfl hl rfl (Nat.le_of_ble_eq_true rfl) dX3_drawThird_103 ⟨Nat.zero_le _, Nat.zero_le _⟩ (fun H locs hI => ?_)
  obtain ⟨σ11, g11, hf⟩ := zbu_use hf
  refine z_callVu (As := [.int x1, .int v8, .int v10]) (rest := []) hC hI (cX3_drawPattern_met st l D ad cy σ9 x1 v8 v10 _ g11) (zgV zw38_7 zw38_8 zw38_9 zw2_5 zw38_10) rfl ⟨rfl, rfl⟩ 3 hdX3_drawPattern ⟨Nat.le_of_ble_eq_true rfl, Nat.le_of_ble_eq_true rfl⟩ rfl rfl (wC_e3 ad cy σ9) rfl hl rfl (Nat.le_of_ble_eq_true rfl) dX3_drawThird_106 ⟨Nat.zero_le _, Nat.zero_le _⟩ (fun H locs hI => ?_)
  exact z_return hC hI hf dX3_drawThird_109
set_option maxRecDepth 20000 in
theorem cX3_drawThird_met (st : Nat → Nat) (l : Launch) (D : va_G) (ad : Nat → Nat) (cy : Nat → ClassId) (σ : zSt) (x1 : Int32) (x2 : Int32) (x3 : Int32) (res : zSt) (hf : fX3_drawThird σ x1 x2 x3 = some res) (sz : Nat) : zMu st l yX3_drawThird wzX3_drawThird rmX3_drawThird [.ref (ad 3), .int x1, .int x2, .int x3] D (tC cy) (wC ad cy) sz σ res :=
  zMu.of (cc := cX3_drawThird) (maxL := 9) (ret := none) (by decide) rfl (Nat.le_of_ble_eq_true rfl) (fun p e s m args below meth c hC A hI ls hl => bX3_drawThird hC hI hl hf)
theorem hdX3_drawThird : yX3_drawThird.cls = RX3 ∧ yX3_drawThird.cls ≠ "java/lang/invoke/MethodHandle" ∧ yX3_drawThird.cls ≠ "java/lang/invoke/VarHandle" ∧ (parseMethodDescriptor yX3_drawThird.desc).map (fun d => d.parameters.length) = some 3 := by decide +kernel
def rmX3_drawOld : Room := { frames := 3, cells := 0, slots := 0, locals := 69 }
def wzX3_drawOld : List Cond := .code yX3_drawOld cX3_drawOld 6 none :: wsL_law
theorem hinX3_drawOld_X30 : ∀ w ∈ wsX30, w ∈ wzX3_drawOld := fun w h => List.mem_cons_of_mem _ (inlX3 w h)
def fX3_drawOld_165 (k31 : zSt → Int32 → Int32 → Int32 → Int32 → Option (zSt)) (σ : zSt) (x1 : Int32) (x2 : Int32) (x3 : Int32) (x4 : Int32) : Option (zSt) :=
  zbv (x4 + 1) (fun v1 =>
  k31 σ x1 x2 x3 v1)
def fX3_drawOld_31_body (k31 : zSt → Int32 → Int32 → Int32 → Int32 → Option (zSt)) (σ : zSt) (x1 : Int32) (x2 : Int32) (x3 : Int32) (x4 : Int32) : Option (zSt) :=
  if 32 ≤ x4 then some σ else
  zbi (fX9_vramByte σ ((x3 + (32 * (x2 >>> ((3 : Int32) &&& 31)))) + x4)) (fun σ2 v3 =>
  if x1 = 0 then zbi (fX3_patternAt σ2 v3 x2) (fun σ4 v5 =>
  zbi (fX9_held σ4 3) (fun σ6 v7 =>
  zbi (fX9_vramByte σ6 ((64 * v7) + (v3 >>> ((3 : Int32) &&& 31)))) (fun σ8 v9 =>
  zbu (fX3_drawPattern σ8 (8 * x4) v5 v9) (fun σ10 =>
  fX3_drawOld_165 k31 σ10 x1 x2 x3 x4)))) else
  if x1 = 2 then zbu (fX3_drawThird σ2 (8 * x4) (v3 + (256 * (x2 >>> ((6 : Int32) &&& 31)))) (x2 &&& 7)) (fun σ11 =>
  fX3_drawOld_165 k31 σ11 x1 x2 x3 x4) else
  zbu (fX3_drawBlocks σ2 (8 * x4) v3 x2) (fun σ12 =>
  fX3_drawOld_165 k31 σ12 x1 x2 x3 x4))
def fX3_drawOld_31  : Nat → zSt → Int32 → Int32 → Int32 → Int32 → Option (zSt)
  | 0, _, _, _, _, _ => none
  | n + 1, σ, x1, x2, x3, x4 => fX3_drawOld_31_body (fX3_drawOld_31  n) σ x1 x2 x3 x4
def fX3_drawOld  (σ : zSt) (x1 : Int32) (x2 : Int32) : Option (zSt) :=
  zbi (fX9_held σ 2) (fun σ13 v14 =>
  zbv (1024 * (v14 &&& 15)) (fun v15 =>
  if x1 = 1 then zbu (fX3_drawText σ13 v15 x2) (fun σ16 =>
  some σ16) else
  fX3_drawOld_31 zfuel σ13 x1 x2 v15 0))
set_option maxRecDepth 20000 in
set_option maxHeartbeats 4000000 in
theorem bX3_drawOld_165 {st : Nat → Nat} {p : Program} {l : Launch} {e : Env} {s : State} {m : MethodId} {args : Array Value} {below : List Frame} {meth : Method} {c : Code} {D : va_G} {A : Nat → Prop} {ad : Nat → Nat} {cy : Nat → ClassId} (hC : zC p m c cX3_drawOld 6 s args wzX3_drawOld RX3 meth none) {k31 : zSt → Int32 → Int32 → Int32 → Int32 → Option (zSt)} {res : zSt} (hk31 : ∀ (H : Heap) (locs : List Loc) (σ : zSt) (ls : Array Slot) (x1 : Int32) (x2 : Int32) (x3 : Int32) (x4 : Int32), zI st D (tC cy) (wC ad cy σ) A s H locs → lv_has ls 6 [(0, .ref (ad 3)), (1, .int x1), (2, .int x2), (3, .int x3), (4, .int x4)] → k31 σ x1 x2 x3 x4 = some res → W p l e rmX3_drawOld s m args below meth c H locs 0 0 (zQu below args s D (tC cy) (wC ad cy) A res) (F0 m 31 ls [])) {H : Heap} {locs : List Loc} {σ : zSt} {ls : Array Slot} {x1 : Int32} {x2 : Int32} {x3 : Int32} {x4 : Int32} (hI : zI st D (tC cy) (wC ad cy σ) A s H locs) (hl : lv_has ls 6 [(0, .ref (ad 3)), (1, .int x1), (2, .int x2), (3, .int x3), (4, .int x4)]) (hf : fX3_drawOld_165 k31 σ x1 x2 x3 x4 = some res) : W p l e rmX3_drawOld s m args below meth c H locs 0 0 (zQu below args s D (tC cy) (wC ad cy) A res) (F0 m 165 ls []) := by
  have hx := hC.1
  have hb := hC.2.1
  unfold fX3_drawOld_165 at hf
  obtain ⟨v1, ev1⟩ : ∃ z : Int32, z = x4 + 1 := ⟨_, rfl⟩
  replace hf := zbv_use ev1 hf
  refine lv_iinc (v := v1) (lv' := [(4, .int v1), (0, .ref (ad 3)), (1, .int x1), (2, .int x2), (3, .int x3)]) hx hb dX3_drawOld_165 hl (k := 4) rfl (by rw [ev1]; rfl) (by decide) rfl (fun ls hl => ?_)
  refine lv_goto (tgt := 31) hx hb dX3_drawOld_168 (by decide) ?_
  exact hk31 _ _ _ _ _ _ _ _ hI (lv_sub hl [1, 2, 3, 4, 0] rfl) hf
set_option maxRecDepth 20000 in
set_option maxHeartbeats 4000000 in
theorem bX3_drawOld_31_body {st : Nat → Nat} {p : Program} {l : Launch} {e : Env} {s : State} {m : MethodId} {args : Array Value} {below : List Frame} {meth : Method} {c : Code} {D : va_G} {A : Nat → Prop} {ad : Nat → Nat} {cy : Nat → ClassId} (hC : zC p m c cX3_drawOld 6 s args wzX3_drawOld RX3 meth none) {k31 : zSt → Int32 → Int32 → Int32 → Int32 → Option (zSt)} {res : zSt} (hk31 : ∀ (H : Heap) (locs : List Loc) (σ : zSt) (ls : Array Slot) (x1 : Int32) (x2 : Int32) (x3 : Int32) (x4 : Int32), zI st D (tC cy) (wC ad cy σ) A s H locs → lv_has ls 6 [(0, .ref (ad 3)), (1, .int x1), (2, .int x2), (3, .int x3), (4, .int x4)] → k31 σ x1 x2 x3 x4 = some res → W p l e rmX3_drawOld s m args below meth c H locs 0 0 (zQu below args s D (tC cy) (wC ad cy) A res) (F0 m 31 ls [])) {H : Heap} {locs : List Loc} {σ : zSt} {ls : Array Slot} {x1 : Int32} {x2 : Int32} {x3 : Int32} {x4 : Int32} (hI : zI st D (tC cy) (wC ad cy σ) A s H locs) (hl : lv_has ls 6 [(0, .ref (ad 3)), (1, .int x1), (2, .int x2), (3, .int x3), (4, .int x4)]) (hf : fX3_drawOld_31_body k31 σ x1 x2 x3 x4 = some res) : W p l e rmX3_drawOld s m args below meth c H locs 0 0 (zQu below args s D (tC cy) (wC ad cy) A res) (F0 m 31 ls []) := by
  have hx := hC.1
  have hb := hC.2.1
  unfold fX3_drawOld_31_body at hf
  refine lv_iload hx hb dX3_drawOld_31 (lv_at hl 4 rfl) ?_
  refine lv_bipush (v := 32) hx hb dX3_drawOld_33 (by decide) ?_
  refine lv_icmp_ge (tgt := 171) hx hb dX3_drawOld_35 (by decide) (fun q => ?_) (fun q => ?_)
  · replace hf := zif_t q hf
    exact z_return hC hI hf dX3_drawOld_171
  replace hf := zif_f q hf
  refine lv_aload_n hx hb dX3_drawOld_38 rfl (lv_at hl 0 rfl) ?_
  refine z_get hC hI hinX3_drawOld_X30 3 (wC_e3 ad cy σ) rfl 0 (by decide) (List.mem_cons_of_mem _ zw4_22) rfl dX3_drawOld_39 ?_
  refine lv_iload_n hx hb dX3_drawOld_42 rfl (lv_at hl 3 rfl) ?_
  refine lv_bipush (v := 32) hx hb dX3_drawOld_43 (by decide) ?_
  refine lv_iload_n hx hb dX3_drawOld_45 rfl (lv_at hl 2 rfl) ?_
  refine lv_iconst (v := 3) hx hb dX3_drawOld_46 (by decide) ?_
  refine lv_ishr hx hb dX3_drawOld_47 ?_
  refine lv_imul hx hb dX3_drawOld_48 ?_
  refine lv_iadd hx hb dX3_drawOld_49 ?_
  refine lv_iload hx hb dX3_drawOld_50 (lv_at hl 4 rfl) ?_
  refine lv_iadd hx hb dX3_drawOld_52 ?_
  obtain ⟨σ2, v3, g2, hf⟩ := zbi_use hf
  refine z_callVi (As := [.int ((x3 + (32 * (x2 >>> ((3 : Int32) &&& 31)))) + x4)]) (rest := []) hC hI (cX9_vramByte_met st l D ad cy σ ((x3 + (32 * (x2 >>> ((3 : Int32) &&& 31)))) + x4) _ g2) (zgV zw36_14 zw36_15 zw36_16 zw2_1 zw36_17) rfl ⟨rfl, rfl⟩ 1 hdX9_vramByte ⟨Nat.le_of_ble_eq_true rfl, Nat.le_of_ble_eq_true rfl⟩ rfl rfl (wC_e2 ad cy σ) rfl hl rfl (Nat.le_of_ble_eq_true rfl) dX3_drawOld_53 ⟨Nat.zero_le _, Nat.zero_le _⟩ (fun H locs hI => ?_)
  refine lv_istore (lv' := [(5, .int v3), (0, .ref (ad 3)), (1, .int x1), (2, .int x2), (3, .int x3), (4, .int x4)]) hx hb dX3_drawOld_56 hl (by decide) rfl (fun ls hl => ?_)
  refine lv_iload_n hx hb dX3_drawOld_58 rfl (lv_at hl 2 rfl) ?_
  by_cases q0 : x1 = 0
  · replace hf := zif_t q0 hf
    refine lv_lookup (off := 25) (tgt := 84) hx hb dX3_drawOld_59 (by decide) (by rw [q0] <;> rfl) (by decide) ?_
    refine lv_aload_n hx hb dX3_drawOld_84 rfl (lv_at hl 1 rfl) ?_
    refine lv_bipush (v := 8) hx hb dX3_drawOld_85 (by decide) ?_
    refine lv_iload hx hb dX3_drawOld_87 (lv_at hl 5 rfl) ?_
    refine lv_imul hx hb dX3_drawOld_89 ?_
    refine lv_aload_n hx hb dX3_drawOld_90 rfl (lv_at hl 1 rfl) ?_
    refine lv_iload hx hb dX3_drawOld_91 (lv_at hl 0 rfl) ?_
    refine lv_iload_n hx hb dX3_drawOld_93 rfl (lv_at hl 3 rfl) ?_
    obtain ⟨σ4, v5, g4, hf⟩ := zbi_use hf
    refine z_callVi (As := [.int v3, .int x2]) (rest := [.int (8 * x4), .ref (ad 3)]) hC hI (cX3_patternAt_met st l D ad cy σ2 v3 x2 _ g4) (zgV zw38_3 zw38_4 zw38_5 zw2_5 zw38_6) rfl ⟨rfl, rfl⟩ 2 hdX3_patternAt ⟨Nat.le_of_ble_eq_true rfl, Nat.le_of_ble_eq_true rfl⟩ rfl rfl (wC_e3 ad cy σ2) rfl hl rfl (Nat.le_of_ble_eq_true rfl) dX3_drawOld_94 ⟨Nat.zero_le _, Nat.zero_le _⟩ (fun H locs hI => ?_)
    refine lv_aload_n hx hb dX3_drawOld_97 rfl (lv_at hl 1 rfl) ?_
    refine z_get hC hI hinX3_drawOld_X30 3 (wC_e3 ad cy σ4) rfl 0 (by decide) (List.mem_cons_of_mem _ zw4_22) rfl dX3_drawOld_98 ?_
    refine lv_bipush (v := 64) hx hb dX3_drawOld_101 (by decide) ?_
    refine lv_aload_n hx hb dX3_drawOld_103 rfl (lv_at hl 1 rfl) ?_
    refine z_get hC hI hinX3_drawOld_X30 3 (wC_e3 ad cy σ4) rfl 0 (by decide) (List.mem_cons_of_mem _ zw4_22) rfl dX3_drawOld_104 ?_
    refine lv_iconst (v := 3) hx hb dX3_drawOld_107 (by decide) ?_
    obtain ⟨σ6, v7, g6, hf⟩ := zbi_use hf
    refine z_callVi (As := [.int 3]) (rest := [.int 64, .ref (ad 2), .int v5, .int (8 * x4), .ref (ad 3)]) hC hI (cX9_held_met st l D ad cy σ4 3 _ g6) (zgV zw35_21 zw35_13 zw35_14 zw2_1 zw35_15) rfl ⟨rfl, rfl⟩ 1 hdX9_held ⟨Nat.le_of_ble_eq_true rfl, Nat.le_of_ble_eq_true rfl⟩ rfl rfl (wC_e2 ad cy σ4) rfl hl rfl (Nat.le_of_ble_eq_true rfl) dX3_drawOld_108 ⟨Nat.zero_le _, Nat.zero_le _⟩ (fun H locs hI => ?_)
    refine lv_imul hx hb dX3_drawOld_111 ?_
    refine lv_iload hx hb dX3_drawOld_112 (lv_at hl 0 rfl) ?_
    refine lv_iconst (v := 3) hx hb dX3_drawOld_114 (by decide) ?_
    refine lv_ishr hx hb dX3_drawOld_115 ?_
    refine lv_iadd hx hb dX3_drawOld_116 ?_
    obtain ⟨σ8, v9, g8, hf⟩ := zbi_use hf
    refine z_callVi (As := [.int ((64 * v7) + (v3 >>> ((3 : Int32) &&& 31)))]) (rest := [.int v5, .int (8 * x4), .ref (ad 3)]) hC hI (cX9_vramByte_met st l D ad cy σ6 ((64 * v7) + (v3 >>> ((3 : Int32) &&& 31))) _ g8) (zgV zw36_14 zw36_15 zw36_16 zw2_1 zw36_17) rfl ⟨rfl, rfl⟩ 1 hdX9_vramByte ⟨Nat.le_of_ble_eq_true rfl, Nat.le_of_ble_eq_true rfl⟩ rfl rfl (wC_e2 ad cy σ6) rfl hl rfl (Nat.le_of_ble_eq_true rfl) dX3_drawOld_117 ⟨Nat.zero_le _, Nat.zero_le _⟩ (fun H locs hI => ?_)
    obtain ⟨σ10, g10, hf⟩ := zbu_use hf
    refine z_callVu (As := [.int (8 * x4), .int v5, .int v9]) (rest := []) hC hI (cX3_drawPattern_met st l D ad cy σ8 (8 * x4) v5 v9 _ g10) (zgV zw38_7 zw38_8 zw38_9 zw2_5 zw38_10) rfl ⟨rfl, rfl⟩ 3 hdX3_drawPattern ⟨Nat.le_of_ble_eq_true rfl, Nat.le_of_ble_eq_true rfl⟩ rfl rfl (wC_e3 ad cy σ8) rfl hl rfl (Nat.le_of_ble_eq_true rfl) dX3_drawOld_120 ⟨Nat.zero_le _, Nat.zero_le _⟩ (fun H locs hI => ?_)
    refine lv_goto (tgt := 165) hx hb dX3_drawOld_123 (by decide) ?_
    exact bX3_drawOld_165 hC hk31 hI (lv_sub hl [1, 2, 3, 4, 5] rfl) hf
  replace hf := zif_f q0 hf
  by_cases q1 : x1 = 2
  · replace hf := zif_t q1 hf
    refine lv_lookup (off := 67) (tgt := 126) hx hb dX3_drawOld_59 (by decide) (by rw [q1] <;> rfl) (by decide) ?_
    refine lv_aload_n hx hb dX3_drawOld_126 rfl (lv_at hl 1 rfl) ?_
    refine lv_bipush (v := 8) hx hb dX3_drawOld_127 (by decide) ?_
    refine lv_iload hx hb dX3_drawOld_129 (lv_at hl 5 rfl) ?_
    refine lv_imul hx hb dX3_drawOld_131 ?_
    refine lv_iload hx hb dX3_drawOld_132 (lv_at hl 0 rfl) ?_
    refine lv_sipush (v := 256) hx hb dX3_drawOld_134 (by decide) ?_
    refine lv_iload_n hx hb dX3_drawOld_137 rfl (lv_at hl 3 rfl) ?_
    refine lv_bipush (v := 6) hx hb dX3_drawOld_138 (by decide) ?_
    refine lv_ishr hx hb dX3_drawOld_140 ?_
    refine lv_imul hx hb dX3_drawOld_141 ?_
    refine lv_iadd hx hb dX3_drawOld_142 ?_
    refine lv_iload_n hx hb dX3_drawOld_143 rfl (lv_at hl 3 rfl) ?_
    refine lv_bipush (v := 7) hx hb dX3_drawOld_144 (by decide) ?_
    refine lv_iand hx hb dX3_drawOld_146 ?_
    obtain ⟨σ11, g11, hf⟩ := zbu_use hf
    refine z_callVu (As := [.int (8 * x4), .int (v3 + (256 * (x2 >>> ((6 : Int32) &&& 31)))), .int (x2 &&& 7)]) (rest := []) hC hI (cX3_drawThird_met st l D ad cy σ2 (8 * x4) (v3 + (256 * (x2 >>> ((6 : Int32) &&& 31)))) (x2 &&& 7) _ g11) (zgV zw38_11 zw38_12 zw38_13 zw2_5 zw38_14) rfl ⟨rfl, rfl⟩ 3 hdX3_drawThird ⟨Nat.le_of_ble_eq_true rfl, Nat.le_of_ble_eq_true rfl⟩ rfl rfl (wC_e3 ad cy σ2) rfl hl rfl (Nat.le_of_ble_eq_true rfl) dX3_drawOld_147 ⟨Nat.zero_le _, Nat.zero_le _⟩ (fun H locs hI => ?_)
    refine lv_goto (tgt := 165) hx hb dX3_drawOld_150 (by decide) ?_
    exact bX3_drawOld_165 hC hk31 hI (lv_sub hl [1, 2, 3, 4, 5] rfl) hf
  replace hf := zif_f q1 hf
  refine lv_lookup (off := 94) (tgt := 153) hx hb dX3_drawOld_59 (by decide) (by show Op.lookupswitch.offset [(0, 25), (2, 67)] _ _ = _; rw [lv_osw q0 (by decide), lv_osw q1 (by decide)] <;> rfl) (by decide) ?_
  refine lv_aload_n hx hb dX3_drawOld_153 rfl (lv_at hl 1 rfl) ?_
  refine lv_bipush (v := 8) hx hb dX3_drawOld_154 (by decide) ?_
  refine lv_iload hx hb dX3_drawOld_156 (lv_at hl 5 rfl) ?_
  refine lv_imul hx hb dX3_drawOld_158 ?_
  refine lv_iload hx hb dX3_drawOld_159 (lv_at hl 0 rfl) ?_
  refine lv_iload_n hx hb dX3_drawOld_161 rfl (lv_at hl 3 rfl) ?_
  obtain ⟨σ12, g12, hf⟩ := zbu_use hf
  refine z_callVu (As := [.int (8 * x4), .int v3, .int x2]) (rest := []) hC hI (cX3_drawBlocks_met st l D ad cy σ2 (8 * x4) v3 x2 _ g12) (zgV zw38_15 zw38_16 zw38_17 zw2_5 zw38_18) rfl ⟨rfl, rfl⟩ 3 hdX3_drawBlocks ⟨Nat.le_of_ble_eq_true rfl, Nat.le_of_ble_eq_true rfl⟩ rfl rfl (wC_e3 ad cy σ2) rfl hl rfl (Nat.le_of_ble_eq_true rfl) dX3_drawOld_162 ⟨Nat.zero_le _, Nat.zero_le _⟩ (fun H locs hI => ?_)
  exact bX3_drawOld_165 hC hk31 hI (lv_sub hl [1, 2, 3, 4, 5] rfl) hf
theorem blX3_drawOld_31 {st : Nat → Nat} {p : Program} {l : Launch} {e : Env} {s : State} {m : MethodId} {args : Array Value} {below : List Frame} {meth : Method} {c : Code} {D : va_G} {A : Nat → Prop} {ad : Nat → Nat} {cy : Nat → ClassId} (hC : zC p m c cX3_drawOld 6 s args wzX3_drawOld RX3 meth none)  {res : zSt} : ∀ (n : Nat) (H : Heap) (locs : List Loc) (σ : zSt) (ls : Array Slot) (x1 : Int32) (x2 : Int32) (x3 : Int32) (x4 : Int32), zI st D (tC cy) (wC ad cy σ) A s H locs → lv_has ls 6 [(0, .ref (ad 3)), (1, .int x1), (2, .int x2), (3, .int x3), (4, .int x4)] → fX3_drawOld_31  n σ x1 x2 x3 x4 = some res → W p l e rmX3_drawOld s m args below meth c H locs 0 0 (zQu below args s D (tC cy) (wC ad cy) A res) (F0 m 31 ls []) := by
  intro n
  induction n with
  | zero => intro H locs σ ls x1 x2 x3 x4 hI hl hf; cases hf
  | succ n ih => intro H locs σ ls x1 x2 x3 x4 hI hl hf; exact bX3_drawOld_31_body hC ih hI hl hf
set_option maxRecDepth 20000 in
set_option maxHeartbeats 4000000 in
theorem bX3_drawOld {st : Nat → Nat} {p : Program} {l : Launch} {e : Env} {s : State} {m : MethodId} {args : Array Value} {below : List Frame} {meth : Method} {c : Code} {D : va_G} {A : Nat → Prop} {ad : Nat → Nat} {cy : Nat → ClassId} (hC : zC p m c cX3_drawOld 6 s args wzX3_drawOld RX3 meth none)  {res : zSt} {H : Heap} {locs : List Loc} {σ : zSt} {ls : Array Slot} {x1 : Int32} {x2 : Int32} (hI : zI st D (tC cy) (wC ad cy σ) A s H locs) (hl : lv_has ls 6 [(0, .ref (ad 3)), (1, .int x1), (2, .int x2)]) (hf : fX3_drawOld  σ x1 x2 = some res) : W p l e rmX3_drawOld s m args below meth c H locs 0 0 (zQu below args s D (tC cy) (wC ad cy) A res) (F0 m 0 ls []) := by
  have hx := hC.1
  have hb := hC.2.1
  unfold fX3_drawOld at hf
  refine lv_sipush (v := 1024) hx hb dX3_drawOld_0 (by decide) ?_
  refine lv_aload_n hx hb dX3_drawOld_3 rfl (lv_at hl 0 rfl) ?_
  refine z_get hC hI hinX3_drawOld_X30 3 (wC_e3 ad cy σ) rfl 0 (by decide) (List.mem_cons_of_mem _ zw4_22) rfl dX3_drawOld_4 ?_
  refine lv_iconst (v := 2) hx hb dX3_drawOld_7 (by decide) ?_
  obtain ⟨σ13, v14, g13, hf⟩ := zbi_use hf
  refine z_callVi (As := [.int 2]) (rest := [.int 1024]) hC hI (cX9_held_met st l D ad cy σ 2 _ g13) (zgV zw35_21 zw35_13 zw35_14 zw2_1 zw35_15) rfl ⟨rfl, rfl⟩ 1 hdX9_held ⟨Nat.le_of_ble_eq_true rfl, Nat.le_of_ble_eq_true rfl⟩ rfl rfl (wC_e2 ad cy σ) rfl hl rfl (Nat.le_of_ble_eq_true rfl) dX3_drawOld_8 ⟨Nat.zero_le _, Nat.zero_le _⟩ (fun H locs hI => ?_)
  refine lv_bipush (v := 15) hx hb dX3_drawOld_11 (by decide) ?_
  refine lv_iand hx hb dX3_drawOld_13 ?_
  refine lv_imul hx hb dX3_drawOld_14 ?_
  refine lv_topi (fun v15 ev15 => ?_)
  replace hf := zbv_use ev15 hf
  refine lv_istore_n (lv' := [(3, .int v15), (0, .ref (ad 3)), (1, .int x1), (2, .int x2)]) hx hb dX3_drawOld_15 rfl hl (by decide) rfl (fun ls hl => ?_)
  refine lv_iload_n hx hb dX3_drawOld_16 rfl (lv_at hl 2 rfl) ?_
  refine lv_iconst (v := 1) hx hb dX3_drawOld_17 (by decide) ?_
  refine lv_icmp_ne (tgt := 28) hx hb dX3_drawOld_18 (by decide) (fun q => ?_) (fun q => ?_)
  · replace hf := zif_f q hf
    refine lv_iconst (v := 0) hx hb dX3_drawOld_28 (by decide) ?_
    refine lv_istore (lv' := [(4, .int 0), (3, .int v15), (0, .ref (ad 3)), (1, .int x1), (2, .int x2)]) hx hb dX3_drawOld_29 hl (by decide) rfl (fun ls hl => ?_)
    exact blX3_drawOld_31 hC  zfuel _ _ _ _ _ _ _ _ hI (lv_sub hl [2, 3, 4, 1, 0] rfl) hf
  replace hf := zif_t q hf
  refine lv_aload_n hx hb dX3_drawOld_21 rfl (lv_at hl 1 rfl) ?_
  refine lv_iload_n hx hb dX3_drawOld_22 rfl (lv_at hl 0 rfl) ?_
  refine lv_iload_n hx hb dX3_drawOld_23 rfl (lv_at hl 3 rfl) ?_
  obtain ⟨σ16, g16, hf⟩ := zbu_use hf
  refine z_callVu (As := [.int v15, .int x2]) (rest := []) hC hI (cX3_drawText_met st l D ad cy σ13 v15 x2 _ g16) (zgV zw37_23 zw38_0 zw38_1 zw2_5 zw38_2) rfl ⟨rfl, rfl⟩ 2 hdX3_drawText ⟨Nat.le_of_ble_eq_true rfl, Nat.le_of_ble_eq_true rfl⟩ rfl rfl (wC_e3 ad cy σ13) rfl hl rfl (Nat.le_of_ble_eq_true rfl) dX3_drawOld_24 ⟨Nat.zero_le _, Nat.zero_le _⟩ (fun H locs hI => ?_)
  exact z_return hC hI hf dX3_drawOld_27
set_option maxRecDepth 20000 in
theorem cX3_drawOld_met (st : Nat → Nat) (l : Launch) (D : va_G) (ad : Nat → Nat) (cy : Nat → ClassId) (σ : zSt) (x1 : Int32) (x2 : Int32) (res : zSt) (hf : fX3_drawOld σ x1 x2 = some res) (sz : Nat) : zMu st l yX3_drawOld wzX3_drawOld rmX3_drawOld [.ref (ad 3), .int x1, .int x2] D (tC cy) (wC ad cy) sz σ res :=
  zMu.of (cc := cX3_drawOld) (maxL := 6) (ret := none) (by decide) rfl (Nat.le_of_ble_eq_true rfl) (fun p e s m args below meth c hC A hI ls hl => bX3_drawOld hC hI hl hf)
theorem hdX3_drawOld : yX3_drawOld.cls = RX3 ∧ yX3_drawOld.cls ≠ "java/lang/invoke/MethodHandle" ∧ yX3_drawOld.cls ≠ "java/lang/invoke/VarHandle" ∧ (parseMethodDescriptor yX3_drawOld.desc).map (fun d => d.parameters.length) = some 2 := by decide +kernel
def rmX9_markFifth : Room := { frames := 0, cells := 0, slots := 0, locals := 0 }
def wzX9_markFifth : List Cond := .code yX9_markFifth cX9_markFifth 2 none :: wsL_law
theorem hinX9_markFifth_X90 : ∀ w ∈ wsX90, w ∈ wzX9_markFifth := fun w h => List.mem_cons_of_mem _ (inlX9 w h)
def fX9_markFifth_39  (σ : zSt)  : Option (zSt) :=
  some σ
def fX9_markFifth  (σ : zSt) (x1 : Int32) : Option (zSt) :=
  zck (zin 15 96) (
  if ((zgi σ 23 (15 : Int32).toNatClampNeg) &&& 64) = 0 then zck (zin 15 96) (
  zck (zin 15 96) (zbv (zsi σ 23 ((15 : Int32).toNatClampNeg) ((((zgi σ 23 (15 : Int32).toNatClampNeg) &&& 160) ||| 64) ||| (x1 &&& 31))) (fun σ1 =>
  fX9_markFifth_39 σ1))) else
  fX9_markFifth_39 σ)
set_option maxRecDepth 20000 in
set_option maxHeartbeats 4000000 in
theorem bX9_markFifth_39 {st : Nat → Nat} {p : Program} {l : Launch} {e : Env} {s : State} {m : MethodId} {args : Array Value} {below : List Frame} {meth : Method} {c : Code} {D : va_G} {A : Nat → Prop} {ad : Nat → Nat} {cy : Nat → ClassId} (hC : zC p m c cX9_markFifth 2 s args wzX9_markFifth RX9 meth none)  {res : zSt} {H : Heap} {locs : List Loc} {σ : zSt} {ls : Array Slot}  (hI : zI st D (tC cy) (wC ad cy σ) A s H locs) (hl : lv_has ls 2 []) (hf : fX9_markFifth_39  σ  = some res) : W p l e rmX9_markFifth s m args below meth c H locs 0 0 (zQu below args s D (tC cy) (wC ad cy) A res) (F0 m 39 ls []) := by
  have hx := hC.1
  have hb := hC.2.1
  unfold fX9_markFifth_39 at hf
  exact z_return hC hI hf dX9_markFifth_39
set_option maxRecDepth 20000 in
set_option maxHeartbeats 4000000 in
theorem bX9_markFifth {st : Nat → Nat} {p : Program} {l : Launch} {e : Env} {s : State} {m : MethodId} {args : Array Value} {below : List Frame} {meth : Method} {c : Code} {D : va_G} {A : Nat → Prop} {ad : Nat → Nat} {cy : Nat → ClassId} (hC : zC p m c cX9_markFifth 2 s args wzX9_markFifth RX9 meth none)  {res : zSt} {H : Heap} {locs : List Loc} {σ : zSt} {ls : Array Slot} {x1 : Int32} (hI : zI st D (tC cy) (wC ad cy σ) A s H locs) (hl : lv_has ls 2 [(0, .ref (ad 2)), (1, .int x1)]) (hf : fX9_markFifth  σ x1 = some res) : W p l e rmX9_markFifth s m args below meth c H locs 0 0 (zQu below args s D (tC cy) (wC ad cy) A res) (F0 m 0 ls []) := by
  have hx := hC.1
  have hb := hC.2.1
  unfold fX9_markFifth at hf
  refine lv_aload_n hx hb dX9_markFifth_0 rfl (lv_at hl 0 rfl) ?_
  refine z_get hC hI hinX9_markFifth_X90 2 (wC_e2 ad cy σ) rfl 4 (by decide) (List.mem_cons_of_mem _ zw4_8) rfl dX9_markFifth_1 ?_
  refine lv_bipush (v := 15) hx hb dX9_markFifth_4 (by decide) ?_
  obtain ⟨q, hf⟩ := zck_use hf
  refine z_iald hC hI 23 10 (wC_e23 ad cy σ) (tC_t23 cy) q dX9_markFifth_6 ?_
  refine lv_bipush (v := 64) hx hb dX9_markFifth_7 (by decide) ?_
  refine lv_iand hx hb dX9_markFifth_9 ?_
  refine lv_if_ne (tgt := 39) hx hb dX9_markFifth_10 (by decide) (fun q => ?_) (fun q => ?_)
  · replace hf := zif_f q hf
    exact bX9_markFifth_39 hC  hI (lv_sub hl [] rfl) hf
  replace hf := zif_t q hf
  refine lv_aload_n hx hb dX9_markFifth_13 rfl (lv_at hl 0 rfl) ?_
  refine z_get hC hI hinX9_markFifth_X90 2 (wC_e2 ad cy σ) rfl 4 (by decide) (List.mem_cons_of_mem _ zw4_8) rfl dX9_markFifth_14 ?_
  refine lv_bipush (v := 15) hx hb dX9_markFifth_17 (by decide) ?_
  refine lv_aload_n hx hb dX9_markFifth_19 rfl (lv_at hl 0 rfl) ?_
  refine z_get hC hI hinX9_markFifth_X90 2 (wC_e2 ad cy σ) rfl 4 (by decide) (List.mem_cons_of_mem _ zw4_8) rfl dX9_markFifth_20 ?_
  refine lv_bipush (v := 15) hx hb dX9_markFifth_23 (by decide) ?_
  obtain ⟨q, hf⟩ := zck_use hf
  refine z_iald hC hI 23 10 (wC_e23 ad cy σ) (tC_t23 cy) q dX9_markFifth_25 ?_
  refine lv_sipush (v := 160) hx hb dX9_markFifth_26 (by decide) ?_
  refine lv_iand hx hb dX9_markFifth_29 ?_
  refine lv_bipush (v := 64) hx hb dX9_markFifth_30 (by decide) ?_
  refine lv_ior hx hb dX9_markFifth_32 ?_
  refine lv_iload_n hx hb dX9_markFifth_33 rfl (lv_at hl 1 rfl) ?_
  refine lv_bipush (v := 31) hx hb dX9_markFifth_34 (by decide) ?_
  refine lv_iand hx hb dX9_markFifth_36 ?_
  refine lv_ior hx hb dX9_markFifth_37 ?_
  obtain ⟨q, hf⟩ := zck_use hf
  obtain ⟨σ1, eσ1⟩ : ∃ z, z = zsi σ 23 ((15 : Int32).toNatClampNeg) ((((zgi σ 23 (15 : Int32).toNatClampNeg) &&& 160) ||| 64) ||| (x1 &&& 31)) := ⟨_, rfl⟩
  replace hf := zbv_use eσ1 hf
  refine z_iast hC hI 23 10 (wC_e23 ad cy σ) (tC_t23 cy) q ((wC_s23 ad cy σ _ _).trans (congrArg (wC ad cy) eσ1.symm)) dX9_markFifth_38 (fun H locs hI => ?_)
  exact bX9_markFifth_39 hC  hI (lv_sub hl [] rfl) hf
set_option maxRecDepth 20000 in
theorem cX9_markFifth_met (st : Nat → Nat) (l : Launch) (D : va_G) (ad : Nat → Nat) (cy : Nat → ClassId) (σ : zSt) (x1 : Int32) (res : zSt) (hf : fX9_markFifth σ x1 = some res) (sz : Nat) : zMu st l yX9_markFifth wzX9_markFifth rmX9_markFifth [.ref (ad 2), .int x1] D (tC cy) (wC ad cy) sz σ res :=
  zMu.of (cc := cX9_markFifth) (maxL := 2) (ret := none) (by decide) rfl (Nat.le_of_ble_eq_true rfl) (fun p e s m args below meth c hC A hI ls hl => bX9_markFifth hC hI hl hf)
theorem hdX9_markFifth : yX9_markFifth.cls = RX9 ∧ yX9_markFifth.cls ≠ "java/lang/invoke/MethodHandle" ∧ yX9_markFifth.cls ≠ "java/lang/invoke/VarHandle" ∧ (parseMethodDescriptor yX9_markFifth.desc).map (fun d => d.parameters.length) = some 1 := by decide +kernel
def rmX3_takeDot : Room := { frames := 1, cells := 0, slots := 0, locals := 21 }
def wzX3_takeDot : List Cond := .code yX3_takeDot cX3_takeDot 3 none :: wsL_law
theorem hinX3_takeDot_X30 : ∀ w ∈ wsX30, w ∈ wzX3_takeDot := fun w h => List.mem_cons_of_mem _ (inlX3 w h)
def fX3_takeDot_41  (σ : zSt)  : Option (zSt) :=
  some σ
def fX3_takeDot_18  (σ : zSt) (x1 : Int32) (x2 : Int32) : Option (zSt) :=
  zck (zin x1 256) (
  if ((zgi σ 28 x1.toNatClampNeg) &&& 15) = 0 then zck (zin x1 256) (zbv (zsi σ 28 (x1.toNatClampNeg) (256 ||| x2)) (fun σ1 =>
  fX3_takeDot_41 σ1)) else
  fX3_takeDot_41 σ)
def fX3_takeDot  (σ : zSt) (x1 : Int32) (x2 : Int32) : Option (zSt) :=
  zck (zin x1 256) (
  if (zgi σ 28 x1.toNatClampNeg) = 0 then fX3_takeDot_18 σ x1 x2 else
  zbu (fX9_mark σ 32) (fun σ2 =>
  fX3_takeDot_18 σ2 x1 x2))
set_option maxRecDepth 20000 in
set_option maxHeartbeats 4000000 in
theorem bX3_takeDot_41 {st : Nat → Nat} {p : Program} {l : Launch} {e : Env} {s : State} {m : MethodId} {args : Array Value} {below : List Frame} {meth : Method} {c : Code} {D : va_G} {A : Nat → Prop} {ad : Nat → Nat} {cy : Nat → ClassId} (hC : zC p m c cX3_takeDot 3 s args wzX3_takeDot RX3 meth none)  {res : zSt} {H : Heap} {locs : List Loc} {σ : zSt} {ls : Array Slot}  (hI : zI st D (tC cy) (wC ad cy σ) A s H locs) (hl : lv_has ls 3 []) (hf : fX3_takeDot_41  σ  = some res) : W p l e rmX3_takeDot s m args below meth c H locs 0 0 (zQu below args s D (tC cy) (wC ad cy) A res) (F0 m 41 ls []) := by
  have hx := hC.1
  have hb := hC.2.1
  unfold fX3_takeDot_41 at hf
  exact z_return hC hI hf dX3_takeDot_41
set_option maxRecDepth 20000 in
set_option maxHeartbeats 4000000 in
theorem bX3_takeDot_18 {st : Nat → Nat} {p : Program} {l : Launch} {e : Env} {s : State} {m : MethodId} {args : Array Value} {below : List Frame} {meth : Method} {c : Code} {D : va_G} {A : Nat → Prop} {ad : Nat → Nat} {cy : Nat → ClassId} (hC : zC p m c cX3_takeDot 3 s args wzX3_takeDot RX3 meth none)  {res : zSt} {H : Heap} {locs : List Loc} {σ : zSt} {ls : Array Slot} {x1 : Int32} {x2 : Int32} (hI : zI st D (tC cy) (wC ad cy σ) A s H locs) (hl : lv_has ls 3 [(0, .ref (ad 3)), (1, .int x1), (2, .int x2)]) (hf : fX3_takeDot_18  σ x1 x2 = some res) : W p l e rmX3_takeDot s m args below meth c H locs 0 0 (zQu below args s D (tC cy) (wC ad cy) A res) (F0 m 18 ls []) := by
  have hx := hC.1
  have hb := hC.2.1
  unfold fX3_takeDot_18 at hf
  refine lv_aload_n hx hb dX3_takeDot_18 rfl (lv_at hl 0 rfl) ?_
  refine z_get hC hI hinX3_takeDot_X30 3 (wC_e3 ad cy σ) rfl 5 (by decide) (List.mem_cons_of_mem _ zw4_20) rfl dX3_takeDot_19 ?_
  refine lv_iload_n hx hb dX3_takeDot_22 rfl (lv_at hl 1 rfl) ?_
  obtain ⟨q, hf⟩ := zck_use hf
  refine z_iald hC hI 28 15 (wC_e28 ad cy σ) (tC_t28 cy) q dX3_takeDot_23 ?_
  refine lv_bipush (v := 15) hx hb dX3_takeDot_24 (by decide) ?_
  refine lv_iand hx hb dX3_takeDot_26 ?_
  refine lv_if_ne (tgt := 41) hx hb dX3_takeDot_27 (by decide) (fun q => ?_) (fun q => ?_)
  · replace hf := zif_f q hf
    exact bX3_takeDot_41 hC  hI (lv_sub hl [] rfl) hf
  replace hf := zif_t q hf
  refine lv_aload_n hx hb dX3_takeDot_30 rfl (lv_at hl 0 rfl) ?_
  refine z_get hC hI hinX3_takeDot_X30 3 (wC_e3 ad cy σ) rfl 5 (by decide) (List.mem_cons_of_mem _ zw4_20) rfl dX3_takeDot_31 ?_
  refine lv_iload_n hx hb dX3_takeDot_34 rfl (lv_at hl 1 rfl) ?_
  refine lv_sipush (v := 256) hx hb dX3_takeDot_35 (by decide) ?_
  refine lv_iload_n hx hb dX3_takeDot_38 rfl (lv_at hl 2 rfl) ?_
  refine lv_ior hx hb dX3_takeDot_39 ?_
  obtain ⟨q, hf⟩ := zck_use hf
  obtain ⟨σ1, eσ1⟩ : ∃ z, z = zsi σ 28 (x1.toNatClampNeg) (256 ||| x2) := ⟨_, rfl⟩
  replace hf := zbv_use eσ1 hf
  refine z_iast hC hI 28 15 (wC_e28 ad cy σ) (tC_t28 cy) q ((wC_s28 ad cy σ _ _).trans (congrArg (wC ad cy) eσ1.symm)) dX3_takeDot_40 (fun H locs hI => ?_)
  exact bX3_takeDot_41 hC  hI (lv_sub hl [] rfl) hf
set_option maxRecDepth 20000 in
set_option maxHeartbeats 4000000 in
theorem bX3_takeDot {st : Nat → Nat} {p : Program} {l : Launch} {e : Env} {s : State} {m : MethodId} {args : Array Value} {below : List Frame} {meth : Method} {c : Code} {D : va_G} {A : Nat → Prop} {ad : Nat → Nat} {cy : Nat → ClassId} (hC : zC p m c cX3_takeDot 3 s args wzX3_takeDot RX3 meth none)  {res : zSt} {H : Heap} {locs : List Loc} {σ : zSt} {ls : Array Slot} {x1 : Int32} {x2 : Int32} (hI : zI st D (tC cy) (wC ad cy σ) A s H locs) (hl : lv_has ls 3 [(0, .ref (ad 3)), (1, .int x1), (2, .int x2)]) (hf : fX3_takeDot  σ x1 x2 = some res) : W p l e rmX3_takeDot s m args below meth c H locs 0 0 (zQu below args s D (tC cy) (wC ad cy) A res) (F0 m 0 ls []) := by
  have hx := hC.1
  have hb := hC.2.1
  unfold fX3_takeDot at hf
  refine lv_aload_n hx hb dX3_takeDot_0 rfl (lv_at hl 0 rfl) ?_
  refine z_get hC hI hinX3_takeDot_X30 3 (wC_e3 ad cy σ) rfl 5 (by decide) (List.mem_cons_of_mem _ zw4_20) rfl dX3_takeDot_1 ?_
  refine lv_iload_n hx hb dX3_takeDot_4 rfl (lv_at hl 1 rfl) ?_
  obtain ⟨q, hf⟩ := zck_use hf
  refine z_iald hC hI 28 15 (wC_e28 ad cy σ) (tC_t28 cy) q dX3_takeDot_5 ?_
  refine lv_if_eq (tgt := 18) hx hb dX3_takeDot_6 (by decide) (fun q => ?_) (fun q => ?_)
  · replace hf := zif_t q hf
    exact bX3_takeDot_18 hC  hI hl hf
  replace hf := zif_f q hf
  refine lv_aload_n hx hb dX3_takeDot_9 rfl (lv_at hl 0 rfl) ?_
  refine z_get hC hI hinX3_takeDot_X30 3 (wC_e3 ad cy σ) rfl 0 (by decide) (List.mem_cons_of_mem _ zw4_22) rfl dX3_takeDot_10 ?_
  refine lv_bipush (v := 32) hx hb dX3_takeDot_13 (by decide) ?_
  obtain ⟨σ2, g2, hf⟩ := zbu_use hf
  refine z_callVu (As := [.int 32]) (rest := []) hC hI (cX9_mark_met st l D ad cy σ 32 _ g2) (zgV zw37_10 zw37_11 zw37_12 zw2_1 zw37_13) rfl ⟨rfl, rfl⟩ 1 hdX9_mark ⟨Nat.le_of_ble_eq_true rfl, Nat.le_of_ble_eq_true rfl⟩ rfl rfl (wC_e2 ad cy σ) rfl hl rfl (Nat.le_of_ble_eq_true rfl) dX3_takeDot_15 ⟨Nat.zero_le _, Nat.zero_le _⟩ (fun H locs hI => ?_)
  exact bX3_takeDot_18 hC  hI hl hf
set_option maxRecDepth 20000 in
theorem cX3_takeDot_met (st : Nat → Nat) (l : Launch) (D : va_G) (ad : Nat → Nat) (cy : Nat → ClassId) (σ : zSt) (x1 : Int32) (x2 : Int32) (res : zSt) (hf : fX3_takeDot σ x1 x2 = some res) (sz : Nat) : zMu st l yX3_takeDot wzX3_takeDot rmX3_takeDot [.ref (ad 3), .int x1, .int x2] D (tC cy) (wC ad cy) sz σ res :=
  zMu.of (cc := cX3_takeDot) (maxL := 3) (ret := none) (by decide) rfl (Nat.le_of_ble_eq_true rfl) (fun p e s m args below meth c hC A hI ls hl => bX3_takeDot hC hI hl hf)
theorem hdX3_takeDot : yX3_takeDot.cls = RX3 ∧ yX3_takeDot.cls ≠ "java/lang/invoke/MethodHandle" ∧ yX3_takeDot.cls ≠ "java/lang/invoke/VarHandle" ∧ (parseMethodDescriptor yX3_takeDot.desc).map (fun d => d.parameters.length) = some 2 := by decide +kernel
def rmX3_drawOldSprite : Room := { frames := 2, cells := 0, slots := 0, locals := 43 }
def wzX3_drawOldSprite : List Cond := .code yX3_drawOldSprite cX3_drawOldSprite 13 none :: wsL_law
theorem hinX3_drawOldSprite_X30 : ∀ w ∈ wsX30, w ∈ wzX3_drawOldSprite := fun w h => List.mem_cons_of_mem _ (inlX3 w h)
def fX3_drawOldSprite_224 (k158 : zSt → Int32 → Int32 → Int32 → Int32 → Int32 → Int32 → Option (zSt)) (σ : zSt) (x3 : Int32) (x4 : Int32) (x7 : Int32) (x8 : Int32) (x10 : Int32) (x11 : Int32) : Option (zSt) :=
  zbv (x11 + 1) (fun v1 =>
  k158 σ x3 x4 x7 x8 x10 v1)
def fX3_drawOldSprite_172 (k158 : zSt → Int32 → Int32 → Int32 → Int32 → Int32 → Int32 → Option (zSt)) (σ : zSt) (x3 : Int32) (x4 : Int32) (x7 : Int32) (x8 : Int32) (x10 : Int32) (x11 : Int32) (s0 : Int32) (s1 : Int32) : Option (zSt) :=
  if (s0 <<< (x7 &&& 31)) ≤ s1 then some σ else
  zbv (x4 + x11) (fun v2 =>
  if ((x10 >>> ((15 - (x11 >>> (x7 &&& 31))) &&& 31)) &&& 1) = 0 then fX3_drawOldSprite_224 k158 σ x3 x4 x7 x8 x10 x11 else
  if v2 < 0 then fX3_drawOldSprite_224 k158 σ x3 x4 x7 x8 x10 x11 else
  if 256 ≤ v2 then fX3_drawOldSprite_224 k158 σ x3 x4 x7 x8 x10 x11 else
  zbu (fX3_takeDot σ v2 (x3 &&& 15)) (fun σ3 =>
  fX3_drawOldSprite_224 k158 σ3 x3 x4 x7 x8 x10 x11))
def fX3_drawOldSprite_158_body (k158 : zSt → Int32 → Int32 → Int32 → Int32 → Int32 → Int32 → Option (zSt)) (σ : zSt) (x3 : Int32) (x4 : Int32) (x7 : Int32) (x8 : Int32) (x10 : Int32) (x11 : Int32) : Option (zSt) :=
  if x8 = 0 then fX3_drawOldSprite_172 k158 σ x3 x4 x7 x8 x10 x11 8 x11 else
  fX3_drawOldSprite_172 k158 σ x3 x4 x7 x8 x10 x11 16 x11
def fX3_drawOldSprite_158  : Nat → zSt → Int32 → Int32 → Int32 → Int32 → Int32 → Int32 → Option (zSt)
  | 0, _, _, _, _, _, _, _ => none
  | n + 1, σ, x3, x4, x7, x8, x10, x11 => fX3_drawOldSprite_158_body (fX3_drawOldSprite_158  n) σ x3 x4 x7 x8 x10 x11
def fX3_drawOldSprite_152  (σ : zSt) (x3 : Int32) (x4 : Int32) (x7 : Int32) (x8 : Int32) (s0 : Int32) (s1 : Int32) : Option (zSt) :=
  zbv (s1 ||| s0) (fun v4 =>
  fX3_drawOldSprite_158 zfuel σ x3 x4 x7 x8 v4 0)
def fX3_drawOldSprite_113  (σ : zSt) (x2 : Int32) (x3 : Int32) (x4 : Int32) (x7 : Int32) (x8 : Int32) (s0 : Int32) (s1 : Int32) (s2 : Int32) : Option (zSt) :=
  zbv ((s2 + (s1 * s0)) + x2) (fun v5 =>
  zbi (fX9_vramByte σ v5) (fun σ6 v7 =>
  if x8 = 0 then fX3_drawOldSprite_152 σ6 x3 x4 x7 x8 0 (v7 <<< ((8 : Int32) &&& 31)) else
  zbi (fX9_vramByte σ6 (v5 + 16)) (fun σ8 v9 =>
  fX3_drawOldSprite_152 σ8 x3 x4 x7 x8 v9 (v7 <<< ((8 : Int32) &&& 31)))))
def fX3_drawOldSprite_78  (σ : zSt) (x2 : Int32) (x3 : Int32) (x4 : Int32) (x5 : Int32) (x7 : Int32) (s0 : Int32) : Option (zSt) :=
  zbi (fX9_held σ 6) (fun σ10 v11 =>
  if s0 = 0 then fX3_drawOldSprite_113 σ10 x2 x3 x4 x7 s0 x5 8 (2048 * (v11 &&& 7)) else
  fX3_drawOldSprite_113 σ10 x2 x3 x4 x7 s0 (x5 &&& (-4)) 8 (2048 * (v11 &&& 7)))
def fX3_drawOldSprite_35  (σ : zSt) (x1 : Int32) (x2 : Int32) (x3 : Int32) (s0 : Int32) (s1 : Int32) : Option (zSt) :=
  zbv (s1 - s0) (fun v12 =>
  zbi (fX9_vramByte σ (x1 + 2)) (fun σ13 v14 =>
  zbi (fX9_held σ13 1) (fun σ15 v16 =>
  zbv (v16 &&& 1) (fun v17 =>
  if (v16 &&& 2) = 0 then fX3_drawOldSprite_78 σ15 x2 x3 v12 v14 v17 0 else
  fX3_drawOldSprite_78 σ15 x2 x3 v12 v14 v17 1))))
def fX3_drawOldSprite  (σ : zSt) (x1 : Int32) (x2 : Int32) : Option (zSt) :=
  zbi (fX9_vramByte σ (x1 + 3)) (fun σ18 v19 =>
  zbi (fX9_vramByte σ18 (x1 + 1)) (fun σ20 v21 =>
  if (v19 &&& 128) = 0 then fX3_drawOldSprite_35 σ20 x1 x2 v19 0 v21 else
  fX3_drawOldSprite_35 σ20 x1 x2 v19 32 v21))
set_option maxRecDepth 20000 in
set_option maxHeartbeats 4000000 in
theorem bX3_drawOldSprite_224 {st : Nat → Nat} {p : Program} {l : Launch} {e : Env} {s : State} {m : MethodId} {args : Array Value} {below : List Frame} {meth : Method} {c : Code} {D : va_G} {A : Nat → Prop} {ad : Nat → Nat} {cy : Nat → ClassId} (hC : zC p m c cX3_drawOldSprite 13 s args wzX3_drawOldSprite RX3 meth none) {k158 : zSt → Int32 → Int32 → Int32 → Int32 → Int32 → Int32 → Option (zSt)} {res : zSt} (hk158 : ∀ (H : Heap) (locs : List Loc) (σ : zSt) (ls : Array Slot) (x3 : Int32) (x4 : Int32) (x7 : Int32) (x8 : Int32) (x10 : Int32) (x11 : Int32), zI st D (tC cy) (wC ad cy σ) A s H locs → lv_has ls 13 [(0, .ref (ad 3)), (3, .int x3), (4, .int x4), (7, .int x7), (8, .int x8), (10, .int x10), (11, .int x11)] → k158 σ x3 x4 x7 x8 x10 x11 = some res → W p l e rmX3_drawOldSprite s m args below meth c H locs 0 0 (zQu below args s D (tC cy) (wC ad cy) A res) (F0 m 158 ls [])) {H : Heap} {locs : List Loc} {σ : zSt} {ls : Array Slot} {x3 : Int32} {x4 : Int32} {x7 : Int32} {x8 : Int32} {x10 : Int32} {x11 : Int32} (hI : zI st D (tC cy) (wC ad cy σ) A s H locs) (hl : lv_has ls 13 [(0, .ref (ad 3)), (3, .int x3), (4, .int x4), (7, .int x7), (8, .int x8), (10, .int x10), (11, .int x11)]) (hf : fX3_drawOldSprite_224 k158 σ x3 x4 x7 x8 x10 x11 = some res) : W p l e rmX3_drawOldSprite s m args below meth c H locs 0 0 (zQu below args s D (tC cy) (wC ad cy) A res) (F0 m 224 ls []) := by
  have hx := hC.1
  have hb := hC.2.1
  unfold fX3_drawOldSprite_224 at hf
  obtain ⟨v1, ev1⟩ : ∃ z : Int32, z = x11 + 1 := ⟨_, rfl⟩
  replace hf := zbv_use ev1 hf
  refine lv_iinc (v := v1) (lv' := [(11, .int v1), (0, .ref (ad 3)), (3, .int x3), (4, .int x4), (7, .int x7), (8, .int x8), (10, .int x10)]) hx hb dX3_drawOldSprite_224 hl (k := 6) rfl (by rw [ev1]; rfl) (by decide) rfl (fun ls hl => ?_)
  refine lv_goto (tgt := 158) hx hb dX3_drawOldSprite_227 (by decide) ?_
  exact hk158 _ _ _ _ _ _ _ _ _ _ hI (lv_sub hl [1, 2, 3, 4, 5, 6, 0] rfl) hf
set_option maxRecDepth 20000 in
set_option maxHeartbeats 4000000 in
theorem bX3_drawOldSprite_172 {st : Nat → Nat} {p : Program} {l : Launch} {e : Env} {s : State} {m : MethodId} {args : Array Value} {below : List Frame} {meth : Method} {c : Code} {D : va_G} {A : Nat → Prop} {ad : Nat → Nat} {cy : Nat → ClassId} (hC : zC p m c cX3_drawOldSprite 13 s args wzX3_drawOldSprite RX3 meth none) {k158 : zSt → Int32 → Int32 → Int32 → Int32 → Int32 → Int32 → Option (zSt)} {res : zSt} (hk158 : ∀ (H : Heap) (locs : List Loc) (σ : zSt) (ls : Array Slot) (x3 : Int32) (x4 : Int32) (x7 : Int32) (x8 : Int32) (x10 : Int32) (x11 : Int32), zI st D (tC cy) (wC ad cy σ) A s H locs → lv_has ls 13 [(0, .ref (ad 3)), (3, .int x3), (4, .int x4), (7, .int x7), (8, .int x8), (10, .int x10), (11, .int x11)] → k158 σ x3 x4 x7 x8 x10 x11 = some res → W p l e rmX3_drawOldSprite s m args below meth c H locs 0 0 (zQu below args s D (tC cy) (wC ad cy) A res) (F0 m 158 ls [])) {H : Heap} {locs : List Loc} {σ : zSt} {ls : Array Slot} {x3 : Int32} {x4 : Int32} {x7 : Int32} {x8 : Int32} {x10 : Int32} {x11 : Int32} {s0 : Int32} {s1 : Int32} (hI : zI st D (tC cy) (wC ad cy σ) A s H locs) (hl : lv_has ls 13 [(0, .ref (ad 3)), (3, .int x3), (4, .int x4), (7, .int x7), (8, .int x8), (10, .int x10), (11, .int x11)]) (hf : fX3_drawOldSprite_172 k158 σ x3 x4 x7 x8 x10 x11 s0 s1 = some res) : W p l e rmX3_drawOldSprite s m args below meth c H locs 0 0 (zQu below args s D (tC cy) (wC ad cy) A res) (F0 m 172 ls [.int s0, .int s1]) := by
  have hx := hC.1
  have hb := hC.2.1
  unfold fX3_drawOldSprite_172 at hf
  refine lv_iload hx hb dX3_drawOldSprite_172 (lv_at hl 3 rfl) ?_
  refine lv_ishl hx hb dX3_drawOldSprite_174 ?_
  refine lv_icmp_ge (tgt := 230) hx hb dX3_drawOldSprite_175 (by decide) (fun q => ?_) (fun q => ?_)
  · replace hf := zif_t q hf
    exact z_return hC hI hf dX3_drawOldSprite_230
  replace hf := zif_f q hf
  refine lv_iload hx hb dX3_drawOldSprite_178 (lv_at hl 2 rfl) ?_
  refine lv_iload hx hb dX3_drawOldSprite_180 (lv_at hl 6 rfl) ?_
  refine lv_iadd hx hb dX3_drawOldSprite_182 ?_
  refine lv_topi (fun v2 ev2 => ?_)
  replace hf := zbv_use ev2 hf
  refine lv_istore (lv' := [(12, .int v2), (0, .ref (ad 3)), (3, .int x3), (4, .int x4), (7, .int x7), (8, .int x8), (10, .int x10), (11, .int x11)]) hx hb dX3_drawOldSprite_183 hl (by decide) rfl (fun ls hl => ?_)
  refine lv_iload hx hb dX3_drawOldSprite_185 (lv_at hl 6 rfl) ?_
  refine lv_bipush (v := 15) hx hb dX3_drawOldSprite_187 (by decide) ?_
  refine lv_iload hx hb dX3_drawOldSprite_189 (lv_at hl 7 rfl) ?_
  refine lv_iload hx hb dX3_drawOldSprite_191 (lv_at hl 4 rfl) ?_
  refine lv_ishr hx hb dX3_drawOldSprite_193 ?_
  refine lv_isub hx hb dX3_drawOldSprite_194 ?_
  refine lv_ishr hx hb dX3_drawOldSprite_195 ?_
  refine lv_iconst (v := 1) hx hb dX3_drawOldSprite_196 (by decide) ?_
  refine lv_iand hx hb dX3_drawOldSprite_197 ?_
  refine lv_if_eq (tgt := 224) hx hb dX3_drawOldSprite_198 (by decide) (fun q => ?_) (fun q => ?_)
  · replace hf := zif_t q hf
    exact bX3_drawOldSprite_224 hC hk158 hI (lv_sub hl [1, 2, 3, 4, 5, 6, 7] rfl) hf
  replace hf := zif_f q hf
  refine lv_iload hx hb dX3_drawOldSprite_201 (lv_at hl 0 rfl) ?_
  refine lv_if_lt (tgt := 224) hx hb dX3_drawOldSprite_203 (by decide) (fun q => ?_) (fun q => ?_)
  · replace hf := zif_t q hf
    exact bX3_drawOldSprite_224 hC hk158 hI (lv_sub hl [1, 2, 3, 4, 5, 6, 7] rfl) hf
  replace hf := zif_f q hf
  refine lv_iload hx hb dX3_drawOldSprite_206 (lv_at hl 0 rfl) ?_
  refine lv_sipush (v := 256) hx hb dX3_drawOldSprite_208 (by decide) ?_
  refine lv_icmp_ge (tgt := 224) hx hb dX3_drawOldSprite_211 (by decide) (fun q => ?_) (fun q => ?_)
  · replace hf := zif_t q hf
    exact bX3_drawOldSprite_224 hC hk158 hI (lv_sub hl [1, 2, 3, 4, 5, 6, 7] rfl) hf
  replace hf := zif_f q hf
  refine lv_aload_n hx hb dX3_drawOldSprite_214 rfl (lv_at hl 1 rfl) ?_
  refine lv_iload hx hb dX3_drawOldSprite_215 (lv_at hl 0 rfl) ?_
  refine lv_iload_n hx hb dX3_drawOldSprite_217 rfl (lv_at hl 2 rfl) ?_
  refine lv_bipush (v := 15) hx hb dX3_drawOldSprite_218 (by decide) ?_
  refine lv_iand hx hb dX3_drawOldSprite_220 ?_
  obtain ⟨σ3, g3, hf⟩ := zbu_use hf
  refine z_callVu (As := [.int v2, .int (x3 &&& 15)]) (rest := []) hC hI (cX3_takeDot_met st l D ad cy σ v2 (x3 &&& 15) _ g3) (zgV zw39_7 zw39_8 zw39_9 zw2_5 zw39_10) rfl ⟨rfl, rfl⟩ 2 hdX3_takeDot ⟨Nat.le_of_ble_eq_true rfl, Nat.le_of_ble_eq_true rfl⟩ rfl rfl (wC_e3 ad cy σ) rfl hl rfl (Nat.le_of_ble_eq_true rfl) dX3_drawOldSprite_221 ⟨Nat.zero_le _, Nat.zero_le _⟩ (fun H locs hI => ?_)
  exact bX3_drawOldSprite_224 hC hk158 hI (lv_sub hl [1, 2, 3, 4, 5, 6, 7] rfl) hf
set_option maxRecDepth 20000 in
set_option maxHeartbeats 4000000 in
theorem bX3_drawOldSprite_158_body {st : Nat → Nat} {p : Program} {l : Launch} {e : Env} {s : State} {m : MethodId} {args : Array Value} {below : List Frame} {meth : Method} {c : Code} {D : va_G} {A : Nat → Prop} {ad : Nat → Nat} {cy : Nat → ClassId} (hC : zC p m c cX3_drawOldSprite 13 s args wzX3_drawOldSprite RX3 meth none) {k158 : zSt → Int32 → Int32 → Int32 → Int32 → Int32 → Int32 → Option (zSt)} {res : zSt} (hk158 : ∀ (H : Heap) (locs : List Loc) (σ : zSt) (ls : Array Slot) (x3 : Int32) (x4 : Int32) (x7 : Int32) (x8 : Int32) (x10 : Int32) (x11 : Int32), zI st D (tC cy) (wC ad cy σ) A s H locs → lv_has ls 13 [(0, .ref (ad 3)), (3, .int x3), (4, .int x4), (7, .int x7), (8, .int x8), (10, .int x10), (11, .int x11)] → k158 σ x3 x4 x7 x8 x10 x11 = some res → W p l e rmX3_drawOldSprite s m args below meth c H locs 0 0 (zQu below args s D (tC cy) (wC ad cy) A res) (F0 m 158 ls [])) {H : Heap} {locs : List Loc} {σ : zSt} {ls : Array Slot} {x3 : Int32} {x4 : Int32} {x7 : Int32} {x8 : Int32} {x10 : Int32} {x11 : Int32} (hI : zI st D (tC cy) (wC ad cy σ) A s H locs) (hl : lv_has ls 13 [(0, .ref (ad 3)), (3, .int x3), (4, .int x4), (7, .int x7), (8, .int x8), (10, .int x10), (11, .int x11)]) (hf : fX3_drawOldSprite_158_body k158 σ x3 x4 x7 x8 x10 x11 = some res) : W p l e rmX3_drawOldSprite s m args below meth c H locs 0 0 (zQu below args s D (tC cy) (wC ad cy) A res) (F0 m 158 ls []) := by
  have hx := hC.1
  have hb := hC.2.1
  unfold fX3_drawOldSprite_158_body at hf
  refine lv_iload hx hb dX3_drawOldSprite_158 (lv_at hl 6 rfl) ?_
  refine lv_iload hx hb dX3_drawOldSprite_160 (lv_at hl 4 rfl) ?_
  refine lv_if_eq (tgt := 170) hx hb dX3_drawOldSprite_162 (by decide) (fun q => ?_) (fun q => ?_)
  · replace hf := zif_t q hf
    refine lv_bipush (v := 8) hx hb dX3_drawOldSprite_170 (by decide) ?_
    exact bX3_drawOldSprite_172 hC hk158 hI hl hf
  replace hf := zif_f q hf
  refine lv_bipush (v := 16) hx hb dX3_drawOldSprite_165 (by decide) ?_
  refine lv_goto (tgt := 172) hx hb dX3_drawOldSprite_167 (by decide) ?_
  exact bX3_drawOldSprite_172 hC hk158 hI hl hf
theorem blX3_drawOldSprite_158 {st : Nat → Nat} {p : Program} {l : Launch} {e : Env} {s : State} {m : MethodId} {args : Array Value} {below : List Frame} {meth : Method} {c : Code} {D : va_G} {A : Nat → Prop} {ad : Nat → Nat} {cy : Nat → ClassId} (hC : zC p m c cX3_drawOldSprite 13 s args wzX3_drawOldSprite RX3 meth none)  {res : zSt} : ∀ (n : Nat) (H : Heap) (locs : List Loc) (σ : zSt) (ls : Array Slot) (x3 : Int32) (x4 : Int32) (x7 : Int32) (x8 : Int32) (x10 : Int32) (x11 : Int32), zI st D (tC cy) (wC ad cy σ) A s H locs → lv_has ls 13 [(0, .ref (ad 3)), (3, .int x3), (4, .int x4), (7, .int x7), (8, .int x8), (10, .int x10), (11, .int x11)] → fX3_drawOldSprite_158  n σ x3 x4 x7 x8 x10 x11 = some res → W p l e rmX3_drawOldSprite s m args below meth c H locs 0 0 (zQu below args s D (tC cy) (wC ad cy) A res) (F0 m 158 ls []) := by
  intro n
  induction n with
  | zero => intro H locs σ ls x3 x4 x7 x8 x10 x11 hI hl hf; cases hf
  | succ n ih => intro H locs σ ls x3 x4 x7 x8 x10 x11 hI hl hf; exact bX3_drawOldSprite_158_body hC ih hI hl hf
set_option maxRecDepth 20000 in
set_option maxHeartbeats 4000000 in
theorem bX3_drawOldSprite_152 {st : Nat → Nat} {p : Program} {l : Launch} {e : Env} {s : State} {m : MethodId} {args : Array Value} {below : List Frame} {meth : Method} {c : Code} {D : va_G} {A : Nat → Prop} {ad : Nat → Nat} {cy : Nat → ClassId} (hC : zC p m c cX3_drawOldSprite 13 s args wzX3_drawOldSprite RX3 meth none)  {res : zSt} {H : Heap} {locs : List Loc} {σ : zSt} {ls : Array Slot} {x3 : Int32} {x4 : Int32} {x7 : Int32} {x8 : Int32} {s0 : Int32} {s1 : Int32} (hI : zI st D (tC cy) (wC ad cy σ) A s H locs) (hl : lv_has ls 13 [(0, .ref (ad 3)), (3, .int x3), (4, .int x4), (7, .int x7), (8, .int x8)]) (hf : fX3_drawOldSprite_152  σ x3 x4 x7 x8 s0 s1 = some res) : W p l e rmX3_drawOldSprite s m args below meth c H locs 0 0 (zQu below args s D (tC cy) (wC ad cy) A res) (F0 m 152 ls [.int s0, .int s1]) := by
  have hx := hC.1
  have hb := hC.2.1
  unfold fX3_drawOldSprite_152 at hf
  refine lv_ior hx hb dX3_drawOldSprite_152 ?_
  refine lv_topi (fun v4 ev4 => ?_)
  replace hf := zbv_use ev4 hf
  refine lv_istore (lv' := [(10, .int v4), (0, .ref (ad 3)), (3, .int x3), (4, .int x4), (7, .int x7), (8, .int x8)]) hx hb dX3_drawOldSprite_153 hl (by decide) rfl (fun ls hl => ?_)
  refine lv_iconst (v := 0) hx hb dX3_drawOldSprite_155 (by decide) ?_
  refine lv_istore (lv' := [(11, .int 0), (10, .int v4), (0, .ref (ad 3)), (3, .int x3), (4, .int x4), (7, .int x7), (8, .int x8)]) hx hb dX3_drawOldSprite_156 hl (by decide) rfl (fun ls hl => ?_)
  exact blX3_drawOldSprite_158 hC  zfuel _ _ _ _ _ _ _ _ _ _ hI (lv_sub hl [2, 3, 4, 5, 6, 1, 0] rfl) hf
set_option maxRecDepth 20000 in
set_option maxHeartbeats 4000000 in
theorem bX3_drawOldSprite_113 {st : Nat → Nat} {p : Program} {l : Launch} {e : Env} {s : State} {m : MethodId} {args : Array Value} {below : List Frame} {meth : Method} {c : Code} {D : va_G} {A : Nat → Prop} {ad : Nat → Nat} {cy : Nat → ClassId} (hC : zC p m c cX3_drawOldSprite 13 s args wzX3_drawOldSprite RX3 meth none)  {res : zSt} {H : Heap} {locs : List Loc} {σ : zSt} {ls : Array Slot} {x2 : Int32} {x3 : Int32} {x4 : Int32} {x7 : Int32} {x8 : Int32} {s0 : Int32} {s1 : Int32} {s2 : Int32} (hI : zI st D (tC cy) (wC ad cy σ) A s H locs) (hl : lv_has ls 13 [(0, .ref (ad 3)), (2, .int x2), (3, .int x3), (4, .int x4), (7, .int x7), (8, .int x8)]) (hf : fX3_drawOldSprite_113  σ x2 x3 x4 x7 x8 s0 s1 s2 = some res) : W p l e rmX3_drawOldSprite s m args below meth c H locs 0 0 (zQu below args s D (tC cy) (wC ad cy) A res) (F0 m 113 ls [.int s0, .int s1, .int s2]) := by
  have hx := hC.1
  have hb := hC.2.1
  unfold fX3_drawOldSprite_113 at hf
  refine lv_imul hx hb dX3_drawOldSprite_113 ?_
  refine lv_iadd hx hb dX3_drawOldSprite_114 ?_
  refine lv_iload_n hx hb dX3_drawOldSprite_115 rfl (lv_at hl 1 rfl) ?_
  refine lv_iadd hx hb dX3_drawOldSprite_116 ?_
  refine lv_topi (fun v5 ev5 => ?_)
  replace hf := zbv_use ev5 hf
  refine lv_istore (lv' := [(9, .int v5), (0, .ref (ad 3)), (2, .int x2), (3, .int x3), (4, .int x4), (7, .int x7), (8, .int x8)]) hx hb dX3_drawOldSprite_117 hl (by decide) rfl (fun ls hl => ?_)
  refine lv_aload_n hx hb dX3_drawOldSprite_119 rfl (lv_at hl 1 rfl) ?_
  refine z_get hC hI hinX3_drawOldSprite_X30 3 (wC_e3 ad cy σ) rfl 0 (by decide) (List.mem_cons_of_mem _ zw4_22) rfl dX3_drawOldSprite_120 ?_
  refine lv_iload hx hb dX3_drawOldSprite_123 (lv_at hl 0 rfl) ?_
  obtain ⟨σ6, v7, g6, hf⟩ := zbi_use hf
  refine z_callVi (As := [.int v5]) (rest := []) hC hI (cX9_vramByte_met st l D ad cy σ v5 _ g6) (zgV zw36_14 zw36_15 zw36_16 zw2_1 zw36_17) rfl ⟨rfl, rfl⟩ 1 hdX9_vramByte ⟨Nat.le_of_ble_eq_true rfl, Nat.le_of_ble_eq_true rfl⟩ rfl rfl (wC_e2 ad cy σ) rfl hl rfl (Nat.le_of_ble_eq_true rfl) dX3_drawOldSprite_125 ⟨Nat.zero_le _, Nat.zero_le _⟩ (fun H locs hI => ?_)
  refine lv_bipush (v := 8) hx hb dX3_drawOldSprite_128 (by decide) ?_
  refine lv_ishl hx hb dX3_drawOldSprite_130 ?_
  refine lv_iload hx hb dX3_drawOldSprite_131 (lv_at hl 6 rfl) ?_
  refine lv_if_eq (tgt := 151) hx hb dX3_drawOldSprite_133 (by decide) (fun q => ?_) (fun q => ?_)
  · replace hf := zif_t q hf
    refine lv_iconst (v := 0) hx hb dX3_drawOldSprite_151 (by decide) ?_
    exact bX3_drawOldSprite_152 hC  hI (lv_sub hl [1, 3, 4, 5, 6] rfl) hf
  replace hf := zif_f q hf
  refine lv_aload_n hx hb dX3_drawOldSprite_136 rfl (lv_at hl 1 rfl) ?_
  refine z_get hC hI hinX3_drawOldSprite_X30 3 (wC_e3 ad cy σ6) rfl 0 (by decide) (List.mem_cons_of_mem _ zw4_22) rfl dX3_drawOldSprite_137 ?_
  refine lv_iload hx hb dX3_drawOldSprite_140 (lv_at hl 0 rfl) ?_
  refine lv_bipush (v := 16) hx hb dX3_drawOldSprite_142 (by decide) ?_
  refine lv_iadd hx hb dX3_drawOldSprite_144 ?_
  obtain ⟨σ8, v9, g8, hf⟩ := zbi_use hf
  refine z_callVi (As := [.int (v5 + 16)]) (rest := [.int (v7 <<< ((8 : Int32) &&& 31))]) hC hI (cX9_vramByte_met st l D ad cy σ6 (v5 + 16) _ g8) (zgV zw36_14 zw36_15 zw36_16 zw2_1 zw36_17) rfl ⟨rfl, rfl⟩ 1 hdX9_vramByte ⟨Nat.le_of_ble_eq_true rfl, Nat.le_of_ble_eq_true rfl⟩ rfl rfl (wC_e2 ad cy σ6) rfl hl rfl (Nat.le_of_ble_eq_true rfl) dX3_drawOldSprite_145 ⟨Nat.zero_le _, Nat.zero_le _⟩ (fun H locs hI => ?_)
  refine lv_goto (tgt := 152) hx hb dX3_drawOldSprite_148 (by decide) ?_
  exact bX3_drawOldSprite_152 hC  hI (lv_sub hl [1, 3, 4, 5, 6] rfl) hf
set_option maxRecDepth 20000 in
set_option maxHeartbeats 4000000 in
theorem bX3_drawOldSprite_78 {st : Nat → Nat} {p : Program} {l : Launch} {e : Env} {s : State} {m : MethodId} {args : Array Value} {below : List Frame} {meth : Method} {c : Code} {D : va_G} {A : Nat → Prop} {ad : Nat → Nat} {cy : Nat → ClassId} (hC : zC p m c cX3_drawOldSprite 13 s args wzX3_drawOldSprite RX3 meth none)  {res : zSt} {H : Heap} {locs : List Loc} {σ : zSt} {ls : Array Slot} {x2 : Int32} {x3 : Int32} {x4 : Int32} {x5 : Int32} {x7 : Int32} {s0 : Int32} (hI : zI st D (tC cy) (wC ad cy σ) A s H locs) (hl : lv_has ls 13 [(0, .ref (ad 3)), (2, .int x2), (3, .int x3), (4, .int x4), (5, .int x5), (7, .int x7)]) (hf : fX3_drawOldSprite_78  σ x2 x3 x4 x5 x7 s0 = some res) : W p l e rmX3_drawOldSprite s m args below meth c H locs 0 0 (zQu below args s D (tC cy) (wC ad cy) A res) (F0 m 78 ls [.int s0]) := by
  have hx := hC.1
  have hb := hC.2.1
  unfold fX3_drawOldSprite_78 at hf
  refine lv_istore (lv' := [(8, .int s0), (0, .ref (ad 3)), (2, .int x2), (3, .int x3), (4, .int x4), (5, .int x5), (7, .int x7)]) hx hb dX3_drawOldSprite_78 hl (by decide) rfl (fun ls hl => ?_)
  refine lv_sipush (v := 2048) hx hb dX3_drawOldSprite_80 (by decide) ?_
  refine lv_aload_n hx hb dX3_drawOldSprite_83 rfl (lv_at hl 1 rfl) ?_
  refine z_get hC hI hinX3_drawOldSprite_X30 3 (wC_e3 ad cy σ) rfl 0 (by decide) (List.mem_cons_of_mem _ zw4_22) rfl dX3_drawOldSprite_84 ?_
  refine lv_bipush (v := 6) hx hb dX3_drawOldSprite_87 (by decide) ?_
  obtain ⟨σ10, v11, g10, hf⟩ := zbi_use hf
  refine z_callVi (As := [.int 6]) (rest := [.int 2048]) hC hI (cX9_held_met st l D ad cy σ 6 _ g10) (zgV zw35_21 zw35_13 zw35_14 zw2_1 zw35_15) rfl ⟨rfl, rfl⟩ 1 hdX9_held ⟨Nat.le_of_ble_eq_true rfl, Nat.le_of_ble_eq_true rfl⟩ rfl rfl (wC_e2 ad cy σ) rfl hl rfl (Nat.le_of_ble_eq_true rfl) dX3_drawOldSprite_89 ⟨Nat.zero_le _, Nat.zero_le _⟩ (fun H locs hI => ?_)
  refine lv_bipush (v := 7) hx hb dX3_drawOldSprite_92 (by decide) ?_
  refine lv_iand hx hb dX3_drawOldSprite_94 ?_
  refine lv_imul hx hb dX3_drawOldSprite_95 ?_
  refine lv_bipush (v := 8) hx hb dX3_drawOldSprite_96 (by decide) ?_
  refine lv_iload hx hb dX3_drawOldSprite_98 (lv_at hl 0 rfl) ?_
  refine lv_if_eq (tgt := 111) hx hb dX3_drawOldSprite_100 (by decide) (fun q => ?_) (fun q => ?_)
  · replace hf := zif_t q hf
    refine lv_iload hx hb dX3_drawOldSprite_111 (lv_at hl 5 rfl) ?_
    exact bX3_drawOldSprite_113 hC  hI (lv_sub hl [1, 2, 3, 4, 6, 0] rfl) hf
  replace hf := zif_f q hf
  refine lv_iload hx hb dX3_drawOldSprite_103 (lv_at hl 5 rfl) ?_
  refine lv_bipush (v := (-4)) hx hb dX3_drawOldSprite_105 (by decide) ?_
  refine lv_iand hx hb dX3_drawOldSprite_107 ?_
  refine lv_goto (tgt := 113) hx hb dX3_drawOldSprite_108 (by decide) ?_
  exact bX3_drawOldSprite_113 hC  hI (lv_sub hl [1, 2, 3, 4, 6, 0] rfl) hf
set_option maxRecDepth 20000 in
set_option maxHeartbeats 4000000 in
theorem bX3_drawOldSprite_35 {st : Nat → Nat} {p : Program} {l : Launch} {e : Env} {s : State} {m : MethodId} {args : Array Value} {below : List Frame} {meth : Method} {c : Code} {D : va_G} {A : Nat → Prop} {ad : Nat → Nat} {cy : Nat → ClassId} (hC : zC p m c cX3_drawOldSprite 13 s args wzX3_drawOldSprite RX3 meth none)  {res : zSt} {H : Heap} {locs : List Loc} {σ : zSt} {ls : Array Slot} {x1 : Int32} {x2 : Int32} {x3 : Int32} {s0 : Int32} {s1 : Int32} (hI : zI st D (tC cy) (wC ad cy σ) A s H locs) (hl : lv_has ls 13 [(0, .ref (ad 3)), (1, .int x1), (2, .int x2), (3, .int x3)]) (hf : fX3_drawOldSprite_35  σ x1 x2 x3 s0 s1 = some res) : W p l e rmX3_drawOldSprite s m args below meth c H locs 0 0 (zQu below args s D (tC cy) (wC ad cy) A res) (F0 m 35 ls [.int s0, .int s1]) := by
  have hx := hC.1
  have hb := hC.2.1
  unfold fX3_drawOldSprite_35 at hf
  refine lv_isub hx hb dX3_drawOldSprite_35 ?_
  refine lv_topi (fun v12 ev12 => ?_)
  replace hf := zbv_use ev12 hf
  refine lv_istore (lv' := [(4, .int v12), (0, .ref (ad 3)), (1, .int x1), (2, .int x2), (3, .int x3)]) hx hb dX3_drawOldSprite_36 hl (by decide) rfl (fun ls hl => ?_)
  refine lv_aload_n hx hb dX3_drawOldSprite_38 rfl (lv_at hl 1 rfl) ?_
  refine z_get hC hI hinX3_drawOldSprite_X30 3 (wC_e3 ad cy σ) rfl 0 (by decide) (List.mem_cons_of_mem _ zw4_22) rfl dX3_drawOldSprite_39 ?_
  refine lv_iload_n hx hb dX3_drawOldSprite_42 rfl (lv_at hl 2 rfl) ?_
  refine lv_iconst (v := 2) hx hb dX3_drawOldSprite_43 (by decide) ?_
  refine lv_iadd hx hb dX3_drawOldSprite_44 ?_
  obtain ⟨σ13, v14, g13, hf⟩ := zbi_use hf
  refine z_callVi (As := [.int (x1 + 2)]) (rest := []) hC hI (cX9_vramByte_met st l D ad cy σ (x1 + 2) _ g13) (zgV zw36_14 zw36_15 zw36_16 zw2_1 zw36_17) rfl ⟨rfl, rfl⟩ 1 hdX9_vramByte ⟨Nat.le_of_ble_eq_true rfl, Nat.le_of_ble_eq_true rfl⟩ rfl rfl (wC_e2 ad cy σ) rfl hl rfl (Nat.le_of_ble_eq_true rfl) dX3_drawOldSprite_45 ⟨Nat.zero_le _, Nat.zero_le _⟩ (fun H locs hI => ?_)
  refine lv_istore (lv' := [(5, .int v14), (4, .int v12), (0, .ref (ad 3)), (1, .int x1), (2, .int x2), (3, .int x3)]) hx hb dX3_drawOldSprite_48 hl (by decide) rfl (fun ls hl => ?_)
  refine lv_aload_n hx hb dX3_drawOldSprite_50 rfl (lv_at hl 2 rfl) ?_
  refine z_get hC hI hinX3_drawOldSprite_X30 3 (wC_e3 ad cy σ13) rfl 0 (by decide) (List.mem_cons_of_mem _ zw4_22) rfl dX3_drawOldSprite_51 ?_
  refine lv_iconst (v := 1) hx hb dX3_drawOldSprite_54 (by decide) ?_
  obtain ⟨σ15, v16, g15, hf⟩ := zbi_use hf
  refine z_callVi (As := [.int 1]) (rest := []) hC hI (cX9_held_met st l D ad cy σ13 1 _ g15) (zgV zw35_21 zw35_13 zw35_14 zw2_1 zw35_15) rfl ⟨rfl, rfl⟩ 1 hdX9_held ⟨Nat.le_of_ble_eq_true rfl, Nat.le_of_ble_eq_true rfl⟩ rfl rfl (wC_e2 ad cy σ13) rfl hl rfl (Nat.le_of_ble_eq_true rfl) dX3_drawOldSprite_55 ⟨Nat.zero_le _, Nat.zero_le _⟩ (fun H locs hI => ?_)
  refine lv_istore (lv' := [(6, .int v16), (5, .int v14), (4, .int v12), (0, .ref (ad 3)), (1, .int x1), (2, .int x2), (3, .int x3)]) hx hb dX3_drawOldSprite_58 hl (by decide) rfl (fun ls hl => ?_)
  refine lv_iload hx hb dX3_drawOldSprite_60 (lv_at hl 0 rfl) ?_
  refine lv_iconst (v := 1) hx hb dX3_drawOldSprite_62 (by decide) ?_
  refine lv_iand hx hb dX3_drawOldSprite_63 ?_
  refine lv_topi (fun v17 ev17 => ?_)
  replace hf := zbv_use ev17 hf
  refine lv_istore (lv' := [(7, .int v17), (6, .int v16), (5, .int v14), (4, .int v12), (0, .ref (ad 3)), (1, .int x1), (2, .int x2), (3, .int x3)]) hx hb dX3_drawOldSprite_64 hl (by decide) rfl (fun ls hl => ?_)
  refine lv_iload hx hb dX3_drawOldSprite_66 (lv_at hl 1 rfl) ?_
  refine lv_iconst (v := 2) hx hb dX3_drawOldSprite_68 (by decide) ?_
  refine lv_iand hx hb dX3_drawOldSprite_69 ?_
  refine lv_if_eq (tgt := 77) hx hb dX3_drawOldSprite_70 (by decide) (fun q => ?_) (fun q => ?_)
  · replace hf := zif_t q hf
    refine lv_iconst (v := 0) hx hb dX3_drawOldSprite_77 (by decide) ?_
    exact bX3_drawOldSprite_78 hC  hI (lv_sub hl [4, 6, 7, 3, 2, 0] rfl) hf
  replace hf := zif_f q hf
  refine lv_iconst (v := 1) hx hb dX3_drawOldSprite_73 (by decide) ?_
  refine lv_goto (tgt := 78) hx hb dX3_drawOldSprite_74 (by decide) ?_
  exact bX3_drawOldSprite_78 hC  hI (lv_sub hl [4, 6, 7, 3, 2, 0] rfl) hf
set_option maxRecDepth 20000 in
set_option maxHeartbeats 4000000 in
theorem bX3_drawOldSprite {st : Nat → Nat} {p : Program} {l : Launch} {e : Env} {s : State} {m : MethodId} {args : Array Value} {below : List Frame} {meth : Method} {c : Code} {D : va_G} {A : Nat → Prop} {ad : Nat → Nat} {cy : Nat → ClassId} (hC : zC p m c cX3_drawOldSprite 13 s args wzX3_drawOldSprite RX3 meth none)  {res : zSt} {H : Heap} {locs : List Loc} {σ : zSt} {ls : Array Slot} {x1 : Int32} {x2 : Int32} (hI : zI st D (tC cy) (wC ad cy σ) A s H locs) (hl : lv_has ls 13 [(0, .ref (ad 3)), (1, .int x1), (2, .int x2)]) (hf : fX3_drawOldSprite  σ x1 x2 = some res) : W p l e rmX3_drawOldSprite s m args below meth c H locs 0 0 (zQu below args s D (tC cy) (wC ad cy) A res) (F0 m 0 ls []) := by
  have hx := hC.1
  have hb := hC.2.1
  unfold fX3_drawOldSprite at hf
  refine lv_aload_n hx hb dX3_drawOldSprite_0 rfl (lv_at hl 0 rfl) ?_
  refine z_get hC hI hinX3_drawOldSprite_X30 3 (wC_e3 ad cy σ) rfl 0 (by decide) (List.mem_cons_of_mem _ zw4_22) rfl dX3_drawOldSprite_1 ?_
  refine lv_iload_n hx hb dX3_drawOldSprite_4 rfl (lv_at hl 1 rfl) ?_
  refine lv_iconst (v := 3) hx hb dX3_drawOldSprite_5 (by decide) ?_
  refine lv_iadd hx hb dX3_drawOldSprite_6 ?_
  obtain ⟨σ18, v19, g18, hf⟩ := zbi_use hf
  refine z_callVi (As := [.int (x1 + 3)]) (rest := []) hC hI (cX9_vramByte_met st l D ad cy σ (x1 + 3) _ g18) (zgV zw36_14 zw36_15 zw36_16 zw2_1 zw36_17) rfl ⟨rfl, rfl⟩ 1 hdX9_vramByte ⟨Nat.le_of_ble_eq_true rfl, Nat.le_of_ble_eq_true rfl⟩ rfl rfl (wC_e2 ad cy σ) rfl hl rfl (Nat.le_of_ble_eq_true rfl) dX3_drawOldSprite_7 ⟨Nat.zero_le _, Nat.zero_le _⟩ (fun H locs hI => ?_)
  refine lv_istore_n (lv' := [(3, .int v19), (0, .ref (ad 3)), (1, .int x1), (2, .int x2)]) hx hb dX3_drawOldSprite_10 rfl hl (by decide) rfl (fun ls hl => ?_)
  refine lv_aload_n hx hb dX3_drawOldSprite_11 rfl (lv_at hl 1 rfl) ?_
  refine z_get hC hI hinX3_drawOldSprite_X30 3 (wC_e3 ad cy σ18) rfl 0 (by decide) (List.mem_cons_of_mem _ zw4_22) rfl dX3_drawOldSprite_12 ?_
  refine lv_iload_n hx hb dX3_drawOldSprite_15 rfl (lv_at hl 2 rfl) ?_
  refine lv_iconst (v := 1) hx hb dX3_drawOldSprite_16 (by decide) ?_
  refine lv_iadd hx hb dX3_drawOldSprite_17 ?_
  obtain ⟨σ20, v21, g20, hf⟩ := zbi_use hf
  refine z_callVi (As := [.int (x1 + 1)]) (rest := []) hC hI (cX9_vramByte_met st l D ad cy σ18 (x1 + 1) _ g20) (zgV zw36_14 zw36_15 zw36_16 zw2_1 zw36_17) rfl ⟨rfl, rfl⟩ 1 hdX9_vramByte ⟨Nat.le_of_ble_eq_true rfl, Nat.le_of_ble_eq_true rfl⟩ rfl rfl (wC_e2 ad cy σ18) rfl hl rfl (Nat.le_of_ble_eq_true rfl) dX3_drawOldSprite_18 ⟨Nat.zero_le _, Nat.zero_le _⟩ (fun H locs hI => ?_)
  refine lv_iload_n hx hb dX3_drawOldSprite_21 rfl (lv_at hl 0 rfl) ?_
  refine lv_sipush (v := 128) hx hb dX3_drawOldSprite_22 (by decide) ?_
  refine lv_iand hx hb dX3_drawOldSprite_25 ?_
  refine lv_if_eq (tgt := 34) hx hb dX3_drawOldSprite_26 (by decide) (fun q => ?_) (fun q => ?_)
  · replace hf := zif_t q hf
    refine lv_iconst (v := 0) hx hb dX3_drawOldSprite_34 (by decide) ?_
    exact bX3_drawOldSprite_35 hC  hI (lv_sub hl [1, 2, 3, 0] rfl) hf
  replace hf := zif_f q hf
  refine lv_bipush (v := 32) hx hb dX3_drawOldSprite_29 (by decide) ?_
  refine lv_goto (tgt := 35) hx hb dX3_drawOldSprite_31 (by decide) ?_
  exact bX3_drawOldSprite_35 hC  hI (lv_sub hl [1, 2, 3, 0] rfl) hf
set_option maxRecDepth 20000 in
theorem cX3_drawOldSprite_met (st : Nat → Nat) (l : Launch) (D : va_G) (ad : Nat → Nat) (cy : Nat → ClassId) (σ : zSt) (x1 : Int32) (x2 : Int32) (res : zSt) (hf : fX3_drawOldSprite σ x1 x2 = some res) (sz : Nat) : zMu st l yX3_drawOldSprite wzX3_drawOldSprite rmX3_drawOldSprite [.ref (ad 3), .int x1, .int x2] D (tC cy) (wC ad cy) sz σ res :=
  zMu.of (cc := cX3_drawOldSprite) (maxL := 13) (ret := none) (by decide) rfl (Nat.le_of_ble_eq_true rfl) (fun p e s m args below meth c hC A hI ls hl => bX3_drawOldSprite hC hI hl hf)
theorem hdX3_drawOldSprite : yX3_drawOldSprite.cls = RX3 ∧ yX3_drawOldSprite.cls ≠ "java/lang/invoke/MethodHandle" ∧ yX3_drawOldSprite.cls ≠ "java/lang/invoke/VarHandle" ∧ (parseMethodDescriptor yX3_drawOldSprite.desc).map (fun d => d.parameters.length) = some 2 := by decide +kernel
def rmX3_drawOldSprites : Room := { frames := 3, cells := 0, slots := 0, locals := 75 }
def wzX3_drawOldSprites : List Cond := .code yX3_drawOldSprites cX3_drawOldSprites 8 none :: wsL_law
theorem hinX3_drawOldSprites_X30 : ∀ w ∈ wsX30, w ∈ wzX3_drawOldSprites := fun w h => List.mem_cons_of_mem _ (inlX3 w h)
def fX3_drawOldSprites_155 (k117 : zSt → Int32 → Option (zSt)) (σ : zSt) (x4 : Int32) : Option (zSt) :=
  zbv (x4 + 1) (fun v1 =>
  k117 σ v1)
def fX3_drawOldSprites_117_body (k117 : zSt → Int32 → Option (zSt)) (σ : zSt) (x4 : Int32) : Option (zSt) :=
  if 256 ≤ x4 then some σ else
  zck (zin x4 256) (
  if ((zgi σ 28 x4.toNatClampNeg) &&& 15) ≤ 0 then fX3_drawOldSprites_155 k117 σ x4 else
  zck (zin x4 256) (
  zck (zin x4 256) (zbv (zsi σ 27 (x4.toNatClampNeg) ((zgi σ 28 x4.toNatClampNeg) &&& 15)) (fun σ2 =>
  fX3_drawOldSprites_155 k117 σ2 x4))))
def fX3_drawOldSprites_117  : Nat → zSt → Int32 → Option (zSt)
  | 0, _, _ => none
  | n + 1, σ, x4 => fX3_drawOldSprites_117_body (fX3_drawOldSprites_117  n) σ x4
def fX3_drawOldSprites_114  (σ : zSt)  : Option (zSt) :=
  fX3_drawOldSprites_117 zfuel σ 0
def fX3_drawOldSprites_108 (k29 : zSt → Int32 → Int32 → Int32 → Int32 → Option (zSt)) (σ : zSt) (x1 : Int32) (x2 : Int32) (x3 : Int32) (x4 : Int32) : Option (zSt) :=
  zbv (x4 + 1) (fun v3 =>
  k29 σ x1 x2 x3 v3)
def fX3_drawOldSprites_29_body (k29 : zSt → Int32 → Int32 → Int32 → Int32 → Option (zSt)) (σ : zSt) (x1 : Int32) (x2 : Int32) (x3 : Int32) (x4 : Int32) : Option (zSt) :=
  if 32 ≤ x4 then fX3_drawOldSprites_114 σ else
  zbv (x2 + (4 * x4)) (fun v4 =>
  zbi (fX9_vramByte σ v4) (fun σ5 v6 =>
  if v6 = 208 then fX3_drawOldSprites_114 σ5 else
  zbi (fX3_rowOfSprite σ5 x1 v6) (fun σ7 v8 =>
  if v8 < 0 then fX3_drawOldSprites_108 k29 σ7 x1 x2 x3 x4 else
  zbv (x3 + 1) (fun v9 =>
  if v9 ≤ 4 then zbu (fX3_drawOldSprite σ7 v4 v8) (fun σ10 =>
  fX3_drawOldSprites_108 k29 σ10 x1 x2 v9 x4) else
  zbu (fX9_markFifth σ7 x4) (fun σ11 =>
  fX3_drawOldSprites_114 σ11)))))
def fX3_drawOldSprites_29  : Nat → zSt → Int32 → Int32 → Int32 → Int32 → Option (zSt)
  | 0, _, _, _, _, _ => none
  | n + 1, σ, x1, x2, x3, x4 => fX3_drawOldSprites_29_body (fX3_drawOldSprites_29  n) σ x1 x2 x3 x4
def fX3_drawOldSprites  (σ : zSt) (x1 : Int32) : Option (zSt) :=
  zbu (fJ7_fill_53178_k28 σ 0) (fun σ12 =>
  zbi (fX9_held σ12 5) (fun σ13 v14 =>
  zbv (128 * (v14 &&& 127)) (fun v15 =>
  fX3_drawOldSprites_29 zfuel σ13 x1 v15 0 0)))
set_option maxRecDepth 20000 in
set_option maxHeartbeats 4000000 in
theorem bX3_drawOldSprites_155 {st : Nat → Nat} {p : Program} {l : Launch} {e : Env} {s : State} {m : MethodId} {args : Array Value} {below : List Frame} {meth : Method} {c : Code} {D : va_G} {A : Nat → Prop} {ad : Nat → Nat} {cy : Nat → ClassId} (hC : zC p m c cX3_drawOldSprites 8 s args wzX3_drawOldSprites RX3 meth none) {k117 : zSt → Int32 → Option (zSt)} {res : zSt} (hk117 : ∀ (H : Heap) (locs : List Loc) (σ : zSt) (ls : Array Slot) (x4 : Int32), zI st D (tC cy) (wC ad cy σ) A s H locs → lv_has ls 8 [(0, .ref (ad 3)), (4, .int x4)] → k117 σ x4 = some res → W p l e rmX3_drawOldSprites s m args below meth c H locs 0 0 (zQu below args s D (tC cy) (wC ad cy) A res) (F0 m 117 ls [])) {H : Heap} {locs : List Loc} {σ : zSt} {ls : Array Slot} {x4 : Int32} (hI : zI st D (tC cy) (wC ad cy σ) A s H locs) (hl : lv_has ls 8 [(0, .ref (ad 3)), (4, .int x4)]) (hf : fX3_drawOldSprites_155 k117 σ x4 = some res) : W p l e rmX3_drawOldSprites s m args below meth c H locs 0 0 (zQu below args s D (tC cy) (wC ad cy) A res) (F0 m 155 ls []) := by
  have hx := hC.1
  have hb := hC.2.1
  unfold fX3_drawOldSprites_155 at hf
  obtain ⟨v1, ev1⟩ : ∃ z : Int32, z = x4 + 1 := ⟨_, rfl⟩
  replace hf := zbv_use ev1 hf
  refine lv_iinc (v := v1) (lv' := [(4, .int v1), (0, .ref (ad 3))]) hx hb dX3_drawOldSprites_155 hl (k := 1) rfl (by rw [ev1]; rfl) (by decide) rfl (fun ls hl => ?_)
  refine lv_goto (tgt := 117) hx hb dX3_drawOldSprites_158 (by decide) ?_
  exact hk117 _ _ _ _ _ hI (lv_sub hl [1, 0] rfl) hf
set_option maxRecDepth 20000 in
set_option maxHeartbeats 4000000 in
theorem bX3_drawOldSprites_117_body {st : Nat → Nat} {p : Program} {l : Launch} {e : Env} {s : State} {m : MethodId} {args : Array Value} {below : List Frame} {meth : Method} {c : Code} {D : va_G} {A : Nat → Prop} {ad : Nat → Nat} {cy : Nat → ClassId} (hC : zC p m c cX3_drawOldSprites 8 s args wzX3_drawOldSprites RX3 meth none) {k117 : zSt → Int32 → Option (zSt)} {res : zSt} (hk117 : ∀ (H : Heap) (locs : List Loc) (σ : zSt) (ls : Array Slot) (x4 : Int32), zI st D (tC cy) (wC ad cy σ) A s H locs → lv_has ls 8 [(0, .ref (ad 3)), (4, .int x4)] → k117 σ x4 = some res → W p l e rmX3_drawOldSprites s m args below meth c H locs 0 0 (zQu below args s D (tC cy) (wC ad cy) A res) (F0 m 117 ls [])) {H : Heap} {locs : List Loc} {σ : zSt} {ls : Array Slot} {x4 : Int32} (hI : zI st D (tC cy) (wC ad cy σ) A s H locs) (hl : lv_has ls 8 [(0, .ref (ad 3)), (4, .int x4)]) (hf : fX3_drawOldSprites_117_body k117 σ x4 = some res) : W p l e rmX3_drawOldSprites s m args below meth c H locs 0 0 (zQu below args s D (tC cy) (wC ad cy) A res) (F0 m 117 ls []) := by
  have hx := hC.1
  have hb := hC.2.1
  unfold fX3_drawOldSprites_117_body at hf
  refine lv_iload hx hb dX3_drawOldSprites_117 (lv_at hl 1 rfl) ?_
  refine lv_sipush (v := 256) hx hb dX3_drawOldSprites_119 (by decide) ?_
  refine lv_icmp_ge (tgt := 161) hx hb dX3_drawOldSprites_122 (by decide) (fun q => ?_) (fun q => ?_)
  · replace hf := zif_t q hf
    exact z_return hC hI hf dX3_drawOldSprites_161
  replace hf := zif_f q hf
  refine lv_aload_n hx hb dX3_drawOldSprites_125 rfl (lv_at hl 0 rfl) ?_
  refine z_get hC hI hinX3_drawOldSprites_X30 3 (wC_e3 ad cy σ) rfl 5 (by decide) (List.mem_cons_of_mem _ zw4_20) rfl dX3_drawOldSprites_126 ?_
  refine lv_iload hx hb dX3_drawOldSprites_129 (lv_at hl 1 rfl) ?_
  obtain ⟨q, hf⟩ := zck_use hf
  refine z_iald hC hI 28 15 (wC_e28 ad cy σ) (tC_t28 cy) q dX3_drawOldSprites_131 ?_
  refine lv_bipush (v := 15) hx hb dX3_drawOldSprites_132 (by decide) ?_
  refine lv_iand hx hb dX3_drawOldSprites_134 ?_
  refine lv_if_le (tgt := 155) hx hb dX3_drawOldSprites_135 (by decide) (fun q => ?_) (fun q => ?_)
  · replace hf := zif_t q hf
    exact bX3_drawOldSprites_155 hC hk117 hI hl hf
  replace hf := zif_f q hf
  refine lv_aload_n hx hb dX3_drawOldSprites_138 rfl (lv_at hl 0 rfl) ?_
  refine z_get hC hI hinX3_drawOldSprites_X30 3 (wC_e3 ad cy σ) rfl 4 (by decide) (List.mem_cons_of_mem _ zw4_19) rfl dX3_drawOldSprites_139 ?_
  refine lv_iload hx hb dX3_drawOldSprites_142 (lv_at hl 1 rfl) ?_
  refine lv_aload_n hx hb dX3_drawOldSprites_144 rfl (lv_at hl 0 rfl) ?_
  refine z_get hC hI hinX3_drawOldSprites_X30 3 (wC_e3 ad cy σ) rfl 5 (by decide) (List.mem_cons_of_mem _ zw4_20) rfl dX3_drawOldSprites_145 ?_
  refine lv_iload hx hb dX3_drawOldSprites_148 (lv_at hl 1 rfl) ?_
  obtain ⟨q, hf⟩ := zck_use hf
  refine z_iald hC hI 28 15 (wC_e28 ad cy σ) (tC_t28 cy) q dX3_drawOldSprites_150 ?_
  refine lv_bipush (v := 15) hx hb dX3_drawOldSprites_151 (by decide) ?_
  refine lv_iand hx hb dX3_drawOldSprites_153 ?_
  obtain ⟨q, hf⟩ := zck_use hf
  obtain ⟨σ2, eσ2⟩ : ∃ z, z = zsi σ 27 (x4.toNatClampNeg) ((zgi σ 28 x4.toNatClampNeg) &&& 15) := ⟨_, rfl⟩
  replace hf := zbv_use eσ2 hf
  refine z_iast hC hI 27 14 (wC_e27 ad cy σ) (tC_t27 cy) q ((wC_s27 ad cy σ _ _).trans (congrArg (wC ad cy) eσ2.symm)) dX3_drawOldSprites_154 (fun H locs hI => ?_)
  exact bX3_drawOldSprites_155 hC hk117 hI hl hf
theorem blX3_drawOldSprites_117 {st : Nat → Nat} {p : Program} {l : Launch} {e : Env} {s : State} {m : MethodId} {args : Array Value} {below : List Frame} {meth : Method} {c : Code} {D : va_G} {A : Nat → Prop} {ad : Nat → Nat} {cy : Nat → ClassId} (hC : zC p m c cX3_drawOldSprites 8 s args wzX3_drawOldSprites RX3 meth none)  {res : zSt} : ∀ (n : Nat) (H : Heap) (locs : List Loc) (σ : zSt) (ls : Array Slot) (x4 : Int32), zI st D (tC cy) (wC ad cy σ) A s H locs → lv_has ls 8 [(0, .ref (ad 3)), (4, .int x4)] → fX3_drawOldSprites_117  n σ x4 = some res → W p l e rmX3_drawOldSprites s m args below meth c H locs 0 0 (zQu below args s D (tC cy) (wC ad cy) A res) (F0 m 117 ls []) := by
  intro n
  induction n with
  | zero => intro H locs σ ls x4 hI hl hf; cases hf
  | succ n ih => intro H locs σ ls x4 hI hl hf; exact bX3_drawOldSprites_117_body hC ih hI hl hf
set_option maxRecDepth 20000 in
set_option maxHeartbeats 4000000 in
theorem bX3_drawOldSprites_114 {st : Nat → Nat} {p : Program} {l : Launch} {e : Env} {s : State} {m : MethodId} {args : Array Value} {below : List Frame} {meth : Method} {c : Code} {D : va_G} {A : Nat → Prop} {ad : Nat → Nat} {cy : Nat → ClassId} (hC : zC p m c cX3_drawOldSprites 8 s args wzX3_drawOldSprites RX3 meth none)  {res : zSt} {H : Heap} {locs : List Loc} {σ : zSt} {ls : Array Slot}  (hI : zI st D (tC cy) (wC ad cy σ) A s H locs) (hl : lv_has ls 8 [(0, .ref (ad 3))]) (hf : fX3_drawOldSprites_114  σ  = some res) : W p l e rmX3_drawOldSprites s m args below meth c H locs 0 0 (zQu below args s D (tC cy) (wC ad cy) A res) (F0 m 114 ls []) := by
  have hx := hC.1
  have hb := hC.2.1
  unfold fX3_drawOldSprites_114 at hf
  refine lv_iconst (v := 0) hx hb dX3_drawOldSprites_114 (by decide) ?_
  refine lv_istore (lv' := [(4, .int 0), (0, .ref (ad 3))]) hx hb dX3_drawOldSprites_115 hl (by decide) rfl (fun ls hl => ?_)
  exact blX3_drawOldSprites_117 hC  zfuel _ _ _ _ _ hI (lv_sub hl [1, 0] rfl) hf
set_option maxRecDepth 20000 in
set_option maxHeartbeats 4000000 in
theorem bX3_drawOldSprites_108 {st : Nat → Nat} {p : Program} {l : Launch} {e : Env} {s : State} {m : MethodId} {args : Array Value} {below : List Frame} {meth : Method} {c : Code} {D : va_G} {A : Nat → Prop} {ad : Nat → Nat} {cy : Nat → ClassId} (hC : zC p m c cX3_drawOldSprites 8 s args wzX3_drawOldSprites RX3 meth none) {k29 : zSt → Int32 → Int32 → Int32 → Int32 → Option (zSt)} {res : zSt} (hk29 : ∀ (H : Heap) (locs : List Loc) (σ : zSt) (ls : Array Slot) (x1 : Int32) (x2 : Int32) (x3 : Int32) (x4 : Int32), zI st D (tC cy) (wC ad cy σ) A s H locs → lv_has ls 8 [(0, .ref (ad 3)), (1, .int x1), (2, .int x2), (3, .int x3), (4, .int x4)] → k29 σ x1 x2 x3 x4 = some res → W p l e rmX3_drawOldSprites s m args below meth c H locs 0 0 (zQu below args s D (tC cy) (wC ad cy) A res) (F0 m 29 ls [])) {H : Heap} {locs : List Loc} {σ : zSt} {ls : Array Slot} {x1 : Int32} {x2 : Int32} {x3 : Int32} {x4 : Int32} (hI : zI st D (tC cy) (wC ad cy σ) A s H locs) (hl : lv_has ls 8 [(0, .ref (ad 3)), (1, .int x1), (2, .int x2), (3, .int x3), (4, .int x4)]) (hf : fX3_drawOldSprites_108 k29 σ x1 x2 x3 x4 = some res) : W p l e rmX3_drawOldSprites s m args below meth c H locs 0 0 (zQu below args s D (tC cy) (wC ad cy) A res) (F0 m 108 ls []) := by
  have hx := hC.1
  have hb := hC.2.1
  unfold fX3_drawOldSprites_108 at hf
  obtain ⟨v3, ev3⟩ : ∃ z : Int32, z = x4 + 1 := ⟨_, rfl⟩
  replace hf := zbv_use ev3 hf
  refine lv_iinc (v := v3) (lv' := [(4, .int v3), (0, .ref (ad 3)), (1, .int x1), (2, .int x2), (3, .int x3)]) hx hb dX3_drawOldSprites_108 hl (k := 4) rfl (by rw [ev3]; rfl) (by decide) rfl (fun ls hl => ?_)
  refine lv_goto (tgt := 29) hx hb dX3_drawOldSprites_111 (by decide) ?_
  exact hk29 _ _ _ _ _ _ _ _ hI (lv_sub hl [1, 2, 3, 4, 0] rfl) hf
set_option maxRecDepth 20000 in
set_option maxHeartbeats 4000000 in
theorem bX3_drawOldSprites_29_body {st : Nat → Nat} {p : Program} {l : Launch} {e : Env} {s : State} {m : MethodId} {args : Array Value} {below : List Frame} {meth : Method} {c : Code} {D : va_G} {A : Nat → Prop} {ad : Nat → Nat} {cy : Nat → ClassId} (hC : zC p m c cX3_drawOldSprites 8 s args wzX3_drawOldSprites RX3 meth none) {k29 : zSt → Int32 → Int32 → Int32 → Int32 → Option (zSt)} {res : zSt} (hk29 : ∀ (H : Heap) (locs : List Loc) (σ : zSt) (ls : Array Slot) (x1 : Int32) (x2 : Int32) (x3 : Int32) (x4 : Int32), zI st D (tC cy) (wC ad cy σ) A s H locs → lv_has ls 8 [(0, .ref (ad 3)), (1, .int x1), (2, .int x2), (3, .int x3), (4, .int x4)] → k29 σ x1 x2 x3 x4 = some res → W p l e rmX3_drawOldSprites s m args below meth c H locs 0 0 (zQu below args s D (tC cy) (wC ad cy) A res) (F0 m 29 ls [])) {H : Heap} {locs : List Loc} {σ : zSt} {ls : Array Slot} {x1 : Int32} {x2 : Int32} {x3 : Int32} {x4 : Int32} (hI : zI st D (tC cy) (wC ad cy σ) A s H locs) (hl : lv_has ls 8 [(0, .ref (ad 3)), (1, .int x1), (2, .int x2), (3, .int x3), (4, .int x4)]) (hf : fX3_drawOldSprites_29_body k29 σ x1 x2 x3 x4 = some res) : W p l e rmX3_drawOldSprites s m args below meth c H locs 0 0 (zQu below args s D (tC cy) (wC ad cy) A res) (F0 m 29 ls []) := by
  have hx := hC.1
  have hb := hC.2.1
  unfold fX3_drawOldSprites_29_body at hf
  refine lv_iload hx hb dX3_drawOldSprites_29 (lv_at hl 4 rfl) ?_
  refine lv_bipush (v := 32) hx hb dX3_drawOldSprites_31 (by decide) ?_
  refine lv_icmp_ge (tgt := 114) hx hb dX3_drawOldSprites_33 (by decide) (fun q => ?_) (fun q => ?_)
  · replace hf := zif_t q hf
    exact bX3_drawOldSprites_114 hC  hI (lv_sub hl [0] rfl) hf
  replace hf := zif_f q hf
  refine lv_iload_n hx hb dX3_drawOldSprites_36 rfl (lv_at hl 2 rfl) ?_
  refine lv_iconst (v := 4) hx hb dX3_drawOldSprites_37 (by decide) ?_
  refine lv_iload hx hb dX3_drawOldSprites_38 (lv_at hl 4 rfl) ?_
  refine lv_imul hx hb dX3_drawOldSprites_40 ?_
  refine lv_iadd hx hb dX3_drawOldSprites_41 ?_
  refine lv_topi (fun v4 ev4 => ?_)
  replace hf := zbv_use ev4 hf
  refine lv_istore (lv' := [(5, .int v4), (0, .ref (ad 3)), (1, .int x1), (2, .int x2), (3, .int x3), (4, .int x4)]) hx hb dX3_drawOldSprites_42 hl (by decide) rfl (fun ls hl => ?_)
  refine lv_aload_n hx hb dX3_drawOldSprites_44 rfl (lv_at hl 1 rfl) ?_
  refine z_get hC hI hinX3_drawOldSprites_X30 3 (wC_e3 ad cy σ) rfl 0 (by decide) (List.mem_cons_of_mem _ zw4_22) rfl dX3_drawOldSprites_45 ?_
  refine lv_iload hx hb dX3_drawOldSprites_48 (lv_at hl 0 rfl) ?_
  obtain ⟨σ5, v6, g5, hf⟩ := zbi_use hf
  refine z_callVi (As := [.int v4]) (rest := []) hC hI (cX9_vramByte_met st l D ad cy σ v4 _ g5) (zgV zw36_14 zw36_15 zw36_16 zw2_1 zw36_17) rfl ⟨rfl, rfl⟩ 1 hdX9_vramByte ⟨Nat.le_of_ble_eq_true rfl, Nat.le_of_ble_eq_true rfl⟩ rfl rfl (wC_e2 ad cy σ) rfl hl rfl (Nat.le_of_ble_eq_true rfl) dX3_drawOldSprites_50 ⟨Nat.zero_le _, Nat.zero_le _⟩ (fun H locs hI => ?_)
  refine lv_istore (lv' := [(6, .int v6), (5, .int v4), (0, .ref (ad 3)), (1, .int x1), (2, .int x2), (3, .int x3), (4, .int x4)]) hx hb dX3_drawOldSprites_53 hl (by decide) rfl (fun ls hl => ?_)
  refine lv_iload hx hb dX3_drawOldSprites_55 (lv_at hl 0 rfl) ?_
  refine lv_sipush (v := 208) hx hb dX3_drawOldSprites_57 (by decide) ?_
  refine lv_icmp_ne (tgt := 66) hx hb dX3_drawOldSprites_60 (by decide) (fun q => ?_) (fun q => ?_)
  · replace hf := zif_f q hf
    refine lv_aload_n hx hb dX3_drawOldSprites_66 rfl (lv_at hl 2 rfl) ?_
    refine lv_iload_n hx hb dX3_drawOldSprites_67 rfl (lv_at hl 3 rfl) ?_
    refine lv_iload hx hb dX3_drawOldSprites_68 (lv_at hl 0 rfl) ?_
    obtain ⟨σ7, v8, g7, hf⟩ := zbi_use hf
    refine z_callVi (As := [.int x1, .int v6]) (rest := []) hC hI (cX3_rowOfSprite_met st l D ad cy σ5 x1 v6 _ g7) (zgV zw37_6 zw37_7 zw37_8 zw2_5 zw37_9) rfl ⟨rfl, rfl⟩ 2 hdX3_rowOfSprite ⟨Nat.le_of_ble_eq_true rfl, Nat.le_of_ble_eq_true rfl⟩ rfl rfl (wC_e3 ad cy σ5) rfl hl rfl (Nat.le_of_ble_eq_true rfl) dX3_drawOldSprites_70 ⟨Nat.zero_le _, Nat.zero_le _⟩ (fun H locs hI => ?_)
    refine lv_istore (lv' := [(7, .int v8), (6, .int v6), (5, .int v4), (0, .ref (ad 3)), (1, .int x1), (2, .int x2), (3, .int x3), (4, .int x4)]) hx hb dX3_drawOldSprites_73 hl (by decide) rfl (fun ls hl => ?_)
    refine lv_iload hx hb dX3_drawOldSprites_75 (lv_at hl 0 rfl) ?_
    refine lv_if_lt (tgt := 108) hx hb dX3_drawOldSprites_77 (by decide) (fun q => ?_) (fun q => ?_)
    · replace hf := zif_t q hf
      exact bX3_drawOldSprites_108 hC hk29 hI (lv_sub hl [3, 4, 5, 6, 7] rfl) hf
    replace hf := zif_f q hf
    obtain ⟨v9, ev9⟩ : ∃ z : Int32, z = x3 + 1 := ⟨_, rfl⟩
    replace hf := zbv_use ev9 hf
    refine lv_iinc (v := v9) (lv' := [(3, .int v9), (7, .int v8), (6, .int v6), (5, .int v4), (0, .ref (ad 3)), (1, .int x1), (2, .int x2), (4, .int x4)]) hx hb dX3_drawOldSprites_80 hl (k := 6) rfl (by rw [ev9]; rfl) (by decide) rfl (fun ls hl => ?_)
    refine lv_iload_n hx hb dX3_drawOldSprites_83 rfl (lv_at hl 0 rfl) ?_
    refine lv_iconst (v := 4) hx hb dX3_drawOldSprites_84 (by decide) ?_
    refine lv_icmp_le (tgt := 100) hx hb dX3_drawOldSprites_85 (by decide) (fun q => ?_) (fun q => ?_)
    · replace hf := zif_t q hf
      refine lv_aload_n hx hb dX3_drawOldSprites_100 rfl (lv_at hl 4 rfl) ?_
      refine lv_iload hx hb dX3_drawOldSprites_101 (lv_at hl 3 rfl) ?_
      refine lv_iload hx hb dX3_drawOldSprites_103 (lv_at hl 1 rfl) ?_
      obtain ⟨σ10, g10, hf⟩ := zbu_use hf
      refine z_callVu (As := [.int v4, .int v8]) (rest := []) hC hI (cX3_drawOldSprite_met st l D ad cy σ7 v4 v8 _ g10) (zgV zw39_3 zw39_4 zw39_5 zw2_5 zw39_6) rfl ⟨rfl, rfl⟩ 2 hdX3_drawOldSprite ⟨Nat.le_of_ble_eq_true rfl, Nat.le_of_ble_eq_true rfl⟩ rfl rfl (wC_e3 ad cy σ7) rfl hl rfl (Nat.le_of_ble_eq_true rfl) dX3_drawOldSprites_105 ⟨Nat.zero_le _, Nat.zero_le _⟩ (fun H locs hI => ?_)
      exact bX3_drawOldSprites_108 hC hk29 hI (lv_sub hl [4, 5, 6, 0, 7] rfl) hf
    replace hf := zif_f q hf
    refine lv_aload_n hx hb dX3_drawOldSprites_88 rfl (lv_at hl 4 rfl) ?_
    refine z_get hC hI hinX3_drawOldSprites_X30 3 (wC_e3 ad cy σ7) rfl 0 (by decide) (List.mem_cons_of_mem _ zw4_22) rfl dX3_drawOldSprites_89 ?_
    refine lv_iload hx hb dX3_drawOldSprites_92 (lv_at hl 7 rfl) ?_
    obtain ⟨σ11, g11, hf⟩ := zbu_use hf
    refine z_callVu (As := [.int x4]) (rest := []) hC hI (cX9_markFifth_met st l D ad cy σ7 x4 _ g11) (zgV zw38_23 zw39_0 zw39_1 zw2_1 zw39_2) rfl ⟨rfl, rfl⟩ 1 hdX9_markFifth ⟨Nat.le_of_ble_eq_true rfl, Nat.le_of_ble_eq_true rfl⟩ rfl rfl (wC_e2 ad cy σ7) rfl hl rfl (Nat.le_of_ble_eq_true rfl) dX3_drawOldSprites_94 ⟨Nat.zero_le _, Nat.zero_le _⟩ (fun H locs hI => ?_)
    refine lv_goto (tgt := 114) hx hb dX3_drawOldSprites_97 (by decide) ?_
    exact bX3_drawOldSprites_114 hC  hI (lv_sub hl [4] rfl) hf
  replace hf := zif_t q hf
  refine lv_goto (tgt := 114) hx hb dX3_drawOldSprites_63 (by decide) ?_
  exact bX3_drawOldSprites_114 hC  hI (lv_sub hl [2] rfl) hf
theorem blX3_drawOldSprites_29 {st : Nat → Nat} {p : Program} {l : Launch} {e : Env} {s : State} {m : MethodId} {args : Array Value} {below : List Frame} {meth : Method} {c : Code} {D : va_G} {A : Nat → Prop} {ad : Nat → Nat} {cy : Nat → ClassId} (hC : zC p m c cX3_drawOldSprites 8 s args wzX3_drawOldSprites RX3 meth none)  {res : zSt} : ∀ (n : Nat) (H : Heap) (locs : List Loc) (σ : zSt) (ls : Array Slot) (x1 : Int32) (x2 : Int32) (x3 : Int32) (x4 : Int32), zI st D (tC cy) (wC ad cy σ) A s H locs → lv_has ls 8 [(0, .ref (ad 3)), (1, .int x1), (2, .int x2), (3, .int x3), (4, .int x4)] → fX3_drawOldSprites_29  n σ x1 x2 x3 x4 = some res → W p l e rmX3_drawOldSprites s m args below meth c H locs 0 0 (zQu below args s D (tC cy) (wC ad cy) A res) (F0 m 29 ls []) := by
  intro n
  induction n with
  | zero => intro H locs σ ls x1 x2 x3 x4 hI hl hf; cases hf
  | succ n ih => intro H locs σ ls x1 x2 x3 x4 hI hl hf; exact bX3_drawOldSprites_29_body hC ih hI hl hf
set_option maxRecDepth 20000 in
set_option maxHeartbeats 4000000 in
theorem bX3_drawOldSprites {st : Nat → Nat} {p : Program} {l : Launch} {e : Env} {s : State} {m : MethodId} {args : Array Value} {below : List Frame} {meth : Method} {c : Code} {D : va_G} {A : Nat → Prop} {ad : Nat → Nat} {cy : Nat → ClassId} (hC : zC p m c cX3_drawOldSprites 8 s args wzX3_drawOldSprites RX3 meth none)  {res : zSt} {H : Heap} {locs : List Loc} {σ : zSt} {ls : Array Slot} {x1 : Int32} (hI : zI st D (tC cy) (wC ad cy σ) A s H locs) (hl : lv_has ls 8 [(0, .ref (ad 3)), (1, .int x1)]) (hf : fX3_drawOldSprites  σ x1 = some res) : W p l e rmX3_drawOldSprites s m args below meth c H locs 0 0 (zQu below args s D (tC cy) (wC ad cy) A res) (F0 m 0 ls []) := by
  have hx := hC.1
  have hb := hC.2.1
  unfold fX3_drawOldSprites at hf
  refine lv_aload_n hx hb dX3_drawOldSprites_0 rfl (lv_at hl 0 rfl) ?_
  refine z_get hC hI hinX3_drawOldSprites_X30 3 (wC_e3 ad cy σ) rfl 5 (by decide) (List.mem_cons_of_mem _ zw4_20) rfl dX3_drawOldSprites_1 ?_
  refine lv_iconst (v := 0) hx hb dX3_drawOldSprites_4 (by decide) ?_
  obtain ⟨σ12, g12, hf⟩ := zbu_use hf
  refine z_callSu (As := [.ref (ad 28), .int 0]) (rest := []) hC hI (cJ7_fill_53178_k28_met st l D ad cy σ 0 _ g12) (zgS zw36_2 zw5_12 zw5_13 zw5_14) rfl ⟨rfl, rfl⟩ 2 hdJ7_fill_53178_k28 ⟨Nat.le_of_ble_eq_true rfl, Nat.le_of_ble_eq_true rfl⟩ rfl hl rfl (Nat.le_of_ble_eq_true rfl) dX3_drawOldSprites_5 ⟨Nat.zero_le _, Nat.zero_le _⟩ (fun H locs hI => ?_)
  refine lv_sipush (v := 128) hx hb dX3_drawOldSprites_8 (by decide) ?_
  refine lv_aload_n hx hb dX3_drawOldSprites_11 rfl (lv_at hl 0 rfl) ?_
  refine z_get hC hI hinX3_drawOldSprites_X30 3 (wC_e3 ad cy σ12) rfl 0 (by decide) (List.mem_cons_of_mem _ zw4_22) rfl dX3_drawOldSprites_12 ?_
  refine lv_iconst (v := 5) hx hb dX3_drawOldSprites_15 (by decide) ?_
  obtain ⟨σ13, v14, g13, hf⟩ := zbi_use hf
  refine z_callVi (As := [.int 5]) (rest := [.int 128]) hC hI (cX9_held_met st l D ad cy σ12 5 _ g13) (zgV zw35_21 zw35_13 zw35_14 zw2_1 zw35_15) rfl ⟨rfl, rfl⟩ 1 hdX9_held ⟨Nat.le_of_ble_eq_true rfl, Nat.le_of_ble_eq_true rfl⟩ rfl rfl (wC_e2 ad cy σ12) rfl hl rfl (Nat.le_of_ble_eq_true rfl) dX3_drawOldSprites_16 ⟨Nat.zero_le _, Nat.zero_le _⟩ (fun H locs hI => ?_)
  refine lv_bipush (v := 127) hx hb dX3_drawOldSprites_19 (by decide) ?_
  refine lv_iand hx hb dX3_drawOldSprites_21 ?_
  refine lv_imul hx hb dX3_drawOldSprites_22 ?_
  refine lv_topi (fun v15 ev15 => ?_)
  replace hf := zbv_use ev15 hf
  refine lv_istore_n (lv' := [(2, .int v15), (0, .ref (ad 3)), (1, .int x1)]) hx hb dX3_drawOldSprites_23 rfl hl (by decide) rfl (fun ls hl => ?_)
  refine lv_iconst (v := 0) hx hb dX3_drawOldSprites_24 (by decide) ?_
  refine lv_istore_n (lv' := [(3, .int 0), (2, .int v15), (0, .ref (ad 3)), (1, .int x1)]) hx hb dX3_drawOldSprites_25 rfl hl (by decide) rfl (fun ls hl => ?_)
  refine lv_iconst (v := 0) hx hb dX3_drawOldSprites_26 (by decide) ?_
  refine lv_istore (lv' := [(4, .int 0), (3, .int 0), (2, .int v15), (0, .ref (ad 3)), (1, .int x1)]) hx hb dX3_drawOldSprites_27 hl (by decide) rfl (fun ls hl => ?_)
  exact blX3_drawOldSprites_29 hC  zfuel _ _ _ _ _ _ _ _ hI (lv_sub hl [3, 4, 2, 1, 0] rfl) hf
set_option maxRecDepth 20000 in
theorem cX3_drawOldSprites_met (st : Nat → Nat) (l : Launch) (D : va_G) (ad : Nat → Nat) (cy : Nat → ClassId) (σ : zSt) (x1 : Int32) (res : zSt) (hf : fX3_drawOldSprites σ x1 = some res) (sz : Nat) : zMu st l yX3_drawOldSprites wzX3_drawOldSprites rmX3_drawOldSprites [.ref (ad 3), .int x1] D (tC cy) (wC ad cy) sz σ res :=
  zMu.of (cc := cX3_drawOldSprites) (maxL := 8) (ret := none) (by decide) rfl (Nat.le_of_ble_eq_true rfl) (fun p e s m args below meth c hC A hI ls hl => bX3_drawOldSprites hC hI hl hf)
theorem hdX3_drawOldSprites : yX3_drawOldSprites.cls = RX3 ∧ yX3_drawOldSprites.cls ≠ "java/lang/invoke/MethodHandle" ∧ yX3_drawOldSprites.cls ≠ "java/lang/invoke/VarHandle" ∧ (parseMethodDescriptor yX3_drawOldSprites.desc).map (fun d => d.parameters.length) = some 1 := by decide +kernel
def rmX3_fillBack : Room := { frames := 0, cells := 0, slots := 0, locals := 0 }
def wzX3_fillBack : List Cond := .code yX3_fillBack cX3_fillBack 3 none :: wsL_law
theorem hinX3_fillBack_X30 : ∀ w ∈ wsX30, w ∈ wzX3_fillBack := fun w h => List.mem_cons_of_mem _ (inlX3 w h)
def fX3_fillBack_25 (k2 : zSt → Int32 → Int32 → Option (zSt)) (σ : zSt) (x1 : Int32) (x2 : Int32) : Option (zSt) :=
  zbv (x2 + 1) (fun v1 =>
  k2 σ x1 v1)
def fX3_fillBack_2_body (k2 : zSt → Int32 → Int32 → Option (zSt)) (σ : zSt) (x1 : Int32) (x2 : Int32) : Option (zSt) :=
  if 256 ≤ x2 then some σ else
  zck (zin x2 256) (
  if (zgi σ 27 x2.toNatClampNeg) = 0 then zck (zin x2 256) (zbv (zsi σ 27 (x2.toNatClampNeg) x1) (fun σ2 =>
  fX3_fillBack_25 k2 σ2 x1 x2)) else
  fX3_fillBack_25 k2 σ x1 x2)
def fX3_fillBack_2  : Nat → zSt → Int32 → Int32 → Option (zSt)
  | 0, _, _, _ => none
  | n + 1, σ, x1, x2 => fX3_fillBack_2_body (fX3_fillBack_2  n) σ x1 x2
def fX3_fillBack  (σ : zSt) (x1 : Int32) : Option (zSt) :=
  fX3_fillBack_2 zfuel σ x1 0
set_option maxRecDepth 20000 in
set_option maxHeartbeats 4000000 in
theorem bX3_fillBack_25 {st : Nat → Nat} {p : Program} {l : Launch} {e : Env} {s : State} {m : MethodId} {args : Array Value} {below : List Frame} {meth : Method} {c : Code} {D : va_G} {A : Nat → Prop} {ad : Nat → Nat} {cy : Nat → ClassId} (hC : zC p m c cX3_fillBack 3 s args wzX3_fillBack RX3 meth none) {k2 : zSt → Int32 → Int32 → Option (zSt)} {res : zSt} (hk2 : ∀ (H : Heap) (locs : List Loc) (σ : zSt) (ls : Array Slot) (x1 : Int32) (x2 : Int32), zI st D (tC cy) (wC ad cy σ) A s H locs → lv_has ls 3 [(0, .ref (ad 3)), (1, .int x1), (2, .int x2)] → k2 σ x1 x2 = some res → W p l e rmX3_fillBack s m args below meth c H locs 0 0 (zQu below args s D (tC cy) (wC ad cy) A res) (F0 m 2 ls [])) {H : Heap} {locs : List Loc} {σ : zSt} {ls : Array Slot} {x1 : Int32} {x2 : Int32} (hI : zI st D (tC cy) (wC ad cy σ) A s H locs) (hl : lv_has ls 3 [(0, .ref (ad 3)), (1, .int x1), (2, .int x2)]) (hf : fX3_fillBack_25 k2 σ x1 x2 = some res) : W p l e rmX3_fillBack s m args below meth c H locs 0 0 (zQu below args s D (tC cy) (wC ad cy) A res) (F0 m 25 ls []) := by
  have hx := hC.1
  have hb := hC.2.1
  unfold fX3_fillBack_25 at hf
  obtain ⟨v1, ev1⟩ : ∃ z : Int32, z = x2 + 1 := ⟨_, rfl⟩
  replace hf := zbv_use ev1 hf
  refine lv_iinc (v := v1) (lv' := [(2, .int v1), (0, .ref (ad 3)), (1, .int x1)]) hx hb dX3_fillBack_25 hl (k := 2) rfl (by rw [ev1]; rfl) (by decide) rfl (fun ls hl => ?_)
  refine lv_goto (tgt := 2) hx hb dX3_fillBack_28 (by decide) ?_
  exact hk2 _ _ _ _ _ _ hI (lv_sub hl [1, 2, 0] rfl) hf
set_option maxRecDepth 20000 in
set_option maxHeartbeats 4000000 in
theorem bX3_fillBack_2_body {st : Nat → Nat} {p : Program} {l : Launch} {e : Env} {s : State} {m : MethodId} {args : Array Value} {below : List Frame} {meth : Method} {c : Code} {D : va_G} {A : Nat → Prop} {ad : Nat → Nat} {cy : Nat → ClassId} (hC : zC p m c cX3_fillBack 3 s args wzX3_fillBack RX3 meth none) {k2 : zSt → Int32 → Int32 → Option (zSt)} {res : zSt} (hk2 : ∀ (H : Heap) (locs : List Loc) (σ : zSt) (ls : Array Slot) (x1 : Int32) (x2 : Int32), zI st D (tC cy) (wC ad cy σ) A s H locs → lv_has ls 3 [(0, .ref (ad 3)), (1, .int x1), (2, .int x2)] → k2 σ x1 x2 = some res → W p l e rmX3_fillBack s m args below meth c H locs 0 0 (zQu below args s D (tC cy) (wC ad cy) A res) (F0 m 2 ls [])) {H : Heap} {locs : List Loc} {σ : zSt} {ls : Array Slot} {x1 : Int32} {x2 : Int32} (hI : zI st D (tC cy) (wC ad cy σ) A s H locs) (hl : lv_has ls 3 [(0, .ref (ad 3)), (1, .int x1), (2, .int x2)]) (hf : fX3_fillBack_2_body k2 σ x1 x2 = some res) : W p l e rmX3_fillBack s m args below meth c H locs 0 0 (zQu below args s D (tC cy) (wC ad cy) A res) (F0 m 2 ls []) := by
  have hx := hC.1
  have hb := hC.2.1
  unfold fX3_fillBack_2_body at hf
  refine lv_iload_n hx hb dX3_fillBack_2 rfl (lv_at hl 2 rfl) ?_
  refine lv_sipush (v := 256) hx hb dX3_fillBack_3 (by decide) ?_
  refine lv_icmp_ge (tgt := 31) hx hb dX3_fillBack_6 (by decide) (fun q => ?_) (fun q => ?_)
  · replace hf := zif_t q hf
    exact z_return hC hI hf dX3_fillBack_31
  replace hf := zif_f q hf
  refine lv_aload_n hx hb dX3_fillBack_9 rfl (lv_at hl 0 rfl) ?_
  refine z_get hC hI hinX3_fillBack_X30 3 (wC_e3 ad cy σ) rfl 4 (by decide) (List.mem_cons_of_mem _ zw4_19) rfl dX3_fillBack_10 ?_
  refine lv_iload_n hx hb dX3_fillBack_13 rfl (lv_at hl 2 rfl) ?_
  obtain ⟨q, hf⟩ := zck_use hf
  refine z_iald hC hI 27 14 (wC_e27 ad cy σ) (tC_t27 cy) q dX3_fillBack_14 ?_
  refine lv_if_ne (tgt := 25) hx hb dX3_fillBack_15 (by decide) (fun q => ?_) (fun q => ?_)
  · replace hf := zif_f q hf
    exact bX3_fillBack_25 hC hk2 hI hl hf
  replace hf := zif_t q hf
  refine lv_aload_n hx hb dX3_fillBack_18 rfl (lv_at hl 0 rfl) ?_
  refine z_get hC hI hinX3_fillBack_X30 3 (wC_e3 ad cy σ) rfl 4 (by decide) (List.mem_cons_of_mem _ zw4_19) rfl dX3_fillBack_19 ?_
  refine lv_iload_n hx hb dX3_fillBack_22 rfl (lv_at hl 2 rfl) ?_
  refine lv_iload_n hx hb dX3_fillBack_23 rfl (lv_at hl 1 rfl) ?_
  obtain ⟨q, hf⟩ := zck_use hf
  obtain ⟨σ2, eσ2⟩ : ∃ z, z = zsi σ 27 (x2.toNatClampNeg) x1 := ⟨_, rfl⟩
  replace hf := zbv_use eσ2 hf
  refine z_iast hC hI 27 14 (wC_e27 ad cy σ) (tC_t27 cy) q ((wC_s27 ad cy σ _ _).trans (congrArg (wC ad cy) eσ2.symm)) dX3_fillBack_24 (fun H locs hI => ?_)
  exact bX3_fillBack_25 hC hk2 hI hl hf
theorem blX3_fillBack_2 {st : Nat → Nat} {p : Program} {l : Launch} {e : Env} {s : State} {m : MethodId} {args : Array Value} {below : List Frame} {meth : Method} {c : Code} {D : va_G} {A : Nat → Prop} {ad : Nat → Nat} {cy : Nat → ClassId} (hC : zC p m c cX3_fillBack 3 s args wzX3_fillBack RX3 meth none)  {res : zSt} : ∀ (n : Nat) (H : Heap) (locs : List Loc) (σ : zSt) (ls : Array Slot) (x1 : Int32) (x2 : Int32), zI st D (tC cy) (wC ad cy σ) A s H locs → lv_has ls 3 [(0, .ref (ad 3)), (1, .int x1), (2, .int x2)] → fX3_fillBack_2  n σ x1 x2 = some res → W p l e rmX3_fillBack s m args below meth c H locs 0 0 (zQu below args s D (tC cy) (wC ad cy) A res) (F0 m 2 ls []) := by
  intro n
  induction n with
  | zero => intro H locs σ ls x1 x2 hI hl hf; cases hf
  | succ n ih => intro H locs σ ls x1 x2 hI hl hf; exact bX3_fillBack_2_body hC ih hI hl hf
set_option maxRecDepth 20000 in
set_option maxHeartbeats 4000000 in
theorem bX3_fillBack {st : Nat → Nat} {p : Program} {l : Launch} {e : Env} {s : State} {m : MethodId} {args : Array Value} {below : List Frame} {meth : Method} {c : Code} {D : va_G} {A : Nat → Prop} {ad : Nat → Nat} {cy : Nat → ClassId} (hC : zC p m c cX3_fillBack 3 s args wzX3_fillBack RX3 meth none)  {res : zSt} {H : Heap} {locs : List Loc} {σ : zSt} {ls : Array Slot} {x1 : Int32} (hI : zI st D (tC cy) (wC ad cy σ) A s H locs) (hl : lv_has ls 3 [(0, .ref (ad 3)), (1, .int x1)]) (hf : fX3_fillBack  σ x1 = some res) : W p l e rmX3_fillBack s m args below meth c H locs 0 0 (zQu below args s D (tC cy) (wC ad cy) A res) (F0 m 0 ls []) := by
  have hx := hC.1
  have hb := hC.2.1
  unfold fX3_fillBack at hf
  refine lv_iconst (v := 0) hx hb dX3_fillBack_0 (by decide) ?_
  refine lv_istore_n (lv' := [(2, .int 0), (0, .ref (ad 3)), (1, .int x1)]) hx hb dX3_fillBack_1 rfl hl (by decide) rfl (fun ls hl => ?_)
  exact blX3_fillBack_2 hC  zfuel _ _ _ _ _ _ hI (lv_sub hl [1, 2, 0] rfl) hf
set_option maxRecDepth 20000 in
theorem cX3_fillBack_met (st : Nat → Nat) (l : Launch) (D : va_G) (ad : Nat → Nat) (cy : Nat → ClassId) (σ : zSt) (x1 : Int32) (res : zSt) (hf : fX3_fillBack σ x1 = some res) (sz : Nat) : zMu st l yX3_fillBack wzX3_fillBack rmX3_fillBack [.ref (ad 3), .int x1] D (tC cy) (wC ad cy) sz σ res :=
  zMu.of (cc := cX3_fillBack) (maxL := 3) (ret := none) (by decide) rfl (Nat.le_of_ble_eq_true rfl) (fun p e s m args below meth c hC A hI ls hl => bX3_fillBack hC hI hl hf)
theorem hdX3_fillBack : yX3_fillBack.cls = RX3 ∧ yX3_fillBack.cls ≠ "java/lang/invoke/MethodHandle" ∧ yX3_fillBack.cls ≠ "java/lang/invoke/VarHandle" ∧ (parseMethodDescriptor yX3_fillBack.desc).map (fun d => d.parameters.length) = some 1 := by decide +kernel
def rmX3_draw : Room := { frames := 4, cells := 0, slots := 0, locals := 102 }
def wzX3_draw : List Cond := .code yX3_draw cX3_draw 5 none :: wsL_law
theorem hinX3_draw_X30 : ∀ w ∈ wsX30, w ∈ wzX3_draw := fun w h => List.mem_cons_of_mem _ (inlX3 w h)
def fX3_draw_21  (σ : zSt)  : Option (zSt) :=
  some σ
def fX3_draw_152_body (k152 : zSt → Int32 → Int32 → Option (zSt)) (σ : zSt) (x1 : Int32) (x4 : Int32) : Option (zSt) :=
  if 256 ≤ x4 then some σ else
  zck (zin x4 256) (
  zck (zin ((zgi σ 27 x4.toNatClampNeg) &&& 31) 32) (
  zck (zin ((x1 * 256) + x4) 61440) (zbv (zsi σ 25 (((x1 * 256) + x4).toNatClampNeg) (zgi σ 29 ((zgi σ 27 x4.toNatClampNeg) &&& 31).toNatClampNeg)) (fun σ1 =>
  zbv (x4 + 1) (fun v2 =>
  k152 σ1 x1 v2)))))
def fX3_draw_152  : Nat → zSt → Int32 → Int32 → Option (zSt)
  | 0, _, _, _ => none
  | n + 1, σ, x1, x4 => fX3_draw_152_body (fX3_draw_152  n) σ x1 x4
def fX3_draw_144  (σ : zSt) (x1 : Int32) (x2 : Int32) : Option (zSt) :=
  zbu (fX3_mixColours σ x2) (fun σ3 =>
  fX3_draw_152 zfuel σ3 x1 0)
def fX3_draw_139  (σ : zSt) (x1 : Int32) (x2 : Int32) (x3 : Int32) : Option (zSt) :=
  zbu (fX3_fillBack σ x3) (fun σ4 =>
  fX3_draw_144 σ4 x1 x2)
def fX3_draw_41  (σ : zSt) (x1 : Int32) (x2 : Int32) (s0 : Int32) : Option (zSt) :=
  zbi (fX9_held σ 7) (fun σ5 v6 =>
  zbv (s0 + (v6 &&& 15)) (fun v7 =>
  zbi (fX9_held σ5 1) (fun σ8 v9 =>
  if (v9 &&& 64) = 0 then zbu (fJ7_fill_53178_k27 σ8 v7) (fun σ17 =>
  fX3_draw_144 σ17 x1 x2) else
  if x2 = 4 then zbu (fX3_drawTiles σ8 x1) (fun σ12 =>
  zbu (fX3_drawSprites σ12 x1) (fun σ13 =>
  zbi (fX9_held σ13 0) (fun σ14 v15 =>
  if (v15 &&& 32) = 0 then fX3_draw_144 σ14 x1 x2 else
  zbu (fJ7_fill_fda19_k27 σ14 0 8 v7) (fun σ16 =>
  fX3_draw_144 σ16 x1 x2)))) else
  zbu (fX3_drawOld σ8 x2 x1) (fun σ10 =>
  if x2 = 1 then fX3_draw_139 σ10 x1 x2 v7 else
  zbu (fX3_drawOldSprites σ10 x1) (fun σ11 =>
  fX3_draw_139 σ11 x1 x2 v7)))))
def fX3_draw  (σ : zSt)  : Option (zSt) :=
  zbi (fX9_held σ 20) (fun σ18 v19 =>
  if v19 < 0 then fX3_draw_21 σ18 else
  if v19 < 240 then zbi (fX9_mode σ18 ) (fun σ20 v21 =>
  if v21 = 4 then fX3_draw_41 σ20 v19 v21 16 else
  fX3_draw_41 σ20 v19 v21 0) else
  fX3_draw_21 σ18)
set_option maxRecDepth 20000 in
set_option maxHeartbeats 4000000 in
theorem bX3_draw_21 {st : Nat → Nat} {p : Program} {l : Launch} {e : Env} {s : State} {m : MethodId} {args : Array Value} {below : List Frame} {meth : Method} {c : Code} {D : va_G} {A : Nat → Prop} {ad : Nat → Nat} {cy : Nat → ClassId} (hC : zC p m c cX3_draw 5 s args wzX3_draw RX3 meth none)  {res : zSt} {H : Heap} {locs : List Loc} {σ : zSt} {ls : Array Slot}  (hI : zI st D (tC cy) (wC ad cy σ) A s H locs) (hl : lv_has ls 5 []) (hf : fX3_draw_21  σ  = some res) : W p l e rmX3_draw s m args below meth c H locs 0 0 (zQu below args s D (tC cy) (wC ad cy) A res) (F0 m 21 ls []) := by
  have hx := hC.1
  have hb := hC.2.1
  unfold fX3_draw_21 at hf
  exact z_return hC hI hf dX3_draw_21
set_option maxRecDepth 20000 in
set_option maxHeartbeats 4000000 in
theorem bX3_draw_152_body {st : Nat → Nat} {p : Program} {l : Launch} {e : Env} {s : State} {m : MethodId} {args : Array Value} {below : List Frame} {meth : Method} {c : Code} {D : va_G} {A : Nat → Prop} {ad : Nat → Nat} {cy : Nat → ClassId} (hC : zC p m c cX3_draw 5 s args wzX3_draw RX3 meth none) {k152 : zSt → Int32 → Int32 → Option (zSt)} {res : zSt} (hk152 : ∀ (H : Heap) (locs : List Loc) (σ : zSt) (ls : Array Slot) (x1 : Int32) (x4 : Int32), zI st D (tC cy) (wC ad cy σ) A s H locs → lv_has ls 5 [(0, .ref (ad 3)), (1, .int x1), (4, .int x4)] → k152 σ x1 x4 = some res → W p l e rmX3_draw s m args below meth c H locs 0 0 (zQu below args s D (tC cy) (wC ad cy) A res) (F0 m 152 ls [])) {H : Heap} {locs : List Loc} {σ : zSt} {ls : Array Slot} {x1 : Int32} {x4 : Int32} (hI : zI st D (tC cy) (wC ad cy σ) A s H locs) (hl : lv_has ls 5 [(0, .ref (ad 3)), (1, .int x1), (4, .int x4)]) (hf : fX3_draw_152_body k152 σ x1 x4 = some res) : W p l e rmX3_draw s m args below meth c H locs 0 0 (zQu below args s D (tC cy) (wC ad cy) A res) (F0 m 152 ls []) := by
  have hx := hC.1
  have hb := hC.2.1
  unfold fX3_draw_152_body at hf
  refine lv_iload hx hb dX3_draw_152 (lv_at hl 2 rfl) ?_
  refine lv_sipush (v := 256) hx hb dX3_draw_154 (by decide) ?_
  refine lv_icmp_ge (tgt := 194) hx hb dX3_draw_157 (by decide) (fun q => ?_) (fun q => ?_)
  · replace hf := zif_t q hf
    exact z_return hC hI hf dX3_draw_194
  replace hf := zif_f q hf
  refine lv_aload_n hx hb dX3_draw_160 rfl (lv_at hl 0 rfl) ?_
  refine z_get hC hI hinX3_draw_X30 3 (wC_e3 ad cy σ) rfl 2 (by decide) (List.mem_cons_of_mem _ zw4_17) rfl dX3_draw_161 ?_
  refine lv_iload_n hx hb dX3_draw_164 rfl (lv_at hl 1 rfl) ?_
  refine lv_sipush (v := 256) hx hb dX3_draw_165 (by decide) ?_
  refine lv_imul hx hb dX3_draw_168 ?_
  refine lv_iload hx hb dX3_draw_169 (lv_at hl 2 rfl) ?_
  refine lv_iadd hx hb dX3_draw_171 ?_
  refine lv_aload_n hx hb dX3_draw_172 rfl (lv_at hl 0 rfl) ?_
  refine z_get hC hI hinX3_draw_X30 3 (wC_e3 ad cy σ) rfl 6 (by decide) (List.mem_cons_of_mem _ zw4_21) rfl dX3_draw_173 ?_
  refine lv_aload_n hx hb dX3_draw_176 rfl (lv_at hl 0 rfl) ?_
  refine z_get hC hI hinX3_draw_X30 3 (wC_e3 ad cy σ) rfl 4 (by decide) (List.mem_cons_of_mem _ zw4_19) rfl dX3_draw_177 ?_
  refine lv_iload hx hb dX3_draw_180 (lv_at hl 2 rfl) ?_
  obtain ⟨q, hf⟩ := zck_use hf
  refine z_iald hC hI 27 14 (wC_e27 ad cy σ) (tC_t27 cy) q dX3_draw_182 ?_
  refine lv_bipush (v := 31) hx hb dX3_draw_183 (by decide) ?_
  refine lv_iand hx hb dX3_draw_185 ?_
  obtain ⟨q, hf⟩ := zck_use hf
  refine z_iald hC hI 29 16 (wC_e29 ad cy σ) (tC_t29 cy) q dX3_draw_186 ?_
  obtain ⟨q, hf⟩ := zck_use hf
  obtain ⟨σ1, eσ1⟩ : ∃ z, z = zsi σ 25 (((x1 * 256) + x4).toNatClampNeg) (zgi σ 29 ((zgi σ 27 x4.toNatClampNeg) &&& 31).toNatClampNeg) := ⟨_, rfl⟩
  replace hf := zbv_use eσ1 hf
  refine z_iast hC hI 25 12 (wC_e25 ad cy σ) (tC_t25 cy) q ((wC_s25 ad cy σ _ _).trans (congrArg (wC ad cy) eσ1.symm)) dX3_draw_187 (fun H locs hI => ?_)
  obtain ⟨v2, ev2⟩ : ∃ z : Int32, z = x4 + 1 := ⟨_, rfl⟩
  replace hf := zbv_use ev2 hf
  refine lv_iinc (v := v2) (lv' := [(4, .int v2), (0, .ref (ad 3)), (1, .int x1)]) hx hb dX3_draw_188 hl (k := 2) rfl (by rw [ev2]; rfl) (by decide) rfl (fun ls hl => ?_)
  refine lv_goto (tgt := 152) hx hb dX3_draw_191 (by decide) ?_
  exact hk152 _ _ _ _ _ _ hI (lv_sub hl [1, 2, 0] rfl) hf
theorem blX3_draw_152 {st : Nat → Nat} {p : Program} {l : Launch} {e : Env} {s : State} {m : MethodId} {args : Array Value} {below : List Frame} {meth : Method} {c : Code} {D : va_G} {A : Nat → Prop} {ad : Nat → Nat} {cy : Nat → ClassId} (hC : zC p m c cX3_draw 5 s args wzX3_draw RX3 meth none)  {res : zSt} : ∀ (n : Nat) (H : Heap) (locs : List Loc) (σ : zSt) (ls : Array Slot) (x1 : Int32) (x4 : Int32), zI st D (tC cy) (wC ad cy σ) A s H locs → lv_has ls 5 [(0, .ref (ad 3)), (1, .int x1), (4, .int x4)] → fX3_draw_152  n σ x1 x4 = some res → W p l e rmX3_draw s m args below meth c H locs 0 0 (zQu below args s D (tC cy) (wC ad cy) A res) (F0 m 152 ls []) := by
  intro n
  induction n with
  | zero => intro H locs σ ls x1 x4 hI hl hf; cases hf
  | succ n ih => intro H locs σ ls x1 x4 hI hl hf; exact bX3_draw_152_body hC ih hI hl hf
set_option maxRecDepth 20000 in
set_option maxHeartbeats 4000000 in
theorem bX3_draw_144 {st : Nat → Nat} {p : Program} {l : Launch} {e : Env} {s : State} {m : MethodId} {args : Array Value} {below : List Frame} {meth : Method} {c : Code} {D : va_G} {A : Nat → Prop} {ad : Nat → Nat} {cy : Nat → ClassId} (hC : zC p m c cX3_draw 5 s args wzX3_draw RX3 meth none)  {res : zSt} {H : Heap} {locs : List Loc} {σ : zSt} {ls : Array Slot} {x1 : Int32} {x2 : Int32} (hI : zI st D (tC cy) (wC ad cy σ) A s H locs) (hl : lv_has ls 5 [(0, .ref (ad 3)), (1, .int x1), (2, .int x2)]) (hf : fX3_draw_144  σ x1 x2 = some res) : W p l e rmX3_draw s m args below meth c H locs 0 0 (zQu below args s D (tC cy) (wC ad cy) A res) (F0 m 144 ls []) := by
  have hx := hC.1
  have hb := hC.2.1
  unfold fX3_draw_144 at hf
  refine lv_aload_n hx hb dX3_draw_144 rfl (lv_at hl 0 rfl) ?_
  refine lv_iload_n hx hb dX3_draw_145 rfl (lv_at hl 2 rfl) ?_
  obtain ⟨σ3, g3, hf⟩ := zbu_use hf
  refine z_callVu (As := [.int x2]) (rest := []) hC hI (cX3_mixColours_met st l D ad cy σ x2 _ g3) (zgV zw39_15 zw39_16 zw39_17 zw2_5 zw39_18) rfl ⟨rfl, rfl⟩ 1 hdX3_mixColours ⟨Nat.le_of_ble_eq_true rfl, Nat.le_of_ble_eq_true rfl⟩ rfl rfl (wC_e3 ad cy σ) rfl hl rfl (Nat.le_of_ble_eq_true rfl) dX3_draw_146 ⟨Nat.zero_le _, Nat.zero_le _⟩ (fun H locs hI => ?_)
  refine lv_iconst (v := 0) hx hb dX3_draw_149 (by decide) ?_
  refine lv_istore (lv' := [(4, .int 0), (0, .ref (ad 3)), (1, .int x1), (2, .int x2)]) hx hb dX3_draw_150 hl (by decide) rfl (fun ls hl => ?_)
  exact blX3_draw_152 hC  zfuel _ _ _ _ _ _ hI (lv_sub hl [1, 2, 0] rfl) hf
set_option maxRecDepth 20000 in
set_option maxHeartbeats 4000000 in
theorem bX3_draw_139 {st : Nat → Nat} {p : Program} {l : Launch} {e : Env} {s : State} {m : MethodId} {args : Array Value} {below : List Frame} {meth : Method} {c : Code} {D : va_G} {A : Nat → Prop} {ad : Nat → Nat} {cy : Nat → ClassId} (hC : zC p m c cX3_draw 5 s args wzX3_draw RX3 meth none)  {res : zSt} {H : Heap} {locs : List Loc} {σ : zSt} {ls : Array Slot} {x1 : Int32} {x2 : Int32} {x3 : Int32} (hI : zI st D (tC cy) (wC ad cy σ) A s H locs) (hl : lv_has ls 5 [(0, .ref (ad 3)), (1, .int x1), (2, .int x2), (3, .int x3)]) (hf : fX3_draw_139  σ x1 x2 x3 = some res) : W p l e rmX3_draw s m args below meth c H locs 0 0 (zQu below args s D (tC cy) (wC ad cy) A res) (F0 m 139 ls []) := by
  have hx := hC.1
  have hb := hC.2.1
  unfold fX3_draw_139 at hf
  refine lv_aload_n hx hb dX3_draw_139 rfl (lv_at hl 0 rfl) ?_
  refine lv_iload_n hx hb dX3_draw_140 rfl (lv_at hl 3 rfl) ?_
  obtain ⟨σ4, g4, hf⟩ := zbu_use hf
  refine z_callVu (As := [.int x3]) (rest := []) hC hI (cX3_fillBack_met st l D ad cy σ x3 _ g4) (zgV zw39_11 zw39_12 zw39_13 zw2_5 zw39_14) rfl ⟨rfl, rfl⟩ 1 hdX3_fillBack ⟨Nat.le_of_ble_eq_true rfl, Nat.le_of_ble_eq_true rfl⟩ rfl rfl (wC_e3 ad cy σ) rfl hl rfl (Nat.le_of_ble_eq_true rfl) dX3_draw_141 ⟨Nat.zero_le _, Nat.zero_le _⟩ (fun H locs hI => ?_)
  exact bX3_draw_144 hC  hI (lv_sub hl [0, 1, 2] rfl) hf
set_option maxRecDepth 20000 in
set_option maxHeartbeats 4000000 in
theorem bX3_draw_41 {st : Nat → Nat} {p : Program} {l : Launch} {e : Env} {s : State} {m : MethodId} {args : Array Value} {below : List Frame} {meth : Method} {c : Code} {D : va_G} {A : Nat → Prop} {ad : Nat → Nat} {cy : Nat → ClassId} (hC : zC p m c cX3_draw 5 s args wzX3_draw RX3 meth none)  {res : zSt} {H : Heap} {locs : List Loc} {σ : zSt} {ls : Array Slot} {x1 : Int32} {x2 : Int32} {s0 : Int32} (hI : zI st D (tC cy) (wC ad cy σ) A s H locs) (hl : lv_has ls 5 [(0, .ref (ad 3)), (1, .int x1), (2, .int x2)]) (hf : fX3_draw_41  σ x1 x2 s0 = some res) : W p l e rmX3_draw s m args below meth c H locs 0 0 (zQu below args s D (tC cy) (wC ad cy) A res) (F0 m 41 ls [.int s0]) := by
  have hx := hC.1
  have hb := hC.2.1
  unfold fX3_draw_41 at hf
  refine lv_aload_n hx hb dX3_draw_41 rfl (lv_at hl 0 rfl) ?_
  refine z_get hC hI hinX3_draw_X30 3 (wC_e3 ad cy σ) rfl 0 (by decide) (List.mem_cons_of_mem _ zw4_22) rfl dX3_draw_42 ?_
  refine lv_bipush (v := 7) hx hb dX3_draw_45 (by decide) ?_
  obtain ⟨σ5, v6, g5, hf⟩ := zbi_use hf
  refine z_callVi (As := [.int 7]) (rest := [.int s0]) hC hI (cX9_held_met st l D ad cy σ 7 _ g5) (zgV zw35_21 zw35_13 zw35_14 zw2_1 zw35_15) rfl ⟨rfl, rfl⟩ 1 hdX9_held ⟨Nat.le_of_ble_eq_true rfl, Nat.le_of_ble_eq_true rfl⟩ rfl rfl (wC_e2 ad cy σ) rfl hl rfl (Nat.le_of_ble_eq_true rfl) dX3_draw_47 ⟨Nat.zero_le _, Nat.zero_le _⟩ (fun H locs hI => ?_)
  refine lv_bipush (v := 15) hx hb dX3_draw_50 (by decide) ?_
  refine lv_iand hx hb dX3_draw_52 ?_
  refine lv_iadd hx hb dX3_draw_53 ?_
  refine lv_topi (fun v7 ev7 => ?_)
  replace hf := zbv_use ev7 hf
  refine lv_istore_n (lv' := [(3, .int v7), (0, .ref (ad 3)), (1, .int x1), (2, .int x2)]) hx hb dX3_draw_54 rfl hl (by decide) rfl (fun ls hl => ?_)
  refine lv_aload_n hx hb dX3_draw_55 rfl (lv_at hl 1 rfl) ?_
  refine z_get hC hI hinX3_draw_X30 3 (wC_e3 ad cy σ5) rfl 0 (by decide) (List.mem_cons_of_mem _ zw4_22) rfl dX3_draw_56 ?_
  refine lv_iconst (v := 1) hx hb dX3_draw_59 (by decide) ?_
  obtain ⟨σ8, v9, g8, hf⟩ := zbi_use hf
  refine z_callVi (As := [.int 1]) (rest := []) hC hI (cX9_held_met st l D ad cy σ5 1 _ g8) (zgV zw35_21 zw35_13 zw35_14 zw2_1 zw35_15) rfl ⟨rfl, rfl⟩ 1 hdX9_held ⟨Nat.le_of_ble_eq_true rfl, Nat.le_of_ble_eq_true rfl⟩ rfl rfl (wC_e2 ad cy σ5) rfl hl rfl (Nat.le_of_ble_eq_true rfl) dX3_draw_60 ⟨Nat.zero_le _, Nat.zero_le _⟩ (fun H locs hI => ?_)
  refine lv_bipush (v := 64) hx hb dX3_draw_63 (by decide) ?_
  refine lv_iand hx hb dX3_draw_65 ?_
  refine lv_if_ne (tgt := 80) hx hb dX3_draw_66 (by decide) (fun q => ?_) (fun q => ?_)
  · replace hf := zif_f q hf
    refine lv_iload_n hx hb dX3_draw_80 rfl (lv_at hl 3 rfl) ?_
    refine lv_iconst (v := 4) hx hb dX3_draw_81 (by decide) ?_
    refine lv_icmp_ne (tgt := 123) hx hb dX3_draw_82 (by decide) (fun q => ?_) (fun q => ?_)
    · replace hf := zif_f q hf
      refine lv_aload_n hx hb dX3_draw_123 rfl (lv_at hl 1 rfl) ?_
      refine lv_iload_n hx hb dX3_draw_124 rfl (lv_at hl 3 rfl) ?_
      refine lv_iload_n hx hb dX3_draw_125 rfl (lv_at hl 2 rfl) ?_
      obtain ⟨σ10, g10, hf⟩ := zbu_use hf
      refine z_callVu (As := [.int x2, .int x1]) (rest := []) hC hI (cX3_drawOld_met st l D ad cy σ8 x2 x1 _ g10) (zgV zw37_19 zw37_20 zw37_21 zw2_5 zw37_22) rfl ⟨rfl, rfl⟩ 2 hdX3_drawOld ⟨Nat.le_of_ble_eq_true rfl, Nat.le_of_ble_eq_true rfl⟩ rfl rfl (wC_e3 ad cy σ8) rfl hl rfl (Nat.le_of_ble_eq_true rfl) dX3_draw_126 ⟨Nat.zero_le _, Nat.zero_le _⟩ (fun H locs hI => ?_)
      refine lv_iload_n hx hb dX3_draw_129 rfl (lv_at hl 3 rfl) ?_
      refine lv_iconst (v := 1) hx hb dX3_draw_130 (by decide) ?_
      refine lv_icmp_eq (tgt := 139) hx hb dX3_draw_131 (by decide) (fun q => ?_) (fun q => ?_)
      · replace hf := zif_t q hf
        exact bX3_draw_139 hC  hI (lv_sub hl [1, 2, 3, 0] rfl) hf
      replace hf := zif_f q hf
      refine lv_aload_n hx hb dX3_draw_134 rfl (lv_at hl 1 rfl) ?_
      refine lv_iload_n hx hb dX3_draw_135 rfl (lv_at hl 2 rfl) ?_
      obtain ⟨σ11, g11, hf⟩ := zbu_use hf
      refine z_callVu (As := [.int x1]) (rest := []) hC hI (cX3_drawOldSprites_met st l D ad cy σ10 x1 _ g11) (zgV zw38_19 zw38_20 zw38_21 zw2_5 zw38_22) rfl ⟨rfl, rfl⟩ 1 hdX3_drawOldSprites ⟨Nat.le_of_ble_eq_true rfl, Nat.le_of_ble_eq_true rfl⟩ rfl rfl (wC_e3 ad cy σ10) rfl hl rfl (Nat.le_of_ble_eq_true rfl) dX3_draw_136 ⟨Nat.zero_le _, Nat.zero_le _⟩ (fun H locs hI => ?_)
      exact bX3_draw_139 hC  hI (lv_sub hl [1, 2, 3, 0] rfl) hf
    replace hf := zif_t q hf
    refine lv_aload_n hx hb dX3_draw_85 rfl (lv_at hl 1 rfl) ?_
    refine lv_iload_n hx hb dX3_draw_86 rfl (lv_at hl 2 rfl) ?_
    obtain ⟨σ12, g12, hf⟩ := zbu_use hf
    refine z_callVu (As := [.int x1]) (rest := []) hC hI (cX3_drawTiles_met st l D ad cy σ8 x1 _ g12) (zgV zw36_3 zw36_4 zw36_5 zw2_5 zw36_6) rfl ⟨rfl, rfl⟩ 1 hdX3_drawTiles ⟨Nat.le_of_ble_eq_true rfl, Nat.le_of_ble_eq_true rfl⟩ rfl rfl (wC_e3 ad cy σ8) rfl hl rfl (Nat.le_of_ble_eq_true rfl) dX3_draw_87 ⟨Nat.zero_le _, Nat.zero_le _⟩ (fun H locs hI => ?_)
    refine lv_aload_n hx hb dX3_draw_90 rfl (lv_at hl 1 rfl) ?_
    refine lv_iload_n hx hb dX3_draw_91 rfl (lv_at hl 2 rfl) ?_
    obtain ⟨σ13, g13, hf⟩ := zbu_use hf
    refine z_callVu (As := [.int x1]) (rest := []) hC hI (cX3_drawSprites_met st l D ad cy σ12 x1 _ g13) (zgV zw37_2 zw37_3 zw37_4 zw2_5 zw37_5) rfl ⟨rfl, rfl⟩ 1 hdX3_drawSprites ⟨Nat.le_of_ble_eq_true rfl, Nat.le_of_ble_eq_true rfl⟩ rfl rfl (wC_e3 ad cy σ12) rfl hl rfl (Nat.le_of_ble_eq_true rfl) dX3_draw_92 ⟨Nat.zero_le _, Nat.zero_le _⟩ (fun H locs hI => ?_)
    refine lv_aload_n hx hb dX3_draw_95 rfl (lv_at hl 1 rfl) ?_
    refine z_get hC hI hinX3_draw_X30 3 (wC_e3 ad cy σ13) rfl 0 (by decide) (List.mem_cons_of_mem _ zw4_22) rfl dX3_draw_96 ?_
    refine lv_iconst (v := 0) hx hb dX3_draw_99 (by decide) ?_
    obtain ⟨σ14, v15, g14, hf⟩ := zbi_use hf
    refine z_callVi (As := [.int 0]) (rest := []) hC hI (cX9_held_met st l D ad cy σ13 0 _ g14) (zgV zw35_21 zw35_13 zw35_14 zw2_1 zw35_15) rfl ⟨rfl, rfl⟩ 1 hdX9_held ⟨Nat.le_of_ble_eq_true rfl, Nat.le_of_ble_eq_true rfl⟩ rfl rfl (wC_e2 ad cy σ13) rfl hl rfl (Nat.le_of_ble_eq_true rfl) dX3_draw_100 ⟨Nat.zero_le _, Nat.zero_le _⟩ (fun H locs hI => ?_)
    refine lv_bipush (v := 32) hx hb dX3_draw_103 (by decide) ?_
    refine lv_iand hx hb dX3_draw_105 ?_
    refine lv_if_eq (tgt := 144) hx hb dX3_draw_106 (by decide) (fun q => ?_) (fun q => ?_)
    · replace hf := zif_t q hf
      exact bX3_draw_144 hC  hI (lv_sub hl [1, 2, 3] rfl) hf
    replace hf := zif_f q hf
    refine lv_aload_n hx hb dX3_draw_109 rfl (lv_at hl 1 rfl) ?_
    refine z_get hC hI hinX3_draw_X30 3 (wC_e3 ad cy σ14) rfl 4 (by decide) (List.mem_cons_of_mem _ zw4_19) rfl dX3_draw_110 ?_
    refine lv_iconst (v := 0) hx hb dX3_draw_113 (by decide) ?_
    refine lv_bipush (v := 8) hx hb dX3_draw_114 (by decide) ?_
    refine lv_iload_n hx hb dX3_draw_116 rfl (lv_at hl 0 rfl) ?_
    obtain ⟨σ16, g16, hf⟩ := zbu_use hf
    refine z_callSu (As := [.ref (ad 27), .int 0, .int 8, .int v7]) (rest := []) hC hI (cJ7_fill_fda19_k27_met st l D ad cy σ14 0 8 v7 _ g16) (zgS zw37_18 zw5_16 zw5_13 zw5_17) rfl ⟨rfl, rfl⟩ 4 hdJ7_fill_fda19_k27 ⟨Nat.le_of_ble_eq_true rfl, Nat.le_of_ble_eq_true rfl⟩ rfl hl rfl (Nat.le_of_ble_eq_true rfl) dX3_draw_117 ⟨Nat.zero_le _, Nat.zero_le _⟩ (fun H locs hI => ?_)
    refine lv_goto (tgt := 144) hx hb dX3_draw_120 (by decide) ?_
    exact bX3_draw_144 hC  hI (lv_sub hl [1, 2, 3] rfl) hf
  replace hf := zif_t q hf
  refine lv_aload_n hx hb dX3_draw_69 rfl (lv_at hl 1 rfl) ?_
  refine z_get hC hI hinX3_draw_X30 3 (wC_e3 ad cy σ8) rfl 4 (by decide) (List.mem_cons_of_mem _ zw4_19) rfl dX3_draw_70 ?_
  refine lv_iload_n hx hb dX3_draw_73 rfl (lv_at hl 0 rfl) ?_
  obtain ⟨σ17, g17, hf⟩ := zbu_use hf
  refine z_callSu (As := [.ref (ad 27), .int v7]) (rest := []) hC hI (cJ7_fill_53178_k27_met st l D ad cy σ8 v7 _ g17) (zgS zw36_2 zw5_12 zw5_13 zw5_14) rfl ⟨rfl, rfl⟩ 2 hdJ7_fill_53178_k27 ⟨Nat.le_of_ble_eq_true rfl, Nat.le_of_ble_eq_true rfl⟩ rfl hl rfl (Nat.le_of_ble_eq_true rfl) dX3_draw_74 ⟨Nat.zero_le _, Nat.zero_le _⟩ (fun H locs hI => ?_)
  refine lv_goto (tgt := 144) hx hb dX3_draw_77 (by decide) ?_
  exact bX3_draw_144 hC  hI (lv_sub hl [1, 2, 3] rfl) hf
set_option maxRecDepth 20000 in
set_option maxHeartbeats 4000000 in
theorem bX3_draw {st : Nat → Nat} {p : Program} {l : Launch} {e : Env} {s : State} {m : MethodId} {args : Array Value} {below : List Frame} {meth : Method} {c : Code} {D : va_G} {A : Nat → Prop} {ad : Nat → Nat} {cy : Nat → ClassId} (hC : zC p m c cX3_draw 5 s args wzX3_draw RX3 meth none)  {res : zSt} {H : Heap} {locs : List Loc} {σ : zSt} {ls : Array Slot}  (hI : zI st D (tC cy) (wC ad cy σ) A s H locs) (hl : lv_has ls 5 [(0, .ref (ad 3))]) (hf : fX3_draw  σ  = some res) : W p l e rmX3_draw s m args below meth c H locs 0 0 (zQu below args s D (tC cy) (wC ad cy) A res) (F0 m 0 ls []) := by
  have hx := hC.1
  have hb := hC.2.1
  unfold fX3_draw at hf
  refine lv_aload_n hx hb dX3_draw_0 rfl (lv_at hl 0 rfl) ?_
  refine z_get hC hI hinX3_draw_X30 3 (wC_e3 ad cy σ) rfl 0 (by decide) (List.mem_cons_of_mem _ zw4_22) rfl dX3_draw_1 ?_
  refine lv_bipush (v := 20) hx hb dX3_draw_4 (by decide) ?_
  obtain ⟨σ18, v19, g18, hf⟩ := zbi_use hf
  refine z_callVi (As := [.int 20]) (rest := []) hC hI (cX9_held_met st l D ad cy σ 20 _ g18) (zgV zw35_21 zw35_13 zw35_14 zw2_1 zw35_15) rfl ⟨rfl, rfl⟩ 1 hdX9_held ⟨Nat.le_of_ble_eq_true rfl, Nat.le_of_ble_eq_true rfl⟩ rfl rfl (wC_e2 ad cy σ) rfl hl rfl (Nat.le_of_ble_eq_true rfl) dX3_draw_6 ⟨Nat.zero_le _, Nat.zero_le _⟩ (fun H locs hI => ?_)
  refine lv_istore_n (lv' := [(1, .int v19), (0, .ref (ad 3))]) hx hb dX3_draw_9 rfl hl (by decide) rfl (fun ls hl => ?_)
  refine lv_iload_n hx hb dX3_draw_10 rfl (lv_at hl 0 rfl) ?_
  refine lv_if_lt (tgt := 21) hx hb dX3_draw_11 (by decide) (fun q => ?_) (fun q => ?_)
  · replace hf := zif_t q hf
    exact bX3_draw_21 hC  hI (lv_sub hl [] rfl) hf
  replace hf := zif_f q hf
  refine lv_iload_n hx hb dX3_draw_14 rfl (lv_at hl 0 rfl) ?_
  refine lv_sipush (v := 240) hx hb dX3_draw_15 (by decide) ?_
  refine lv_icmp_lt (tgt := 22) hx hb dX3_draw_18 (by decide) (fun q => ?_) (fun q => ?_)
  · replace hf := zif_t q hf
    refine lv_aload_n hx hb dX3_draw_22 rfl (lv_at hl 1 rfl) ?_
    refine z_get hC hI hinX3_draw_X30 3 (wC_e3 ad cy σ18) rfl 0 (by decide) (List.mem_cons_of_mem _ zw4_22) rfl dX3_draw_23 ?_
    obtain ⟨σ20, v21, g20, hf⟩ := zbi_use hf
    refine z_callVi (As := []) (rest := []) hC hI (cX9_mode_met st l D ad cy σ18  _ g20) (zgV zw35_22 zw35_23 zw36_0 zw2_1 zw36_1) rfl ⟨rfl, rfl⟩ 0 hdX9_mode ⟨Nat.le_of_ble_eq_true rfl, Nat.le_of_ble_eq_true rfl⟩ rfl rfl (wC_e2 ad cy σ18) rfl hl rfl (Nat.le_of_ble_eq_true rfl) dX3_draw_26 ⟨Nat.zero_le _, Nat.zero_le _⟩ (fun H locs hI => ?_)
    refine lv_istore_n (lv' := [(2, .int v21), (1, .int v19), (0, .ref (ad 3))]) hx hb dX3_draw_29 rfl hl (by decide) rfl (fun ls hl => ?_)
    refine lv_iload_n hx hb dX3_draw_30 rfl (lv_at hl 0 rfl) ?_
    refine lv_iconst (v := 4) hx hb dX3_draw_31 (by decide) ?_
    refine lv_icmp_ne (tgt := 40) hx hb dX3_draw_32 (by decide) (fun q => ?_) (fun q => ?_)
    · replace hf := zif_f q hf
      refine lv_iconst (v := 0) hx hb dX3_draw_40 (by decide) ?_
      exact bX3_draw_41 hC  hI (lv_sub hl [2, 1, 0] rfl) hf
    replace hf := zif_t q hf
    refine lv_bipush (v := 16) hx hb dX3_draw_35 (by decide) ?_
    refine lv_goto (tgt := 41) hx hb dX3_draw_37 (by decide) ?_
    exact bX3_draw_41 hC  hI (lv_sub hl [2, 1, 0] rfl) hf
  replace hf := zif_f q hf
  exact bX3_draw_21 hC  hI (lv_sub hl [] rfl) hf
set_option maxRecDepth 20000 in
theorem cX3_draw_met (st : Nat → Nat) (l : Launch) (D : va_G) (ad : Nat → Nat) (cy : Nat → ClassId) (σ : zSt)  (res : zSt) (hf : fX3_draw σ  = some res) (sz : Nat) : zMu st l yX3_draw wzX3_draw rmX3_draw [.ref (ad 3)] D (tC cy) (wC ad cy) sz σ res :=
  zMu.of (cc := cX3_draw) (maxL := 5) (ret := none) (by decide) rfl (Nat.le_of_ble_eq_true rfl) (fun p e s m args below meth c hC A hI ls hl => bX3_draw hC hI hl hf)
theorem hdX3_draw : yX3_draw.cls = RX3 ∧ yX3_draw.cls ≠ "java/lang/invoke/MethodHandle" ∧ yX3_draw.cls ≠ "java/lang/invoke/VarHandle" ∧ (parseMethodDescriptor yX3_draw.desc).map (fun d => d.parameters.length) = some 0 := by decide +kernel
def rmX4_clear : Room := { frames := 0, cells := 0, slots := 0, locals := 0 }
def wzX4_clear : List Cond := .code yX4_clear cX4_clear 1 none :: wsL_law
theorem hinX4_clear_X40 : ∀ w ∈ wsX40, w ∈ wzX4_clear := fun w h => List.mem_cons_of_mem _ (inlX4 w h)
def fX4_clear  (σ : zSt)  : Option (zSt) :=
  zck (zin 0 12) (zbv (zsi σ 34 ((0 : Int32).toNatClampNeg) 255) (fun σ1 =>
  zck (zin 1 12) (zbv (zsi σ1 34 ((1 : Int32).toNatClampNeg) 127) (fun σ2 =>
  zck (zin 2 12) (zbv (zsi σ2 34 ((2 : Int32).toNatClampNeg) 255) (fun σ3 =>
  zck (zin 3 12) (zbv (zsi σ3 34 ((3 : Int32).toNatClampNeg) 0) (fun σ4 =>
  zck (zin 4 12) (zbv (zsi σ4 34 ((4 : Int32).toNatClampNeg) 255) (fun σ5 =>
  zck (zin 5 12) (zbv (zsi σ5 34 ((5 : Int32).toNatClampNeg) 0) (fun σ6 =>
  zck (zin 6 12) (zbv (zsi σ6 34 ((6 : Int32).toNatClampNeg) 0) (fun σ7 =>
  some σ7))))))))))))))
set_option maxRecDepth 20000 in
set_option maxHeartbeats 4000000 in
theorem bX4_clear {st : Nat → Nat} {p : Program} {l : Launch} {e : Env} {s : State} {m : MethodId} {args : Array Value} {below : List Frame} {meth : Method} {c : Code} {D : va_G} {A : Nat → Prop} {ad : Nat → Nat} {cy : Nat → ClassId} (hC : zC p m c cX4_clear 1 s args wzX4_clear RX4 meth none)  {res : zSt} {H : Heap} {locs : List Loc} {σ : zSt} {ls : Array Slot}  (hI : zI st D (tC cy) (wC ad cy σ) A s H locs) (hl : lv_has ls 1 [(0, .ref (ad 6))]) (hf : fX4_clear  σ  = some res) : W p l e rmX4_clear s m args below meth c H locs 0 0 (zQu below args s D (tC cy) (wC ad cy) A res) (F0 m 0 ls []) := by
  have hx := hC.1
  have hb := hC.2.1
  unfold fX4_clear at hf
  refine lv_aload_n hx hb dX4_clear_0 rfl (lv_at hl 0 rfl) ?_
  refine z_get hC hI hinX4_clear_X40 6 (wC_e6 ad cy σ) rfl 4 (by decide) (List.mem_cons_of_mem _ zw6_15) rfl dX4_clear_1 ?_
  refine lv_iconst (v := 0) hx hb dX4_clear_4 (by decide) ?_
  refine lv_sipush (v := 255) hx hb dX4_clear_5 (by decide) ?_
  obtain ⟨q, hf⟩ := zck_use hf
  obtain ⟨σ1, eσ1⟩ : ∃ z, z = zsi σ 34 ((0 : Int32).toNatClampNeg) 255 := ⟨_, rfl⟩
  replace hf := zbv_use eσ1 hf
  refine z_iast hC hI 34 21 (wC_e34 ad cy σ) (tC_t34 cy) q ((wC_s34 ad cy σ _ _).trans (congrArg (wC ad cy) eσ1.symm)) dX4_clear_8 (fun H locs hI => ?_)
  refine lv_aload_n hx hb dX4_clear_9 rfl (lv_at hl 0 rfl) ?_
  refine z_get hC hI hinX4_clear_X40 6 (wC_e6 ad cy σ1) rfl 4 (by decide) (List.mem_cons_of_mem _ zw6_15) rfl dX4_clear_10 ?_
  refine lv_iconst (v := 1) hx hb dX4_clear_13 (by decide) ?_
  refine lv_bipush (v := 127) hx hb dX4_clear_14 (by decide) ?_
  obtain ⟨q, hf⟩ := zck_use hf
  obtain ⟨σ2, eσ2⟩ : ∃ z, z = zsi σ1 34 ((1 : Int32).toNatClampNeg) 127 := ⟨_, rfl⟩
  replace hf := zbv_use eσ2 hf
  refine z_iast hC hI 34 21 (wC_e34 ad cy σ1) (tC_t34 cy) q ((wC_s34 ad cy σ1 _ _).trans (congrArg (wC ad cy) eσ2.symm)) dX4_clear_16 (fun H locs hI => ?_)
  refine lv_aload_n hx hb dX4_clear_17 rfl (lv_at hl 0 rfl) ?_
  refine z_get hC hI hinX4_clear_X40 6 (wC_e6 ad cy σ2) rfl 4 (by decide) (List.mem_cons_of_mem _ zw6_15) rfl dX4_clear_18 ?_
  refine lv_iconst (v := 2) hx hb dX4_clear_21 (by decide) ?_
  refine lv_sipush (v := 255) hx hb dX4_clear_22 (by decide) ?_
  obtain ⟨q, hf⟩ := zck_use hf
  obtain ⟨σ3, eσ3⟩ : ∃ z, z = zsi σ2 34 ((2 : Int32).toNatClampNeg) 255 := ⟨_, rfl⟩
  replace hf := zbv_use eσ3 hf
  refine z_iast hC hI 34 21 (wC_e34 ad cy σ2) (tC_t34 cy) q ((wC_s34 ad cy σ2 _ _).trans (congrArg (wC ad cy) eσ3.symm)) dX4_clear_25 (fun H locs hI => ?_)
  refine lv_aload_n hx hb dX4_clear_26 rfl (lv_at hl 0 rfl) ?_
  refine z_get hC hI hinX4_clear_X40 6 (wC_e6 ad cy σ3) rfl 4 (by decide) (List.mem_cons_of_mem _ zw6_15) rfl dX4_clear_27 ?_
  refine lv_iconst (v := 3) hx hb dX4_clear_30 (by decide) ?_
  refine lv_iconst (v := 0) hx hb dX4_clear_31 (by decide) ?_
  obtain ⟨q, hf⟩ := zck_use hf
  obtain ⟨σ4, eσ4⟩ : ∃ z, z = zsi σ3 34 ((3 : Int32).toNatClampNeg) 0 := ⟨_, rfl⟩
  replace hf := zbv_use eσ4 hf
  refine z_iast hC hI 34 21 (wC_e34 ad cy σ3) (tC_t34 cy) q ((wC_s34 ad cy σ3 _ _).trans (congrArg (wC ad cy) eσ4.symm)) dX4_clear_32 (fun H locs hI => ?_)
  refine lv_aload_n hx hb dX4_clear_33 rfl (lv_at hl 0 rfl) ?_
  refine z_get hC hI hinX4_clear_X40 6 (wC_e6 ad cy σ4) rfl 4 (by decide) (List.mem_cons_of_mem _ zw6_15) rfl dX4_clear_34 ?_
  refine lv_iconst (v := 4) hx hb dX4_clear_37 (by decide) ?_
  refine lv_sipush (v := 255) hx hb dX4_clear_38 (by decide) ?_
  obtain ⟨q, hf⟩ := zck_use hf
  obtain ⟨σ5, eσ5⟩ : ∃ z, z = zsi σ4 34 ((4 : Int32).toNatClampNeg) 255 := ⟨_, rfl⟩
  replace hf := zbv_use eσ5 hf
  refine z_iast hC hI 34 21 (wC_e34 ad cy σ4) (tC_t34 cy) q ((wC_s34 ad cy σ4 _ _).trans (congrArg (wC ad cy) eσ5.symm)) dX4_clear_41 (fun H locs hI => ?_)
  refine lv_aload_n hx hb dX4_clear_42 rfl (lv_at hl 0 rfl) ?_
  refine z_get hC hI hinX4_clear_X40 6 (wC_e6 ad cy σ5) rfl 4 (by decide) (List.mem_cons_of_mem _ zw6_15) rfl dX4_clear_43 ?_
  refine lv_iconst (v := 5) hx hb dX4_clear_46 (by decide) ?_
  refine lv_iconst (v := 0) hx hb dX4_clear_47 (by decide) ?_
  obtain ⟨q, hf⟩ := zck_use hf
  obtain ⟨σ6, eσ6⟩ : ∃ z, z = zsi σ5 34 ((5 : Int32).toNatClampNeg) 0 := ⟨_, rfl⟩
  replace hf := zbv_use eσ6 hf
  refine z_iast hC hI 34 21 (wC_e34 ad cy σ5) (tC_t34 cy) q ((wC_s34 ad cy σ5 _ _).trans (congrArg (wC ad cy) eσ6.symm)) dX4_clear_48 (fun H locs hI => ?_)
  refine lv_aload_n hx hb dX4_clear_49 rfl (lv_at hl 0 rfl) ?_
  refine z_get hC hI hinX4_clear_X40 6 (wC_e6 ad cy σ6) rfl 4 (by decide) (List.mem_cons_of_mem _ zw6_15) rfl dX4_clear_50 ?_
  refine lv_bipush (v := 6) hx hb dX4_clear_53 (by decide) ?_
  refine lv_iconst (v := 0) hx hb dX4_clear_55 (by decide) ?_
  obtain ⟨q, hf⟩ := zck_use hf
  obtain ⟨σ7, eσ7⟩ : ∃ z, z = zsi σ6 34 ((6 : Int32).toNatClampNeg) 0 := ⟨_, rfl⟩
  replace hf := zbv_use eσ7 hf
  refine z_iast hC hI 34 21 (wC_e34 ad cy σ6) (tC_t34 cy) q ((wC_s34 ad cy σ6 _ _).trans (congrArg (wC ad cy) eσ7.symm)) dX4_clear_56 (fun H locs hI => ?_)
  exact z_return hC hI hf dX4_clear_57
set_option maxRecDepth 20000 in
theorem cX4_clear_met (st : Nat → Nat) (l : Launch) (D : va_G) (ad : Nat → Nat) (cy : Nat → ClassId) (σ : zSt)  (res : zSt) (hf : fX4_clear σ  = some res) (sz : Nat) : zMu st l yX4_clear wzX4_clear rmX4_clear [.ref (ad 6)] D (tC cy) (wC ad cy) sz σ res :=
  zMu.of (cc := cX4_clear) (maxL := 1) (ret := none) (by decide) rfl (Nat.le_of_ble_eq_true rfl) (fun p e s m args below meth c hC A hI ls hl => bX4_clear hC hI hl hf)
theorem hdX4_clear : yX4_clear.cls = RX4 ∧ yX4_clear.cls ≠ "java/lang/invoke/MethodHandle" ∧ yX4_clear.cls ≠ "java/lang/invoke/VarHandle" ∧ (parseMethodDescriptor yX4_clear.desc).map (fun d => d.parameters.length) = some 0 := by decide +kernel
def rmX4_keep : Room := { frames := 1, cells := 0, slots := 0, locals := 64 }
def wzX4_keep : List Cond := .code yX4_keep cX4_keep 1 none :: wsL_law
theorem hinX4_keep_X40 : ∀ w ∈ wsX40, w ∈ wzX4_keep := fun w h => List.mem_cons_of_mem _ (inlX4 w h)
def fX4_keep  (σ : zSt)  : Option (zSt) :=
  zck (zco 0 0 12 12 12) (zbv (zcpi σ 34 35 ((0 : Int32).toNatClampNeg) ((0 : Int32).toNatClampNeg) ((12 : Int32).toNatClampNeg)) (fun σ1 =>
  some σ1))
set_option maxRecDepth 20000 in
set_option maxHeartbeats 4000000 in
theorem bX4_keep {st : Nat → Nat} {p : Program} {l : Launch} {e : Env} {s : State} {m : MethodId} {args : Array Value} {below : List Frame} {meth : Method} {c : Code} {D : va_G} {A : Nat → Prop} {ad : Nat → Nat} {cy : Nat → ClassId} (hC : zC p m c cX4_keep 1 s args wzX4_keep RX4 meth none)  {res : zSt} {H : Heap} {locs : List Loc} {σ : zSt} {ls : Array Slot}  (hI : zI st D (tC cy) (wC ad cy σ) A s H locs) (hl : lv_has ls 1 [(0, .ref (ad 6))]) (hf : fX4_keep  σ  = some res) : W p l e rmX4_keep s m args below meth c H locs 0 0 (zQu below args s D (tC cy) (wC ad cy) A res) (F0 m 0 ls []) := by
  have hx := hC.1
  have hb := hC.2.1
  unfold fX4_keep at hf
  refine lv_aload_n hx hb dX4_keep_0 rfl (lv_at hl 0 rfl) ?_
  refine z_get hC hI hinX4_keep_X40 6 (wC_e6 ad cy σ) rfl 4 (by decide) (List.mem_cons_of_mem _ zw6_15) rfl dX4_keep_1 ?_
  refine lv_iconst (v := 0) hx hb dX4_keep_4 (by decide) ?_
  refine lv_aload_n hx hb dX4_keep_5 rfl (lv_at hl 0 rfl) ?_
  refine z_get hC hI hinX4_keep_X40 6 (wC_e6 ad cy σ) rfl 5 (by decide) (List.mem_cons_of_mem _ zw6_16) rfl dX4_keep_6 ?_
  refine lv_iconst (v := 0) hx hb dX4_keep_9 (by decide) ?_
  refine lv_bipush (v := 12) hx hb dX4_keep_10 (by decide) ?_
  obtain ⟨q, hf⟩ := zck_use hf
  obtain ⟨σ1, eσ1⟩ : ∃ z, z = zcpi σ 34 35 ((0 : Int32).toNatClampNeg) ((0 : Int32).toNatClampNeg) ((12 : Int32).toNatClampNeg) := ⟨_, rfl⟩
  replace hf := zbv_use eσ1 hf
  refine z_cpi hC hI (List.mem_cons_of_mem _ zw81_9) (List.mem_cons_of_mem _ zw80_6) (List.mem_cons_of_mem _ zw80_7) (List.mem_cons_of_mem _ zw80_8) hl 34 35 21 22 (wC_e34 ad cy σ) (wC_e35 ad cy σ) (tC_t34 cy) (tC_t35 cy) q (show _ = wC ad cy σ1 from eσ1 ▸ rfl) (Nat.le_of_ble_eq_true rfl) (Nat.le_of_ble_eq_true rfl) dX4_keep_12 (fun H locs hI => ?_)
  exact z_return hC hI hf dX4_keep_15
set_option maxRecDepth 20000 in
theorem cX4_keep_met (st : Nat → Nat) (l : Launch) (D : va_G) (ad : Nat → Nat) (cy : Nat → ClassId) (σ : zSt)  (res : zSt) (hf : fX4_keep σ  = some res) (sz : Nat) : zMu st l yX4_keep wzX4_keep rmX4_keep [.ref (ad 6)] D (tC cy) (wC ad cy) sz σ res :=
  zMu.of (cc := cX4_keep) (maxL := 1) (ret := none) (by decide) rfl (Nat.le_of_ble_eq_true rfl) (fun p e s m args below meth c hC A hI ls hl => bX4_keep hC hI hl hf)
theorem hdX4_keep : yX4_keep.cls = RX4 ∧ yX4_keep.cls ≠ "java/lang/invoke/MethodHandle" ∧ yX4_keep.cls ≠ "java/lang/invoke/VarHandle" ∧ (parseMethodDescriptor yX4_keep.desc).map (fun d => d.parameters.length) = some 0 := by decide +kernel
def rmX4_bringBack : Room := { frames := 1, cells := 0, slots := 0, locals := 64 }
def wzX4_bringBack : List Cond := .code yX4_bringBack cX4_bringBack 1 none :: wsL_law
theorem hinX4_bringBack_X40 : ∀ w ∈ wsX40, w ∈ wzX4_bringBack := fun w h => List.mem_cons_of_mem _ (inlX4 w h)
def fX4_bringBack  (σ : zSt)  : Option (zSt) :=
  zck (zco 0 0 12 12 12) (zbv (zcpi σ 35 34 ((0 : Int32).toNatClampNeg) ((0 : Int32).toNatClampNeg) ((12 : Int32).toNatClampNeg)) (fun σ1 =>
  some σ1))
set_option maxRecDepth 20000 in
set_option maxHeartbeats 4000000 in
theorem bX4_bringBack {st : Nat → Nat} {p : Program} {l : Launch} {e : Env} {s : State} {m : MethodId} {args : Array Value} {below : List Frame} {meth : Method} {c : Code} {D : va_G} {A : Nat → Prop} {ad : Nat → Nat} {cy : Nat → ClassId} (hC : zC p m c cX4_bringBack 1 s args wzX4_bringBack RX4 meth none)  {res : zSt} {H : Heap} {locs : List Loc} {σ : zSt} {ls : Array Slot}  (hI : zI st D (tC cy) (wC ad cy σ) A s H locs) (hl : lv_has ls 1 [(0, .ref (ad 6))]) (hf : fX4_bringBack  σ  = some res) : W p l e rmX4_bringBack s m args below meth c H locs 0 0 (zQu below args s D (tC cy) (wC ad cy) A res) (F0 m 0 ls []) := by
  have hx := hC.1
  have hb := hC.2.1
  unfold fX4_bringBack at hf
  refine lv_aload_n hx hb dX4_bringBack_0 rfl (lv_at hl 0 rfl) ?_
  refine z_get hC hI hinX4_bringBack_X40 6 (wC_e6 ad cy σ) rfl 5 (by decide) (List.mem_cons_of_mem _ zw6_16) rfl dX4_bringBack_1 ?_
  refine lv_iconst (v := 0) hx hb dX4_bringBack_4 (by decide) ?_
  refine lv_aload_n hx hb dX4_bringBack_5 rfl (lv_at hl 0 rfl) ?_
  refine z_get hC hI hinX4_bringBack_X40 6 (wC_e6 ad cy σ) rfl 4 (by decide) (List.mem_cons_of_mem _ zw6_15) rfl dX4_bringBack_6 ?_
  refine lv_iconst (v := 0) hx hb dX4_bringBack_9 (by decide) ?_
  refine lv_bipush (v := 12) hx hb dX4_bringBack_10 (by decide) ?_
  obtain ⟨q, hf⟩ := zck_use hf
  obtain ⟨σ1, eσ1⟩ : ∃ z, z = zcpi σ 35 34 ((0 : Int32).toNatClampNeg) ((0 : Int32).toNatClampNeg) ((12 : Int32).toNatClampNeg) := ⟨_, rfl⟩
  replace hf := zbv_use eσ1 hf
  refine z_cpi hC hI (List.mem_cons_of_mem _ zw81_9) (List.mem_cons_of_mem _ zw80_6) (List.mem_cons_of_mem _ zw80_7) (List.mem_cons_of_mem _ zw80_8) hl 35 34 22 21 (wC_e35 ad cy σ) (wC_e34 ad cy σ) (tC_t35 cy) (tC_t34 cy) q (show _ = wC ad cy σ1 from eσ1 ▸ rfl) (Nat.le_of_ble_eq_true rfl) (Nat.le_of_ble_eq_true rfl) dX4_bringBack_12 (fun H locs hI => ?_)
  exact z_return hC hI hf dX4_bringBack_15
set_option maxRecDepth 20000 in
theorem cX4_bringBack_met (st : Nat → Nat) (l : Launch) (D : va_G) (ad : Nat → Nat) (cy : Nat → ClassId) (σ : zSt)  (res : zSt) (hf : fX4_bringBack σ  = some res) (sz : Nat) : zMu st l yX4_bringBack wzX4_bringBack rmX4_bringBack [.ref (ad 6)] D (tC cy) (wC ad cy) sz σ res :=
  zMu.of (cc := cX4_bringBack) (maxL := 1) (ret := none) (by decide) rfl (Nat.le_of_ble_eq_true rfl) (fun p e s m args below meth c hC A hI ls hl => bX4_bringBack hC hI hl hf)
theorem hdX4_bringBack : yX4_bringBack.cls = RX4 ∧ yX4_bringBack.cls ≠ "java/lang/invoke/MethodHandle" ∧ yX4_bringBack.cls ≠ "java/lang/invoke/VarHandle" ∧ (parseMethodDescriptor yX4_bringBack.desc).map (fun d => d.parameters.length) = some 0 := by decide +kernel
def rmX4_value : Room := { frames := 0, cells := 0, slots := 0, locals := 0 }
def wzX4_value : List Cond := .code yX4_value cX4_value 2 (some .int) :: wsL_law
theorem hinX4_value_X40 : ∀ w ∈ wsX40, w ∈ wzX4_value := fun w h => List.mem_cons_of_mem _ (inlX4 w h)
def fX4_value_20  (σ : zSt) (s0 : Int32) : Option (zSt × Int32) :=
  some (σ, s0)
def fX4_value_19  (σ : zSt)  : Option (zSt × Int32) :=
  fX4_value_20 σ 0
def fX4_value  (σ : zSt) (x1 : Int32) : Option (zSt × Int32) :=
  if x1 < 0 then fX4_value_19 σ else
  if 12 ≤ x1 then fX4_value_19 σ else
  zck (zin x1 12) (
  fX4_value_20 σ (zgi σ 34 x1.toNatClampNeg))
set_option maxRecDepth 20000 in
set_option maxHeartbeats 4000000 in
theorem bX4_value_20 {st : Nat → Nat} {p : Program} {l : Launch} {e : Env} {s : State} {m : MethodId} {args : Array Value} {below : List Frame} {meth : Method} {c : Code} {D : va_G} {A : Nat → Prop} {ad : Nat → Nat} {cy : Nat → ClassId} (hC : zC p m c cX4_value 2 s args wzX4_value RX4 meth (some .int))  {res : zSt × Int32} {H : Heap} {locs : List Loc} {σ : zSt} {ls : Array Slot} {s0 : Int32} (hI : zI st D (tC cy) (wC ad cy σ) A s H locs) (hl : lv_has ls 2 []) (hf : fX4_value_20  σ s0 = some res) : W p l e rmX4_value s m args below meth c H locs 0 0 (zQi below args s D (tC cy) (wC ad cy) A res) (F0 m 20 ls [.int s0]) := by
  have hx := hC.1
  have hb := hC.2.1
  unfold fX4_value_20 at hf
  exact z_ireturn hC hI hf dX4_value_20
set_option maxRecDepth 20000 in
set_option maxHeartbeats 4000000 in
theorem bX4_value_19 {st : Nat → Nat} {p : Program} {l : Launch} {e : Env} {s : State} {m : MethodId} {args : Array Value} {below : List Frame} {meth : Method} {c : Code} {D : va_G} {A : Nat → Prop} {ad : Nat → Nat} {cy : Nat → ClassId} (hC : zC p m c cX4_value 2 s args wzX4_value RX4 meth (some .int))  {res : zSt × Int32} {H : Heap} {locs : List Loc} {σ : zSt} {ls : Array Slot}  (hI : zI st D (tC cy) (wC ad cy σ) A s H locs) (hl : lv_has ls 2 []) (hf : fX4_value_19  σ  = some res) : W p l e rmX4_value s m args below meth c H locs 0 0 (zQi below args s D (tC cy) (wC ad cy) A res) (F0 m 19 ls []) := by
  have hx := hC.1
  have hb := hC.2.1
  unfold fX4_value_19 at hf
  refine lv_iconst (v := 0) hx hb dX4_value_19 (by decide) ?_
  exact bX4_value_20 hC  hI hl hf
set_option maxRecDepth 20000 in
set_option maxHeartbeats 4000000 in
theorem bX4_value {st : Nat → Nat} {p : Program} {l : Launch} {e : Env} {s : State} {m : MethodId} {args : Array Value} {below : List Frame} {meth : Method} {c : Code} {D : va_G} {A : Nat → Prop} {ad : Nat → Nat} {cy : Nat → ClassId} (hC : zC p m c cX4_value 2 s args wzX4_value RX4 meth (some .int))  {res : zSt × Int32} {H : Heap} {locs : List Loc} {σ : zSt} {ls : Array Slot} {x1 : Int32} (hI : zI st D (tC cy) (wC ad cy σ) A s H locs) (hl : lv_has ls 2 [(0, .ref (ad 6)), (1, .int x1)]) (hf : fX4_value  σ x1 = some res) : W p l e rmX4_value s m args below meth c H locs 0 0 (zQi below args s D (tC cy) (wC ad cy) A res) (F0 m 0 ls []) := by
  have hx := hC.1
  have hb := hC.2.1
  unfold fX4_value at hf
  refine lv_iload_n hx hb dX4_value_0 rfl (lv_at hl 1 rfl) ?_
  refine lv_if_lt (tgt := 19) hx hb dX4_value_1 (by decide) (fun q => ?_) (fun q => ?_)
  · replace hf := zif_t q hf
    exact bX4_value_19 hC  hI (lv_sub hl [] rfl) hf
  replace hf := zif_f q hf
  refine lv_iload_n hx hb dX4_value_4 rfl (lv_at hl 1 rfl) ?_
  refine lv_bipush (v := 12) hx hb dX4_value_5 (by decide) ?_
  refine lv_icmp_ge (tgt := 19) hx hb dX4_value_7 (by decide) (fun q => ?_) (fun q => ?_)
  · replace hf := zif_t q hf
    exact bX4_value_19 hC  hI (lv_sub hl [] rfl) hf
  replace hf := zif_f q hf
  refine lv_aload_n hx hb dX4_value_10 rfl (lv_at hl 0 rfl) ?_
  refine z_get hC hI hinX4_value_X40 6 (wC_e6 ad cy σ) rfl 4 (by decide) (List.mem_cons_of_mem _ zw6_15) rfl dX4_value_11 ?_
  refine lv_iload_n hx hb dX4_value_14 rfl (lv_at hl 1 rfl) ?_
  obtain ⟨q, hf⟩ := zck_use hf
  refine z_iald hC hI 34 21 (wC_e34 ad cy σ) (tC_t34 cy) q dX4_value_15 ?_
  refine lv_goto (tgt := 20) hx hb dX4_value_16 (by decide) ?_
  exact bX4_value_20 hC  hI (lv_sub hl [] rfl) hf
set_option maxRecDepth 20000 in
theorem cX4_value_met (st : Nat → Nat) (l : Launch) (D : va_G) (ad : Nat → Nat) (cy : Nat → ClassId) (σ : zSt) (x1 : Int32) (res : zSt × Int32) (hf : fX4_value σ x1 = some res) (sz : Nat) : zMi st l yX4_value wzX4_value rmX4_value [.ref (ad 6), .int x1] D (tC cy) (wC ad cy) sz σ res :=
  zMi.of (cc := cX4_value) (maxL := 2) (ret := (some .int)) (by decide) rfl (Nat.le_of_ble_eq_true rfl) (fun p e s m args below meth c hC A hI ls hl => bX4_value hC hI hl hf)
theorem hdX4_value : yX4_value.cls = RX4 ∧ yX4_value.cls ≠ "java/lang/invoke/MethodHandle" ∧ yX4_value.cls ≠ "java/lang/invoke/VarHandle" ∧ (parseMethodDescriptor yX4_value.desc).map (fun d => d.parameters.length) = some 1 := by decide +kernel
def rmX4_canPress : Room := { frames := 0, cells := 0, slots := 0, locals := 0 }
def wzX4_canPress : List Cond := .code yX4_canPress cX4_canPress 2 (some .boolean) :: wsL_law
def fX4_canPress_24  (σ : zSt) (s0 : Int32) : Option (zSt × Int32) :=
  zck (zbo s0) (some (σ, s0))
def fX4_canPress_23  (σ : zSt)  : Option (zSt × Int32) :=
  fX4_canPress_24 σ 0
def fX4_canPress  (σ : zSt) (x0 : Int32) (x1 : Int32) : Option (zSt × Int32) :=
  if x0 < 0 then fX4_canPress_23 σ else
  if 1 < x0 then fX4_canPress_23 σ else
  if x1 < 0 then fX4_canPress_23 σ else
  if 63 < x1 then fX4_canPress_23 σ else
  fX4_canPress_24 σ 1
set_option maxRecDepth 20000 in
set_option maxHeartbeats 4000000 in
theorem bX4_canPress_24 {st : Nat → Nat} {p : Program} {l : Launch} {e : Env} {s : State} {m : MethodId} {args : Array Value} {below : List Frame} {meth : Method} {c : Code} {D : va_G} {A : Nat → Prop} {ad : Nat → Nat} {cy : Nat → ClassId} (hC : zC p m c cX4_canPress 2 s args wzX4_canPress RX4 meth (some .boolean))  {res : zSt × Int32} {H : Heap} {locs : List Loc} {σ : zSt} {ls : Array Slot} {s0 : Int32} (hI : zI st D (tC cy) (wC ad cy σ) A s H locs) (hl : lv_has ls 2 []) (hf : fX4_canPress_24  σ s0 = some res) : W p l e rmX4_canPress s m args below meth c H locs 0 0 (zQi below args s D (tC cy) (wC ad cy) A res) (F0 m 24 ls [.int s0]) := by
  have hx := hC.1
  have hb := hC.2.1
  unfold fX4_canPress_24 at hf
  obtain ⟨q, hf⟩ := zck_use hf
  exact z_zreturn hC hI (zbo_n q) hf dX4_canPress_24
set_option maxRecDepth 20000 in
set_option maxHeartbeats 4000000 in
theorem bX4_canPress_23 {st : Nat → Nat} {p : Program} {l : Launch} {e : Env} {s : State} {m : MethodId} {args : Array Value} {below : List Frame} {meth : Method} {c : Code} {D : va_G} {A : Nat → Prop} {ad : Nat → Nat} {cy : Nat → ClassId} (hC : zC p m c cX4_canPress 2 s args wzX4_canPress RX4 meth (some .boolean))  {res : zSt × Int32} {H : Heap} {locs : List Loc} {σ : zSt} {ls : Array Slot}  (hI : zI st D (tC cy) (wC ad cy σ) A s H locs) (hl : lv_has ls 2 []) (hf : fX4_canPress_23  σ  = some res) : W p l e rmX4_canPress s m args below meth c H locs 0 0 (zQi below args s D (tC cy) (wC ad cy) A res) (F0 m 23 ls []) := by
  have hx := hC.1
  have hb := hC.2.1
  unfold fX4_canPress_23 at hf
  refine lv_iconst (v := 0) hx hb dX4_canPress_23 (by decide) ?_
  exact bX4_canPress_24 hC  hI hl hf
set_option maxRecDepth 20000 in
set_option maxHeartbeats 4000000 in
theorem bX4_canPress {st : Nat → Nat} {p : Program} {l : Launch} {e : Env} {s : State} {m : MethodId} {args : Array Value} {below : List Frame} {meth : Method} {c : Code} {D : va_G} {A : Nat → Prop} {ad : Nat → Nat} {cy : Nat → ClassId} (hC : zC p m c cX4_canPress 2 s args wzX4_canPress RX4 meth (some .boolean))  {res : zSt × Int32} {H : Heap} {locs : List Loc} {σ : zSt} {ls : Array Slot} {x0 : Int32} {x1 : Int32} (hI : zI st D (tC cy) (wC ad cy σ) A s H locs) (hl : lv_has ls 2 [(0, .int x0), (1, .int x1)]) (hf : fX4_canPress  σ x0 x1 = some res) : W p l e rmX4_canPress s m args below meth c H locs 0 0 (zQi below args s D (tC cy) (wC ad cy) A res) (F0 m 0 ls []) := by
  have hx := hC.1
  have hb := hC.2.1
  unfold fX4_canPress at hf
  refine lv_iload_n hx hb dX4_canPress_0 rfl (lv_at hl 0 rfl) ?_
  refine lv_if_lt (tgt := 23) hx hb dX4_canPress_1 (by decide) (fun q => ?_) (fun q => ?_)
  · replace hf := zif_t q hf
    exact bX4_canPress_23 hC  hI (lv_sub hl [] rfl) hf
  replace hf := zif_f q hf
  refine lv_iload_n hx hb dX4_canPress_4 rfl (lv_at hl 0 rfl) ?_
  refine lv_iconst (v := 1) hx hb dX4_canPress_5 (by decide) ?_
  refine lv_icmp_gt (tgt := 23) hx hb dX4_canPress_6 (by decide) (fun q => ?_) (fun q => ?_)
  · replace hf := zif_t q hf
    exact bX4_canPress_23 hC  hI (lv_sub hl [] rfl) hf
  replace hf := zif_f q hf
  refine lv_iload_n hx hb dX4_canPress_9 rfl (lv_at hl 1 rfl) ?_
  refine lv_if_lt (tgt := 23) hx hb dX4_canPress_10 (by decide) (fun q => ?_) (fun q => ?_)
  · replace hf := zif_t q hf
    exact bX4_canPress_23 hC  hI (lv_sub hl [] rfl) hf
  replace hf := zif_f q hf
  refine lv_iload_n hx hb dX4_canPress_13 rfl (lv_at hl 1 rfl) ?_
  refine lv_bipush (v := 63) hx hb dX4_canPress_14 (by decide) ?_
  refine lv_icmp_gt (tgt := 23) hx hb dX4_canPress_16 (by decide) (fun q => ?_) (fun q => ?_)
  · replace hf := zif_t q hf
    exact bX4_canPress_23 hC  hI (lv_sub hl [] rfl) hf
  replace hf := zif_f q hf
  refine lv_iconst (v := 1) hx hb dX4_canPress_19 (by decide) ?_
  refine lv_goto (tgt := 24) hx hb dX4_canPress_20 (by decide) ?_
  exact bX4_canPress_24 hC  hI (lv_sub hl [] rfl) hf
set_option maxRecDepth 20000 in
theorem cX4_canPress_met (st : Nat → Nat) (l : Launch) (D : va_G) (ad : Nat → Nat) (cy : Nat → ClassId) (σ : zSt) (x0 : Int32) (x1 : Int32) (res : zSt × Int32) (hf : fX4_canPress σ x0 x1 = some res) (sz : Nat) : zMi st l yX4_canPress wzX4_canPress rmX4_canPress [.int x0, .int x1] D (tC cy) (wC ad cy) sz σ res :=
  zMi.of (cc := cX4_canPress) (maxL := 2) (ret := (some .boolean)) (by decide) rfl (Nat.le_of_ble_eq_true rfl) (fun p e s m args below meth c hC A hI ls hl => bX4_canPress hC hI hl hf)
theorem hdX4_canPress : yX4_canPress.cls ≠ "java/lang/invoke/MethodHandle" ∧ yX4_canPress.cls ≠ "java/lang/invoke/VarHandle" ∧ (parseMethodDescriptor yX4_canPress.desc).map (fun d => d.parameters.length) = some 2 := by decide +kernel
def rmX4_holdStart : Room := { frames := 0, cells := 0, slots := 0, locals := 0 }
def wzX4_holdStart : List Cond := .code yX4_holdStart cX4_holdStart 2 none :: wsL_law
theorem hinX4_holdStart_X40 : ∀ w ∈ wsX40, w ∈ wzX4_holdStart := fun w h => List.mem_cons_of_mem _ (inlX4 w h)
def fX4_holdStart_15  (σ : zSt) (s0 : Int32) (s1 : Int32) : Option (zSt) :=
  zck (zin s1 12) (zbv (zsi σ 34 (s1.toNatClampNeg) s0) (fun σ1 =>
  some σ1))
def fX4_holdStart  (σ : zSt) (x1 : Int32) : Option (zSt) :=
  if x1 = 0 then fX4_holdStart_15 σ 0 9 else
  fX4_holdStart_15 σ 1 9
set_option maxRecDepth 20000 in
set_option maxHeartbeats 4000000 in
theorem bX4_holdStart_15 {st : Nat → Nat} {p : Program} {l : Launch} {e : Env} {s : State} {m : MethodId} {args : Array Value} {below : List Frame} {meth : Method} {c : Code} {D : va_G} {A : Nat → Prop} {ad : Nat → Nat} {cy : Nat → ClassId} (hC : zC p m c cX4_holdStart 2 s args wzX4_holdStart RX4 meth none)  {res : zSt} {H : Heap} {locs : List Loc} {σ : zSt} {ls : Array Slot} {s0 : Int32} {s1 : Int32} (hI : zI st D (tC cy) (wC ad cy σ) A s H locs) (hl : lv_has ls 2 []) (hf : fX4_holdStart_15  σ s0 s1 = some res) : W p l e rmX4_holdStart s m args below meth c H locs 0 0 (zQu below args s D (tC cy) (wC ad cy) A res) (F0 m 15 ls [.int s0, .int s1, .ref (ad 34)]) := by
  have hx := hC.1
  have hb := hC.2.1
  unfold fX4_holdStart_15 at hf
  obtain ⟨q, hf⟩ := zck_use hf
  obtain ⟨σ1, eσ1⟩ : ∃ z, z = zsi σ 34 (s1.toNatClampNeg) s0 := ⟨_, rfl⟩
  replace hf := zbv_use eσ1 hf
  refine z_iast hC hI 34 21 (wC_e34 ad cy σ) (tC_t34 cy) q ((wC_s34 ad cy σ _ _).trans (congrArg (wC ad cy) eσ1.symm)) dX4_holdStart_15 (fun H locs hI => ?_)
  exact z_return hC hI hf dX4_holdStart_16
set_option maxRecDepth 20000 in
set_option maxHeartbeats 4000000 in
theorem bX4_holdStart {st : Nat → Nat} {p : Program} {l : Launch} {e : Env} {s : State} {m : MethodId} {args : Array Value} {below : List Frame} {meth : Method} {c : Code} {D : va_G} {A : Nat → Prop} {ad : Nat → Nat} {cy : Nat → ClassId} (hC : zC p m c cX4_holdStart 2 s args wzX4_holdStart RX4 meth none)  {res : zSt} {H : Heap} {locs : List Loc} {σ : zSt} {ls : Array Slot} {x1 : Int32} (hI : zI st D (tC cy) (wC ad cy σ) A s H locs) (hl : lv_has ls 2 [(0, .ref (ad 6)), (1, .int x1)]) (hf : fX4_holdStart  σ x1 = some res) : W p l e rmX4_holdStart s m args below meth c H locs 0 0 (zQu below args s D (tC cy) (wC ad cy) A res) (F0 m 0 ls []) := by
  have hx := hC.1
  have hb := hC.2.1
  unfold fX4_holdStart at hf
  refine lv_aload_n hx hb dX4_holdStart_0 rfl (lv_at hl 0 rfl) ?_
  refine z_get hC hI hinX4_holdStart_X40 6 (wC_e6 ad cy σ) rfl 4 (by decide) (List.mem_cons_of_mem _ zw6_15) rfl dX4_holdStart_1 ?_
  refine lv_bipush (v := 9) hx hb dX4_holdStart_4 (by decide) ?_
  refine lv_iload_n hx hb dX4_holdStart_6 rfl (lv_at hl 1 rfl) ?_
  refine lv_if_eq (tgt := 14) hx hb dX4_holdStart_7 (by decide) (fun q => ?_) (fun q => ?_)
  · replace hf := zif_t q hf
    refine lv_iconst (v := 0) hx hb dX4_holdStart_14 (by decide) ?_
    exact bX4_holdStart_15 hC  hI (lv_sub hl [] rfl) hf
  replace hf := zif_f q hf
  refine lv_iconst (v := 1) hx hb dX4_holdStart_10 (by decide) ?_
  refine lv_goto (tgt := 15) hx hb dX4_holdStart_11 (by decide) ?_
  exact bX4_holdStart_15 hC  hI (lv_sub hl [] rfl) hf
set_option maxRecDepth 20000 in
theorem cX4_holdStart_met (st : Nat → Nat) (l : Launch) (D : va_G) (ad : Nat → Nat) (cy : Nat → ClassId) (σ : zSt) (x1 : Int32) (res : zSt) (hf : fX4_holdStart σ x1 = some res) (sz : Nat) : zMu st l yX4_holdStart wzX4_holdStart rmX4_holdStart [.ref (ad 6), .int x1] D (tC cy) (wC ad cy) sz σ res :=
  zMu.of (cc := cX4_holdStart) (maxL := 2) (ret := none) (by decide) rfl (Nat.le_of_ble_eq_true rfl) (fun p e s m args below meth c hC A hI ls hl => bX4_holdStart hC hI hl hf)
theorem hdX4_holdStart : yX4_holdStart.cls = RX4 ∧ yX4_holdStart.cls ≠ "java/lang/invoke/MethodHandle" ∧ yX4_holdStart.cls ≠ "java/lang/invoke/VarHandle" ∧ (parseMethodDescriptor yX4_holdStart.desc).map (fun d => d.parameters.length) = some 1 := by decide +kernel
def rmX4_lines : Room := { frames := 0, cells := 0, slots := 0, locals := 0 }
def wzX4_lines : List Cond := .code yX4_lines cX4_lines 4 (some .int) :: wsL_law
theorem hinX4_lines_X40 : ∀ w ∈ wsX40, w ∈ wzX4_lines := fun w h => List.mem_cons_of_mem _ (inlX4 w h)
def fX4_lines_52  (σ : zSt) (x2 : Int32) (s0 : Int32) : Option (zSt × Int32) :=
  some (σ, x2 ||| (s0 <<< ((1 : Int32) &&& 31)))
def fX4_lines_28  (σ : zSt) (x1 : Int32) (s0 : Int32) : Option (zSt × Int32) :=
  if (x1 &&& 8) = 0 then fX4_lines_52 σ s0 ((x1 >>> ((7 : Int32) &&& 31)) &&& 1) else
  zck (zin 11 12) (
  fX4_lines_52 σ s0 (zgi σ 34 (11 : Int32).toNatClampNeg))
def fX4_lines  (σ : zSt)  : Option (zSt × Int32) :=
  zck (zin 0 12) (
  zbv (zgi σ 34 (0 : Int32).toNatClampNeg) (fun v1 =>
  if (v1 &&& 2) = 0 then fX4_lines_28 σ v1 ((v1 >>> ((5 : Int32) &&& 31)) &&& 1) else
  zck (zin 10 12) (
  fX4_lines_28 σ v1 (zgi σ 34 (10 : Int32).toNatClampNeg))))
set_option maxRecDepth 20000 in
set_option maxHeartbeats 4000000 in
theorem bX4_lines_52 {st : Nat → Nat} {p : Program} {l : Launch} {e : Env} {s : State} {m : MethodId} {args : Array Value} {below : List Frame} {meth : Method} {c : Code} {D : va_G} {A : Nat → Prop} {ad : Nat → Nat} {cy : Nat → ClassId} (hC : zC p m c cX4_lines 4 s args wzX4_lines RX4 meth (some .int))  {res : zSt × Int32} {H : Heap} {locs : List Loc} {σ : zSt} {ls : Array Slot} {x2 : Int32} {s0 : Int32} (hI : zI st D (tC cy) (wC ad cy σ) A s H locs) (hl : lv_has ls 4 [(2, .int x2)]) (hf : fX4_lines_52  σ x2 s0 = some res) : W p l e rmX4_lines s m args below meth c H locs 0 0 (zQi below args s D (tC cy) (wC ad cy) A res) (F0 m 52 ls [.int s0]) := by
  have hx := hC.1
  have hb := hC.2.1
  unfold fX4_lines_52 at hf
  refine lv_istore_n (lv' := [(3, .int s0), (2, .int x2)]) hx hb dX4_lines_52 rfl hl (by decide) rfl (fun ls hl => ?_)
  refine lv_iload_n hx hb dX4_lines_53 rfl (lv_at hl 1 rfl) ?_
  refine lv_iload_n hx hb dX4_lines_54 rfl (lv_at hl 0 rfl) ?_
  refine lv_iconst (v := 1) hx hb dX4_lines_55 (by decide) ?_
  refine lv_ishl hx hb dX4_lines_56 ?_
  refine lv_ior hx hb dX4_lines_57 ?_
  exact z_ireturn hC hI hf dX4_lines_58
set_option maxRecDepth 20000 in
set_option maxHeartbeats 4000000 in
theorem bX4_lines_28 {st : Nat → Nat} {p : Program} {l : Launch} {e : Env} {s : State} {m : MethodId} {args : Array Value} {below : List Frame} {meth : Method} {c : Code} {D : va_G} {A : Nat → Prop} {ad : Nat → Nat} {cy : Nat → ClassId} (hC : zC p m c cX4_lines 4 s args wzX4_lines RX4 meth (some .int))  {res : zSt × Int32} {H : Heap} {locs : List Loc} {σ : zSt} {ls : Array Slot} {x1 : Int32} {s0 : Int32} (hI : zI st D (tC cy) (wC ad cy σ) A s H locs) (hl : lv_has ls 4 [(0, .ref (ad 6)), (1, .int x1)]) (hf : fX4_lines_28  σ x1 s0 = some res) : W p l e rmX4_lines s m args below meth c H locs 0 0 (zQi below args s D (tC cy) (wC ad cy) A res) (F0 m 28 ls [.int s0]) := by
  have hx := hC.1
  have hb := hC.2.1
  unfold fX4_lines_28 at hf
  refine lv_istore_n (lv' := [(2, .int s0), (0, .ref (ad 6)), (1, .int x1)]) hx hb dX4_lines_28 rfl hl (by decide) rfl (fun ls hl => ?_)
  refine lv_iload_n hx hb dX4_lines_29 rfl (lv_at hl 2 rfl) ?_
  refine lv_bipush (v := 8) hx hb dX4_lines_30 (by decide) ?_
  refine lv_iand hx hb dX4_lines_32 ?_
  refine lv_if_ne (tgt := 45) hx hb dX4_lines_33 (by decide) (fun q => ?_) (fun q => ?_)
  · replace hf := zif_f q hf
    refine lv_aload_n hx hb dX4_lines_45 rfl (lv_at hl 1 rfl) ?_
    refine z_get hC hI hinX4_lines_X40 6 (wC_e6 ad cy σ) rfl 4 (by decide) (List.mem_cons_of_mem _ zw6_15) rfl dX4_lines_46 ?_
    refine lv_bipush (v := 11) hx hb dX4_lines_49 (by decide) ?_
    obtain ⟨q, hf⟩ := zck_use hf
    refine z_iald hC hI 34 21 (wC_e34 ad cy σ) (tC_t34 cy) q dX4_lines_51 ?_
    exact bX4_lines_52 hC  hI (lv_sub hl [0] rfl) hf
  replace hf := zif_t q hf
  refine lv_iload_n hx hb dX4_lines_36 rfl (lv_at hl 2 rfl) ?_
  refine lv_bipush (v := 7) hx hb dX4_lines_37 (by decide) ?_
  refine lv_ishr hx hb dX4_lines_39 ?_
  refine lv_iconst (v := 1) hx hb dX4_lines_40 (by decide) ?_
  refine lv_iand hx hb dX4_lines_41 ?_
  refine lv_goto (tgt := 52) hx hb dX4_lines_42 (by decide) ?_
  exact bX4_lines_52 hC  hI (lv_sub hl [0] rfl) hf
set_option maxRecDepth 20000 in
set_option maxHeartbeats 4000000 in
theorem bX4_lines {st : Nat → Nat} {p : Program} {l : Launch} {e : Env} {s : State} {m : MethodId} {args : Array Value} {below : List Frame} {meth : Method} {c : Code} {D : va_G} {A : Nat → Prop} {ad : Nat → Nat} {cy : Nat → ClassId} (hC : zC p m c cX4_lines 4 s args wzX4_lines RX4 meth (some .int))  {res : zSt × Int32} {H : Heap} {locs : List Loc} {σ : zSt} {ls : Array Slot}  (hI : zI st D (tC cy) (wC ad cy σ) A s H locs) (hl : lv_has ls 4 [(0, .ref (ad 6))]) (hf : fX4_lines  σ  = some res) : W p l e rmX4_lines s m args below meth c H locs 0 0 (zQi below args s D (tC cy) (wC ad cy) A res) (F0 m 0 ls []) := by
  have hx := hC.1
  have hb := hC.2.1
  unfold fX4_lines at hf
  refine lv_aload_n hx hb dX4_lines_0 rfl (lv_at hl 0 rfl) ?_
  refine z_get hC hI hinX4_lines_X40 6 (wC_e6 ad cy σ) rfl 4 (by decide) (List.mem_cons_of_mem _ zw6_15) rfl dX4_lines_1 ?_
  refine lv_iconst (v := 0) hx hb dX4_lines_4 (by decide) ?_
  obtain ⟨q, hf⟩ := zck_use hf
  refine z_iald hC hI 34 21 (wC_e34 ad cy σ) (tC_t34 cy) q dX4_lines_5 ?_
  refine lv_topi (fun v1 ev1 => ?_)
  replace hf := zbv_use ev1 hf
  refine lv_istore_n (lv' := [(1, .int v1), (0, .ref (ad 6))]) hx hb dX4_lines_6 rfl hl (by decide) rfl (fun ls hl => ?_)
  refine lv_iload_n hx hb dX4_lines_7 rfl (lv_at hl 0 rfl) ?_
  refine lv_iconst (v := 2) hx hb dX4_lines_8 (by decide) ?_
  refine lv_iand hx hb dX4_lines_9 ?_
  refine lv_if_ne (tgt := 21) hx hb dX4_lines_10 (by decide) (fun q => ?_) (fun q => ?_)
  · replace hf := zif_f q hf
    refine lv_aload_n hx hb dX4_lines_21 rfl (lv_at hl 1 rfl) ?_
    refine z_get hC hI hinX4_lines_X40 6 (wC_e6 ad cy σ) rfl 4 (by decide) (List.mem_cons_of_mem _ zw6_15) rfl dX4_lines_22 ?_
    refine lv_bipush (v := 10) hx hb dX4_lines_25 (by decide) ?_
    obtain ⟨q, hf⟩ := zck_use hf
    refine z_iald hC hI 34 21 (wC_e34 ad cy σ) (tC_t34 cy) q dX4_lines_27 ?_
    exact bX4_lines_28 hC  hI (lv_sub hl [1, 0] rfl) hf
  replace hf := zif_t q hf
  refine lv_iload_n hx hb dX4_lines_13 rfl (lv_at hl 0 rfl) ?_
  refine lv_iconst (v := 5) hx hb dX4_lines_14 (by decide) ?_
  refine lv_ishr hx hb dX4_lines_15 ?_
  refine lv_iconst (v := 1) hx hb dX4_lines_16 (by decide) ?_
  refine lv_iand hx hb dX4_lines_17 ?_
  refine lv_goto (tgt := 28) hx hb dX4_lines_18 (by decide) ?_
  exact bX4_lines_28 hC  hI (lv_sub hl [1, 0] rfl) hf
set_option maxRecDepth 20000 in
theorem cX4_lines_met (st : Nat → Nat) (l : Launch) (D : va_G) (ad : Nat → Nat) (cy : Nat → ClassId) (σ : zSt)  (res : zSt × Int32) (hf : fX4_lines σ  = some res) (sz : Nat) : zMi st l yX4_lines wzX4_lines rmX4_lines [.ref (ad 6)] D (tC cy) (wC ad cy) sz σ res :=
  zMi.of (cc := cX4_lines) (maxL := 4) (ret := (some .int)) (by decide) rfl (Nat.le_of_ble_eq_true rfl) (fun p e s m args below meth c hC A hI ls hl => bX4_lines hC hI hl hf)
theorem hdX4_lines : yX4_lines.cls = RX4 ∧ yX4_lines.cls ≠ "java/lang/invoke/MethodHandle" ∧ yX4_lines.cls ≠ "java/lang/invoke/VarHandle" ∧ (parseMethodDescriptor yX4_lines.desc).map (fun d => d.parameters.length) = some 0 := by decide +kernel
def rmX9_hCount : Room := { frames := 0, cells := 0, slots := 0, locals := 0 }
def wzX9_hCount : List Cond := .code yX9_hCount cX9_hCount 2 (some .int) :: wsL_law
theorem hinX9_hCount_X90 : ∀ w ∈ wsX90, w ∈ wzX9_hCount := fun w h => List.mem_cons_of_mem _ (inlX9 w h)
def fX9_hCount_27  (σ : zSt) (s0 : Int32) : Option (zSt × Int32) :=
  some (σ, s0)
def fX9_hCount  (σ : zSt)  : Option (zSt × Int32) :=
  zck (zin 21 96) (
  zck (decide (¬ 4 = 0)) (
  zbv (((zgi σ 23 (21 : Int32).toNatClampNeg) * 3) / 4) (fun v1 =>
  if v1 < 148 then fX9_hCount_27 σ v1 else
  fX9_hCount_27 σ (v1 + 85))))
set_option maxRecDepth 20000 in
set_option maxHeartbeats 4000000 in
theorem bX9_hCount_27 {st : Nat → Nat} {p : Program} {l : Launch} {e : Env} {s : State} {m : MethodId} {args : Array Value} {below : List Frame} {meth : Method} {c : Code} {D : va_G} {A : Nat → Prop} {ad : Nat → Nat} {cy : Nat → ClassId} (hC : zC p m c cX9_hCount 2 s args wzX9_hCount RX9 meth (some .int))  {res : zSt × Int32} {H : Heap} {locs : List Loc} {σ : zSt} {ls : Array Slot} {s0 : Int32} (hI : zI st D (tC cy) (wC ad cy σ) A s H locs) (hl : lv_has ls 2 []) (hf : fX9_hCount_27  σ s0 = some res) : W p l e rmX9_hCount s m args below meth c H locs 0 0 (zQi below args s D (tC cy) (wC ad cy) A res) (F0 m 27 ls [.int s0]) := by
  have hx := hC.1
  have hb := hC.2.1
  unfold fX9_hCount_27 at hf
  exact z_ireturn hC hI hf dX9_hCount_27
set_option maxRecDepth 20000 in
set_option maxHeartbeats 4000000 in
theorem bX9_hCount {st : Nat → Nat} {p : Program} {l : Launch} {e : Env} {s : State} {m : MethodId} {args : Array Value} {below : List Frame} {meth : Method} {c : Code} {D : va_G} {A : Nat → Prop} {ad : Nat → Nat} {cy : Nat → ClassId} (hC : zC p m c cX9_hCount 2 s args wzX9_hCount RX9 meth (some .int))  {res : zSt × Int32} {H : Heap} {locs : List Loc} {σ : zSt} {ls : Array Slot}  (hI : zI st D (tC cy) (wC ad cy σ) A s H locs) (hl : lv_has ls 2 [(0, .ref (ad 2))]) (hf : fX9_hCount  σ  = some res) : W p l e rmX9_hCount s m args below meth c H locs 0 0 (zQi below args s D (tC cy) (wC ad cy) A res) (F0 m 0 ls []) := by
  have hx := hC.1
  have hb := hC.2.1
  unfold fX9_hCount at hf
  refine lv_aload_n hx hb dX9_hCount_0 rfl (lv_at hl 0 rfl) ?_
  refine z_get hC hI hinX9_hCount_X90 2 (wC_e2 ad cy σ) rfl 4 (by decide) (List.mem_cons_of_mem _ zw4_8) rfl dX9_hCount_1 ?_
  refine lv_bipush (v := 21) hx hb dX9_hCount_4 (by decide) ?_
  obtain ⟨q, hf⟩ := zck_use hf
  refine z_iald hC hI 23 10 (wC_e23 ad cy σ) (tC_t23 cy) q dX9_hCount_6 ?_
  refine lv_iconst (v := 3) hx hb dX9_hCount_7 (by decide) ?_
  refine lv_imul hx hb dX9_hCount_8 ?_
  refine lv_iconst (v := 4) hx hb dX9_hCount_9 (by decide) ?_
  obtain ⟨q, hf⟩ := zck_use hf
  refine lv_idiv hx hb dX9_hCount_10 (of_decide_eq_true q) ?_
  refine lv_topi (fun v1 ev1 => ?_)
  replace hf := zbv_use ev1 hf
  refine lv_istore_n (lv' := [(1, .int v1), (0, .ref (ad 2))]) hx hb dX9_hCount_11 rfl hl (by decide) rfl (fun ls hl => ?_)
  refine lv_iload_n hx hb dX9_hCount_12 rfl (lv_at hl 0 rfl) ?_
  refine lv_sipush (v := 148) hx hb dX9_hCount_13 (by decide) ?_
  refine lv_icmp_lt (tgt := 26) hx hb dX9_hCount_16 (by decide) (fun q => ?_) (fun q => ?_)
  · replace hf := zif_t q hf
    refine lv_iload_n hx hb dX9_hCount_26 rfl (lv_at hl 0 rfl) ?_
    exact bX9_hCount_27 hC  hI (lv_sub hl [] rfl) hf
  replace hf := zif_f q hf
  refine lv_iload_n hx hb dX9_hCount_19 rfl (lv_at hl 0 rfl) ?_
  refine lv_bipush (v := 85) hx hb dX9_hCount_20 (by decide) ?_
  refine lv_iadd hx hb dX9_hCount_22 ?_
  refine lv_goto (tgt := 27) hx hb dX9_hCount_23 (by decide) ?_
  exact bX9_hCount_27 hC  hI (lv_sub hl [] rfl) hf
set_option maxRecDepth 20000 in
theorem cX9_hCount_met (st : Nat → Nat) (l : Launch) (D : va_G) (ad : Nat → Nat) (cy : Nat → ClassId) (σ : zSt)  (res : zSt × Int32) (hf : fX9_hCount σ  = some res) (sz : Nat) : zMi st l yX9_hCount wzX9_hCount rmX9_hCount [.ref (ad 2)] D (tC cy) (wC ad cy) sz σ res :=
  zMi.of (cc := cX9_hCount) (maxL := 2) (ret := (some .int)) (by decide) rfl (Nat.le_of_ble_eq_true rfl) (fun p e s m args below meth c hC A hI ls hl => bX9_hCount hC hI hl hf)
theorem hdX9_hCount : yX9_hCount.cls = RX9 ∧ yX9_hCount.cls ≠ "java/lang/invoke/MethodHandle" ∧ yX9_hCount.cls ≠ "java/lang/invoke/VarHandle" ∧ (parseMethodDescriptor yX9_hCount.desc).map (fun d => d.parameters.length) = some 0 := by decide +kernel
def rmX4_changeLines : Room := { frames := 1, cells := 0, slots := 0, locals := 23 }
def wzX4_changeLines : List Cond := .code yX4_changeLines cX4_changeLines 4 none :: wsL_law
theorem hinX4_changeLines_X40 : ∀ w ∈ wsX40, w ∈ wzX4_changeLines := fun w h => List.mem_cons_of_mem _ (inlX4 w h)
def fX4_changeLines_37  (σ : zSt)  : Option (zSt) :=
  some σ
def fX4_changeLines  (σ : zSt) (x1 : Int32) (x2 : Int32) : Option (zSt) :=
  zbi (fX4_lines σ ) (fun σ1 v2 =>
  zck (zin x1 12) (zbv (zsi σ1 34 (x1.toNatClampNeg) x2) (fun σ3 =>
  zbi (fX4_lines σ3 ) (fun σ4 v5 =>
  if (v5 &&& (v2 ^^^ (-1))) = 0 then fX4_changeLines_37 σ4 else
  zbi (fX9_hCount σ4 ) (fun σ6 v7 =>
  zck (zin 6 12) (zbv (zsi σ6 34 ((6 : Int32).toNatClampNeg) v7) (fun σ8 =>
  fX4_changeLines_37 σ8)))))))
set_option maxRecDepth 20000 in
set_option maxHeartbeats 4000000 in
theorem bX4_changeLines_37 {st : Nat → Nat} {p : Program} {l : Launch} {e : Env} {s : State} {m : MethodId} {args : Array Value} {below : List Frame} {meth : Method} {c : Code} {D : va_G} {A : Nat → Prop} {ad : Nat → Nat} {cy : Nat → ClassId} (hC : zC p m c cX4_changeLines 4 s args wzX4_changeLines RX4 meth none)  {res : zSt} {H : Heap} {locs : List Loc} {σ : zSt} {ls : Array Slot}  (hI : zI st D (tC cy) (wC ad cy σ) A s H locs) (hl : lv_has ls 4 []) (hf : fX4_changeLines_37  σ  = some res) : W p l e rmX4_changeLines s m args below meth c H locs 0 0 (zQu below args s D (tC cy) (wC ad cy) A res) (F0 m 37 ls []) := by
  have hx := hC.1
  have hb := hC.2.1
  unfold fX4_changeLines_37 at hf
  exact z_return hC hI hf dX4_changeLines_37
set_option maxRecDepth 20000 in
set_option maxHeartbeats 4000000 in
theorem bX4_changeLines {st : Nat → Nat} {p : Program} {l : Launch} {e : Env} {s : State} {m : MethodId} {args : Array Value} {below : List Frame} {meth : Method} {c : Code} {D : va_G} {A : Nat → Prop} {ad : Nat → Nat} {cy : Nat → ClassId} (hC : zC p m c cX4_changeLines 4 s args wzX4_changeLines RX4 meth none)  {res : zSt} {H : Heap} {locs : List Loc} {σ : zSt} {ls : Array Slot} {x1 : Int32} {x2 : Int32} (hI : zI st D (tC cy) (wC ad cy σ) A s H locs) (hl : lv_has ls 4 [(0, .ref (ad 6)), (1, .int x1), (2, .int x2)]) (hf : fX4_changeLines  σ x1 x2 = some res) : W p l e rmX4_changeLines s m args below meth c H locs 0 0 (zQu below args s D (tC cy) (wC ad cy) A res) (F0 m 0 ls []) := by
  have hx := hC.1
  have hb := hC.2.1
  unfold fX4_changeLines at hf
  refine lv_aload_n hx hb dX4_changeLines_0 rfl (lv_at hl 0 rfl) ?_
  obtain ⟨σ1, v2, g1, hf⟩ := zbi_use hf
  refine z_callVi (As := []) (rest := []) hC hI (cX4_lines_met st l D ad cy σ  _ g1) (zgV zw26_21 zw26_22 zw26_23 zw2_17 zw27_0) rfl ⟨rfl, rfl⟩ 0 hdX4_lines ⟨Nat.le_of_ble_eq_true rfl, Nat.le_of_ble_eq_true rfl⟩ rfl rfl (wC_e6 ad cy σ) rfl hl rfl (Nat.le_of_ble_eq_true rfl) dX4_changeLines_1 ⟨Nat.zero_le _, Nat.zero_le _⟩ (fun H locs hI => ?_)
  refine lv_istore_n (lv' := [(3, .int v2), (0, .ref (ad 6)), (1, .int x1), (2, .int x2)]) hx hb dX4_changeLines_4 rfl hl (by decide) rfl (fun ls hl => ?_)
  refine lv_aload_n hx hb dX4_changeLines_5 rfl (lv_at hl 1 rfl) ?_
  refine z_get hC hI hinX4_changeLines_X40 6 (wC_e6 ad cy σ1) rfl 4 (by decide) (List.mem_cons_of_mem _ zw6_15) rfl dX4_changeLines_6 ?_
  refine lv_iload_n hx hb dX4_changeLines_9 rfl (lv_at hl 2 rfl) ?_
  refine lv_iload_n hx hb dX4_changeLines_10 rfl (lv_at hl 3 rfl) ?_
  obtain ⟨q, hf⟩ := zck_use hf
  obtain ⟨σ3, eσ3⟩ : ∃ z, z = zsi σ1 34 (x1.toNatClampNeg) x2 := ⟨_, rfl⟩
  replace hf := zbv_use eσ3 hf
  refine z_iast hC hI 34 21 (wC_e34 ad cy σ1) (tC_t34 cy) q ((wC_s34 ad cy σ1 _ _).trans (congrArg (wC ad cy) eσ3.symm)) dX4_changeLines_11 (fun H locs hI => ?_)
  refine lv_aload_n hx hb dX4_changeLines_12 rfl (lv_at hl 1 rfl) ?_
  obtain ⟨σ4, v5, g4, hf⟩ := zbi_use hf
  refine z_callVi (As := []) (rest := []) hC hI (cX4_lines_met st l D ad cy σ3  _ g4) (zgV zw26_21 zw26_22 zw26_23 zw2_17 zw27_0) rfl ⟨rfl, rfl⟩ 0 hdX4_lines ⟨Nat.le_of_ble_eq_true rfl, Nat.le_of_ble_eq_true rfl⟩ rfl rfl (wC_e6 ad cy σ3) rfl hl rfl (Nat.le_of_ble_eq_true rfl) dX4_changeLines_13 ⟨Nat.zero_le _, Nat.zero_le _⟩ (fun H locs hI => ?_)
  refine lv_iload_n hx hb dX4_changeLines_16 rfl (lv_at hl 0 rfl) ?_
  refine lv_iconst (v := (-1)) hx hb dX4_changeLines_17 (by decide) ?_
  refine lv_ixor hx hb dX4_changeLines_18 ?_
  refine lv_iand hx hb dX4_changeLines_19 ?_
  refine lv_if_eq (tgt := 37) hx hb dX4_changeLines_20 (by decide) (fun q => ?_) (fun q => ?_)
  · replace hf := zif_t q hf
    exact bX4_changeLines_37 hC  hI (lv_sub hl [] rfl) hf
  replace hf := zif_f q hf
  refine lv_aload_n hx hb dX4_changeLines_23 rfl (lv_at hl 1 rfl) ?_
  refine z_get hC hI hinX4_changeLines_X40 6 (wC_e6 ad cy σ4) rfl 4 (by decide) (List.mem_cons_of_mem _ zw6_15) rfl dX4_changeLines_24 ?_
  refine lv_bipush (v := 6) hx hb dX4_changeLines_27 (by decide) ?_
  refine lv_aload_n hx hb dX4_changeLines_29 rfl (lv_at hl 1 rfl) ?_
  refine z_get hC hI hinX4_changeLines_X40 6 (wC_e6 ad cy σ4) rfl 1 (by decide) (List.mem_cons_of_mem _ zw6_18) rfl dX4_changeLines_30 ?_
  obtain ⟨σ6, v7, g6, hf⟩ := zbi_use hf
  refine z_callVi (As := []) (rest := [.int 6, .ref (ad 34)]) hC hI (cX9_hCount_met st l D ad cy σ4  _ g6) (zgV zw28_1 zw28_2 zw28_3 zw2_1 zw28_4) rfl ⟨rfl, rfl⟩ 0 hdX9_hCount ⟨Nat.le_of_ble_eq_true rfl, Nat.le_of_ble_eq_true rfl⟩ rfl rfl (wC_e2 ad cy σ4) rfl hl rfl (Nat.le_of_ble_eq_true rfl) dX4_changeLines_33 ⟨Nat.zero_le _, Nat.zero_le _⟩ (fun H locs hI => ?_)
  obtain ⟨q, hf⟩ := zck_use hf
  obtain ⟨σ8, eσ8⟩ : ∃ z, z = zsi σ6 34 ((6 : Int32).toNatClampNeg) v7 := ⟨_, rfl⟩
  replace hf := zbv_use eσ8 hf
  refine z_iast hC hI 34 21 (wC_e34 ad cy σ6) (tC_t34 cy) q ((wC_s34 ad cy σ6 _ _).trans (congrArg (wC ad cy) eσ8.symm)) dX4_changeLines_36 (fun H locs hI => ?_)
  exact bX4_changeLines_37 hC  hI (lv_sub hl [] rfl) hf
set_option maxRecDepth 20000 in
theorem cX4_changeLines_met (st : Nat → Nat) (l : Launch) (D : va_G) (ad : Nat → Nat) (cy : Nat → ClassId) (σ : zSt) (x1 : Int32) (x2 : Int32) (res : zSt) (hf : fX4_changeLines σ x1 x2 = some res) (sz : Nat) : zMu st l yX4_changeLines wzX4_changeLines rmX4_changeLines [.ref (ad 6), .int x1, .int x2] D (tC cy) (wC ad cy) sz σ res :=
  zMu.of (cc := cX4_changeLines) (maxL := 4) (ret := none) (by decide) rfl (Nat.le_of_ble_eq_true rfl) (fun p e s m args below meth c hC A hI ls hl => bX4_changeLines hC hI hl hf)
theorem hdX4_changeLines : yX4_changeLines.cls = RX4 ∧ yX4_changeLines.cls ≠ "java/lang/invoke/MethodHandle" ∧ yX4_changeLines.cls ≠ "java/lang/invoke/VarHandle" ∧ (parseMethodDescriptor yX4_changeLines.desc).map (fun d => d.parameters.length) = some 2 := by decide +kernel
def rmX4_moveLine : Room := { frames := 2, cells := 0, slots := 0, locals := 46 }
def wzX4_moveLine : List Cond := .code yX4_moveLine cX4_moveLine 3 none :: wsL_law
def fX4_moveLine_16  (σ : zSt) (s0 : Int32) (s1 : Int32) : Option (zSt) :=
  zbu (fX4_changeLines σ s1 s0) (fun σ1 =>
  some σ1)
def fX4_moveLine  (σ : zSt) (x1 : Int32) (x2 : Int32) : Option (zSt) :=
  if x2 = 0 then fX4_moveLine_16 σ 0 (10 + (x1 &&& 1)) else
  fX4_moveLine_16 σ 1 (10 + (x1 &&& 1))
set_option maxRecDepth 20000 in
set_option maxHeartbeats 4000000 in
theorem bX4_moveLine_16 {st : Nat → Nat} {p : Program} {l : Launch} {e : Env} {s : State} {m : MethodId} {args : Array Value} {below : List Frame} {meth : Method} {c : Code} {D : va_G} {A : Nat → Prop} {ad : Nat → Nat} {cy : Nat → ClassId} (hC : zC p m c cX4_moveLine 3 s args wzX4_moveLine RX4 meth none)  {res : zSt} {H : Heap} {locs : List Loc} {σ : zSt} {ls : Array Slot} {s0 : Int32} {s1 : Int32} (hI : zI st D (tC cy) (wC ad cy σ) A s H locs) (hl : lv_has ls 3 []) (hf : fX4_moveLine_16  σ s0 s1 = some res) : W p l e rmX4_moveLine s m args below meth c H locs 0 0 (zQu below args s D (tC cy) (wC ad cy) A res) (F0 m 16 ls [.int s0, .int s1, .ref (ad 6)]) := by
  have hx := hC.1
  have hb := hC.2.1
  unfold fX4_moveLine_16 at hf
  obtain ⟨σ1, g1, hf⟩ := zbu_use hf
  refine z_callVu (As := [.int s1, .int s0]) (rest := []) hC hI (cX4_changeLines_met st l D ad cy σ s1 s0 _ g1) (zgV zw27_21 zw27_22 zw27_23 zw2_17 zw28_0) rfl ⟨rfl, rfl⟩ 2 hdX4_changeLines ⟨Nat.le_of_ble_eq_true rfl, Nat.le_of_ble_eq_true rfl⟩ rfl rfl (wC_e6 ad cy σ) rfl hl rfl (Nat.le_of_ble_eq_true rfl) dX4_moveLine_16 ⟨Nat.zero_le _, Nat.zero_le _⟩ (fun H locs hI => ?_)
  exact z_return hC hI hf dX4_moveLine_19
set_option maxRecDepth 20000 in
set_option maxHeartbeats 4000000 in
theorem bX4_moveLine {st : Nat → Nat} {p : Program} {l : Launch} {e : Env} {s : State} {m : MethodId} {args : Array Value} {below : List Frame} {meth : Method} {c : Code} {D : va_G} {A : Nat → Prop} {ad : Nat → Nat} {cy : Nat → ClassId} (hC : zC p m c cX4_moveLine 3 s args wzX4_moveLine RX4 meth none)  {res : zSt} {H : Heap} {locs : List Loc} {σ : zSt} {ls : Array Slot} {x1 : Int32} {x2 : Int32} (hI : zI st D (tC cy) (wC ad cy σ) A s H locs) (hl : lv_has ls 3 [(0, .ref (ad 6)), (1, .int x1), (2, .int x2)]) (hf : fX4_moveLine  σ x1 x2 = some res) : W p l e rmX4_moveLine s m args below meth c H locs 0 0 (zQu below args s D (tC cy) (wC ad cy) A res) (F0 m 0 ls []) := by
  have hx := hC.1
  have hb := hC.2.1
  unfold fX4_moveLine at hf
  refine lv_aload_n hx hb dX4_moveLine_0 rfl (lv_at hl 0 rfl) ?_
  refine lv_bipush (v := 10) hx hb dX4_moveLine_1 (by decide) ?_
  refine lv_iload_n hx hb dX4_moveLine_3 rfl (lv_at hl 1 rfl) ?_
  refine lv_iconst (v := 1) hx hb dX4_moveLine_4 (by decide) ?_
  refine lv_iand hx hb dX4_moveLine_5 ?_
  refine lv_iadd hx hb dX4_moveLine_6 ?_
  refine lv_iload_n hx hb dX4_moveLine_7 rfl (lv_at hl 2 rfl) ?_
  refine lv_if_eq (tgt := 15) hx hb dX4_moveLine_8 (by decide) (fun q => ?_) (fun q => ?_)
  · replace hf := zif_t q hf
    refine lv_iconst (v := 0) hx hb dX4_moveLine_15 (by decide) ?_
    exact bX4_moveLine_16 hC  hI (lv_sub hl [] rfl) hf
  replace hf := zif_f q hf
  refine lv_iconst (v := 1) hx hb dX4_moveLine_11 (by decide) ?_
  refine lv_goto (tgt := 16) hx hb dX4_moveLine_12 (by decide) ?_
  exact bX4_moveLine_16 hC  hI (lv_sub hl [] rfl) hf
set_option maxRecDepth 20000 in
theorem cX4_moveLine_met (st : Nat → Nat) (l : Launch) (D : va_G) (ad : Nat → Nat) (cy : Nat → ClassId) (σ : zSt) (x1 : Int32) (x2 : Int32) (res : zSt) (hf : fX4_moveLine σ x1 x2 = some res) (sz : Nat) : zMu st l yX4_moveLine wzX4_moveLine rmX4_moveLine [.ref (ad 6), .int x1, .int x2] D (tC cy) (wC ad cy) sz σ res :=
  zMu.of (cc := cX4_moveLine) (maxL := 3) (ret := none) (by decide) rfl (Nat.le_of_ble_eq_true rfl) (fun p e s m args below meth c hC A hI ls hl => bX4_moveLine hC hI hl hf)
theorem hdX4_moveLine : yX4_moveLine.cls = RX4 ∧ yX4_moveLine.cls ≠ "java/lang/invoke/MethodHandle" ∧ yX4_moveLine.cls ≠ "java/lang/invoke/VarHandle" ∧ (parseMethodDescriptor yX4_moveLine.desc).map (fun d => d.parameters.length) = some 2 := by decide +kernel
def rmX10_value : Room := { frames := 0, cells := 0, slots := 0, locals := 0 }
def wzX10_value : List Cond := .code yX10_value cX10_value 2 (some .int) :: wsL_law
theorem hinX10_value_X100 : ∀ w ∈ wsX100, w ∈ wzX10_value := fun w h => List.mem_cons_of_mem _ (inlX10 w h)
def fX10_value_11  (σ : zSt)  : Option (zSt × Int32) :=
  some (σ, 0)
def fX10_value_38  (σ : zSt) (s0 : Int32) : Option (zSt × Int32) :=
  some (σ, s0)
def fX10_value  (σ : zSt) (x1 : Int32) : Option (zSt × Int32) :=
  if x1 < 0 then fX10_value_11 σ else
  if x1 < 272 then if x1 = 66 then zck (zin 66 272) (
  fX10_value_38 σ ((zgi σ 32 (66 : Int32).toNatClampNeg) &&& 65535)) else
  zck (zin x1 272) (
  fX10_value_38 σ (zgi σ 32 x1.toNatClampNeg)) else
  fX10_value_11 σ
set_option maxRecDepth 20000 in
set_option maxHeartbeats 4000000 in
theorem bX10_value_11 {st : Nat → Nat} {p : Program} {l : Launch} {e : Env} {s : State} {m : MethodId} {args : Array Value} {below : List Frame} {meth : Method} {c : Code} {D : va_G} {A : Nat → Prop} {ad : Nat → Nat} {cy : Nat → ClassId} (hC : zC p m c cX10_value 2 s args wzX10_value RX10 meth (some .int))  {res : zSt × Int32} {H : Heap} {locs : List Loc} {σ : zSt} {ls : Array Slot}  (hI : zI st D (tC cy) (wC ad cy σ) A s H locs) (hl : lv_has ls 2 []) (hf : fX10_value_11  σ  = some res) : W p l e rmX10_value s m args below meth c H locs 0 0 (zQi below args s D (tC cy) (wC ad cy) A res) (F0 m 11 ls []) := by
  have hx := hC.1
  have hb := hC.2.1
  unfold fX10_value_11 at hf
  refine lv_iconst (v := 0) hx hb dX10_value_11 (by decide) ?_
  exact z_ireturn hC hI hf dX10_value_12
set_option maxRecDepth 20000 in
set_option maxHeartbeats 4000000 in
theorem bX10_value_38 {st : Nat → Nat} {p : Program} {l : Launch} {e : Env} {s : State} {m : MethodId} {args : Array Value} {below : List Frame} {meth : Method} {c : Code} {D : va_G} {A : Nat → Prop} {ad : Nat → Nat} {cy : Nat → ClassId} (hC : zC p m c cX10_value 2 s args wzX10_value RX10 meth (some .int))  {res : zSt × Int32} {H : Heap} {locs : List Loc} {σ : zSt} {ls : Array Slot} {s0 : Int32} (hI : zI st D (tC cy) (wC ad cy σ) A s H locs) (hl : lv_has ls 2 []) (hf : fX10_value_38  σ s0 = some res) : W p l e rmX10_value s m args below meth c H locs 0 0 (zQi below args s D (tC cy) (wC ad cy) A res) (F0 m 38 ls [.int s0]) := by
  have hx := hC.1
  have hb := hC.2.1
  unfold fX10_value_38 at hf
  exact z_ireturn hC hI hf dX10_value_38
set_option maxRecDepth 20000 in
set_option maxHeartbeats 4000000 in
theorem bX10_value {st : Nat → Nat} {p : Program} {l : Launch} {e : Env} {s : State} {m : MethodId} {args : Array Value} {below : List Frame} {meth : Method} {c : Code} {D : va_G} {A : Nat → Prop} {ad : Nat → Nat} {cy : Nat → ClassId} (hC : zC p m c cX10_value 2 s args wzX10_value RX10 meth (some .int))  {res : zSt × Int32} {H : Heap} {locs : List Loc} {σ : zSt} {ls : Array Slot} {x1 : Int32} (hI : zI st D (tC cy) (wC ad cy σ) A s H locs) (hl : lv_has ls 2 [(0, .ref (ad 5)), (1, .int x1)]) (hf : fX10_value  σ x1 = some res) : W p l e rmX10_value s m args below meth c H locs 0 0 (zQi below args s D (tC cy) (wC ad cy) A res) (F0 m 0 ls []) := by
  have hx := hC.1
  have hb := hC.2.1
  unfold fX10_value at hf
  refine lv_iload_n hx hb dX10_value_0 rfl (lv_at hl 1 rfl) ?_
  refine lv_if_lt (tgt := 11) hx hb dX10_value_1 (by decide) (fun q => ?_) (fun q => ?_)
  · replace hf := zif_t q hf
    exact bX10_value_11 hC  hI (lv_sub hl [] rfl) hf
  replace hf := zif_f q hf
  refine lv_iload_n hx hb dX10_value_4 rfl (lv_at hl 1 rfl) ?_
  refine lv_sipush (v := 272) hx hb dX10_value_5 (by decide) ?_
  refine lv_icmp_lt (tgt := 13) hx hb dX10_value_8 (by decide) (fun q => ?_) (fun q => ?_)
  · replace hf := zif_t q hf
    refine lv_iload_n hx hb dX10_value_13 rfl (lv_at hl 1 rfl) ?_
    refine lv_bipush (v := 66) hx hb dX10_value_14 (by decide) ?_
    refine lv_icmp_ne (tgt := 32) hx hb dX10_value_16 (by decide) (fun q => ?_) (fun q => ?_)
    · replace hf := zif_f q hf
      refine lv_aload_n hx hb dX10_value_32 rfl (lv_at hl 0 rfl) ?_
      refine z_get hC hI hinX10_value_X100 5 (wC_e5 ad cy σ) rfl 0 (by decide) (List.mem_cons_of_mem _ zw6_4) rfl dX10_value_33 ?_
      refine lv_iload_n hx hb dX10_value_36 rfl (lv_at hl 1 rfl) ?_
      obtain ⟨q, hf⟩ := zck_use hf
      refine z_iald hC hI 32 19 (wC_e32 ad cy σ) (tC_t32 cy) q dX10_value_37 ?_
      exact bX10_value_38 hC  hI (lv_sub hl [] rfl) hf
    replace hf := zif_t q hf
    refine lv_aload_n hx hb dX10_value_19 rfl (lv_at hl 0 rfl) ?_
    refine z_get hC hI hinX10_value_X100 5 (wC_e5 ad cy σ) rfl 0 (by decide) (List.mem_cons_of_mem _ zw6_4) rfl dX10_value_20 ?_
    refine lv_bipush (v := 66) hx hb dX10_value_23 (by decide) ?_
    obtain ⟨q, hf⟩ := zck_use hf
    refine z_iald hC hI 32 19 (wC_e32 ad cy σ) (tC_t32 cy) q dX10_value_25 ?_
    refine lv_ldc (v := 65535) hx hb hC.2.2.2.1 (hC.2.2.2.2.1 _ (List.mem_cons_of_mem _ zw26_12)) dX10_value_26 ?_
    refine lv_iand hx hb dX10_value_28 ?_
    refine lv_goto (tgt := 38) hx hb dX10_value_29 (by decide) ?_
    exact bX10_value_38 hC  hI (lv_sub hl [] rfl) hf
  replace hf := zif_f q hf
  exact bX10_value_11 hC  hI (lv_sub hl [] rfl) hf
set_option maxRecDepth 20000 in
theorem cX10_value_met (st : Nat → Nat) (l : Launch) (D : va_G) (ad : Nat → Nat) (cy : Nat → ClassId) (σ : zSt) (x1 : Int32) (res : zSt × Int32) (hf : fX10_value σ x1 = some res) (sz : Nat) : zMi st l yX10_value wzX10_value rmX10_value [.ref (ad 5), .int x1] D (tC cy) (wC ad cy) sz σ res :=
  zMi.of (cc := cX10_value) (maxL := 2) (ret := (some .int)) (by decide) rfl (Nat.le_of_ble_eq_true rfl) (fun p e s m args below meth c hC A hI ls hl => bX10_value hC hI hl hf)
theorem hdX10_value : yX10_value.cls = RX10 ∧ yX10_value.cls ≠ "java/lang/invoke/MethodHandle" ∧ yX10_value.cls ≠ "java/lang/invoke/VarHandle" ∧ (parseMethodDescriptor yX10_value.desc).map (fun d => d.parameters.length) = some 1 := by decide +kernel
def rmX4_readEvenPads : Room := { frames := 0, cells := 0, slots := 0, locals := 0 }
def wzX4_readEvenPads : List Cond := .code yX4_readEvenPads cX4_readEvenPads 2 (some .int) :: wsL_law
theorem hinX4_readEvenPads_X40 : ∀ w ∈ wsX40, w ∈ wzX4_readEvenPads := fun w h => List.mem_cons_of_mem _ (inlX4 w h)
def fX4_readEvenPads_56  (σ : zSt) (s0 : Int32) : Option (zSt × Int32) :=
  some (σ, s0)
def fX4_readEvenPads  (σ : zSt)  : Option (zSt × Int32) :=
  zck (zin 7 12) (
  zck (zin 8 12) (
  zbv ((((zgi σ 34 (7 : Int32).toNatClampNeg) ||| ((zgi σ 34 (8 : Int32).toNatClampNeg) <<< ((6 : Int32) &&& 31))) ^^^ (-1)) &&& 255) (fun v1 =>
  zck (zin 0 12) (
  if ((zgi σ 34 (0 : Int32).toNatClampNeg) &&& 1) = 0 then zck (zin 0 12) (
  fX4_readEvenPads_56 σ ((v1 &&& (-33)) ||| (((zgi σ 34 (0 : Int32).toNatClampNeg) &&& 16) <<< ((1 : Int32) &&& 31)))) else
  fX4_readEvenPads_56 σ v1))))
set_option maxRecDepth 20000 in
set_option maxHeartbeats 4000000 in
theorem bX4_readEvenPads_56 {st : Nat → Nat} {p : Program} {l : Launch} {e : Env} {s : State} {m : MethodId} {args : Array Value} {below : List Frame} {meth : Method} {c : Code} {D : va_G} {A : Nat → Prop} {ad : Nat → Nat} {cy : Nat → ClassId} (hC : zC p m c cX4_readEvenPads 2 s args wzX4_readEvenPads RX4 meth (some .int))  {res : zSt × Int32} {H : Heap} {locs : List Loc} {σ : zSt} {ls : Array Slot} {s0 : Int32} (hI : zI st D (tC cy) (wC ad cy σ) A s H locs) (hl : lv_has ls 2 []) (hf : fX4_readEvenPads_56  σ s0 = some res) : W p l e rmX4_readEvenPads s m args below meth c H locs 0 0 (zQi below args s D (tC cy) (wC ad cy) A res) (F0 m 56 ls [.int s0]) := by
  have hx := hC.1
  have hb := hC.2.1
  unfold fX4_readEvenPads_56 at hf
  exact z_ireturn hC hI hf dX4_readEvenPads_56
set_option maxRecDepth 20000 in
set_option maxHeartbeats 4000000 in
theorem bX4_readEvenPads {st : Nat → Nat} {p : Program} {l : Launch} {e : Env} {s : State} {m : MethodId} {args : Array Value} {below : List Frame} {meth : Method} {c : Code} {D : va_G} {A : Nat → Prop} {ad : Nat → Nat} {cy : Nat → ClassId} (hC : zC p m c cX4_readEvenPads 2 s args wzX4_readEvenPads RX4 meth (some .int))  {res : zSt × Int32} {H : Heap} {locs : List Loc} {σ : zSt} {ls : Array Slot}  (hI : zI st D (tC cy) (wC ad cy σ) A s H locs) (hl : lv_has ls 2 [(0, .ref (ad 6))]) (hf : fX4_readEvenPads  σ  = some res) : W p l e rmX4_readEvenPads s m args below meth c H locs 0 0 (zQi below args s D (tC cy) (wC ad cy) A res) (F0 m 0 ls []) := by
  have hx := hC.1
  have hb := hC.2.1
  unfold fX4_readEvenPads at hf
  refine lv_aload_n hx hb dX4_readEvenPads_0 rfl (lv_at hl 0 rfl) ?_
  refine z_get hC hI hinX4_readEvenPads_X40 6 (wC_e6 ad cy σ) rfl 4 (by decide) (List.mem_cons_of_mem _ zw6_15) rfl dX4_readEvenPads_1 ?_
  refine lv_bipush (v := 7) hx hb dX4_readEvenPads_4 (by decide) ?_
  obtain ⟨q, hf⟩ := zck_use hf
  refine z_iald hC hI 34 21 (wC_e34 ad cy σ) (tC_t34 cy) q dX4_readEvenPads_6 ?_
  refine lv_aload_n hx hb dX4_readEvenPads_7 rfl (lv_at hl 0 rfl) ?_
  refine z_get hC hI hinX4_readEvenPads_X40 6 (wC_e6 ad cy σ) rfl 4 (by decide) (List.mem_cons_of_mem _ zw6_15) rfl dX4_readEvenPads_8 ?_
  refine lv_bipush (v := 8) hx hb dX4_readEvenPads_11 (by decide) ?_
  obtain ⟨q, hf⟩ := zck_use hf
  refine z_iald hC hI 34 21 (wC_e34 ad cy σ) (tC_t34 cy) q dX4_readEvenPads_13 ?_
  refine lv_bipush (v := 6) hx hb dX4_readEvenPads_14 (by decide) ?_
  refine lv_ishl hx hb dX4_readEvenPads_16 ?_
  refine lv_ior hx hb dX4_readEvenPads_17 ?_
  refine lv_iconst (v := (-1)) hx hb dX4_readEvenPads_18 (by decide) ?_
  refine lv_ixor hx hb dX4_readEvenPads_19 ?_
  refine lv_sipush (v := 255) hx hb dX4_readEvenPads_20 (by decide) ?_
  refine lv_iand hx hb dX4_readEvenPads_23 ?_
  refine lv_topi (fun v1 ev1 => ?_)
  replace hf := zbv_use ev1 hf
  refine lv_istore_n (lv' := [(1, .int v1), (0, .ref (ad 6))]) hx hb dX4_readEvenPads_24 rfl hl (by decide) rfl (fun ls hl => ?_)
  refine lv_aload_n hx hb dX4_readEvenPads_25 rfl (lv_at hl 1 rfl) ?_
  refine z_get hC hI hinX4_readEvenPads_X40 6 (wC_e6 ad cy σ) rfl 4 (by decide) (List.mem_cons_of_mem _ zw6_15) rfl dX4_readEvenPads_26 ?_
  refine lv_iconst (v := 0) hx hb dX4_readEvenPads_29 (by decide) ?_
  obtain ⟨q, hf⟩ := zck_use hf
  refine z_iald hC hI 34 21 (wC_e34 ad cy σ) (tC_t34 cy) q dX4_readEvenPads_30 ?_
  refine lv_iconst (v := 1) hx hb dX4_readEvenPads_31 (by decide) ?_
  refine lv_iand hx hb dX4_readEvenPads_32 ?_
  refine lv_if_ne (tgt := 55) hx hb dX4_readEvenPads_33 (by decide) (fun q => ?_) (fun q => ?_)
  · replace hf := zif_f q hf
    refine lv_iload_n hx hb dX4_readEvenPads_55 rfl (lv_at hl 0 rfl) ?_
    exact bX4_readEvenPads_56 hC  hI (lv_sub hl [] rfl) hf
  replace hf := zif_t q hf
  refine lv_iload_n hx hb dX4_readEvenPads_36 rfl (lv_at hl 0 rfl) ?_
  refine lv_bipush (v := (-33)) hx hb dX4_readEvenPads_37 (by decide) ?_
  refine lv_iand hx hb dX4_readEvenPads_39 ?_
  refine lv_aload_n hx hb dX4_readEvenPads_40 rfl (lv_at hl 1 rfl) ?_
  refine z_get hC hI hinX4_readEvenPads_X40 6 (wC_e6 ad cy σ) rfl 4 (by decide) (List.mem_cons_of_mem _ zw6_15) rfl dX4_readEvenPads_41 ?_
  refine lv_iconst (v := 0) hx hb dX4_readEvenPads_44 (by decide) ?_
  obtain ⟨q, hf⟩ := zck_use hf
  refine z_iald hC hI 34 21 (wC_e34 ad cy σ) (tC_t34 cy) q dX4_readEvenPads_45 ?_
  refine lv_bipush (v := 16) hx hb dX4_readEvenPads_46 (by decide) ?_
  refine lv_iand hx hb dX4_readEvenPads_48 ?_
  refine lv_iconst (v := 1) hx hb dX4_readEvenPads_49 (by decide) ?_
  refine lv_ishl hx hb dX4_readEvenPads_50 ?_
  refine lv_ior hx hb dX4_readEvenPads_51 ?_
  refine lv_goto (tgt := 56) hx hb dX4_readEvenPads_52 (by decide) ?_
  exact bX4_readEvenPads_56 hC  hI (lv_sub hl [] rfl) hf
set_option maxRecDepth 20000 in
theorem cX4_readEvenPads_met (st : Nat → Nat) (l : Launch) (D : va_G) (ad : Nat → Nat) (cy : Nat → ClassId) (σ : zSt)  (res : zSt × Int32) (hf : fX4_readEvenPads σ  = some res) (sz : Nat) : zMi st l yX4_readEvenPads wzX4_readEvenPads rmX4_readEvenPads [.ref (ad 6)] D (tC cy) (wC ad cy) sz σ res :=
  zMi.of (cc := cX4_readEvenPads) (maxL := 2) (ret := (some .int)) (by decide) rfl (Nat.le_of_ble_eq_true rfl) (fun p e s m args below meth c hC A hI ls hl => bX4_readEvenPads hC hI hl hf)
theorem hdX4_readEvenPads : yX4_readEvenPads.cls = RX4 ∧ yX4_readEvenPads.cls ≠ "java/lang/invoke/MethodHandle" ∧ yX4_readEvenPads.cls ≠ "java/lang/invoke/VarHandle" ∧ (parseMethodDescriptor yX4_readEvenPads.desc).map (fun d => d.parameters.length) = some 0 := by decide +kernel
