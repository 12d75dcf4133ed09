def kn_cX2_aboutCard : Nat := 0xac5900b62aac5200b6600a101100b42a2aac7e0f104a00b6600f101100b42a2aac7a074a00b6600f101100b42a2aac60687a074a00b6600e101100b42a2a10271160685600b60d102a64105600b60c102aac1100b42aac3a00b42aac4400b42a78000000690000005b00000038000000330000002e00000029000000060000000000000084000000aa1bac0305009c1100b42a0c00a1061b
theorem zk_cX2_aboutCard : zkd cX2_aboutCard.data.toList kn_cX2_aboutCard = true := by decide +kernel
theorem zn_cX2_aboutCard : cX2_aboutCard.data.toList.length = 152 := by decide +kernel
theorem dX2_aboutCard_0 : decode cX2_aboutCard 0 = .ok (.iload_n 1, 1) := zo_27 (zkb zk_cX2_aboutCard zn_cX2_aboutCard (by decide +kernel))
theorem dX2_aboutCard_1 : decode cX2_aboutCard 1 = .ok (.iconst 3, 1) := zo_6 (zkb zk_cX2_aboutCard zn_cX2_aboutCard (by decide +kernel))
theorem dX2_aboutCard_2 : decode cX2_aboutCard 2 = .ok (.if_icmp .lt 12, 3) := zo_161 (b1 := 0) (b2 := 12) (zkb3 zk_cX2_aboutCard zn_cX2_aboutCard (by decide +kernel)) rfl
theorem dX2_aboutCard_5 : decode cX2_aboutCard 5 = .ok (.aload_n 0, 1) := zo_42 (zkb zk_cX2_aboutCard zn_cX2_aboutCard (by decide +kernel))
theorem dX2_aboutCard_6 : decode cX2_aboutCard 6 = .ok (.getfield 17, 3) := zo_180 (b1 := 0) (b2 := 17) (zkb3 zk_cX2_aboutCard zn_cX2_aboutCard (by decide +kernel)) rfl
theorem dX2_aboutCard_9 : decode cX2_aboutCard 9 = .ok (.ifCond .ge 5, 3) := zo_156 (b1 := 0) (b2 := 5) (zkb3 zk_cX2_aboutCard zn_cX2_aboutCard (by decide +kernel)) rfl
theorem dX2_aboutCard_12 : decode cX2_aboutCard 12 = .ok (.iconst 0, 1) := zo_3 (zkb zk_cX2_aboutCard zn_cX2_aboutCard (by decide +kernel))
theorem dX2_aboutCard_13 : decode cX2_aboutCard 13 = .ok (.ireturn, 1) := zo_172 (zkb zk_cX2_aboutCard zn_cX2_aboutCard (by decide +kernel))
theorem dX2_aboutCard_14 : decode cX2_aboutCard 14 = .ok (.iload_n 1, 1) := zo_27 (zkb zk_cX2_aboutCard zn_cX2_aboutCard (by decide +kernel))
theorem dX2_aboutCard_15 : decode cX2_aboutCard 15 = .ok (.tableswitch 132 0 6 #[41, 46, 51, 56, 91, 105, 120], 41) := by decide +kernel
theorem dX2_aboutCard_56 : decode cX2_aboutCard 56 = .ok (.aload_n 0, 1) := zo_42 (zkb zk_cX2_aboutCard zn_cX2_aboutCard (by decide +kernel))
theorem dX2_aboutCard_57 : decode cX2_aboutCard 57 = .ok (.getfield 68, 3) := zo_180 (b1 := 0) (b2 := 68) (zkb3 zk_cX2_aboutCard zn_cX2_aboutCard (by decide +kernel)) rfl
theorem dX2_aboutCard_60 : decode cX2_aboutCard 60 = .ok (.ireturn, 1) := zo_172 (zkb zk_cX2_aboutCard zn_cX2_aboutCard (by decide +kernel))
theorem dX2_aboutCard_61 : decode cX2_aboutCard 61 = .ok (.aload_n 0, 1) := zo_42 (zkb zk_cX2_aboutCard zn_cX2_aboutCard (by decide +kernel))
theorem dX2_aboutCard_62 : decode cX2_aboutCard 62 = .ok (.getfield 58, 3) := zo_180 (b1 := 0) (b2 := 58) (zkb3 zk_cX2_aboutCard zn_cX2_aboutCard (by decide +kernel)) rfl
theorem dX2_aboutCard_65 : decode cX2_aboutCard 65 = .ok (.ireturn, 1) := zo_172 (zkb zk_cX2_aboutCard zn_cX2_aboutCard (by decide +kernel))
theorem dX2_aboutCard_66 : decode cX2_aboutCard 66 = .ok (.aload_n 0, 1) := zo_42 (zkb zk_cX2_aboutCard zn_cX2_aboutCard (by decide +kernel))
theorem dX2_aboutCard_67 : decode cX2_aboutCard 67 = .ok (.getfield 17, 3) := zo_180 (b1 := 0) (b2 := 17) (zkb3 zk_cX2_aboutCard zn_cX2_aboutCard (by decide +kernel)) rfl
theorem dX2_aboutCard_70 : decode cX2_aboutCard 70 = .ok (.ireturn, 1) := zo_172 (zkb zk_cX2_aboutCard zn_cX2_aboutCard (by decide +kernel))
theorem dX2_aboutCard_71 : decode cX2_aboutCard 71 = .ok (.aload_n 0, 1) := zo_42 (zkb zk_cX2_aboutCard zn_cX2_aboutCard (by decide +kernel))
theorem dX2_aboutCard_72 : decode cX2_aboutCard 72 = .ok (.bipush 12, 2) := zo_16 (b1 := 12) (zkb2 zk_cX2_aboutCard zn_cX2_aboutCard (by decide +kernel)) rfl
theorem dX2_aboutCard_74 : decode cX2_aboutCard 74 = .ok (.invokevirtual 86, 3) := zo_182 (b1 := 0) (b2 := 86) (zkb3 zk_cX2_aboutCard zn_cX2_aboutCard (by decide +kernel)) rfl
theorem dX2_aboutCard_77 : decode cX2_aboutCard 77 = .ok (.bipush 100, 2) := zo_16 (b1 := 100) (zkb2 zk_cX2_aboutCard zn_cX2_aboutCard (by decide +kernel)) rfl
theorem dX2_aboutCard_79 : decode cX2_aboutCard 79 = .ok (.aload_n 0, 1) := zo_42 (zkb zk_cX2_aboutCard zn_cX2_aboutCard (by decide +kernel))
theorem dX2_aboutCard_80 : decode cX2_aboutCard 80 = .ok (.bipush 13, 2) := zo_16 (b1 := 13) (zkb2 zk_cX2_aboutCard zn_cX2_aboutCard (by decide +kernel)) rfl
theorem dX2_aboutCard_82 : decode cX2_aboutCard 82 = .ok (.invokevirtual 86, 3) := zo_182 (b1 := 0) (b2 := 86) (zkb3 zk_cX2_aboutCard zn_cX2_aboutCard (by decide +kernel)) rfl
theorem dX2_aboutCard_85 : decode cX2_aboutCard 85 = .ok (.imul, 1) := zo_104 (zkb zk_cX2_aboutCard zn_cX2_aboutCard (by decide +kernel))
theorem dX2_aboutCard_86 : decode cX2_aboutCard 86 = .ok (.iadd, 1) := zo_96 (zkb zk_cX2_aboutCard zn_cX2_aboutCard (by decide +kernel))
theorem dX2_aboutCard_87 : decode cX2_aboutCard 87 = .ok (.sipush 10000, 3) := zo_17 (b1 := 39) (b2 := 16) (zkb3 zk_cX2_aboutCard zn_cX2_aboutCard (by decide +kernel)) rfl
theorem dX2_aboutCard_90 : decode cX2_aboutCard 90 = .ok (.aload_n 0, 1) := zo_42 (zkb zk_cX2_aboutCard zn_cX2_aboutCard (by decide +kernel))
theorem dX2_aboutCard_91 : decode cX2_aboutCard 91 = .ok (.aload_n 0, 1) := zo_42 (zkb zk_cX2_aboutCard zn_cX2_aboutCard (by decide +kernel))
theorem dX2_aboutCard_92 : decode cX2_aboutCard 92 = .ok (.getfield 17, 3) := zo_180 (b1 := 0) (b2 := 17) (zkb3 zk_cX2_aboutCard zn_cX2_aboutCard (by decide +kernel)) rfl
theorem dX2_aboutCard_95 : decode cX2_aboutCard 95 = .ok (.bipush 14, 2) := zo_16 (b1 := 14) (zkb2 zk_cX2_aboutCard zn_cX2_aboutCard (by decide +kernel)) rfl
theorem dX2_aboutCard_97 : decode cX2_aboutCard 97 = .ok (.iadd, 1) := zo_96 (zkb zk_cX2_aboutCard zn_cX2_aboutCard (by decide +kernel))
theorem dX2_aboutCard_98 : decode cX2_aboutCard 98 = .ok (.invokevirtual 74, 3) := zo_182 (b1 := 0) (b2 := 74) (zkb3 zk_cX2_aboutCard zn_cX2_aboutCard (by decide +kernel)) rfl
theorem dX2_aboutCard_101 : decode cX2_aboutCard 101 = .ok (.iconst 4, 1) := zo_7 (zkb zk_cX2_aboutCard zn_cX2_aboutCard (by decide +kernel))
theorem dX2_aboutCard_102 : decode cX2_aboutCard 102 = .ok (.ishr, 1) := zo_122 (zkb zk_cX2_aboutCard zn_cX2_aboutCard (by decide +kernel))
theorem dX2_aboutCard_103 : decode cX2_aboutCard 103 = .ok (.imul, 1) := zo_104 (zkb zk_cX2_aboutCard zn_cX2_aboutCard (by decide +kernel))
theorem dX2_aboutCard_104 : decode cX2_aboutCard 104 = .ok (.iadd, 1) := zo_96 (zkb zk_cX2_aboutCard zn_cX2_aboutCard (by decide +kernel))
theorem dX2_aboutCard_105 : decode cX2_aboutCard 105 = .ok (.ireturn, 1) := zo_172 (zkb zk_cX2_aboutCard zn_cX2_aboutCard (by decide +kernel))
theorem dX2_aboutCard_106 : decode cX2_aboutCard 106 = .ok (.aload_n 0, 1) := zo_42 (zkb zk_cX2_aboutCard zn_cX2_aboutCard (by decide +kernel))
theorem dX2_aboutCard_107 : decode cX2_aboutCard 107 = .ok (.aload_n 0, 1) := zo_42 (zkb zk_cX2_aboutCard zn_cX2_aboutCard (by decide +kernel))
theorem dX2_aboutCard_108 : decode cX2_aboutCard 108 = .ok (.getfield 17, 3) := zo_180 (b1 := 0) (b2 := 17) (zkb3 zk_cX2_aboutCard zn_cX2_aboutCard (by decide +kernel)) rfl
theorem dX2_aboutCard_111 : decode cX2_aboutCard 111 = .ok (.bipush 15, 2) := zo_16 (b1 := 15) (zkb2 zk_cX2_aboutCard zn_cX2_aboutCard (by decide +kernel)) rfl
theorem dX2_aboutCard_113 : decode cX2_aboutCard 113 = .ok (.iadd, 1) := zo_96 (zkb zk_cX2_aboutCard zn_cX2_aboutCard (by decide +kernel))
theorem dX2_aboutCard_114 : decode cX2_aboutCard 114 = .ok (.invokevirtual 74, 3) := zo_182 (b1 := 0) (b2 := 74) (zkb3 zk_cX2_aboutCard zn_cX2_aboutCard (by decide +kernel)) rfl
theorem dX2_aboutCard_117 : decode cX2_aboutCard 117 = .ok (.iconst 4, 1) := zo_7 (zkb zk_cX2_aboutCard zn_cX2_aboutCard (by decide +kernel))
theorem dX2_aboutCard_118 : decode cX2_aboutCard 118 = .ok (.ishr, 1) := zo_122 (zkb zk_cX2_aboutCard zn_cX2_aboutCard (by decide +kernel))
theorem dX2_aboutCard_119 : decode cX2_aboutCard 119 = .ok (.ireturn, 1) := zo_172 (zkb zk_cX2_aboutCard zn_cX2_aboutCard (by decide +kernel))
theorem dX2_aboutCard_120 : decode cX2_aboutCard 120 = .ok (.aload_n 0, 1) := zo_42 (zkb zk_cX2_aboutCard zn_cX2_aboutCard (by decide +kernel))
theorem dX2_aboutCard_121 : decode cX2_aboutCard 121 = .ok (.aload_n 0, 1) := zo_42 (zkb zk_cX2_aboutCard zn_cX2_aboutCard (by decide +kernel))
theorem dX2_aboutCard_122 : decode cX2_aboutCard 122 = .ok (.getfield 17, 3) := zo_180 (b1 := 0) (b2 := 17) (zkb3 zk_cX2_aboutCard zn_cX2_aboutCard (by decide +kernel)) rfl
theorem dX2_aboutCard_125 : decode cX2_aboutCard 125 = .ok (.bipush 15, 2) := zo_16 (b1 := 15) (zkb2 zk_cX2_aboutCard zn_cX2_aboutCard (by decide +kernel)) rfl
theorem dX2_aboutCard_127 : decode cX2_aboutCard 127 = .ok (.iadd, 1) := zo_96 (zkb zk_cX2_aboutCard zn_cX2_aboutCard (by decide +kernel))
theorem dX2_aboutCard_128 : decode cX2_aboutCard 128 = .ok (.invokevirtual 74, 3) := zo_182 (b1 := 0) (b2 := 74) (zkb3 zk_cX2_aboutCard zn_cX2_aboutCard (by decide +kernel)) rfl
theorem dX2_aboutCard_131 : decode cX2_aboutCard 131 = .ok (.bipush 15, 2) := zo_16 (b1 := 15) (zkb2 zk_cX2_aboutCard zn_cX2_aboutCard (by decide +kernel)) rfl
theorem dX2_aboutCard_133 : decode cX2_aboutCard 133 = .ok (.iand, 1) := zo_126 (zkb zk_cX2_aboutCard zn_cX2_aboutCard (by decide +kernel))
theorem dX2_aboutCard_134 : decode cX2_aboutCard 134 = .ok (.ireturn, 1) := zo_172 (zkb zk_cX2_aboutCard zn_cX2_aboutCard (by decide +kernel))
theorem dX2_aboutCard_135 : decode cX2_aboutCard 135 = .ok (.aload_n 0, 1) := zo_42 (zkb zk_cX2_aboutCard zn_cX2_aboutCard (by decide +kernel))
theorem dX2_aboutCard_136 : decode cX2_aboutCard 136 = .ok (.aload_n 0, 1) := zo_42 (zkb zk_cX2_aboutCard zn_cX2_aboutCard (by decide +kernel))
theorem dX2_aboutCard_137 : decode cX2_aboutCard 137 = .ok (.getfield 17, 3) := zo_180 (b1 := 0) (b2 := 17) (zkb3 zk_cX2_aboutCard zn_cX2_aboutCard (by decide +kernel)) rfl
theorem dX2_aboutCard_140 : decode cX2_aboutCard 140 = .ok (.bipush 10, 2) := zo_16 (b1 := 10) (zkb2 zk_cX2_aboutCard zn_cX2_aboutCard (by decide +kernel)) rfl
theorem dX2_aboutCard_142 : decode cX2_aboutCard 142 = .ok (.iadd, 1) := zo_96 (zkb zk_cX2_aboutCard zn_cX2_aboutCard (by decide +kernel))
theorem dX2_aboutCard_143 : decode cX2_aboutCard 143 = .ok (.invokevirtual 82, 3) := zo_182 (b1 := 0) (b2 := 82) (zkb3 zk_cX2_aboutCard zn_cX2_aboutCard (by decide +kernel)) rfl
theorem dX2_aboutCard_146 : decode cX2_aboutCard 146 = .ok (.ireturn, 1) := zo_172 (zkb zk_cX2_aboutCard zn_cX2_aboutCard (by decide +kernel))
theorem dX2_aboutCard_147 : decode cX2_aboutCard 147 = .ok (.aload_n 0, 1) := zo_42 (zkb zk_cX2_aboutCard zn_cX2_aboutCard (by decide +kernel))
theorem dX2_aboutCard_148 : decode cX2_aboutCard 148 = .ok (.invokevirtual 89, 3) := zo_182 (b1 := 0) (b2 := 89) (zkb3 zk_cX2_aboutCard zn_cX2_aboutCard (by decide +kernel)) rfl
theorem dX2_aboutCard_151 : decode cX2_aboutCard 151 = .ok (.ireturn, 1) := zo_172 (zkb zk_cX2_aboutCard zn_cX2_aboutCard (by decide +kernel))
def kn_cX2_decimal : Nat := 0xac607e0f101c687a071c0a103d4a00b6601b1100b42a2a
theorem zk_cX2_decimal : zkd cX2_decimal.data.toList kn_cX2_decimal = true := by decide +kernel
theorem zn_cX2_decimal : cX2_decimal.data.toList.length = 23 := by decide +kernel
theorem dX2_decimal_0 : decode cX2_decimal 0 = .ok (.aload_n 0, 1) := zo_42 (zkb zk_cX2_decimal zn_cX2_decimal (by decide +kernel))
theorem dX2_decimal_1 : decode cX2_decimal 1 = .ok (.aload_n 0, 1) := zo_42 (zkb zk_cX2_decimal zn_cX2_decimal (by decide +kernel))
theorem dX2_decimal_2 : decode cX2_decimal 2 = .ok (.getfield 17, 3) := zo_180 (b1 := 0) (b2 := 17) (zkb3 zk_cX2_decimal zn_cX2_decimal (by decide +kernel)) rfl
theorem dX2_decimal_5 : decode cX2_decimal 5 = .ok (.iload_n 1, 1) := zo_27 (zkb zk_cX2_decimal zn_cX2_decimal (by decide +kernel))
theorem dX2_decimal_6 : decode cX2_decimal 6 = .ok (.iadd, 1) := zo_96 (zkb zk_cX2_decimal zn_cX2_decimal (by decide +kernel))
theorem dX2_decimal_7 : decode cX2_decimal 7 = .ok (.invokevirtual 74, 3) := zo_182 (b1 := 0) (b2 := 74) (zkb3 zk_cX2_decimal zn_cX2_decimal (by decide +kernel)) rfl
theorem dX2_decimal_10 : decode cX2_decimal 10 = .ok (.istore_n 2, 1) := zo_61 (zkb zk_cX2_decimal zn_cX2_decimal (by decide +kernel))
theorem dX2_decimal_11 : decode cX2_decimal 11 = .ok (.bipush 10, 2) := zo_16 (b1 := 10) (zkb2 zk_cX2_decimal zn_cX2_decimal (by decide +kernel)) rfl
theorem dX2_decimal_13 : decode cX2_decimal 13 = .ok (.iload_n 2, 1) := zo_28 (zkb zk_cX2_decimal zn_cX2_decimal (by decide +kernel))
theorem dX2_decimal_14 : decode cX2_decimal 14 = .ok (.iconst 4, 1) := zo_7 (zkb zk_cX2_decimal zn_cX2_decimal (by decide +kernel))
theorem dX2_decimal_15 : decode cX2_decimal 15 = .ok (.ishr, 1) := zo_122 (zkb zk_cX2_decimal zn_cX2_decimal (by decide +kernel))
theorem dX2_decimal_16 : decode cX2_decimal 16 = .ok (.imul, 1) := zo_104 (zkb zk_cX2_decimal zn_cX2_decimal (by decide +kernel))
theorem dX2_decimal_17 : decode cX2_decimal 17 = .ok (.iload_n 2, 1) := zo_28 (zkb zk_cX2_decimal zn_cX2_decimal (by decide +kernel))
theorem dX2_decimal_18 : decode cX2_decimal 18 = .ok (.bipush 15, 2) := zo_16 (b1 := 15) (zkb2 zk_cX2_decimal zn_cX2_decimal (by decide +kernel)) rfl
theorem dX2_decimal_20 : decode cX2_decimal 20 = .ok (.iand, 1) := zo_126 (zkb zk_cX2_decimal zn_cX2_decimal (by decide +kernel))
theorem dX2_decimal_21 : decode cX2_decimal 21 = .ok (.iadd, 1) := zo_96 (zkb zk_cX2_decimal zn_cX2_decimal (by decide +kernel))
theorem dX2_decimal_22 : decode cX2_decimal 22 = .ok (.ireturn, 1) := zo_172 (zkb zk_cX2_decimal zn_cX2_decimal (by decide +kernel))
def kn_cX2_sumOfCard : Nat := 0xac7e5c121cedffa70103843d604a00b61d2a1c1100a23700b42a1d3e1b121c00a3051b0800a20e101bedffa70103843d604a00b61d2a1c1100a21100b42a1d3e033d033c7e0f104a00b6600f101100b42a2a
theorem zk_cX2_sumOfCard : zkd cX2_sumOfCard.data.toList kn_cX2_sumOfCard = true := by decide +kernel
theorem zn_cX2_sumOfCard : cX2_sumOfCard.data.toList.length = 82 := by decide +kernel
theorem dX2_sumOfCard_0 : decode cX2_sumOfCard 0 = .ok (.aload_n 0, 1) := zo_42 (zkb zk_cX2_sumOfCard zn_cX2_sumOfCard (by decide +kernel))
theorem dX2_sumOfCard_1 : decode cX2_sumOfCard 1 = .ok (.aload_n 0, 1) := zo_42 (zkb zk_cX2_sumOfCard zn_cX2_sumOfCard (by decide +kernel))
theorem dX2_sumOfCard_2 : decode cX2_sumOfCard 2 = .ok (.getfield 17, 3) := zo_180 (b1 := 0) (b2 := 17) (zkb3 zk_cX2_sumOfCard zn_cX2_sumOfCard (by decide +kernel)) rfl
theorem dX2_sumOfCard_5 : decode cX2_sumOfCard 5 = .ok (.bipush 15, 2) := zo_16 (b1 := 15) (zkb2 zk_cX2_sumOfCard zn_cX2_sumOfCard (by decide +kernel)) rfl
theorem dX2_sumOfCard_7 : decode cX2_sumOfCard 7 = .ok (.iadd, 1) := zo_96 (zkb zk_cX2_sumOfCard zn_cX2_sumOfCard (by decide +kernel))
theorem dX2_sumOfCard_8 : decode cX2_sumOfCard 8 = .ok (.invokevirtual 74, 3) := zo_182 (b1 := 0) (b2 := 74) (zkb3 zk_cX2_sumOfCard zn_cX2_sumOfCard (by decide +kernel)) rfl
theorem dX2_sumOfCard_11 : decode cX2_sumOfCard 11 = .ok (.bipush 15, 2) := zo_16 (b1 := 15) (zkb2 zk_cX2_sumOfCard zn_cX2_sumOfCard (by decide +kernel)) rfl
theorem dX2_sumOfCard_13 : decode cX2_sumOfCard 13 = .ok (.iand, 1) := zo_126 (zkb zk_cX2_sumOfCard zn_cX2_sumOfCard (by decide +kernel))
theorem dX2_sumOfCard_14 : decode cX2_sumOfCard 14 = .ok (.istore_n 1, 1) := zo_60 (zkb zk_cX2_sumOfCard zn_cX2_sumOfCard (by decide +kernel))
theorem dX2_sumOfCard_15 : decode cX2_sumOfCard 15 = .ok (.iconst 0, 1) := zo_3 (zkb zk_cX2_sumOfCard zn_cX2_sumOfCard (by decide +kernel))
theorem dX2_sumOfCard_16 : decode cX2_sumOfCard 16 = .ok (.istore_n 2, 1) := zo_61 (zkb zk_cX2_sumOfCard zn_cX2_sumOfCard (by decide +kernel))
theorem dX2_sumOfCard_17 : decode cX2_sumOfCard 17 = .ok (.iconst 0, 1) := zo_3 (zkb zk_cX2_sumOfCard zn_cX2_sumOfCard (by decide +kernel))
theorem dX2_sumOfCard_18 : decode cX2_sumOfCard 18 = .ok (.istore_n 3, 1) := zo_62 (zkb zk_cX2_sumOfCard zn_cX2_sumOfCard (by decide +kernel))
theorem dX2_sumOfCard_19 : decode cX2_sumOfCard 19 = .ok (.iload_n 3, 1) := zo_29 (zkb zk_cX2_sumOfCard zn_cX2_sumOfCard (by decide +kernel))
theorem dX2_sumOfCard_20 : decode cX2_sumOfCard 20 = .ok (.aload_n 0, 1) := zo_42 (zkb zk_cX2_sumOfCard zn_cX2_sumOfCard (by decide +kernel))
theorem dX2_sumOfCard_21 : decode cX2_sumOfCard 21 = .ok (.getfield 17, 3) := zo_180 (b1 := 0) (b2 := 17) (zkb3 zk_cX2_sumOfCard zn_cX2_sumOfCard (by decide +kernel)) rfl
theorem dX2_sumOfCard_24 : decode cX2_sumOfCard 24 = .ok (.if_icmp .ge 17, 3) := zo_162 (b1 := 0) (b2 := 17) (zkb3 zk_cX2_sumOfCard zn_cX2_sumOfCard (by decide +kernel)) rfl
theorem dX2_sumOfCard_27 : decode cX2_sumOfCard 27 = .ok (.iload_n 2, 1) := zo_28 (zkb zk_cX2_sumOfCard zn_cX2_sumOfCard (by decide +kernel))
theorem dX2_sumOfCard_28 : decode cX2_sumOfCard 28 = .ok (.aload_n 0, 1) := zo_42 (zkb zk_cX2_sumOfCard zn_cX2_sumOfCard (by decide +kernel))
theorem dX2_sumOfCard_29 : decode cX2_sumOfCard 29 = .ok (.iload_n 3, 1) := zo_29 (zkb zk_cX2_sumOfCard zn_cX2_sumOfCard (by decide +kernel))
theorem dX2_sumOfCard_30 : decode cX2_sumOfCard 30 = .ok (.invokevirtual 74, 3) := zo_182 (b1 := 0) (b2 := 74) (zkb3 zk_cX2_sumOfCard zn_cX2_sumOfCard (by decide +kernel)) rfl
theorem dX2_sumOfCard_33 : decode cX2_sumOfCard 33 = .ok (.iadd, 1) := zo_96 (zkb zk_cX2_sumOfCard zn_cX2_sumOfCard (by decide +kernel))
theorem dX2_sumOfCard_34 : decode cX2_sumOfCard 34 = .ok (.istore_n 2, 1) := zo_61 (zkb zk_cX2_sumOfCard zn_cX2_sumOfCard (by decide +kernel))
theorem dX2_sumOfCard_35 : decode cX2_sumOfCard 35 = .ok (.iinc 3 1, 3) := zo_132 (b1 := 3) (b2 := 1) (zkb3 zk_cX2_sumOfCard zn_cX2_sumOfCard (by decide +kernel)) rfl
theorem dX2_sumOfCard_38 : decode cX2_sumOfCard 38 = .ok (.goto (-19), 3) := zo_167 (b1 := 255) (b2 := 237) (zkb3 zk_cX2_sumOfCard zn_cX2_sumOfCard (by decide +kernel)) rfl
theorem dX2_sumOfCard_41 : decode cX2_sumOfCard 41 = .ok (.iload_n 1, 1) := zo_27 (zkb zk_cX2_sumOfCard zn_cX2_sumOfCard (by decide +kernel))
theorem dX2_sumOfCard_42 : decode cX2_sumOfCard 42 = .ok (.bipush 14, 2) := zo_16 (b1 := 14) (zkb2 zk_cX2_sumOfCard zn_cX2_sumOfCard (by decide +kernel)) rfl
theorem dX2_sumOfCard_44 : decode cX2_sumOfCard 44 = .ok (.if_icmp .ge 8, 3) := zo_162 (b1 := 0) (b2 := 8) (zkb3 zk_cX2_sumOfCard zn_cX2_sumOfCard (by decide +kernel)) rfl
theorem dX2_sumOfCard_47 : decode cX2_sumOfCard 47 = .ok (.iload_n 1, 1) := zo_27 (zkb zk_cX2_sumOfCard zn_cX2_sumOfCard (by decide +kernel))
theorem dX2_sumOfCard_48 : decode cX2_sumOfCard 48 = .ok (.iconst 2, 1) := zo_5 (zkb zk_cX2_sumOfCard zn_cX2_sumOfCard (by decide +kernel))
theorem dX2_sumOfCard_49 : decode cX2_sumOfCard 49 = .ok (.if_icmp .gt 28, 3) := zo_163 (b1 := 0) (b2 := 28) (zkb3 zk_cX2_sumOfCard zn_cX2_sumOfCard (by decide +kernel)) rfl
theorem dX2_sumOfCard_52 : decode cX2_sumOfCard 52 = .ok (.ldc 27, 2) := zo_18 (b1 := 27) (zkb2 zk_cX2_sumOfCard zn_cX2_sumOfCard (by decide +kernel))
theorem dX2_sumOfCard_54 : decode cX2_sumOfCard 54 = .ok (.istore_n 3, 1) := zo_62 (zkb zk_cX2_sumOfCard zn_cX2_sumOfCard (by decide +kernel))
theorem dX2_sumOfCard_55 : decode cX2_sumOfCard 55 = .ok (.iload_n 3, 1) := zo_29 (zkb zk_cX2_sumOfCard zn_cX2_sumOfCard (by decide +kernel))
theorem dX2_sumOfCard_56 : decode cX2_sumOfCard 56 = .ok (.aload_n 0, 1) := zo_42 (zkb zk_cX2_sumOfCard zn_cX2_sumOfCard (by decide +kernel))
theorem dX2_sumOfCard_57 : decode cX2_sumOfCard 57 = .ok (.getfield 55, 3) := zo_180 (b1 := 0) (b2 := 55) (zkb3 zk_cX2_sumOfCard zn_cX2_sumOfCard (by decide +kernel)) rfl
theorem dX2_sumOfCard_60 : decode cX2_sumOfCard 60 = .ok (.if_icmp .ge 17, 3) := zo_162 (b1 := 0) (b2 := 17) (zkb3 zk_cX2_sumOfCard zn_cX2_sumOfCard (by decide +kernel)) rfl
theorem dX2_sumOfCard_63 : decode cX2_sumOfCard 63 = .ok (.iload_n 2, 1) := zo_28 (zkb zk_cX2_sumOfCard zn_cX2_sumOfCard (by decide +kernel))
theorem dX2_sumOfCard_64 : decode cX2_sumOfCard 64 = .ok (.aload_n 0, 1) := zo_42 (zkb zk_cX2_sumOfCard zn_cX2_sumOfCard (by decide +kernel))
theorem dX2_sumOfCard_65 : decode cX2_sumOfCard 65 = .ok (.iload_n 3, 1) := zo_29 (zkb zk_cX2_sumOfCard zn_cX2_sumOfCard (by decide +kernel))
theorem dX2_sumOfCard_66 : decode cX2_sumOfCard 66 = .ok (.invokevirtual 74, 3) := zo_182 (b1 := 0) (b2 := 74) (zkb3 zk_cX2_sumOfCard zn_cX2_sumOfCard (by decide +kernel)) rfl
theorem dX2_sumOfCard_69 : decode cX2_sumOfCard 69 = .ok (.iadd, 1) := zo_96 (zkb zk_cX2_sumOfCard zn_cX2_sumOfCard (by decide +kernel))
theorem dX2_sumOfCard_70 : decode cX2_sumOfCard 70 = .ok (.istore_n 2, 1) := zo_61 (zkb zk_cX2_sumOfCard zn_cX2_sumOfCard (by decide +kernel))
theorem dX2_sumOfCard_71 : decode cX2_sumOfCard 71 = .ok (.iinc 3 1, 3) := zo_132 (b1 := 3) (b2 := 1) (zkb3 zk_cX2_sumOfCard zn_cX2_sumOfCard (by decide +kernel)) rfl
theorem dX2_sumOfCard_74 : decode cX2_sumOfCard 74 = .ok (.goto (-19), 3) := zo_167 (b1 := 255) (b2 := 237) (zkb3 zk_cX2_sumOfCard zn_cX2_sumOfCard (by decide +kernel)) rfl
theorem dX2_sumOfCard_77 : decode cX2_sumOfCard 77 = .ok (.iload_n 2, 1) := zo_28 (zkb zk_cX2_sumOfCard zn_cX2_sumOfCard (by decide +kernel))
theorem dX2_sumOfCard_78 : decode cX2_sumOfCard 78 = .ok (.ldc 92, 2) := zo_18 (b1 := 92) (zkb2 zk_cX2_sumOfCard zn_cX2_sumOfCard (by decide +kernel))
theorem dX2_sumOfCard_80 : decode cX2_sumOfCard 80 = .ok (.iand, 1) := zo_126 (zkb zk_cX2_sumOfCard zn_cX2_sumOfCard (by decide +kernel))
theorem dX2_sumOfCard_81 : decode cX2_sumOfCard 81 = .ok (.ireturn, 1) := zo_172 (zkb zk_cX2_sumOfCard zn_cX2_sumOfCard (by decide +kernel))
def kn_cX2_cardSize : Nat := 0xac3700b42a
theorem zk_cX2_cardSize : zkd cX2_cardSize.data.toList kn_cX2_cardSize = true := by decide +kernel
theorem zn_cX2_cardSize : cX2_cardSize.data.toList.length = 5 := by decide +kernel
theorem dX2_cardSize_0 : decode cX2_cardSize 0 = .ok (.aload_n 0, 1) := zo_42 (zkb zk_cX2_cardSize zn_cX2_cardSize (by decide +kernel))
theorem dX2_cardSize_1 : decode cX2_cardSize 1 = .ok (.getfield 55, 3) := zo_180 (b1 := 0) (b2 := 55) (zkb3 zk_cX2_cardSize zn_cX2_cardSize (by decide +kernel)) rfl
theorem dX2_cardSize_4 : decode cX2_cardSize 4 = .ok (.ireturn, 1) := zo_172 (zkb zk_cX2_cardSize zn_cX2_cardSize (by decide +kernel))
def kn_cX2_page : Nat := 0xac2e7e061b2200b42a
theorem zk_cX2_page : zkd cX2_page.data.toList kn_cX2_page = true := by decide +kernel
theorem zn_cX2_page : cX2_page.data.toList.length = 9 := by decide +kernel
theorem dX2_page_0 : decode cX2_page 0 = .ok (.aload_n 0, 1) := zo_42 (zkb zk_cX2_page zn_cX2_page (by decide +kernel))
theorem dX2_page_1 : decode cX2_page 1 = .ok (.getfield 34, 3) := zo_180 (b1 := 0) (b2 := 34) (zkb3 zk_cX2_page zn_cX2_page (by decide +kernel)) rfl
theorem dX2_page_4 : decode cX2_page 4 = .ok (.iload_n 1, 1) := zo_27 (zkb zk_cX2_page zn_cX2_page (by decide +kernel))
theorem dX2_page_5 : decode cX2_page 5 = .ok (.iconst 3, 1) := zo_6 (zkb zk_cX2_page zn_cX2_page (by decide +kernel))
theorem dX2_page_6 : decode cX2_page 6 = .ok (.iand, 1) := zo_126 (zkb zk_cX2_page zn_cX2_page (by decide +kernel))
theorem dX2_page_7 : decode cX2_page 7 = .ok (.iaload, 1) := zo_46 (zkb zk_cX2_page zn_cX2_page (by decide +kernel))
theorem dX2_page_8 : decode cX2_page 8 = .ok (.ireturn, 1) := zo_172 (zkb zk_cX2_page zn_cX2_page (by decide +kernel))
def kn_cX2_read : Nat := 0xacff00110600a72e601d3400b42a0e00b42a1100a23700b42a1d3e607eff3f111c68004011703a00b42a06150636030600a20004111c0d00a0044400b42a06362e04152200b42a0a00a7041508009905150536030400a7040700a20504150d00a0064400b42a04367a0e101cac2e6100b61c2a1c00b42a0e00995d00b62a1500a11b121c6d009e3a00b42a7400994400b42a3e1cac2e7eff1f111c1500b42a0e00a151121c3d7e5c121b
theorem zk_cX2_read : zkd cX2_read.data.toList kn_cX2_read = true := by decide +kernel
theorem zn_cX2_read : cX2_read.data.toList.length = 170 := by decide +kernel
theorem dX2_read_0 : decode cX2_read 0 = .ok (.iload_n 1, 1) := zo_27 (zkb zk_cX2_read zn_cX2_read (by decide +kernel))
theorem dX2_read_1 : decode cX2_read 1 = .ok (.ldc 92, 2) := zo_18 (b1 := 92) (zkb2 zk_cX2_read zn_cX2_read (by decide +kernel))
theorem dX2_read_3 : decode cX2_read 3 = .ok (.iand, 1) := zo_126 (zkb zk_cX2_read zn_cX2_read (by decide +kernel))
theorem dX2_read_4 : decode cX2_read 4 = .ok (.istore_n 2, 1) := zo_61 (zkb zk_cX2_read zn_cX2_read (by decide +kernel))
theorem dX2_read_5 : decode cX2_read 5 = .ok (.iload_n 2, 1) := zo_28 (zkb zk_cX2_read zn_cX2_read (by decide +kernel))
theorem dX2_read_6 : decode cX2_read 6 = .ok (.ldc 81, 2) := zo_18 (b1 := 81) (zkb2 zk_cX2_read zn_cX2_read (by decide +kernel))
theorem dX2_read_8 : decode cX2_read 8 = .ok (.if_icmp .lt 14, 3) := zo_161 (b1 := 0) (b2 := 14) (zkb3 zk_cX2_read zn_cX2_read (by decide +kernel)) rfl
theorem dX2_read_11 : decode cX2_read 11 = .ok (.aload_n 0, 1) := zo_42 (zkb zk_cX2_read zn_cX2_read (by decide +kernel))
theorem dX2_read_12 : decode cX2_read 12 = .ok (.getfield 21, 3) := zo_180 (b1 := 0) (b2 := 21) (zkb3 zk_cX2_read zn_cX2_read (by decide +kernel)) rfl
theorem dX2_read_15 : decode cX2_read 15 = .ok (.iload_n 2, 1) := zo_28 (zkb zk_cX2_read zn_cX2_read (by decide +kernel))
theorem dX2_read_16 : decode cX2_read 16 = .ok (.sipush 8191, 3) := zo_17 (b1 := 31) (b2 := 255) (zkb3 zk_cX2_read zn_cX2_read (by decide +kernel)) rfl
theorem dX2_read_19 : decode cX2_read 19 = .ok (.iand, 1) := zo_126 (zkb zk_cX2_read zn_cX2_read (by decide +kernel))
theorem dX2_read_20 : decode cX2_read 20 = .ok (.iaload, 1) := zo_46 (zkb zk_cX2_read zn_cX2_read (by decide +kernel))
theorem dX2_read_21 : decode cX2_read 21 = .ok (.ireturn, 1) := zo_172 (zkb zk_cX2_read zn_cX2_read (by decide +kernel))
theorem dX2_read_22 : decode cX2_read 22 = .ok (.iload_n 2, 1) := zo_28 (zkb zk_cX2_read zn_cX2_read (by decide +kernel))
theorem dX2_read_23 : decode cX2_read 23 = .ok (.istore_n 3, 1) := zo_62 (zkb zk_cX2_read zn_cX2_read (by decide +kernel))
theorem dX2_read_24 : decode cX2_read 24 = .ok (.aload_n 0, 1) := zo_42 (zkb zk_cX2_read zn_cX2_read (by decide +kernel))
theorem dX2_read_25 : decode cX2_read 25 = .ok (.getfield 68, 3) := zo_180 (b1 := 0) (b2 := 68) (zkb3 zk_cX2_read zn_cX2_read (by decide +kernel)) rfl
theorem dX2_read_28 : decode cX2_read 28 = .ok (.ifCond .eq 116, 3) := zo_153 (b1 := 0) (b2 := 116) (zkb3 zk_cX2_read zn_cX2_read (by decide +kernel)) rfl
theorem dX2_read_31 : decode cX2_read 31 = .ok (.aload_n 0, 1) := zo_42 (zkb zk_cX2_read zn_cX2_read (by decide +kernel))
theorem dX2_read_32 : decode cX2_read 32 = .ok (.getfield 58, 3) := zo_180 (b1 := 0) (b2 := 58) (zkb3 zk_cX2_read zn_cX2_read (by decide +kernel)) rfl
theorem dX2_read_35 : decode cX2_read 35 = .ok (.ifCond .le 109, 3) := zo_158 (b1 := 0) (b2 := 109) (zkb3 zk_cX2_read zn_cX2_read (by decide +kernel)) rfl
theorem dX2_read_38 : decode cX2_read 38 = .ok (.iload_n 2, 1) := zo_28 (zkb zk_cX2_read zn_cX2_read (by decide +kernel))
theorem dX2_read_39 : decode cX2_read 39 = .ok (.ldc 27, 2) := zo_18 (b1 := 27) (zkb2 zk_cX2_read zn_cX2_read (by decide +kernel))
theorem dX2_read_41 : decode cX2_read 41 = .ok (.if_icmp .lt 21, 3) := zo_161 (b1 := 0) (b2 := 21) (zkb3 zk_cX2_read zn_cX2_read (by decide +kernel)) rfl
theorem dX2_read_44 : decode cX2_read 44 = .ok (.aload_n 0, 1) := zo_42 (zkb zk_cX2_read zn_cX2_read (by decide +kernel))
theorem dX2_read_45 : decode cX2_read 45 = .ok (.invokevirtual 93, 3) := zo_182 (b1 := 0) (b2 := 93) (zkb3 zk_cX2_read zn_cX2_read (by decide +kernel)) rfl
theorem dX2_read_48 : decode cX2_read 48 = .ok (.ifCond .eq 14, 3) := zo_153 (b1 := 0) (b2 := 14) (zkb3 zk_cX2_read zn_cX2_read (by decide +kernel)) rfl
theorem dX2_read_51 : decode cX2_read 51 = .ok (.aload_n 0, 1) := zo_42 (zkb zk_cX2_read zn_cX2_read (by decide +kernel))
theorem dX2_read_52 : decode cX2_read 52 = .ok (.getfield 28, 3) := zo_180 (b1 := 0) (b2 := 28) (zkb3 zk_cX2_read zn_cX2_read (by decide +kernel)) rfl
theorem dX2_read_55 : decode cX2_read 55 = .ok (.aload_n 0, 1) := zo_42 (zkb zk_cX2_read zn_cX2_read (by decide +kernel))
theorem dX2_read_56 : decode cX2_read 56 = .ok (.iload_n 2, 1) := zo_28 (zkb zk_cX2_read zn_cX2_read (by decide +kernel))
theorem dX2_read_57 : decode cX2_read 57 = .ok (.invokevirtual 97, 3) := zo_182 (b1 := 0) (b2 := 97) (zkb3 zk_cX2_read zn_cX2_read (by decide +kernel)) rfl
theorem dX2_read_60 : decode cX2_read 60 = .ok (.iaload, 1) := zo_46 (zkb zk_cX2_read zn_cX2_read (by decide +kernel))
theorem dX2_read_61 : decode cX2_read 61 = .ok (.ireturn, 1) := zo_172 (zkb zk_cX2_read zn_cX2_read (by decide +kernel))
theorem dX2_read_62 : decode cX2_read 62 = .ok (.iload_n 2, 1) := zo_28 (zkb zk_cX2_read zn_cX2_read (by decide +kernel))
theorem dX2_read_63 : decode cX2_read 63 = .ok (.bipush 14, 2) := zo_16 (b1 := 14) (zkb2 zk_cX2_read zn_cX2_read (by decide +kernel)) rfl
theorem dX2_read_65 : decode cX2_read 65 = .ok (.ishr, 1) := zo_122 (zkb zk_cX2_read zn_cX2_read (by decide +kernel))
theorem dX2_read_66 : decode cX2_read 66 = .ok (.istore 4, 2) := zo_54 (b1 := 4) (zkb2 zk_cX2_read zn_cX2_read (by decide +kernel))
theorem dX2_read_68 : decode cX2_read 68 = .ok (.aload_n 0, 1) := zo_42 (zkb zk_cX2_read zn_cX2_read (by decide +kernel))
theorem dX2_read_69 : decode cX2_read 69 = .ok (.getfield 68, 3) := zo_180 (b1 := 0) (b2 := 68) (zkb3 zk_cX2_read zn_cX2_read (by decide +kernel)) rfl
theorem dX2_read_72 : decode cX2_read 72 = .ok (.iconst 3, 1) := zo_6 (zkb zk_cX2_read zn_cX2_read (by decide +kernel))
theorem dX2_read_73 : decode cX2_read 73 = .ok (.if_icmp .ne 13, 3) := zo_160 (b1 := 0) (b2 := 13) (zkb3 zk_cX2_read zn_cX2_read (by decide +kernel)) rfl
theorem dX2_read_76 : decode cX2_read 76 = .ok (.iload 4, 2) := zo_21 (b1 := 4) (zkb2 zk_cX2_read zn_cX2_read (by decide +kernel))
theorem dX2_read_78 : decode cX2_read 78 = .ok (.iconst 2, 1) := zo_5 (zkb zk_cX2_read zn_cX2_read (by decide +kernel))
theorem dX2_read_79 : decode cX2_read 79 = .ok (.if_icmp .ge 7, 3) := zo_162 (b1 := 0) (b2 := 7) (zkb3 zk_cX2_read zn_cX2_read (by decide +kernel)) rfl
theorem dX2_read_82 : decode cX2_read 82 = .ok (.iconst 1, 1) := zo_4 (zkb zk_cX2_read zn_cX2_read (by decide +kernel))
theorem dX2_read_83 : decode cX2_read 83 = .ok (.goto 4, 3) := zo_167 (b1 := 0) (b2 := 4) (zkb3 zk_cX2_read zn_cX2_read (by decide +kernel)) rfl
theorem dX2_read_86 : decode cX2_read 86 = .ok (.iconst 0, 1) := zo_3 (zkb zk_cX2_read zn_cX2_read (by decide +kernel))
theorem dX2_read_87 : decode cX2_read 87 = .ok (.istore 5, 2) := zo_54 (b1 := 5) (zkb2 zk_cX2_read zn_cX2_read (by decide +kernel))
theorem dX2_read_89 : decode cX2_read 89 = .ok (.iload 5, 2) := zo_21 (b1 := 5) (zkb2 zk_cX2_read zn_cX2_read (by decide +kernel))
theorem dX2_read_91 : decode cX2_read 91 = .ok (.ifCond .eq 8, 3) := zo_153 (b1 := 0) (b2 := 8) (zkb3 zk_cX2_read zn_cX2_read (by decide +kernel)) rfl
theorem dX2_read_94 : decode cX2_read 94 = .ok (.iload 4, 2) := zo_21 (b1 := 4) (zkb2 zk_cX2_read zn_cX2_read (by decide +kernel))
theorem dX2_read_96 : decode cX2_read 96 = .ok (.goto 10, 3) := zo_167 (b1 := 0) (b2 := 10) (zkb3 zk_cX2_read zn_cX2_read (by decide +kernel)) rfl
theorem dX2_read_99 : decode cX2_read 99 = .ok (.aload_n 0, 1) := zo_42 (zkb zk_cX2_read zn_cX2_read (by decide +kernel))
theorem dX2_read_100 : decode cX2_read 100 = .ok (.getfield 34, 3) := zo_180 (b1 := 0) (b2 := 34) (zkb3 zk_cX2_read zn_cX2_read (by decide +kernel)) rfl
theorem dX2_read_103 : decode cX2_read 103 = .ok (.iload 4, 2) := zo_21 (b1 := 4) (zkb2 zk_cX2_read zn_cX2_read (by decide +kernel))
theorem dX2_read_105 : decode cX2_read 105 = .ok (.iaload, 1) := zo_46 (zkb zk_cX2_read zn_cX2_read (by decide +kernel))
theorem dX2_read_106 : decode cX2_read 106 = .ok (.istore 6, 2) := zo_54 (b1 := 6) (zkb2 zk_cX2_read zn_cX2_read (by decide +kernel))
theorem dX2_read_108 : decode cX2_read 108 = .ok (.aload_n 0, 1) := zo_42 (zkb zk_cX2_read zn_cX2_read (by decide +kernel))
theorem dX2_read_109 : decode cX2_read 109 = .ok (.getfield 68, 3) := zo_180 (b1 := 0) (b2 := 68) (zkb3 zk_cX2_read zn_cX2_read (by decide +kernel)) rfl
theorem dX2_read_112 : decode cX2_read 112 = .ok (.iconst 1, 1) := zo_4 (zkb zk_cX2_read zn_cX2_read (by decide +kernel))
theorem dX2_read_113 : decode cX2_read 113 = .ok (.if_icmp .ne 13, 3) := zo_160 (b1 := 0) (b2 := 13) (zkb3 zk_cX2_read zn_cX2_read (by decide +kernel)) rfl
theorem dX2_read_116 : decode cX2_read 116 = .ok (.iload_n 2, 1) := zo_28 (zkb zk_cX2_read zn_cX2_read (by decide +kernel))
theorem dX2_read_117 : decode cX2_read 117 = .ok (.sipush 1024, 3) := zo_17 (b1 := 4) (b2 := 0) (zkb3 zk_cX2_read zn_cX2_read (by decide +kernel)) rfl
theorem dX2_read_120 : decode cX2_read 120 = .ok (.if_icmp .ge 6, 3) := zo_162 (b1 := 0) (b2 := 6) (zkb3 zk_cX2_read zn_cX2_read (by decide +kernel)) rfl
theorem dX2_read_123 : decode cX2_read 123 = .ok (.iconst 0, 1) := zo_3 (zkb zk_cX2_read zn_cX2_read (by decide +kernel))
theorem dX2_read_124 : decode cX2_read 124 = .ok (.istore 6, 2) := zo_54 (b1 := 6) (zkb2 zk_cX2_read zn_cX2_read (by decide +kernel))
theorem dX2_read_126 : decode cX2_read 126 = .ok (.iload 6, 2) := zo_21 (b1 := 6) (zkb2 zk_cX2_read zn_cX2_read (by decide +kernel))
theorem dX2_read_128 : decode cX2_read 128 = .ok (.aload_n 0, 1) := zo_42 (zkb zk_cX2_read zn_cX2_read (by decide +kernel))
theorem dX2_read_129 : decode cX2_read 129 = .ok (.getfield 58, 3) := zo_180 (b1 := 0) (b2 := 58) (zkb3 zk_cX2_read zn_cX2_read (by decide +kernel)) rfl
theorem dX2_read_132 : decode cX2_read 132 = .ok (.irem, 1) := zo_112 (zkb zk_cX2_read zn_cX2_read (by decide +kernel))
theorem dX2_read_133 : decode cX2_read 133 = .ok (.sipush 16384, 3) := zo_17 (b1 := 64) (b2 := 0) (zkb3 zk_cX2_read zn_cX2_read (by decide +kernel)) rfl
theorem dX2_read_136 : decode cX2_read 136 = .ok (.imul, 1) := zo_104 (zkb zk_cX2_read zn_cX2_read (by decide +kernel))
theorem dX2_read_137 : decode cX2_read 137 = .ok (.iload_n 2, 1) := zo_28 (zkb zk_cX2_read zn_cX2_read (by decide +kernel))
theorem dX2_read_138 : decode cX2_read 138 = .ok (.sipush 16383, 3) := zo_17 (b1 := 63) (b2 := 255) (zkb3 zk_cX2_read zn_cX2_read (by decide +kernel)) rfl
theorem dX2_read_141 : decode cX2_read 141 = .ok (.iand, 1) := zo_126 (zkb zk_cX2_read zn_cX2_read (by decide +kernel))
theorem dX2_read_142 : decode cX2_read 142 = .ok (.iadd, 1) := zo_96 (zkb zk_cX2_read zn_cX2_read (by decide +kernel))
theorem dX2_read_143 : decode cX2_read 143 = .ok (.istore_n 3, 1) := zo_62 (zkb zk_cX2_read zn_cX2_read (by decide +kernel))
theorem dX2_read_144 : decode cX2_read 144 = .ok (.iload_n 3, 1) := zo_29 (zkb zk_cX2_read zn_cX2_read (by decide +kernel))
theorem dX2_read_145 : decode cX2_read 145 = .ok (.aload_n 0, 1) := zo_42 (zkb zk_cX2_read zn_cX2_read (by decide +kernel))
theorem dX2_read_146 : decode cX2_read 146 = .ok (.getfield 55, 3) := zo_180 (b1 := 0) (b2 := 55) (zkb3 zk_cX2_read zn_cX2_read (by decide +kernel)) rfl
theorem dX2_read_149 : decode cX2_read 149 = .ok (.if_icmp .ge 17, 3) := zo_162 (b1 := 0) (b2 := 17) (zkb3 zk_cX2_read zn_cX2_read (by decide +kernel)) rfl
theorem dX2_read_152 : decode cX2_read 152 = .ok (.aload_n 0, 1) := zo_42 (zkb zk_cX2_read zn_cX2_read (by decide +kernel))
theorem dX2_read_153 : decode cX2_read 153 = .ok (.getfield 14, 3) := zo_180 (b1 := 0) (b2 := 14) (zkb3 zk_cX2_read zn_cX2_read (by decide +kernel)) rfl
theorem dX2_read_156 : decode cX2_read 156 = .ok (.aload_n 0, 1) := zo_42 (zkb zk_cX2_read zn_cX2_read (by decide +kernel))
theorem dX2_read_157 : decode cX2_read 157 = .ok (.getfield 52, 3) := zo_180 (b1 := 0) (b2 := 52) (zkb3 zk_cX2_read zn_cX2_read (by decide +kernel)) rfl
theorem dX2_read_160 : decode cX2_read 160 = .ok (.iload_n 3, 1) := zo_29 (zkb zk_cX2_read zn_cX2_read (by decide +kernel))
theorem dX2_read_161 : decode cX2_read 161 = .ok (.iadd, 1) := zo_96 (zkb zk_cX2_read zn_cX2_read (by decide +kernel))
theorem dX2_read_162 : decode cX2_read 162 = .ok (.iaload, 1) := zo_46 (zkb zk_cX2_read zn_cX2_read (by decide +kernel))
theorem dX2_read_163 : decode cX2_read 163 = .ok (.goto 6, 3) := zo_167 (b1 := 0) (b2 := 6) (zkb3 zk_cX2_read zn_cX2_read (by decide +kernel)) rfl
theorem dX2_read_166 : decode cX2_read 166 = .ok (.sipush 255, 3) := zo_17 (b1 := 0) (b2 := 255) (zkb3 zk_cX2_read zn_cX2_read (by decide +kernel)) rfl
theorem dX2_read_169 : decode cX2_read 169 = .ok (.ireturn, 1) := zo_172 (zkb zk_cX2_read zn_cX2_read (by decide +kernel))
def kn_cX2_write : Nat := 0xb14f1c052200b42a0a00a066121d1000a0064400b42a1800a74f1c7a0e101d2200b42a1000a01b121d09009f0040111d1000991d2100a0054400b42a3e00a74f1c6100b61d2a1c00b42a4c00995d00b62a5300a251121d5900a11b121d5f00a74f1c6465121d0700a7060700a064121d2200b42a1a00a164121d4100a0044400b42a4f1c7eff1f111d1500b42a0e00a151121d3e7e5c121b
theorem zk_cX2_write : zkd cX2_write.data.toList kn_cX2_write = true := by decide +kernel
theorem zn_cX2_write : cX2_write.data.toList.length = 152 := by decide +kernel
theorem dX2_write_0 : decode cX2_write 0 = .ok (.iload_n 1, 1) := zo_27 (zkb zk_cX2_write zn_cX2_write (by decide +kernel))
theorem dX2_write_1 : decode cX2_write 1 = .ok (.ldc 92, 2) := zo_18 (b1 := 92) (zkb2 zk_cX2_write zn_cX2_write (by decide +kernel))
theorem dX2_write_3 : decode cX2_write 3 = .ok (.iand, 1) := zo_126 (zkb zk_cX2_write zn_cX2_write (by decide +kernel))
theorem dX2_write_4 : decode cX2_write 4 = .ok (.istore_n 3, 1) := zo_62 (zkb zk_cX2_write zn_cX2_write (by decide +kernel))
theorem dX2_write_5 : decode cX2_write 5 = .ok (.iload_n 3, 1) := zo_29 (zkb zk_cX2_write zn_cX2_write (by decide +kernel))
theorem dX2_write_6 : decode cX2_write 6 = .ok (.ldc 81, 2) := zo_18 (b1 := 81) (zkb2 zk_cX2_write zn_cX2_write (by decide +kernel))
theorem dX2_write_8 : decode cX2_write 8 = .ok (.if_icmp .lt 14, 3) := zo_161 (b1 := 0) (b2 := 14) (zkb3 zk_cX2_write zn_cX2_write (by decide +kernel)) rfl
theorem dX2_write_11 : decode cX2_write 11 = .ok (.aload_n 0, 1) := zo_42 (zkb zk_cX2_write zn_cX2_write (by decide +kernel))
theorem dX2_write_12 : decode cX2_write 12 = .ok (.getfield 21, 3) := zo_180 (b1 := 0) (b2 := 21) (zkb3 zk_cX2_write zn_cX2_write (by decide +kernel)) rfl
theorem dX2_write_15 : decode cX2_write 15 = .ok (.iload_n 3, 1) := zo_29 (zkb zk_cX2_write zn_cX2_write (by decide +kernel))
theorem dX2_write_16 : decode cX2_write 16 = .ok (.sipush 8191, 3) := zo_17 (b1 := 31) (b2 := 255) (zkb3 zk_cX2_write zn_cX2_write (by decide +kernel)) rfl
theorem dX2_write_19 : decode cX2_write 19 = .ok (.iand, 1) := zo_126 (zkb zk_cX2_write zn_cX2_write (by decide +kernel))
theorem dX2_write_20 : decode cX2_write 20 = .ok (.iload_n 2, 1) := zo_28 (zkb zk_cX2_write zn_cX2_write (by decide +kernel))
theorem dX2_write_21 : decode cX2_write 21 = .ok (.iastore, 1) := zo_79 (zkb zk_cX2_write zn_cX2_write (by decide +kernel))
theorem dX2_write_22 : decode cX2_write 22 = .ok (.aload_n 0, 1) := zo_42 (zkb zk_cX2_write zn_cX2_write (by decide +kernel))
theorem dX2_write_23 : decode cX2_write 23 = .ok (.getfield 68, 3) := zo_180 (b1 := 0) (b2 := 68) (zkb3 zk_cX2_write zn_cX2_write (by decide +kernel)) rfl
theorem dX2_write_26 : decode cX2_write 26 = .ok (.iconst 1, 1) := zo_4 (zkb zk_cX2_write zn_cX2_write (by decide +kernel))
theorem dX2_write_27 : decode cX2_write 27 = .ok (.if_icmp .ne 65, 3) := zo_160 (b1 := 0) (b2 := 65) (zkb3 zk_cX2_write zn_cX2_write (by decide +kernel)) rfl
theorem dX2_write_30 : decode cX2_write 30 = .ok (.iload_n 3, 1) := zo_29 (zkb zk_cX2_write zn_cX2_write (by decide +kernel))
theorem dX2_write_31 : decode cX2_write 31 = .ok (.ldc 100, 2) := zo_18 (b1 := 100) (zkb2 zk_cX2_write zn_cX2_write (by decide +kernel))
theorem dX2_write_33 : decode cX2_write 33 = .ok (.if_icmp .lt 26, 3) := zo_161 (b1 := 0) (b2 := 26) (zkb3 zk_cX2_write zn_cX2_write (by decide +kernel)) rfl
theorem dX2_write_36 : decode cX2_write 36 = .ok (.aload_n 0, 1) := zo_42 (zkb zk_cX2_write zn_cX2_write (by decide +kernel))
theorem dX2_write_37 : decode cX2_write 37 = .ok (.getfield 34, 3) := zo_180 (b1 := 0) (b2 := 34) (zkb3 zk_cX2_write zn_cX2_write (by decide +kernel)) rfl
theorem dX2_write_40 : decode cX2_write 40 = .ok (.iload_n 3, 1) := zo_29 (zkb zk_cX2_write zn_cX2_write (by decide +kernel))
theorem dX2_write_41 : decode cX2_write 41 = .ok (.ldc 100, 2) := zo_18 (b1 := 100) (zkb2 zk_cX2_write zn_cX2_write (by decide +kernel))
theorem dX2_write_43 : decode cX2_write 43 = .ok (.if_icmp .ne 7, 3) := zo_160 (b1 := 0) (b2 := 7) (zkb3 zk_cX2_write zn_cX2_write (by decide +kernel)) rfl
theorem dX2_write_46 : decode cX2_write 46 = .ok (.iconst 3, 1) := zo_6 (zkb zk_cX2_write zn_cX2_write (by decide +kernel))
theorem dX2_write_47 : decode cX2_write 47 = .ok (.goto 7, 3) := zo_167 (b1 := 0) (b2 := 7) (zkb3 zk_cX2_write zn_cX2_write (by decide +kernel)) rfl
theorem dX2_write_50 : decode cX2_write 50 = .ok (.iload_n 3, 1) := zo_29 (zkb zk_cX2_write zn_cX2_write (by decide +kernel))
theorem dX2_write_51 : decode cX2_write 51 = .ok (.ldc 101, 2) := zo_18 (b1 := 101) (zkb2 zk_cX2_write zn_cX2_write (by decide +kernel))
theorem dX2_write_53 : decode cX2_write 53 = .ok (.isub, 1) := zo_100 (zkb zk_cX2_write zn_cX2_write (by decide +kernel))
theorem dX2_write_54 : decode cX2_write 54 = .ok (.iload_n 2, 1) := zo_28 (zkb zk_cX2_write zn_cX2_write (by decide +kernel))
theorem dX2_write_55 : decode cX2_write 55 = .ok (.iastore, 1) := zo_79 (zkb zk_cX2_write zn_cX2_write (by decide +kernel))
theorem dX2_write_56 : decode cX2_write 56 = .ok (.goto 95, 3) := zo_167 (b1 := 0) (b2 := 95) (zkb3 zk_cX2_write zn_cX2_write (by decide +kernel)) rfl
theorem dX2_write_59 : decode cX2_write 59 = .ok (.iload_n 3, 1) := zo_29 (zkb zk_cX2_write zn_cX2_write (by decide +kernel))
theorem dX2_write_60 : decode cX2_write 60 = .ok (.ldc 27, 2) := zo_18 (b1 := 27) (zkb2 zk_cX2_write zn_cX2_write (by decide +kernel))
theorem dX2_write_62 : decode cX2_write 62 = .ok (.if_icmp .lt 89, 3) := zo_161 (b1 := 0) (b2 := 89) (zkb3 zk_cX2_write zn_cX2_write (by decide +kernel)) rfl
theorem dX2_write_65 : decode cX2_write 65 = .ok (.iload_n 3, 1) := zo_29 (zkb zk_cX2_write zn_cX2_write (by decide +kernel))
theorem dX2_write_66 : decode cX2_write 66 = .ok (.ldc 81, 2) := zo_18 (b1 := 81) (zkb2 zk_cX2_write zn_cX2_write (by decide +kernel))
theorem dX2_write_68 : decode cX2_write 68 = .ok (.if_icmp .ge 83, 3) := zo_162 (b1 := 0) (b2 := 83) (zkb3 zk_cX2_write zn_cX2_write (by decide +kernel)) rfl
theorem dX2_write_71 : decode cX2_write 71 = .ok (.aload_n 0, 1) := zo_42 (zkb zk_cX2_write zn_cX2_write (by decide +kernel))
theorem dX2_write_72 : decode cX2_write 72 = .ok (.invokevirtual 93, 3) := zo_182 (b1 := 0) (b2 := 93) (zkb3 zk_cX2_write zn_cX2_write (by decide +kernel)) rfl
theorem dX2_write_75 : decode cX2_write 75 = .ok (.ifCond .eq 76, 3) := zo_153 (b1 := 0) (b2 := 76) (zkb3 zk_cX2_write zn_cX2_write (by decide +kernel)) rfl
theorem dX2_write_78 : decode cX2_write 78 = .ok (.aload_n 0, 1) := zo_42 (zkb zk_cX2_write zn_cX2_write (by decide +kernel))
theorem dX2_write_79 : decode cX2_write 79 = .ok (.getfield 28, 3) := zo_180 (b1 := 0) (b2 := 28) (zkb3 zk_cX2_write zn_cX2_write (by decide +kernel)) rfl
theorem dX2_write_82 : decode cX2_write 82 = .ok (.aload_n 0, 1) := zo_42 (zkb zk_cX2_write zn_cX2_write (by decide +kernel))
theorem dX2_write_83 : decode cX2_write 83 = .ok (.iload_n 3, 1) := zo_29 (zkb zk_cX2_write zn_cX2_write (by decide +kernel))
theorem dX2_write_84 : decode cX2_write 84 = .ok (.invokevirtual 97, 3) := zo_182 (b1 := 0) (b2 := 97) (zkb3 zk_cX2_write zn_cX2_write (by decide +kernel)) rfl
theorem dX2_write_87 : decode cX2_write 87 = .ok (.iload_n 2, 1) := zo_28 (zkb zk_cX2_write zn_cX2_write (by decide +kernel))
theorem dX2_write_88 : decode cX2_write 88 = .ok (.iastore, 1) := zo_79 (zkb zk_cX2_write zn_cX2_write (by decide +kernel))
theorem dX2_write_89 : decode cX2_write 89 = .ok (.goto 62, 3) := zo_167 (b1 := 0) (b2 := 62) (zkb3 zk_cX2_write zn_cX2_write (by decide +kernel)) rfl
theorem dX2_write_92 : decode cX2_write 92 = .ok (.aload_n 0, 1) := zo_42 (zkb zk_cX2_write zn_cX2_write (by decide +kernel))
theorem dX2_write_93 : decode cX2_write 93 = .ok (.getfield 68, 3) := zo_180 (b1 := 0) (b2 := 68) (zkb3 zk_cX2_write zn_cX2_write (by decide +kernel)) rfl
theorem dX2_write_96 : decode cX2_write 96 = .ok (.iconst 2, 1) := zo_5 (zkb zk_cX2_write zn_cX2_write (by decide +kernel))
theorem dX2_write_97 : decode cX2_write 97 = .ok (.if_icmp .ne 33, 3) := zo_160 (b1 := 0) (b2 := 33) (zkb3 zk_cX2_write zn_cX2_write (by decide +kernel)) rfl
theorem dX2_write_100 : decode cX2_write 100 = .ok (.iload_n 3, 1) := zo_29 (zkb zk_cX2_write zn_cX2_write (by decide +kernel))
theorem dX2_write_101 : decode cX2_write 101 = .ok (.ifCond .eq 16, 3) := zo_153 (b1 := 0) (b2 := 16) (zkb3 zk_cX2_write zn_cX2_write (by decide +kernel)) rfl
theorem dX2_write_104 : decode cX2_write 104 = .ok (.iload_n 3, 1) := zo_29 (zkb zk_cX2_write zn_cX2_write (by decide +kernel))
theorem dX2_write_105 : decode cX2_write 105 = .ok (.sipush 16384, 3) := zo_17 (b1 := 64) (b2 := 0) (zkb3 zk_cX2_write zn_cX2_write (by decide +kernel)) rfl
theorem dX2_write_108 : decode cX2_write 108 = .ok (.if_icmp .eq 9, 3) := zo_159 (b1 := 0) (b2 := 9) (zkb3 zk_cX2_write zn_cX2_write (by decide +kernel)) rfl
theorem dX2_write_111 : decode cX2_write 111 = .ok (.iload_n 3, 1) := zo_29 (zkb zk_cX2_write zn_cX2_write (by decide +kernel))
theorem dX2_write_112 : decode cX2_write 112 = .ok (.ldc 27, 2) := zo_18 (b1 := 27) (zkb2 zk_cX2_write zn_cX2_write (by decide +kernel))
theorem dX2_write_114 : decode cX2_write 114 = .ok (.if_icmp .ne 16, 3) := zo_160 (b1 := 0) (b2 := 16) (zkb3 zk_cX2_write zn_cX2_write (by decide +kernel)) rfl
theorem dX2_write_117 : decode cX2_write 117 = .ok (.aload_n 0, 1) := zo_42 (zkb zk_cX2_write zn_cX2_write (by decide +kernel))
theorem dX2_write_118 : decode cX2_write 118 = .ok (.getfield 34, 3) := zo_180 (b1 := 0) (b2 := 34) (zkb3 zk_cX2_write zn_cX2_write (by decide +kernel)) rfl
theorem dX2_write_121 : decode cX2_write 121 = .ok (.iload_n 3, 1) := zo_29 (zkb zk_cX2_write zn_cX2_write (by decide +kernel))
theorem dX2_write_122 : decode cX2_write 122 = .ok (.bipush 14, 2) := zo_16 (b1 := 14) (zkb2 zk_cX2_write zn_cX2_write (by decide +kernel)) rfl
theorem dX2_write_124 : decode cX2_write 124 = .ok (.ishr, 1) := zo_122 (zkb zk_cX2_write zn_cX2_write (by decide +kernel))
theorem dX2_write_125 : decode cX2_write 125 = .ok (.iload_n 2, 1) := zo_28 (zkb zk_cX2_write zn_cX2_write (by decide +kernel))
theorem dX2_write_126 : decode cX2_write 126 = .ok (.iastore, 1) := zo_79 (zkb zk_cX2_write zn_cX2_write (by decide +kernel))
theorem dX2_write_127 : decode cX2_write 127 = .ok (.goto 24, 3) := zo_167 (b1 := 0) (b2 := 24) (zkb3 zk_cX2_write zn_cX2_write (by decide +kernel)) rfl
theorem dX2_write_130 : decode cX2_write 130 = .ok (.aload_n 0, 1) := zo_42 (zkb zk_cX2_write zn_cX2_write (by decide +kernel))
theorem dX2_write_131 : decode cX2_write 131 = .ok (.getfield 68, 3) := zo_180 (b1 := 0) (b2 := 68) (zkb3 zk_cX2_write zn_cX2_write (by decide +kernel)) rfl
theorem dX2_write_134 : decode cX2_write 134 = .ok (.iconst 3, 1) := zo_6 (zkb zk_cX2_write zn_cX2_write (by decide +kernel))
theorem dX2_write_135 : decode cX2_write 135 = .ok (.if_icmp .ne 16, 3) := zo_160 (b1 := 0) (b2 := 16) (zkb3 zk_cX2_write zn_cX2_write (by decide +kernel)) rfl
theorem dX2_write_138 : decode cX2_write 138 = .ok (.iload_n 3, 1) := zo_29 (zkb zk_cX2_write zn_cX2_write (by decide +kernel))
theorem dX2_write_139 : decode cX2_write 139 = .ok (.ldc 102, 2) := zo_18 (b1 := 102) (zkb2 zk_cX2_write zn_cX2_write (by decide +kernel))
theorem dX2_write_141 : decode cX2_write 141 = .ok (.if_icmp .ne 10, 3) := zo_160 (b1 := 0) (b2 := 10) (zkb3 zk_cX2_write zn_cX2_write (by decide +kernel)) rfl
theorem dX2_write_144 : decode cX2_write 144 = .ok (.aload_n 0, 1) := zo_42 (zkb zk_cX2_write zn_cX2_write (by decide +kernel))
theorem dX2_write_145 : decode cX2_write 145 = .ok (.getfield 34, 3) := zo_180 (b1 := 0) (b2 := 34) (zkb3 zk_cX2_write zn_cX2_write (by decide +kernel)) rfl
theorem dX2_write_148 : decode cX2_write 148 = .ok (.iconst 2, 1) := zo_5 (zkb zk_cX2_write zn_cX2_write (by decide +kernel))
theorem dX2_write_149 : decode cX2_write 149 = .ok (.iload_n 2, 1) := zo_28 (zkb zk_cX2_write zn_cX2_write (by decide +kernel))
theorem dX2_write_150 : decode cX2_write 150 = .ok (.iastore, 1) := zo_79 (zkb zk_cX2_write zn_cX2_write (by decide +kernel))
theorem dX2_write_151 : decode cX2_write 151 = .ok (.return_, 1) := zo_177 (zkb zk_cX2_write zn_cX2_write (by decide +kernel))
def kn_cX2_batteryIsIn : Nat := 0xac030400a7040700997e08102e062200b42a1300a0044400b42a
theorem zk_cX2_batteryIsIn : zkd cX2_batteryIsIn.data.toList kn_cX2_batteryIsIn = true := by decide +kernel
theorem zn_cX2_batteryIsIn : cX2_batteryIsIn.data.toList.length = 26 := by decide +kernel
theorem dX2_batteryIsIn_0 : decode cX2_batteryIsIn 0 = .ok (.aload_n 0, 1) := zo_42 (zkb zk_cX2_batteryIsIn zn_cX2_batteryIsIn (by decide +kernel))
theorem dX2_batteryIsIn_1 : decode cX2_batteryIsIn 1 = .ok (.getfield 68, 3) := zo_180 (b1 := 0) (b2 := 68) (zkb3 zk_cX2_batteryIsIn zn_cX2_batteryIsIn (by decide +kernel)) rfl
theorem dX2_batteryIsIn_4 : decode cX2_batteryIsIn 4 = .ok (.iconst 1, 1) := zo_4 (zkb zk_cX2_batteryIsIn zn_cX2_batteryIsIn (by decide +kernel))
theorem dX2_batteryIsIn_5 : decode cX2_batteryIsIn 5 = .ok (.if_icmp .ne 19, 3) := zo_160 (b1 := 0) (b2 := 19) (zkb3 zk_cX2_batteryIsIn zn_cX2_batteryIsIn (by decide +kernel)) rfl
theorem dX2_batteryIsIn_8 : decode cX2_batteryIsIn 8 = .ok (.aload_n 0, 1) := zo_42 (zkb zk_cX2_batteryIsIn zn_cX2_batteryIsIn (by decide +kernel))
theorem dX2_batteryIsIn_9 : decode cX2_batteryIsIn 9 = .ok (.getfield 34, 3) := zo_180 (b1 := 0) (b2 := 34) (zkb3 zk_cX2_batteryIsIn zn_cX2_batteryIsIn (by decide +kernel)) rfl
theorem dX2_batteryIsIn_12 : decode cX2_batteryIsIn 12 = .ok (.iconst 3, 1) := zo_6 (zkb zk_cX2_batteryIsIn zn_cX2_batteryIsIn (by decide +kernel))
theorem dX2_batteryIsIn_13 : decode cX2_batteryIsIn 13 = .ok (.iaload, 1) := zo_46 (zkb zk_cX2_batteryIsIn zn_cX2_batteryIsIn (by decide +kernel))
theorem dX2_batteryIsIn_14 : decode cX2_batteryIsIn 14 = .ok (.bipush 8, 2) := zo_16 (b1 := 8) (zkb2 zk_cX2_batteryIsIn zn_cX2_batteryIsIn (by decide +kernel)) rfl
theorem dX2_batteryIsIn_16 : decode cX2_batteryIsIn 16 = .ok (.iand, 1) := zo_126 (zkb zk_cX2_batteryIsIn zn_cX2_batteryIsIn (by decide +kernel))
theorem dX2_batteryIsIn_17 : decode cX2_batteryIsIn 17 = .ok (.ifCond .eq 7, 3) := zo_153 (b1 := 0) (b2 := 7) (zkb3 zk_cX2_batteryIsIn zn_cX2_batteryIsIn (by decide +kernel)) rfl
theorem dX2_batteryIsIn_20 : decode cX2_batteryIsIn 20 = .ok (.iconst 1, 1) := zo_4 (zkb zk_cX2_batteryIsIn zn_cX2_batteryIsIn (by decide +kernel))
theorem dX2_batteryIsIn_21 : decode cX2_batteryIsIn 21 = .ok (.goto 4, 3) := zo_167 (b1 := 0) (b2 := 4) (zkb3 zk_cX2_batteryIsIn zn_cX2_batteryIsIn (by decide +kernel)) rfl
theorem dX2_batteryIsIn_24 : decode cX2_batteryIsIn 24 = .ok (.iconst 0, 1) := zo_3 (zkb zk_cX2_batteryIsIn zn_cX2_batteryIsIn (by decide +kernel))
theorem dX2_batteryIsIn_25 : decode cX2_batteryIsIn 25 = .ok (.ireturn, 1) := zo_172 (zkb zk_cX2_batteryIsIn zn_cX2_batteryIsIn (by decide +kernel))
def kn_cX2_batteryPlace : Nat := 0xac60687e047a052e062200b42a0040117eff3f111b
theorem zk_cX2_batteryPlace : zkd cX2_batteryPlace.data.toList kn_cX2_batteryPlace = true := by decide +kernel
theorem zn_cX2_batteryPlace : cX2_batteryPlace.data.toList.length = 21 := by decide +kernel
theorem dX2_batteryPlace_0 : decode cX2_batteryPlace 0 = .ok (.iload_n 1, 1) := zo_27 (zkb zk_cX2_batteryPlace zn_cX2_batteryPlace (by decide +kernel))
theorem dX2_batteryPlace_1 : decode cX2_batteryPlace 1 = .ok (.sipush 16383, 3) := zo_17 (b1 := 63) (b2 := 255) (zkb3 zk_cX2_batteryPlace zn_cX2_batteryPlace (by decide +kernel)) rfl
theorem dX2_batteryPlace_4 : decode cX2_batteryPlace 4 = .ok (.iand, 1) := zo_126 (zkb zk_cX2_batteryPlace zn_cX2_batteryPlace (by decide +kernel))
theorem dX2_batteryPlace_5 : decode cX2_batteryPlace 5 = .ok (.sipush 16384, 3) := zo_17 (b1 := 64) (b2 := 0) (zkb3 zk_cX2_batteryPlace zn_cX2_batteryPlace (by decide +kernel)) rfl
theorem dX2_batteryPlace_8 : decode cX2_batteryPlace 8 = .ok (.aload_n 0, 1) := zo_42 (zkb zk_cX2_batteryPlace zn_cX2_batteryPlace (by decide +kernel))
theorem dX2_batteryPlace_9 : decode cX2_batteryPlace 9 = .ok (.getfield 34, 3) := zo_180 (b1 := 0) (b2 := 34) (zkb3 zk_cX2_batteryPlace zn_cX2_batteryPlace (by decide +kernel)) rfl
theorem dX2_batteryPlace_12 : decode cX2_batteryPlace 12 = .ok (.iconst 3, 1) := zo_6 (zkb zk_cX2_batteryPlace zn_cX2_batteryPlace (by decide +kernel))
theorem dX2_batteryPlace_13 : decode cX2_batteryPlace 13 = .ok (.iaload, 1) := zo_46 (zkb zk_cX2_batteryPlace zn_cX2_batteryPlace (by decide +kernel))
theorem dX2_batteryPlace_14 : decode cX2_batteryPlace 14 = .ok (.iconst 2, 1) := zo_5 (zkb zk_cX2_batteryPlace zn_cX2_batteryPlace (by decide +kernel))
theorem dX2_batteryPlace_15 : decode cX2_batteryPlace 15 = .ok (.ishr, 1) := zo_122 (zkb zk_cX2_batteryPlace zn_cX2_batteryPlace (by decide +kernel))
theorem dX2_batteryPlace_16 : decode cX2_batteryPlace 16 = .ok (.iconst 1, 1) := zo_4 (zkb zk_cX2_batteryPlace zn_cX2_batteryPlace (by decide +kernel))
theorem dX2_batteryPlace_17 : decode cX2_batteryPlace 17 = .ok (.iand, 1) := zo_126 (zkb zk_cX2_batteryPlace zn_cX2_batteryPlace (by decide +kernel))
theorem dX2_batteryPlace_18 : decode cX2_batteryPlace 18 = .ok (.imul, 1) := zo_104 (zkb zk_cX2_batteryPlace zn_cX2_batteryPlace (by decide +kernel))
theorem dX2_batteryPlace_19 : decode cX2_batteryPlace 19 = .ok (.iadd, 1) := zo_96 (zkb zk_cX2_batteryPlace zn_cX2_batteryPlace (by decide +kernel))
theorem dX2_batteryPlace_20 : decode cX2_batteryPlace 20 = .ok (.ireturn, 1) := zo_172 (zkb zk_cX2_batteryPlace zn_cX2_batteryPlace (by decide +kernel))
def kn_cX2_batteryByte : Nat := 0xac2e7eff7f111b1c00b42a
theorem zk_cX2_batteryByte : zkd cX2_batteryByte.data.toList kn_cX2_batteryByte = true := by decide +kernel
theorem zn_cX2_batteryByte : cX2_batteryByte.data.toList.length = 11 := by decide +kernel
theorem dX2_batteryByte_0 : decode cX2_batteryByte 0 = .ok (.aload_n 0, 1) := zo_42 (zkb zk_cX2_batteryByte zn_cX2_batteryByte (by decide +kernel))
theorem dX2_batteryByte_1 : decode cX2_batteryByte 1 = .ok (.getfield 28, 3) := zo_180 (b1 := 0) (b2 := 28) (zkb3 zk_cX2_batteryByte zn_cX2_batteryByte (by decide +kernel)) rfl
theorem dX2_batteryByte_4 : decode cX2_batteryByte 4 = .ok (.iload_n 1, 1) := zo_27 (zkb zk_cX2_batteryByte zn_cX2_batteryByte (by decide +kernel))
theorem dX2_batteryByte_5 : decode cX2_batteryByte 5 = .ok (.sipush 32767, 3) := zo_17 (b1 := 127) (b2 := 255) (zkb3 zk_cX2_batteryByte zn_cX2_batteryByte (by decide +kernel)) rfl
theorem dX2_batteryByte_8 : decode cX2_batteryByte 8 = .ok (.iand, 1) := zo_126 (zkb zk_cX2_batteryByte zn_cX2_batteryByte (by decide +kernel))
theorem dX2_batteryByte_9 : decode cX2_batteryByte 9 = .ok (.iaload, 1) := zo_46 (zkb zk_cX2_batteryByte zn_cX2_batteryByte (by decide +kernel))
theorem dX2_batteryByte_10 : decode cX2_batteryByte 10 = .ok (.ireturn, 1) := zo_172 (zkb zk_cX2_batteryByte zn_cX2_batteryByte (by decide +kernel))
def kn_cX2_clearBattery : Nat := 0xb16700b8031c00b42a
theorem zk_cX2_clearBattery : zkd cX2_clearBattery.data.toList kn_cX2_clearBattery = true := by decide +kernel
theorem zn_cX2_clearBattery : cX2_clearBattery.data.toList.length = 9 := by decide +kernel
theorem dX2_clearBattery_0 : decode cX2_clearBattery 0 = .ok (.aload_n 0, 1) := zo_42 (zkb zk_cX2_clearBattery zn_cX2_clearBattery (by decide +kernel))
theorem dX2_clearBattery_1 : decode cX2_clearBattery 1 = .ok (.getfield 28, 3) := zo_180 (b1 := 0) (b2 := 28) (zkb3 zk_cX2_clearBattery zn_cX2_clearBattery (by decide +kernel)) rfl
theorem dX2_clearBattery_4 : decode cX2_clearBattery 4 = .ok (.iconst 0, 1) := zo_3 (zkb zk_cX2_clearBattery zn_cX2_clearBattery (by decide +kernel))
theorem dX2_clearBattery_5 : decode cX2_clearBattery 5 = .ok (.invokestatic 103, 3) := zo_184 (b1 := 0) (b2 := 103) (zkb3 zk_cX2_clearBattery zn_cX2_clearBattery (by decide +kernel)) rfl
theorem dX2_clearBattery_8 : decode cX2_clearBattery 8 = .ok (.return_, 1) := zo_177 (zkb zk_cX2_clearBattery zn_cX2_clearBattery (by decide +kernel))
def kn_cX2_clearRam : Nat := 0xb16700b8031500b42a
theorem zk_cX2_clearRam : zkd cX2_clearRam.data.toList kn_cX2_clearRam = true := by decide +kernel
theorem zn_cX2_clearRam : cX2_clearRam.data.toList.length = 9 := by decide +kernel
theorem dX2_clearRam_0 : decode cX2_clearRam 0 = .ok (.aload_n 0, 1) := zo_42 (zkb zk_cX2_clearRam zn_cX2_clearRam (by decide +kernel))
theorem dX2_clearRam_1 : decode cX2_clearRam 1 = .ok (.getfield 21, 3) := zo_180 (b1 := 0) (b2 := 21) (zkb3 zk_cX2_clearRam zn_cX2_clearRam (by decide +kernel)) rfl
theorem dX2_clearRam_4 : decode cX2_clearRam 4 = .ok (.iconst 0, 1) := zo_3 (zkb zk_cX2_clearRam zn_cX2_clearRam (by decide +kernel))
theorem dX2_clearRam_5 : decode cX2_clearRam 5 = .ok (.invokestatic 103, 3) := zo_184 (b1 := 0) (b2 := 103) (zkb3 zk_cX2_clearRam zn_cX2_clearRam (by decide +kernel)) rfl
theorem dX2_clearRam_8 : decode cX2_clearRam 8 = .ok (.return_, 1) := zo_177 (zkb zk_cX2_clearRam zn_cX2_clearRam (by decide +kernel))
def kn_cX2_clearPages : Nat := 0xb14f03062200b42a4f050400a7030700a0054400b42a052200b42a4f04042200b42a4f03032200b42a
theorem zk_cX2_clearPages : zkd cX2_clearPages.data.toList kn_cX2_clearPages = true := by decide +kernel
theorem zn_cX2_clearPages : cX2_clearPages.data.toList.length = 41 := by decide +kernel
theorem dX2_clearPages_0 : decode cX2_clearPages 0 = .ok (.aload_n 0, 1) := zo_42 (zkb zk_cX2_clearPages zn_cX2_clearPages (by decide +kernel))
theorem dX2_clearPages_1 : decode cX2_clearPages 1 = .ok (.getfield 34, 3) := zo_180 (b1 := 0) (b2 := 34) (zkb3 zk_cX2_clearPages zn_cX2_clearPages (by decide +kernel)) rfl
theorem dX2_clearPages_4 : decode cX2_clearPages 4 = .ok (.iconst 0, 1) := zo_3 (zkb zk_cX2_clearPages zn_cX2_clearPages (by decide +kernel))
theorem dX2_clearPages_5 : decode cX2_clearPages 5 = .ok (.iconst 0, 1) := zo_3 (zkb zk_cX2_clearPages zn_cX2_clearPages (by decide +kernel))
theorem dX2_clearPages_6 : decode cX2_clearPages 6 = .ok (.iastore, 1) := zo_79 (zkb zk_cX2_clearPages zn_cX2_clearPages (by decide +kernel))
theorem dX2_clearPages_7 : decode cX2_clearPages 7 = .ok (.aload_n 0, 1) := zo_42 (zkb zk_cX2_clearPages zn_cX2_clearPages (by decide +kernel))
theorem dX2_clearPages_8 : decode cX2_clearPages 8 = .ok (.getfield 34, 3) := zo_180 (b1 := 0) (b2 := 34) (zkb3 zk_cX2_clearPages zn_cX2_clearPages (by decide +kernel)) rfl
theorem dX2_clearPages_11 : decode cX2_clearPages 11 = .ok (.iconst 1, 1) := zo_4 (zkb zk_cX2_clearPages zn_cX2_clearPages (by decide +kernel))
theorem dX2_clearPages_12 : decode cX2_clearPages 12 = .ok (.iconst 1, 1) := zo_4 (zkb zk_cX2_clearPages zn_cX2_clearPages (by decide +kernel))
theorem dX2_clearPages_13 : decode cX2_clearPages 13 = .ok (.iastore, 1) := zo_79 (zkb zk_cX2_clearPages zn_cX2_clearPages (by decide +kernel))
theorem dX2_clearPages_14 : decode cX2_clearPages 14 = .ok (.aload_n 0, 1) := zo_42 (zkb zk_cX2_clearPages zn_cX2_clearPages (by decide +kernel))
theorem dX2_clearPages_15 : decode cX2_clearPages 15 = .ok (.getfield 34, 3) := zo_180 (b1 := 0) (b2 := 34) (zkb3 zk_cX2_clearPages zn_cX2_clearPages (by decide +kernel)) rfl
theorem dX2_clearPages_18 : decode cX2_clearPages 18 = .ok (.iconst 2, 1) := zo_5 (zkb zk_cX2_clearPages zn_cX2_clearPages (by decide +kernel))
theorem dX2_clearPages_19 : decode cX2_clearPages 19 = .ok (.aload_n 0, 1) := zo_42 (zkb zk_cX2_clearPages zn_cX2_clearPages (by decide +kernel))
theorem dX2_clearPages_20 : decode cX2_clearPages 20 = .ok (.getfield 68, 3) := zo_180 (b1 := 0) (b2 := 68) (zkb3 zk_cX2_clearPages zn_cX2_clearPages (by decide +kernel)) rfl
theorem dX2_clearPages_23 : decode cX2_clearPages 23 = .ok (.iconst 2, 1) := zo_5 (zkb zk_cX2_clearPages zn_cX2_clearPages (by decide +kernel))
theorem dX2_clearPages_24 : decode cX2_clearPages 24 = .ok (.if_icmp .ne 7, 3) := zo_160 (b1 := 0) (b2 := 7) (zkb3 zk_cX2_clearPages zn_cX2_clearPages (by decide +kernel)) rfl
theorem dX2_clearPages_27 : decode cX2_clearPages 27 = .ok (.iconst 0, 1) := zo_3 (zkb zk_cX2_clearPages zn_cX2_clearPages (by decide +kernel))
theorem dX2_clearPages_28 : decode cX2_clearPages 28 = .ok (.goto 4, 3) := zo_167 (b1 := 0) (b2 := 4) (zkb3 zk_cX2_clearPages zn_cX2_clearPages (by decide +kernel)) rfl
theorem dX2_clearPages_31 : decode cX2_clearPages 31 = .ok (.iconst 2, 1) := zo_5 (zkb zk_cX2_clearPages zn_cX2_clearPages (by decide +kernel))
theorem dX2_clearPages_32 : decode cX2_clearPages 32 = .ok (.iastore, 1) := zo_79 (zkb zk_cX2_clearPages zn_cX2_clearPages (by decide +kernel))
theorem dX2_clearPages_33 : decode cX2_clearPages 33 = .ok (.aload_n 0, 1) := zo_42 (zkb zk_cX2_clearPages zn_cX2_clearPages (by decide +kernel))
theorem dX2_clearPages_34 : decode cX2_clearPages 34 = .ok (.getfield 34, 3) := zo_180 (b1 := 0) (b2 := 34) (zkb3 zk_cX2_clearPages zn_cX2_clearPages (by decide +kernel)) rfl
theorem dX2_clearPages_37 : decode cX2_clearPages 37 = .ok (.iconst 3, 1) := zo_6 (zkb zk_cX2_clearPages zn_cX2_clearPages (by decide +kernel))
theorem dX2_clearPages_38 : decode cX2_clearPages 38 = .ok (.iconst 0, 1) := zo_3 (zkb zk_cX2_clearPages zn_cX2_clearPages (by decide +kernel))
theorem dX2_clearPages_39 : decode cX2_clearPages 39 = .ok (.iastore, 1) := zo_79 (zkb zk_cX2_clearPages zn_cX2_clearPages (by decide +kernel))
theorem dX2_clearPages_40 : decode cX2_clearPages 40 = .ok (.return_, 1) := zo_177 (zkb zk_cX2_clearPages zn_cX2_clearPages (by decide +kernel))
def kn_cX2_keep : Nat := 0xb16d00b807032500b42a032200b42a6d00b81b12031f00b42a031c00b42a6d00b8002011031800b42a031500b42a
theorem zk_cX2_keep : zkd cX2_keep.data.toList kn_cX2_keep = true := by decide +kernel
theorem zn_cX2_keep : cX2_keep.data.toList.length = 46 := by decide +kernel
theorem dX2_keep_0 : decode cX2_keep 0 = .ok (.aload_n 0, 1) := zo_42 (zkb zk_cX2_keep zn_cX2_keep (by decide +kernel))
theorem dX2_keep_1 : decode cX2_keep 1 = .ok (.getfield 21, 3) := zo_180 (b1 := 0) (b2 := 21) (zkb3 zk_cX2_keep zn_cX2_keep (by decide +kernel)) rfl
theorem dX2_keep_4 : decode cX2_keep 4 = .ok (.iconst 0, 1) := zo_3 (zkb zk_cX2_keep zn_cX2_keep (by decide +kernel))
theorem dX2_keep_5 : decode cX2_keep 5 = .ok (.aload_n 0, 1) := zo_42 (zkb zk_cX2_keep zn_cX2_keep (by decide +kernel))
theorem dX2_keep_6 : decode cX2_keep 6 = .ok (.getfield 24, 3) := zo_180 (b1 := 0) (b2 := 24) (zkb3 zk_cX2_keep zn_cX2_keep (by decide +kernel)) rfl
theorem dX2_keep_9 : decode cX2_keep 9 = .ok (.iconst 0, 1) := zo_3 (zkb zk_cX2_keep zn_cX2_keep (by decide +kernel))
theorem dX2_keep_10 : decode cX2_keep 10 = .ok (.sipush 8192, 3) := zo_17 (b1 := 32) (b2 := 0) (zkb3 zk_cX2_keep zn_cX2_keep (by decide +kernel)) rfl
theorem dX2_keep_13 : decode cX2_keep 13 = .ok (.invokestatic 109, 3) := zo_184 (b1 := 0) (b2 := 109) (zkb3 zk_cX2_keep zn_cX2_keep (by decide +kernel)) rfl
theorem dX2_keep_16 : decode cX2_keep 16 = .ok (.aload_n 0, 1) := zo_42 (zkb zk_cX2_keep zn_cX2_keep (by decide +kernel))
theorem dX2_keep_17 : decode cX2_keep 17 = .ok (.getfield 28, 3) := zo_180 (b1 := 0) (b2 := 28) (zkb3 zk_cX2_keep zn_cX2_keep (by decide +kernel)) rfl
theorem dX2_keep_20 : decode cX2_keep 20 = .ok (.iconst 0, 1) := zo_3 (zkb zk_cX2_keep zn_cX2_keep (by decide +kernel))
theorem dX2_keep_21 : decode cX2_keep 21 = .ok (.aload_n 0, 1) := zo_42 (zkb zk_cX2_keep zn_cX2_keep (by decide +kernel))
theorem dX2_keep_22 : decode cX2_keep 22 = .ok (.getfield 31, 3) := zo_180 (b1 := 0) (b2 := 31) (zkb3 zk_cX2_keep zn_cX2_keep (by decide +kernel)) rfl
theorem dX2_keep_25 : decode cX2_keep 25 = .ok (.iconst 0, 1) := zo_3 (zkb zk_cX2_keep zn_cX2_keep (by decide +kernel))
theorem dX2_keep_26 : decode cX2_keep 26 = .ok (.ldc 27, 2) := zo_18 (b1 := 27) (zkb2 zk_cX2_keep zn_cX2_keep (by decide +kernel))
theorem dX2_keep_28 : decode cX2_keep 28 = .ok (.invokestatic 109, 3) := zo_184 (b1 := 0) (b2 := 109) (zkb3 zk_cX2_keep zn_cX2_keep (by decide +kernel)) rfl
theorem dX2_keep_31 : decode cX2_keep 31 = .ok (.aload_n 0, 1) := zo_42 (zkb zk_cX2_keep zn_cX2_keep (by decide +kernel))
theorem dX2_keep_32 : decode cX2_keep 32 = .ok (.getfield 34, 3) := zo_180 (b1 := 0) (b2 := 34) (zkb3 zk_cX2_keep zn_cX2_keep (by decide +kernel)) rfl
theorem dX2_keep_35 : decode cX2_keep 35 = .ok (.iconst 0, 1) := zo_3 (zkb zk_cX2_keep zn_cX2_keep (by decide +kernel))
theorem dX2_keep_36 : decode cX2_keep 36 = .ok (.aload_n 0, 1) := zo_42 (zkb zk_cX2_keep zn_cX2_keep (by decide +kernel))
theorem dX2_keep_37 : decode cX2_keep 37 = .ok (.getfield 37, 3) := zo_180 (b1 := 0) (b2 := 37) (zkb3 zk_cX2_keep zn_cX2_keep (by decide +kernel)) rfl
theorem dX2_keep_40 : decode cX2_keep 40 = .ok (.iconst 0, 1) := zo_3 (zkb zk_cX2_keep zn_cX2_keep (by decide +kernel))
theorem dX2_keep_41 : decode cX2_keep 41 = .ok (.iconst 4, 1) := zo_7 (zkb zk_cX2_keep zn_cX2_keep (by decide +kernel))
theorem dX2_keep_42 : decode cX2_keep 42 = .ok (.invokestatic 109, 3) := zo_184 (b1 := 0) (b2 := 109) (zkb3 zk_cX2_keep zn_cX2_keep (by decide +kernel)) rfl
theorem dX2_keep_45 : decode cX2_keep 45 = .ok (.return_, 1) := zo_177 (zkb zk_cX2_keep zn_cX2_keep (by decide +kernel))
def kn_cX2_bringBack : Nat := 0xb16d00b807032200b42a032500b42a6d00b81b12031c00b42a031f00b42a6d00b8002011031500b42a031800b42a
theorem zk_cX2_bringBack : zkd cX2_bringBack.data.toList kn_cX2_bringBack = true := by decide +kernel
theorem zn_cX2_bringBack : cX2_bringBack.data.toList.length = 46 := by decide +kernel
theorem dX2_bringBack_0 : decode cX2_bringBack 0 = .ok (.aload_n 0, 1) := zo_42 (zkb zk_cX2_bringBack zn_cX2_bringBack (by decide +kernel))
theorem dX2_bringBack_1 : decode cX2_bringBack 1 = .ok (.getfield 24, 3) := zo_180 (b1 := 0) (b2 := 24) (zkb3 zk_cX2_bringBack zn_cX2_bringBack (by decide +kernel)) rfl
theorem dX2_bringBack_4 : decode cX2_bringBack 4 = .ok (.iconst 0, 1) := zo_3 (zkb zk_cX2_bringBack zn_cX2_bringBack (by decide +kernel))
theorem dX2_bringBack_5 : decode cX2_bringBack 5 = .ok (.aload_n 0, 1) := zo_42 (zkb zk_cX2_bringBack zn_cX2_bringBack (by decide +kernel))
theorem dX2_bringBack_6 : decode cX2_bringBack 6 = .ok (.getfield 21, 3) := zo_180 (b1 := 0) (b2 := 21) (zkb3 zk_cX2_bringBack zn_cX2_bringBack (by decide +kernel)) rfl
theorem dX2_bringBack_9 : decode cX2_bringBack 9 = .ok (.iconst 0, 1) := zo_3 (zkb zk_cX2_bringBack zn_cX2_bringBack (by decide +kernel))
theorem dX2_bringBack_10 : decode cX2_bringBack 10 = .ok (.sipush 8192, 3) := zo_17 (b1 := 32) (b2 := 0) (zkb3 zk_cX2_bringBack zn_cX2_bringBack (by decide +kernel)) rfl
theorem dX2_bringBack_13 : decode cX2_bringBack 13 = .ok (.invokestatic 109, 3) := zo_184 (b1 := 0) (b2 := 109) (zkb3 zk_cX2_bringBack zn_cX2_bringBack (by decide +kernel)) rfl
theorem dX2_bringBack_16 : decode cX2_bringBack 16 = .ok (.aload_n 0, 1) := zo_42 (zkb zk_cX2_bringBack zn_cX2_bringBack (by decide +kernel))
theorem dX2_bringBack_17 : decode cX2_bringBack 17 = .ok (.getfield 31, 3) := zo_180 (b1 := 0) (b2 := 31) (zkb3 zk_cX2_bringBack zn_cX2_bringBack (by decide +kernel)) rfl
theorem dX2_bringBack_20 : decode cX2_bringBack 20 = .ok (.iconst 0, 1) := zo_3 (zkb zk_cX2_bringBack zn_cX2_bringBack (by decide +kernel))
theorem dX2_bringBack_21 : decode cX2_bringBack 21 = .ok (.aload_n 0, 1) := zo_42 (zkb zk_cX2_bringBack zn_cX2_bringBack (by decide +kernel))
theorem dX2_bringBack_22 : decode cX2_bringBack 22 = .ok (.getfield 28, 3) := zo_180 (b1 := 0) (b2 := 28) (zkb3 zk_cX2_bringBack zn_cX2_bringBack (by decide +kernel)) rfl
theorem dX2_bringBack_25 : decode cX2_bringBack 25 = .ok (.iconst 0, 1) := zo_3 (zkb zk_cX2_bringBack zn_cX2_bringBack (by decide +kernel))
theorem dX2_bringBack_26 : decode cX2_bringBack 26 = .ok (.ldc 27, 2) := zo_18 (b1 := 27) (zkb2 zk_cX2_bringBack zn_cX2_bringBack (by decide +kernel))
theorem dX2_bringBack_28 : decode cX2_bringBack 28 = .ok (.invokestatic 109, 3) := zo_184 (b1 := 0) (b2 := 109) (zkb3 zk_cX2_bringBack zn_cX2_bringBack (by decide +kernel)) rfl
theorem dX2_bringBack_31 : decode cX2_bringBack 31 = .ok (.aload_n 0, 1) := zo_42 (zkb zk_cX2_bringBack zn_cX2_bringBack (by decide +kernel))
theorem dX2_bringBack_32 : decode cX2_bringBack 32 = .ok (.getfield 37, 3) := zo_180 (b1 := 0) (b2 := 37) (zkb3 zk_cX2_bringBack zn_cX2_bringBack (by decide +kernel)) rfl
theorem dX2_bringBack_35 : decode cX2_bringBack 35 = .ok (.iconst 0, 1) := zo_3 (zkb zk_cX2_bringBack zn_cX2_bringBack (by decide +kernel))
theorem dX2_bringBack_36 : decode cX2_bringBack 36 = .ok (.aload_n 0, 1) := zo_42 (zkb zk_cX2_bringBack zn_cX2_bringBack (by decide +kernel))
theorem dX2_bringBack_37 : decode cX2_bringBack 37 = .ok (.getfield 34, 3) := zo_180 (b1 := 0) (b2 := 34) (zkb3 zk_cX2_bringBack zn_cX2_bringBack (by decide +kernel)) rfl
theorem dX2_bringBack_40 : decode cX2_bringBack 40 = .ok (.iconst 0, 1) := zo_3 (zkb zk_cX2_bringBack zn_cX2_bringBack (by decide +kernel))
theorem dX2_bringBack_41 : decode cX2_bringBack 41 = .ok (.iconst 4, 1) := zo_7 (zkb zk_cX2_bringBack zn_cX2_bringBack (by decide +kernel))
theorem dX2_bringBack_42 : decode cX2_bringBack 42 = .ok (.invokestatic 109, 3) := zo_184 (b1 := 0) (b2 := 109) (zkb3 zk_cX2_bringBack zn_cX2_bringBack (by decide +kernel)) rfl
theorem dX2_bringBack_45 : decode cX2_bringBack 45 = .ok (.return_, 1) := zo_177 (zkb zk_cX2_bringBack zn_cX2_bringBack (by decide +kernel))
def kn_cX3_keep : Nat := 0xb12200b8be0a00b42a030e00b42a030a00b42a
theorem zk_cX3_keep : zkd cX3_keep.data.toList kn_cX3_keep = true := by decide +kernel
theorem zn_cX3_keep : cX3_keep.data.toList.length = 19 := by decide +kernel
theorem dX3_keep_0 : decode cX3_keep 0 = .ok (.aload_n 0, 1) := zo_42 (zkb zk_cX3_keep zn_cX3_keep (by decide +kernel))
theorem dX3_keep_1 : decode cX3_keep 1 = .ok (.getfield 10, 3) := zo_180 (b1 := 0) (b2 := 10) (zkb3 zk_cX3_keep zn_cX3_keep (by decide +kernel)) rfl
theorem dX3_keep_4 : decode cX3_keep 4 = .ok (.iconst 0, 1) := zo_3 (zkb zk_cX3_keep zn_cX3_keep (by decide +kernel))
theorem dX3_keep_5 : decode cX3_keep 5 = .ok (.aload_n 0, 1) := zo_42 (zkb zk_cX3_keep zn_cX3_keep (by decide +kernel))
theorem dX3_keep_6 : decode cX3_keep 6 = .ok (.getfield 14, 3) := zo_180 (b1 := 0) (b2 := 14) (zkb3 zk_cX3_keep zn_cX3_keep (by decide +kernel)) rfl
theorem dX3_keep_9 : decode cX3_keep 9 = .ok (.iconst 0, 1) := zo_3 (zkb zk_cX3_keep zn_cX3_keep (by decide +kernel))
theorem dX3_keep_10 : decode cX3_keep 10 = .ok (.aload_n 0, 1) := zo_42 (zkb zk_cX3_keep zn_cX3_keep (by decide +kernel))
theorem dX3_keep_11 : decode cX3_keep 11 = .ok (.getfield 10, 3) := zo_180 (b1 := 0) (b2 := 10) (zkb3 zk_cX3_keep zn_cX3_keep (by decide +kernel)) rfl
theorem dX3_keep_14 : decode cX3_keep 14 = .ok (.arraylength, 1) := zo_190 (zkb zk_cX3_keep zn_cX3_keep (by decide +kernel))
theorem dX3_keep_15 : decode cX3_keep 15 = .ok (.invokestatic 34, 3) := zo_184 (b1 := 0) (b2 := 34) (zkb3 zk_cX3_keep zn_cX3_keep (by decide +kernel)) rfl
theorem dX3_keep_18 : decode cX3_keep 18 = .ok (.return_, 1) := zo_177 (zkb zk_cX3_keep zn_cX3_keep (by decide +kernel))
def kn_cX3_bringBack : Nat := 0xb12200b8be0a00b42a030a00b42a030e00b42a
theorem zk_cX3_bringBack : zkd cX3_bringBack.data.toList kn_cX3_bringBack = true := by decide +kernel
theorem zn_cX3_bringBack : cX3_bringBack.data.toList.length = 19 := by decide +kernel
theorem dX3_bringBack_0 : decode cX3_bringBack 0 = .ok (.aload_n 0, 1) := zo_42 (zkb zk_cX3_bringBack zn_cX3_bringBack (by decide +kernel))
theorem dX3_bringBack_1 : decode cX3_bringBack 1 = .ok (.getfield 14, 3) := zo_180 (b1 := 0) (b2 := 14) (zkb3 zk_cX3_bringBack zn_cX3_bringBack (by decide +kernel)) rfl
theorem dX3_bringBack_4 : decode cX3_bringBack 4 = .ok (.iconst 0, 1) := zo_3 (zkb zk_cX3_bringBack zn_cX3_bringBack (by decide +kernel))
theorem dX3_bringBack_5 : decode cX3_bringBack 5 = .ok (.aload_n 0, 1) := zo_42 (zkb zk_cX3_bringBack zn_cX3_bringBack (by decide +kernel))
theorem dX3_bringBack_6 : decode cX3_bringBack 6 = .ok (.getfield 10, 3) := zo_180 (b1 := 0) (b2 := 10) (zkb3 zk_cX3_bringBack zn_cX3_bringBack (by decide +kernel)) rfl
theorem dX3_bringBack_9 : decode cX3_bringBack 9 = .ok (.iconst 0, 1) := zo_3 (zkb zk_cX3_bringBack zn_cX3_bringBack (by decide +kernel))
theorem dX3_bringBack_10 : decode cX3_bringBack 10 = .ok (.aload_n 0, 1) := zo_42 (zkb zk_cX3_bringBack zn_cX3_bringBack (by decide +kernel))
theorem dX3_bringBack_11 : decode cX3_bringBack 11 = .ok (.getfield 10, 3) := zo_180 (b1 := 0) (b2 := 10) (zkb3 zk_cX3_bringBack zn_cX3_bringBack (by decide +kernel)) rfl
theorem dX3_bringBack_14 : decode cX3_bringBack 14 = .ok (.arraylength, 1) := zo_190 (zkb zk_cX3_bringBack zn_cX3_bringBack (by decide +kernel))
theorem dX3_bringBack_15 : decode cX3_bringBack 15 = .ok (.invokestatic 34, 3) := zo_184 (b1 := 0) (b2 := 34) (zkb3 zk_cX3_bringBack zn_cX3_bringBack (by decide +kernel)) rfl
theorem dX3_bringBack_18 : decode cX3_bringBack 18 = .ok (.return_, 1) := zo_177 (zkb zk_cX3_bringBack zn_cX3_bringBack (by decide +kernel))
def kn_cX3_width : Nat := 0xac0001110600a7a000110900991e00b42a
theorem zk_cX3_width : zkd cX3_width.data.toList kn_cX3_width = true := by decide +kernel
theorem zn_cX3_width : cX3_width.data.toList.length = 17 := by decide +kernel
theorem dX3_width_0 : decode cX3_width 0 = .ok (.aload_n 0, 1) := zo_42 (zkb zk_cX3_width zn_cX3_width (by decide +kernel))
theorem dX3_width_1 : decode cX3_width 1 = .ok (.getfield 30, 3) := zo_180 (b1 := 0) (b2 := 30) (zkb3 zk_cX3_width zn_cX3_width (by decide +kernel)) rfl
theorem dX3_width_4 : decode cX3_width 4 = .ok (.ifCond .eq 9, 3) := zo_153 (b1 := 0) (b2 := 9) (zkb3 zk_cX3_width zn_cX3_width (by decide +kernel)) rfl
theorem dX3_width_7 : decode cX3_width 7 = .ok (.sipush 160, 3) := zo_17 (b1 := 0) (b2 := 160) (zkb3 zk_cX3_width zn_cX3_width (by decide +kernel)) rfl
theorem dX3_width_10 : decode cX3_width 10 = .ok (.goto 6, 3) := zo_167 (b1 := 0) (b2 := 6) (zkb3 zk_cX3_width zn_cX3_width (by decide +kernel)) rfl
theorem dX3_width_13 : decode cX3_width 13 = .ok (.sipush 256, 3) := zo_17 (b1 := 1) (b2 := 0) (zkb3 zk_cX3_width zn_cX3_width (by decide +kernel)) rfl
theorem dX3_width_16 : decode cX3_width 16 = .ok (.ireturn, 1) := zo_172 (zkb zk_cX3_width zn_cX3_width (by decide +kernel))
def kn_cX3_height : Nat := 0xac2800b61a00b42a0a00a79000110900991e00b42a
theorem zk_cX3_height : zkd cX3_height.data.toList kn_cX3_height = true := by decide +kernel
theorem zn_cX3_height : cX3_height.data.toList.length = 21 := by decide +kernel
theorem dX3_height_0 : decode cX3_height 0 = .ok (.aload_n 0, 1) := zo_42 (zkb zk_cX3_height zn_cX3_height (by decide +kernel))
theorem dX3_height_1 : decode cX3_height 1 = .ok (.getfield 30, 3) := zo_180 (b1 := 0) (b2 := 30) (zkb3 zk_cX3_height zn_cX3_height (by decide +kernel)) rfl
theorem dX3_height_4 : decode cX3_height 4 = .ok (.ifCond .eq 9, 3) := zo_153 (b1 := 0) (b2 := 9) (zkb3 zk_cX3_height zn_cX3_height (by decide +kernel)) rfl
theorem dX3_height_7 : decode cX3_height 7 = .ok (.sipush 144, 3) := zo_17 (b1 := 0) (b2 := 144) (zkb3 zk_cX3_height zn_cX3_height (by decide +kernel)) rfl
theorem dX3_height_10 : decode cX3_height 10 = .ok (.goto 10, 3) := zo_167 (b1 := 0) (b2 := 10) (zkb3 zk_cX3_height zn_cX3_height (by decide +kernel)) rfl
theorem dX3_height_13 : decode cX3_height 13 = .ok (.aload_n 0, 1) := zo_42 (zkb zk_cX3_height zn_cX3_height (by decide +kernel))
theorem dX3_height_14 : decode cX3_height 14 = .ok (.getfield 26, 3) := zo_180 (b1 := 0) (b2 := 26) (zkb3 zk_cX3_height zn_cX3_height (by decide +kernel)) rfl
theorem dX3_height_17 : decode cX3_height 17 = .ok (.invokevirtual 40, 3) := zo_182 (b1 := 0) (b2 := 40) (zkb3 zk_cX3_height zn_cX3_height (by decide +kernel)) rfl
theorem dX3_height_20 : decode cX3_height 20 = .ok (.ireturn, 1) := zo_172 (zkb zk_cX3_height zn_cX3_height (by decide +kernel))
def kn_cX3_dotAt : Nat := 0xac030400a72e1d0a00b42a0c00a2be0a00b42a1d15009b1d3e601b2e00b61c2a
theorem zk_cX3_dotAt : zkd cX3_dotAt.data.toList kn_cX3_dotAt = true := by decide +kernel
theorem zn_cX3_dotAt : cX3_dotAt.data.toList.length = 32 := by decide +kernel
theorem dX3_dotAt_0 : decode cX3_dotAt 0 = .ok (.aload_n 0, 1) := zo_42 (zkb zk_cX3_dotAt zn_cX3_dotAt (by decide +kernel))
theorem dX3_dotAt_1 : decode cX3_dotAt 1 = .ok (.iload_n 2, 1) := zo_28 (zkb zk_cX3_dotAt zn_cX3_dotAt (by decide +kernel))
theorem dX3_dotAt_2 : decode cX3_dotAt 2 = .ok (.invokevirtual 46, 3) := zo_182 (b1 := 0) (b2 := 46) (zkb3 zk_cX3_dotAt zn_cX3_dotAt (by decide +kernel)) rfl
theorem dX3_dotAt_5 : decode cX3_dotAt 5 = .ok (.iload_n 1, 1) := zo_27 (zkb zk_cX3_dotAt zn_cX3_dotAt (by decide +kernel))
theorem dX3_dotAt_6 : decode cX3_dotAt 6 = .ok (.iadd, 1) := zo_96 (zkb zk_cX3_dotAt zn_cX3_dotAt (by decide +kernel))
theorem dX3_dotAt_7 : decode cX3_dotAt 7 = .ok (.istore_n 3, 1) := zo_62 (zkb zk_cX3_dotAt zn_cX3_dotAt (by decide +kernel))
theorem dX3_dotAt_8 : decode cX3_dotAt 8 = .ok (.iload_n 3, 1) := zo_29 (zkb zk_cX3_dotAt zn_cX3_dotAt (by decide +kernel))
theorem dX3_dotAt_9 : decode cX3_dotAt 9 = .ok (.ifCond .lt 21, 3) := zo_155 (b1 := 0) (b2 := 21) (zkb3 zk_cX3_dotAt zn_cX3_dotAt (by decide +kernel)) rfl
theorem dX3_dotAt_12 : decode cX3_dotAt 12 = .ok (.iload_n 3, 1) := zo_29 (zkb zk_cX3_dotAt zn_cX3_dotAt (by decide +kernel))
theorem dX3_dotAt_13 : decode cX3_dotAt 13 = .ok (.aload_n 0, 1) := zo_42 (zkb zk_cX3_dotAt zn_cX3_dotAt (by decide +kernel))
theorem dX3_dotAt_14 : decode cX3_dotAt 14 = .ok (.getfield 10, 3) := zo_180 (b1 := 0) (b2 := 10) (zkb3 zk_cX3_dotAt zn_cX3_dotAt (by decide +kernel)) rfl
theorem dX3_dotAt_17 : decode cX3_dotAt 17 = .ok (.arraylength, 1) := zo_190 (zkb zk_cX3_dotAt zn_cX3_dotAt (by decide +kernel))
theorem dX3_dotAt_18 : decode cX3_dotAt 18 = .ok (.if_icmp .ge 12, 3) := zo_162 (b1 := 0) (b2 := 12) (zkb3 zk_cX3_dotAt zn_cX3_dotAt (by decide +kernel)) rfl
theorem dX3_dotAt_21 : decode cX3_dotAt 21 = .ok (.aload_n 0, 1) := zo_42 (zkb zk_cX3_dotAt zn_cX3_dotAt (by decide +kernel))
theorem dX3_dotAt_22 : decode cX3_dotAt 22 = .ok (.getfield 10, 3) := zo_180 (b1 := 0) (b2 := 10) (zkb3 zk_cX3_dotAt zn_cX3_dotAt (by decide +kernel)) rfl
theorem dX3_dotAt_25 : decode cX3_dotAt 25 = .ok (.iload_n 3, 1) := zo_29 (zkb zk_cX3_dotAt zn_cX3_dotAt (by decide +kernel))
theorem dX3_dotAt_26 : decode cX3_dotAt 26 = .ok (.iaload, 1) := zo_46 (zkb zk_cX3_dotAt zn_cX3_dotAt (by decide +kernel))
theorem dX3_dotAt_27 : decode cX3_dotAt 27 = .ok (.goto 4, 3) := zo_167 (b1 := 0) (b2 := 4) (zkb3 zk_cX3_dotAt zn_cX3_dotAt (by decide +kernel)) rfl
theorem dX3_dotAt_30 : decode cX3_dotAt 30 = .ok (.iconst 0, 1) := zo_3 (zkb zk_cX3_dotAt zn_cX3_dotAt (by decide +kernel))
theorem dX3_dotAt_31 : decode cX3_dotAt 31 = .ok (.ireturn, 1) := zo_172 (zkb zk_cX3_dotAt zn_cX3_dotAt (by decide +kernel))
def kn_cX3_placeOf : Nat := 0xac680001111b0800a7603010680001116018101b1100991e00b42a
theorem zk_cX3_placeOf : zkd cX3_placeOf.data.toList kn_cX3_placeOf = true := by decide +kernel
theorem zn_cX3_placeOf : cX3_placeOf.data.toList.length = 27 := by decide +kernel
theorem dX3_placeOf_0 : decode cX3_placeOf 0 = .ok (.aload_n 0, 1) := zo_42 (zkb zk_cX3_placeOf zn_cX3_placeOf (by decide +kernel))
theorem dX3_placeOf_1 : decode cX3_placeOf 1 = .ok (.getfield 30, 3) := zo_180 (b1 := 0) (b2 := 30) (zkb3 zk_cX3_placeOf zn_cX3_placeOf (by decide +kernel)) rfl
theorem dX3_placeOf_4 : decode cX3_placeOf 4 = .ok (.ifCond .eq 17, 3) := zo_153 (b1 := 0) (b2 := 17) (zkb3 zk_cX3_placeOf zn_cX3_placeOf (by decide +kernel)) rfl
theorem dX3_placeOf_7 : decode cX3_placeOf 7 = .ok (.iload_n 1, 1) := zo_27 (zkb zk_cX3_placeOf zn_cX3_placeOf (by decide +kernel))
theorem dX3_placeOf_8 : decode cX3_placeOf 8 = .ok (.bipush 24, 2) := zo_16 (b1 := 24) (zkb2 zk_cX3_placeOf zn_cX3_placeOf (by decide +kernel)) rfl
theorem dX3_placeOf_10 : decode cX3_placeOf 10 = .ok (.iadd, 1) := zo_96 (zkb zk_cX3_placeOf zn_cX3_placeOf (by decide +kernel))
theorem dX3_placeOf_11 : decode cX3_placeOf 11 = .ok (.sipush 256, 3) := zo_17 (b1 := 1) (b2 := 0) (zkb3 zk_cX3_placeOf zn_cX3_placeOf (by decide +kernel)) rfl
theorem dX3_placeOf_14 : decode cX3_placeOf 14 = .ok (.imul, 1) := zo_104 (zkb zk_cX3_placeOf zn_cX3_placeOf (by decide +kernel))
theorem dX3_placeOf_15 : decode cX3_placeOf 15 = .ok (.bipush 48, 2) := zo_16 (b1 := 48) (zkb2 zk_cX3_placeOf zn_cX3_placeOf (by decide +kernel)) rfl
theorem dX3_placeOf_17 : decode cX3_placeOf 17 = .ok (.iadd, 1) := zo_96 (zkb zk_cX3_placeOf zn_cX3_placeOf (by decide +kernel))
theorem dX3_placeOf_18 : decode cX3_placeOf 18 = .ok (.goto 8, 3) := zo_167 (b1 := 0) (b2 := 8) (zkb3 zk_cX3_placeOf zn_cX3_placeOf (by decide +kernel)) rfl
theorem dX3_placeOf_21 : decode cX3_placeOf 21 = .ok (.iload_n 1, 1) := zo_27 (zkb zk_cX3_placeOf zn_cX3_placeOf (by decide +kernel))
theorem dX3_placeOf_22 : decode cX3_placeOf 22 = .ok (.sipush 256, 3) := zo_17 (b1 := 1) (b2 := 0) (zkb3 zk_cX3_placeOf zn_cX3_placeOf (by decide +kernel)) rfl
theorem dX3_placeOf_25 : decode cX3_placeOf 25 = .ok (.imul, 1) := zo_104 (zkb zk_cX3_placeOf zn_cX3_placeOf (by decide +kernel))
theorem dX3_placeOf_26 : decode cX3_placeOf 26 = .ok (.ireturn, 1) := zo_172 (zkb zk_cX3_placeOf zn_cX3_placeOf (by decide +kernel))
def kn_cX3_sumOfLine : Nat := 0xac1ce9ffa70105843d602e05150a00b42a681c1f101600a20415051505363b00b81d0304363500b8be0a00b42a603200b62a1d3e2e00b61b2a3d03
theorem zk_cX3_sumOfLine : zkd cX3_sumOfLine.data.toList kn_cX3_sumOfLine = true := by decide +kernel
theorem zn_cX3_sumOfLine : cX3_sumOfLine.data.toList.length = 59 := by decide +kernel
theorem dX3_sumOfLine_0 : decode cX3_sumOfLine 0 = .ok (.iconst 0, 1) := zo_3 (zkb zk_cX3_sumOfLine zn_cX3_sumOfLine (by decide +kernel))
theorem dX3_sumOfLine_1 : decode cX3_sumOfLine 1 = .ok (.istore_n 2, 1) := zo_61 (zkb zk_cX3_sumOfLine zn_cX3_sumOfLine (by decide +kernel))
theorem dX3_sumOfLine_2 : decode cX3_sumOfLine 2 = .ok (.aload_n 0, 1) := zo_42 (zkb zk_cX3_sumOfLine zn_cX3_sumOfLine (by decide +kernel))
theorem dX3_sumOfLine_3 : decode cX3_sumOfLine 3 = .ok (.iload_n 1, 1) := zo_27 (zkb zk_cX3_sumOfLine zn_cX3_sumOfLine (by decide +kernel))
theorem dX3_sumOfLine_4 : decode cX3_sumOfLine 4 = .ok (.invokevirtual 46, 3) := zo_182 (b1 := 0) (b2 := 46) (zkb3 zk_cX3_sumOfLine zn_cX3_sumOfLine (by decide +kernel)) rfl
theorem dX3_sumOfLine_7 : decode cX3_sumOfLine 7 = .ok (.istore_n 3, 1) := zo_62 (zkb zk_cX3_sumOfLine zn_cX3_sumOfLine (by decide +kernel))
theorem dX3_sumOfLine_8 : decode cX3_sumOfLine 8 = .ok (.iload_n 3, 1) := zo_29 (zkb zk_cX3_sumOfLine zn_cX3_sumOfLine (by decide +kernel))
theorem dX3_sumOfLine_9 : decode cX3_sumOfLine 9 = .ok (.aload_n 0, 1) := zo_42 (zkb zk_cX3_sumOfLine zn_cX3_sumOfLine (by decide +kernel))
theorem dX3_sumOfLine_10 : decode cX3_sumOfLine 10 = .ok (.invokevirtual 50, 3) := zo_182 (b1 := 0) (b2 := 50) (zkb3 zk_cX3_sumOfLine zn_cX3_sumOfLine (by decide +kernel)) rfl
theorem dX3_sumOfLine_13 : decode cX3_sumOfLine 13 = .ok (.iadd, 1) := zo_96 (zkb zk_cX3_sumOfLine zn_cX3_sumOfLine (by decide +kernel))
theorem dX3_sumOfLine_14 : decode cX3_sumOfLine 14 = .ok (.aload_n 0, 1) := zo_42 (zkb zk_cX3_sumOfLine zn_cX3_sumOfLine (by decide +kernel))
theorem dX3_sumOfLine_15 : decode cX3_sumOfLine 15 = .ok (.getfield 10, 3) := zo_180 (b1 := 0) (b2 := 10) (zkb3 zk_cX3_sumOfLine zn_cX3_sumOfLine (by decide +kernel)) rfl
theorem dX3_sumOfLine_18 : decode cX3_sumOfLine 18 = .ok (.arraylength, 1) := zo_190 (zkb zk_cX3_sumOfLine zn_cX3_sumOfLine (by decide +kernel))
theorem dX3_sumOfLine_19 : decode cX3_sumOfLine 19 = .ok (.invokestatic 53, 3) := zo_184 (b1 := 0) (b2 := 53) (zkb3 zk_cX3_sumOfLine zn_cX3_sumOfLine (by decide +kernel)) rfl
theorem dX3_sumOfLine_22 : decode cX3_sumOfLine 22 = .ok (.istore 4, 2) := zo_54 (b1 := 4) (zkb2 zk_cX3_sumOfLine zn_cX3_sumOfLine (by decide +kernel))
theorem dX3_sumOfLine_24 : decode cX3_sumOfLine 24 = .ok (.iconst 0, 1) := zo_3 (zkb zk_cX3_sumOfLine zn_cX3_sumOfLine (by decide +kernel))
theorem dX3_sumOfLine_25 : decode cX3_sumOfLine 25 = .ok (.iload_n 3, 1) := zo_29 (zkb zk_cX3_sumOfLine zn_cX3_sumOfLine (by decide +kernel))
theorem dX3_sumOfLine_26 : decode cX3_sumOfLine 26 = .ok (.invokestatic 59, 3) := zo_184 (b1 := 0) (b2 := 59) (zkb3 zk_cX3_sumOfLine zn_cX3_sumOfLine (by decide +kernel)) rfl
theorem dX3_sumOfLine_29 : decode cX3_sumOfLine 29 = .ok (.istore 5, 2) := zo_54 (b1 := 5) (zkb2 zk_cX3_sumOfLine zn_cX3_sumOfLine (by decide +kernel))
theorem dX3_sumOfLine_31 : decode cX3_sumOfLine 31 = .ok (.iload 5, 2) := zo_21 (b1 := 5) (zkb2 zk_cX3_sumOfLine zn_cX3_sumOfLine (by decide +kernel))
theorem dX3_sumOfLine_33 : decode cX3_sumOfLine 33 = .ok (.iload 4, 2) := zo_21 (b1 := 4) (zkb2 zk_cX3_sumOfLine zn_cX3_sumOfLine (by decide +kernel))
theorem dX3_sumOfLine_35 : decode cX3_sumOfLine 35 = .ok (.if_icmp .ge 22, 3) := zo_162 (b1 := 0) (b2 := 22) (zkb3 zk_cX3_sumOfLine zn_cX3_sumOfLine (by decide +kernel)) rfl
theorem dX3_sumOfLine_38 : decode cX3_sumOfLine 38 = .ok (.bipush 31, 2) := zo_16 (b1 := 31) (zkb2 zk_cX3_sumOfLine zn_cX3_sumOfLine (by decide +kernel)) rfl
theorem dX3_sumOfLine_40 : decode cX3_sumOfLine 40 = .ok (.iload_n 2, 1) := zo_28 (zkb zk_cX3_sumOfLine zn_cX3_sumOfLine (by decide +kernel))
theorem dX3_sumOfLine_41 : decode cX3_sumOfLine 41 = .ok (.imul, 1) := zo_104 (zkb zk_cX3_sumOfLine zn_cX3_sumOfLine (by decide +kernel))
theorem dX3_sumOfLine_42 : decode cX3_sumOfLine 42 = .ok (.aload_n 0, 1) := zo_42 (zkb zk_cX3_sumOfLine zn_cX3_sumOfLine (by decide +kernel))
theorem dX3_sumOfLine_43 : decode cX3_sumOfLine 43 = .ok (.getfield 10, 3) := zo_180 (b1 := 0) (b2 := 10) (zkb3 zk_cX3_sumOfLine zn_cX3_sumOfLine (by decide +kernel)) rfl
theorem dX3_sumOfLine_46 : decode cX3_sumOfLine 46 = .ok (.iload 5, 2) := zo_21 (b1 := 5) (zkb2 zk_cX3_sumOfLine zn_cX3_sumOfLine (by decide +kernel))
theorem dX3_sumOfLine_48 : decode cX3_sumOfLine 48 = .ok (.iaload, 1) := zo_46 (zkb zk_cX3_sumOfLine zn_cX3_sumOfLine (by decide +kernel))
theorem dX3_sumOfLine_49 : decode cX3_sumOfLine 49 = .ok (.iadd, 1) := zo_96 (zkb zk_cX3_sumOfLine zn_cX3_sumOfLine (by decide +kernel))
theorem dX3_sumOfLine_50 : decode cX3_sumOfLine 50 = .ok (.istore_n 2, 1) := zo_61 (zkb zk_cX3_sumOfLine zn_cX3_sumOfLine (by decide +kernel))
theorem dX3_sumOfLine_51 : decode cX3_sumOfLine 51 = .ok (.iinc 5 1, 3) := zo_132 (b1 := 5) (b2 := 1) (zkb3 zk_cX3_sumOfLine zn_cX3_sumOfLine (by decide +kernel)) rfl
theorem dX3_sumOfLine_54 : decode cX3_sumOfLine 54 = .ok (.goto (-23), 3) := zo_167 (b1 := 255) (b2 := 233) (zkb3 zk_cX3_sumOfLine zn_cX3_sumOfLine (by decide +kernel)) rfl
theorem dX3_sumOfLine_57 : decode cX3_sumOfLine 57 = .ok (.iload_n 2, 1) := zo_28 (zkb zk_cX3_sumOfLine zn_cX3_sumOfLine (by decide +kernel))
theorem dX3_sumOfLine_58 : decode cX3_sumOfLine 58 = .ok (.ireturn, 1) := zo_172 (zkb zk_cX3_sumOfLine zn_cX3_sumOfLine (by decide +kernel))
def kn_cX3_mixColours : Nat := 0xb17dffa70102844f1d0400a760687a071d00051160687e067a051d5010687e061d081c00991e00b42a1c1700b42a3e2e7e0f101c6100b23300a74f7e3f103e00b6601c20101a00b42a1100a77eff0f11807808103e00b6600460681c0520101a00b42a3e00b660681c0520101a00b42a2a00991e00b42a1c1700b42a4800a0071b8300a220101c3d03
theorem zk_cX3_mixColours : zkd cX3_mixColours.data.toList kn_cX3_mixColours = true := by decide +kernel
theorem zn_cX3_mixColours : cX3_mixColours.data.toList.length = 137 := by decide +kernel
theorem dX3_mixColours_0 : decode cX3_mixColours 0 = .ok (.iconst 0, 1) := zo_3 (zkb zk_cX3_mixColours zn_cX3_mixColours (by decide +kernel))
theorem dX3_mixColours_1 : decode cX3_mixColours 1 = .ok (.istore_n 2, 1) := zo_61 (zkb zk_cX3_mixColours zn_cX3_mixColours (by decide +kernel))
theorem dX3_mixColours_2 : decode cX3_mixColours 2 = .ok (.iload_n 2, 1) := zo_28 (zkb zk_cX3_mixColours zn_cX3_mixColours (by decide +kernel))
theorem dX3_mixColours_3 : decode cX3_mixColours 3 = .ok (.bipush 32, 2) := zo_16 (b1 := 32) (zkb2 zk_cX3_mixColours zn_cX3_mixColours (by decide +kernel)) rfl
theorem dX3_mixColours_5 : decode cX3_mixColours 5 = .ok (.if_icmp .ge 131, 3) := zo_162 (b1 := 0) (b2 := 131) (zkb3 zk_cX3_mixColours zn_cX3_mixColours (by decide +kernel)) rfl
theorem dX3_mixColours_8 : decode cX3_mixColours 8 = .ok (.iload_n 1, 1) := zo_27 (zkb zk_cX3_mixColours zn_cX3_mixColours (by decide +kernel))
theorem dX3_mixColours_9 : decode cX3_mixColours 9 = .ok (.iconst 4, 1) := zo_7 (zkb zk_cX3_mixColours zn_cX3_mixColours (by decide +kernel))
theorem dX3_mixColours_10 : decode cX3_mixColours 10 = .ok (.if_icmp .ne 72, 3) := zo_160 (b1 := 0) (b2 := 72) (zkb3 zk_cX3_mixColours zn_cX3_mixColours (by decide +kernel)) rfl
theorem dX3_mixColours_13 : decode cX3_mixColours 13 = .ok (.aload_n 0, 1) := zo_42 (zkb zk_cX3_mixColours zn_cX3_mixColours (by decide +kernel))
theorem dX3_mixColours_14 : decode cX3_mixColours 14 = .ok (.getfield 23, 3) := zo_180 (b1 := 0) (b2 := 23) (zkb3 zk_cX3_mixColours zn_cX3_mixColours (by decide +kernel)) rfl
theorem dX3_mixColours_17 : decode cX3_mixColours 17 = .ok (.iload_n 2, 1) := zo_28 (zkb zk_cX3_mixColours zn_cX3_mixColours (by decide +kernel))
theorem dX3_mixColours_18 : decode cX3_mixColours 18 = .ok (.aload_n 0, 1) := zo_42 (zkb zk_cX3_mixColours zn_cX3_mixColours (by decide +kernel))
theorem dX3_mixColours_19 : decode cX3_mixColours 19 = .ok (.getfield 30, 3) := zo_180 (b1 := 0) (b2 := 30) (zkb3 zk_cX3_mixColours zn_cX3_mixColours (by decide +kernel)) rfl
theorem dX3_mixColours_22 : decode cX3_mixColours 22 = .ok (.ifCond .eq 42, 3) := zo_153 (b1 := 0) (b2 := 42) (zkb3 zk_cX3_mixColours zn_cX3_mixColours (by decide +kernel)) rfl
theorem dX3_mixColours_25 : decode cX3_mixColours 25 = .ok (.aload_n 0, 1) := zo_42 (zkb zk_cX3_mixColours zn_cX3_mixColours (by decide +kernel))
theorem dX3_mixColours_26 : decode cX3_mixColours 26 = .ok (.getfield 26, 3) := zo_180 (b1 := 0) (b2 := 26) (zkb3 zk_cX3_mixColours zn_cX3_mixColours (by decide +kernel)) rfl
theorem dX3_mixColours_29 : decode cX3_mixColours 29 = .ok (.bipush 32, 2) := zo_16 (b1 := 32) (zkb2 zk_cX3_mixColours zn_cX3_mixColours (by decide +kernel)) rfl
theorem dX3_mixColours_31 : decode cX3_mixColours 31 = .ok (.iconst 2, 1) := zo_5 (zkb zk_cX3_mixColours zn_cX3_mixColours (by decide +kernel))
theorem dX3_mixColours_32 : decode cX3_mixColours 32 = .ok (.iload_n 2, 1) := zo_28 (zkb zk_cX3_mixColours zn_cX3_mixColours (by decide +kernel))
theorem dX3_mixColours_33 : decode cX3_mixColours 33 = .ok (.imul, 1) := zo_104 (zkb zk_cX3_mixColours zn_cX3_mixColours (by decide +kernel))
theorem dX3_mixColours_34 : decode cX3_mixColours 34 = .ok (.iadd, 1) := zo_96 (zkb zk_cX3_mixColours zn_cX3_mixColours (by decide +kernel))
theorem dX3_mixColours_35 : decode cX3_mixColours 35 = .ok (.invokevirtual 62, 3) := zo_182 (b1 := 0) (b2 := 62) (zkb3 zk_cX3_mixColours zn_cX3_mixColours (by decide +kernel)) rfl
theorem dX3_mixColours_38 : decode cX3_mixColours 38 = .ok (.aload_n 0, 1) := zo_42 (zkb zk_cX3_mixColours zn_cX3_mixColours (by decide +kernel))
theorem dX3_mixColours_39 : decode cX3_mixColours 39 = .ok (.getfield 26, 3) := zo_180 (b1 := 0) (b2 := 26) (zkb3 zk_cX3_mixColours zn_cX3_mixColours (by decide +kernel)) rfl
theorem dX3_mixColours_42 : decode cX3_mixColours 42 = .ok (.bipush 32, 2) := zo_16 (b1 := 32) (zkb2 zk_cX3_mixColours zn_cX3_mixColours (by decide +kernel)) rfl
theorem dX3_mixColours_44 : decode cX3_mixColours 44 = .ok (.iconst 2, 1) := zo_5 (zkb zk_cX3_mixColours zn_cX3_mixColours (by decide +kernel))
theorem dX3_mixColours_45 : decode cX3_mixColours 45 = .ok (.iload_n 2, 1) := zo_28 (zkb zk_cX3_mixColours zn_cX3_mixColours (by decide +kernel))
theorem dX3_mixColours_46 : decode cX3_mixColours 46 = .ok (.imul, 1) := zo_104 (zkb zk_cX3_mixColours zn_cX3_mixColours (by decide +kernel))
theorem dX3_mixColours_47 : decode cX3_mixColours 47 = .ok (.iadd, 1) := zo_96 (zkb zk_cX3_mixColours zn_cX3_mixColours (by decide +kernel))
theorem dX3_mixColours_48 : decode cX3_mixColours 48 = .ok (.iconst 1, 1) := zo_4 (zkb zk_cX3_mixColours zn_cX3_mixColours (by decide +kernel))
theorem dX3_mixColours_49 : decode cX3_mixColours 49 = .ok (.iadd, 1) := zo_96 (zkb zk_cX3_mixColours zn_cX3_mixColours (by decide +kernel))
theorem dX3_mixColours_50 : decode cX3_mixColours 50 = .ok (.invokevirtual 62, 3) := zo_182 (b1 := 0) (b2 := 62) (zkb3 zk_cX3_mixColours zn_cX3_mixColours (by decide +kernel)) rfl
theorem dX3_mixColours_53 : decode cX3_mixColours 53 = .ok (.bipush 8, 2) := zo_16 (b1 := 8) (zkb2 zk_cX3_mixColours zn_cX3_mixColours (by decide +kernel)) rfl
theorem dX3_mixColours_55 : decode cX3_mixColours 55 = .ok (.ishl, 1) := zo_120 (zkb zk_cX3_mixColours zn_cX3_mixColours (by decide +kernel))
theorem dX3_mixColours_56 : decode cX3_mixColours 56 = .ok (.ior, 1) := zo_128 (zkb zk_cX3_mixColours zn_cX3_mixColours (by decide +kernel))
theorem dX3_mixColours_57 : decode cX3_mixColours 57 = .ok (.sipush 4095, 3) := zo_17 (b1 := 15) (b2 := 255) (zkb3 zk_cX3_mixColours zn_cX3_mixColours (by decide +kernel)) rfl
theorem dX3_mixColours_60 : decode cX3_mixColours 60 = .ok (.iand, 1) := zo_126 (zkb zk_cX3_mixColours zn_cX3_mixColours (by decide +kernel))
theorem dX3_mixColours_61 : decode cX3_mixColours 61 = .ok (.goto 17, 3) := zo_167 (b1 := 0) (b2 := 17) (zkb3 zk_cX3_mixColours zn_cX3_mixColours (by decide +kernel)) rfl
theorem dX3_mixColours_64 : decode cX3_mixColours 64 = .ok (.aload_n 0, 1) := zo_42 (zkb zk_cX3_mixColours zn_cX3_mixColours (by decide +kernel))
theorem dX3_mixColours_65 : decode cX3_mixColours 65 = .ok (.getfield 26, 3) := zo_180 (b1 := 0) (b2 := 26) (zkb3 zk_cX3_mixColours zn_cX3_mixColours (by decide +kernel)) rfl
theorem dX3_mixColours_68 : decode cX3_mixColours 68 = .ok (.bipush 32, 2) := zo_16 (b1 := 32) (zkb2 zk_cX3_mixColours zn_cX3_mixColours (by decide +kernel)) rfl
theorem dX3_mixColours_70 : decode cX3_mixColours 70 = .ok (.iload_n 2, 1) := zo_28 (zkb zk_cX3_mixColours zn_cX3_mixColours (by decide +kernel))
theorem dX3_mixColours_71 : decode cX3_mixColours 71 = .ok (.iadd, 1) := zo_96 (zkb zk_cX3_mixColours zn_cX3_mixColours (by decide +kernel))
theorem dX3_mixColours_72 : decode cX3_mixColours 72 = .ok (.invokevirtual 62, 3) := zo_182 (b1 := 0) (b2 := 62) (zkb3 zk_cX3_mixColours zn_cX3_mixColours (by decide +kernel)) rfl
theorem dX3_mixColours_75 : decode cX3_mixColours 75 = .ok (.bipush 63, 2) := zo_16 (b1 := 63) (zkb2 zk_cX3_mixColours zn_cX3_mixColours (by decide +kernel)) rfl
theorem dX3_mixColours_77 : decode cX3_mixColours 77 = .ok (.iand, 1) := zo_126 (zkb zk_cX3_mixColours zn_cX3_mixColours (by decide +kernel))
theorem dX3_mixColours_78 : decode cX3_mixColours 78 = .ok (.iastore, 1) := zo_79 (zkb zk_cX3_mixColours zn_cX3_mixColours (by decide +kernel))
theorem dX3_mixColours_79 : decode cX3_mixColours 79 = .ok (.goto 51, 3) := zo_167 (b1 := 0) (b2 := 51) (zkb3 zk_cX3_mixColours zn_cX3_mixColours (by decide +kernel)) rfl
theorem dX3_mixColours_82 : decode cX3_mixColours 82 = .ok (.getstatic 97, 3) := zo_178 (b1 := 0) (b2 := 97) (zkb3 zk_cX3_mixColours zn_cX3_mixColours (by decide +kernel)) rfl
theorem dX3_mixColours_85 : decode cX3_mixColours 85 = .ok (.iload_n 2, 1) := zo_28 (zkb zk_cX3_mixColours zn_cX3_mixColours (by decide +kernel))
theorem dX3_mixColours_86 : decode cX3_mixColours 86 = .ok (.bipush 15, 2) := zo_16 (b1 := 15) (zkb2 zk_cX3_mixColours zn_cX3_mixColours (by decide +kernel)) rfl
theorem dX3_mixColours_88 : decode cX3_mixColours 88 = .ok (.iand, 1) := zo_126 (zkb zk_cX3_mixColours zn_cX3_mixColours (by decide +kernel))
theorem dX3_mixColours_89 : decode cX3_mixColours 89 = .ok (.iaload, 1) := zo_46 (zkb zk_cX3_mixColours zn_cX3_mixColours (by decide +kernel))
theorem dX3_mixColours_90 : decode cX3_mixColours 90 = .ok (.istore_n 3, 1) := zo_62 (zkb zk_cX3_mixColours zn_cX3_mixColours (by decide +kernel))
theorem dX3_mixColours_91 : decode cX3_mixColours 91 = .ok (.aload_n 0, 1) := zo_42 (zkb zk_cX3_mixColours zn_cX3_mixColours (by decide +kernel))
theorem dX3_mixColours_92 : decode cX3_mixColours 92 = .ok (.getfield 23, 3) := zo_180 (b1 := 0) (b2 := 23) (zkb3 zk_cX3_mixColours zn_cX3_mixColours (by decide +kernel)) rfl
theorem dX3_mixColours_95 : decode cX3_mixColours 95 = .ok (.iload_n 2, 1) := zo_28 (zkb zk_cX3_mixColours zn_cX3_mixColours (by decide +kernel))
theorem dX3_mixColours_96 : decode cX3_mixColours 96 = .ok (.aload_n 0, 1) := zo_42 (zkb zk_cX3_mixColours zn_cX3_mixColours (by decide +kernel))
theorem dX3_mixColours_97 : decode cX3_mixColours 97 = .ok (.getfield 30, 3) := zo_180 (b1 := 0) (b2 := 30) (zkb3 zk_cX3_mixColours zn_cX3_mixColours (by decide +kernel)) rfl
theorem dX3_mixColours_100 : decode cX3_mixColours 100 = .ok (.ifCond .eq 28, 3) := zo_153 (b1 := 0) (b2 := 28) (zkb3 zk_cX3_mixColours zn_cX3_mixColours (by decide +kernel)) rfl
theorem dX3_mixColours_103 : decode cX3_mixColours 103 = .ok (.iconst 5, 1) := zo_8 (zkb zk_cX3_mixColours zn_cX3_mixColours (by decide +kernel))
theorem dX3_mixColours_104 : decode cX3_mixColours 104 = .ok (.iload_n 3, 1) := zo_29 (zkb zk_cX3_mixColours zn_cX3_mixColours (by decide +kernel))
theorem dX3_mixColours_105 : decode cX3_mixColours 105 = .ok (.iconst 3, 1) := zo_6 (zkb zk_cX3_mixColours zn_cX3_mixColours (by decide +kernel))
theorem dX3_mixColours_106 : decode cX3_mixColours 106 = .ok (.iand, 1) := zo_126 (zkb zk_cX3_mixColours zn_cX3_mixColours (by decide +kernel))
theorem dX3_mixColours_107 : decode cX3_mixColours 107 = .ok (.imul, 1) := zo_104 (zkb zk_cX3_mixColours zn_cX3_mixColours (by decide +kernel))
theorem dX3_mixColours_108 : decode cX3_mixColours 108 = .ok (.bipush 80, 2) := zo_16 (b1 := 80) (zkb2 zk_cX3_mixColours zn_cX3_mixColours (by decide +kernel)) rfl
theorem dX3_mixColours_110 : decode cX3_mixColours 110 = .ok (.iload_n 3, 1) := zo_29 (zkb zk_cX3_mixColours zn_cX3_mixColours (by decide +kernel))
theorem dX3_mixColours_111 : decode cX3_mixColours 111 = .ok (.iconst 2, 1) := zo_5 (zkb zk_cX3_mixColours zn_cX3_mixColours (by decide +kernel))
theorem dX3_mixColours_112 : decode cX3_mixColours 112 = .ok (.ishr, 1) := zo_122 (zkb zk_cX3_mixColours zn_cX3_mixColours (by decide +kernel))
theorem dX3_mixColours_113 : decode cX3_mixColours 113 = .ok (.iconst 3, 1) := zo_6 (zkb zk_cX3_mixColours zn_cX3_mixColours (by decide +kernel))
theorem dX3_mixColours_114 : decode cX3_mixColours 114 = .ok (.iand, 1) := zo_126 (zkb zk_cX3_mixColours zn_cX3_mixColours (by decide +kernel))
theorem dX3_mixColours_115 : decode cX3_mixColours 115 = .ok (.imul, 1) := zo_104 (zkb zk_cX3_mixColours zn_cX3_mixColours (by decide +kernel))
theorem dX3_mixColours_116 : decode cX3_mixColours 116 = .ok (.iadd, 1) := zo_96 (zkb zk_cX3_mixColours zn_cX3_mixColours (by decide +kernel))
theorem dX3_mixColours_117 : decode cX3_mixColours 117 = .ok (.sipush 1280, 3) := zo_17 (b1 := 5) (b2 := 0) (zkb3 zk_cX3_mixColours zn_cX3_mixColours (by decide +kernel)) rfl
theorem dX3_mixColours_120 : decode cX3_mixColours 120 = .ok (.iload_n 3, 1) := zo_29 (zkb zk_cX3_mixColours zn_cX3_mixColours (by decide +kernel))
theorem dX3_mixColours_121 : decode cX3_mixColours 121 = .ok (.iconst 4, 1) := zo_7 (zkb zk_cX3_mixColours zn_cX3_mixColours (by decide +kernel))
theorem dX3_mixColours_122 : decode cX3_mixColours 122 = .ok (.ishr, 1) := zo_122 (zkb zk_cX3_mixColours zn_cX3_mixColours (by decide +kernel))
theorem dX3_mixColours_123 : decode cX3_mixColours 123 = .ok (.imul, 1) := zo_104 (zkb zk_cX3_mixColours zn_cX3_mixColours (by decide +kernel))
theorem dX3_mixColours_124 : decode cX3_mixColours 124 = .ok (.iadd, 1) := zo_96 (zkb zk_cX3_mixColours zn_cX3_mixColours (by decide +kernel))
theorem dX3_mixColours_125 : decode cX3_mixColours 125 = .ok (.goto 4, 3) := zo_167 (b1 := 0) (b2 := 4) (zkb3 zk_cX3_mixColours zn_cX3_mixColours (by decide +kernel)) rfl
theorem dX3_mixColours_128 : decode cX3_mixColours 128 = .ok (.iload_n 3, 1) := zo_29 (zkb zk_cX3_mixColours zn_cX3_mixColours (by decide +kernel))
theorem dX3_mixColours_129 : decode cX3_mixColours 129 = .ok (.iastore, 1) := zo_79 (zkb zk_cX3_mixColours zn_cX3_mixColours (by decide +kernel))
theorem dX3_mixColours_130 : decode cX3_mixColours 130 = .ok (.iinc 2 1, 3) := zo_132 (b1 := 2) (b2 := 1) (zkb3 zk_cX3_mixColours zn_cX3_mixColours (by decide +kernel)) rfl
theorem dX3_mixColours_133 : decode cX3_mixColours 133 = .ok (.goto (-131), 3) := zo_167 (b1 := 255) (b2 := 125) (zkb3 zk_cX3_mixColours zn_cX3_mixColours (by decide +kernel)) rfl
theorem dX3_mixColours_136 : decode cX3_mixColours 136 = .ok (.return_, 1) := zo_177 (zkb zk_cX3_mixColours zn_cX3_mixColours (by decide +kernel))
def kn_cX3_drawTiles : Nat := 0xb14effa70109844f60030400a70001110900990d1560030400a710100800997e0008116700b42a0c1509151100b42a0d36030400a7040700997e0010116700b42a12009e0c150c366e00b80b156b00b42a0b367e07100a150800a7647e07100a1507100e00997e0002116700b42a6400b607150500a71b0700a1c0001109150f0099081560687a060a150505152a23009a7e07100a150b009fc00011091513009909150a367eff00116406150915b000a200011109150936030836030400a7040700997e8000111d073670e000110600a70001110900991c603e00b613101a00b42a1b06363e00b608101a00b42a0c00a7030700997e40101d0e00a210101b0536687e0e1004150004110c00a760000711687e067a0504150010111400991c04363e00b6051a00b42a3e3e00b6031a00b42a3d030400a70407009fc000112800b61a00b42a
theorem zk_cX3_drawTiles : zkd cX3_drawTiles.data.toList kn_cX3_drawTiles = true := by decide +kernel
theorem zn_cX3_drawTiles : cX3_drawTiles.data.toList.length = 325 := by decide +kernel
theorem dX3_drawTiles_0 : decode cX3_drawTiles 0 = .ok (.aload_n 0, 1) := zo_42 (zkb zk_cX3_drawTiles zn_cX3_drawTiles (by decide +kernel))
theorem dX3_drawTiles_1 : decode cX3_drawTiles 1 = .ok (.getfield 26, 3) := zo_180 (b1 := 0) (b2 := 26) (zkb3 zk_cX3_drawTiles zn_cX3_drawTiles (by decide +kernel)) rfl
theorem dX3_drawTiles_4 : decode cX3_drawTiles 4 = .ok (.invokevirtual 40, 3) := zo_182 (b1 := 0) (b2 := 40) (zkb3 zk_cX3_drawTiles zn_cX3_drawTiles (by decide +kernel)) rfl
theorem dX3_drawTiles_7 : decode cX3_drawTiles 7 = .ok (.sipush 192, 3) := zo_17 (b1 := 0) (b2 := 192) (zkb3 zk_cX3_drawTiles zn_cX3_drawTiles (by decide +kernel)) rfl
theorem dX3_drawTiles_10 : decode cX3_drawTiles 10 = .ok (.if_icmp .eq 7, 3) := zo_159 (b1 := 0) (b2 := 7) (zkb3 zk_cX3_drawTiles zn_cX3_drawTiles (by decide +kernel)) rfl
theorem dX3_drawTiles_13 : decode cX3_drawTiles 13 = .ok (.iconst 1, 1) := zo_4 (zkb zk_cX3_drawTiles zn_cX3_drawTiles (by decide +kernel))
theorem dX3_drawTiles_14 : decode cX3_drawTiles 14 = .ok (.goto 4, 3) := zo_167 (b1 := 0) (b2 := 4) (zkb3 zk_cX3_drawTiles zn_cX3_drawTiles (by decide +kernel)) rfl
theorem dX3_drawTiles_17 : decode cX3_drawTiles 17 = .ok (.iconst 0, 1) := zo_3 (zkb zk_cX3_drawTiles zn_cX3_drawTiles (by decide +kernel))
theorem dX3_drawTiles_18 : decode cX3_drawTiles 18 = .ok (.istore_n 2, 1) := zo_61 (zkb zk_cX3_drawTiles zn_cX3_drawTiles (by decide +kernel))
theorem dX3_drawTiles_19 : decode cX3_drawTiles 19 = .ok (.aload_n 0, 1) := zo_42 (zkb zk_cX3_drawTiles zn_cX3_drawTiles (by decide +kernel))
theorem dX3_drawTiles_20 : decode cX3_drawTiles 20 = .ok (.getfield 26, 3) := zo_180 (b1 := 0) (b2 := 26) (zkb3 zk_cX3_drawTiles zn_cX3_drawTiles (by decide +kernel)) rfl
theorem dX3_drawTiles_23 : decode cX3_drawTiles 23 = .ok (.iconst 0, 1) := zo_3 (zkb zk_cX3_drawTiles zn_cX3_drawTiles (by decide +kernel))
theorem dX3_drawTiles_24 : decode cX3_drawTiles 24 = .ok (.invokevirtual 62, 3) := zo_182 (b1 := 0) (b2 := 62) (zkb3 zk_cX3_drawTiles zn_cX3_drawTiles (by decide +kernel)) rfl
theorem dX3_drawTiles_27 : decode cX3_drawTiles 27 = .ok (.istore_n 3, 1) := zo_62 (zkb zk_cX3_drawTiles zn_cX3_drawTiles (by decide +kernel))
theorem dX3_drawTiles_28 : decode cX3_drawTiles 28 = .ok (.aload_n 0, 1) := zo_42 (zkb zk_cX3_drawTiles zn_cX3_drawTiles (by decide +kernel))
theorem dX3_drawTiles_29 : decode cX3_drawTiles 29 = .ok (.getfield 26, 3) := zo_180 (b1 := 0) (b2 := 26) (zkb3 zk_cX3_drawTiles zn_cX3_drawTiles (by decide +kernel)) rfl
theorem dX3_drawTiles_32 : decode cX3_drawTiles 32 = .ok (.iconst 2, 1) := zo_5 (zkb zk_cX3_drawTiles zn_cX3_drawTiles (by decide +kernel))
theorem dX3_drawTiles_33 : decode cX3_drawTiles 33 = .ok (.invokevirtual 62, 3) := zo_182 (b1 := 0) (b2 := 62) (zkb3 zk_cX3_drawTiles zn_cX3_drawTiles (by decide +kernel)) rfl
theorem dX3_drawTiles_36 : decode cX3_drawTiles 36 = .ok (.istore 4, 2) := zo_54 (b1 := 4) (zkb2 zk_cX3_drawTiles zn_cX3_drawTiles (by decide +kernel))
theorem dX3_drawTiles_38 : decode cX3_drawTiles 38 = .ok (.iload_n 2, 1) := zo_28 (zkb zk_cX3_drawTiles zn_cX3_drawTiles (by decide +kernel))
theorem dX3_drawTiles_39 : decode cX3_drawTiles 39 = .ok (.ifCond .eq 20, 3) := zo_153 (b1 := 0) (b2 := 20) (zkb3 zk_cX3_drawTiles zn_cX3_drawTiles (by decide +kernel)) rfl
theorem dX3_drawTiles_42 : decode cX3_drawTiles 42 = .ok (.sipush 4096, 3) := zo_17 (b1 := 16) (b2 := 0) (zkb3 zk_cX3_drawTiles zn_cX3_drawTiles (by decide +kernel)) rfl
theorem dX3_drawTiles_45 : decode cX3_drawTiles 45 = .ok (.iload 4, 2) := zo_21 (b1 := 4) (zkb2 zk_cX3_drawTiles zn_cX3_drawTiles (by decide +kernel))
theorem dX3_drawTiles_47 : decode cX3_drawTiles 47 = .ok (.iconst 2, 1) := zo_5 (zkb zk_cX3_drawTiles zn_cX3_drawTiles (by decide +kernel))
theorem dX3_drawTiles_48 : decode cX3_drawTiles 48 = .ok (.ishr, 1) := zo_122 (zkb zk_cX3_drawTiles zn_cX3_drawTiles (by decide +kernel))
theorem dX3_drawTiles_49 : decode cX3_drawTiles 49 = .ok (.iconst 3, 1) := zo_6 (zkb zk_cX3_drawTiles zn_cX3_drawTiles (by decide +kernel))
theorem dX3_drawTiles_50 : decode cX3_drawTiles 50 = .ok (.iand, 1) := zo_126 (zkb zk_cX3_drawTiles zn_cX3_drawTiles (by decide +kernel))
theorem dX3_drawTiles_51 : decode cX3_drawTiles 51 = .ok (.imul, 1) := zo_104 (zkb zk_cX3_drawTiles zn_cX3_drawTiles (by decide +kernel))
theorem dX3_drawTiles_52 : decode cX3_drawTiles 52 = .ok (.sipush 1792, 3) := zo_17 (b1 := 7) (b2 := 0) (zkb3 zk_cX3_drawTiles zn_cX3_drawTiles (by decide +kernel)) rfl
theorem dX3_drawTiles_55 : decode cX3_drawTiles 55 = .ok (.iadd, 1) := zo_96 (zkb zk_cX3_drawTiles zn_cX3_drawTiles (by decide +kernel))
theorem dX3_drawTiles_56 : decode cX3_drawTiles 56 = .ok (.goto 12, 3) := zo_167 (b1 := 0) (b2 := 12) (zkb3 zk_cX3_drawTiles zn_cX3_drawTiles (by decide +kernel)) rfl
theorem dX3_drawTiles_59 : decode cX3_drawTiles 59 = .ok (.sipush 1024, 3) := zo_17 (b1 := 4) (b2 := 0) (zkb3 zk_cX3_drawTiles zn_cX3_drawTiles (by decide +kernel)) rfl
theorem dX3_drawTiles_62 : decode cX3_drawTiles 62 = .ok (.iload 4, 2) := zo_21 (b1 := 4) (zkb2 zk_cX3_drawTiles zn_cX3_drawTiles (by decide +kernel))
theorem dX3_drawTiles_64 : decode cX3_drawTiles 64 = .ok (.bipush 14, 2) := zo_16 (b1 := 14) (zkb2 zk_cX3_drawTiles zn_cX3_drawTiles (by decide +kernel)) rfl
theorem dX3_drawTiles_66 : decode cX3_drawTiles 66 = .ok (.iand, 1) := zo_126 (zkb zk_cX3_drawTiles zn_cX3_drawTiles (by decide +kernel))
theorem dX3_drawTiles_67 : decode cX3_drawTiles 67 = .ok (.imul, 1) := zo_104 (zkb zk_cX3_drawTiles zn_cX3_drawTiles (by decide +kernel))
theorem dX3_drawTiles_68 : decode cX3_drawTiles 68 = .ok (.istore 5, 2) := zo_54 (b1 := 5) (zkb2 zk_cX3_drawTiles zn_cX3_drawTiles (by decide +kernel))
theorem dX3_drawTiles_70 : decode cX3_drawTiles 70 = .ok (.iload_n 1, 1) := zo_27 (zkb zk_cX3_drawTiles zn_cX3_drawTiles (by decide +kernel))
theorem dX3_drawTiles_71 : decode cX3_drawTiles 71 = .ok (.bipush 16, 2) := zo_16 (b1 := 16) (zkb2 zk_cX3_drawTiles zn_cX3_drawTiles (by decide +kernel)) rfl
theorem dX3_drawTiles_73 : decode cX3_drawTiles 73 = .ok (.if_icmp .ge 14, 3) := zo_162 (b1 := 0) (b2 := 14) (zkb3 zk_cX3_drawTiles zn_cX3_drawTiles (by decide +kernel)) rfl
theorem dX3_drawTiles_76 : decode cX3_drawTiles 76 = .ok (.iload_n 3, 1) := zo_29 (zkb zk_cX3_drawTiles zn_cX3_drawTiles (by decide +kernel))
theorem dX3_drawTiles_77 : decode cX3_drawTiles 77 = .ok (.bipush 64, 2) := zo_16 (b1 := 64) (zkb2 zk_cX3_drawTiles zn_cX3_drawTiles (by decide +kernel)) rfl
theorem dX3_drawTiles_79 : decode cX3_drawTiles 79 = .ok (.iand, 1) := zo_126 (zkb zk_cX3_drawTiles zn_cX3_drawTiles (by decide +kernel))
theorem dX3_drawTiles_80 : decode cX3_drawTiles 80 = .ok (.ifCond .eq 7, 3) := zo_153 (b1 := 0) (b2 := 7) (zkb3 zk_cX3_drawTiles zn_cX3_drawTiles (by decide +kernel)) rfl
theorem dX3_drawTiles_83 : decode cX3_drawTiles 83 = .ok (.iconst 0, 1) := zo_3 (zkb zk_cX3_drawTiles zn_cX3_drawTiles (by decide +kernel))
theorem dX3_drawTiles_84 : decode cX3_drawTiles 84 = .ok (.goto 12, 3) := zo_167 (b1 := 0) (b2 := 12) (zkb3 zk_cX3_drawTiles zn_cX3_drawTiles (by decide +kernel)) rfl
theorem dX3_drawTiles_87 : decode cX3_drawTiles 87 = .ok (.aload_n 0, 1) := zo_42 (zkb zk_cX3_drawTiles zn_cX3_drawTiles (by decide +kernel))
theorem dX3_drawTiles_88 : decode cX3_drawTiles 88 = .ok (.getfield 26, 3) := zo_180 (b1 := 0) (b2 := 26) (zkb3 zk_cX3_drawTiles zn_cX3_drawTiles (by decide +kernel)) rfl
theorem dX3_drawTiles_91 : decode cX3_drawTiles 91 = .ok (.bipush 8, 2) := zo_16 (b1 := 8) (zkb2 zk_cX3_drawTiles zn_cX3_drawTiles (by decide +kernel)) rfl
theorem dX3_drawTiles_93 : decode cX3_drawTiles 93 = .ok (.invokevirtual 62, 3) := zo_182 (b1 := 0) (b2 := 62) (zkb3 zk_cX3_drawTiles zn_cX3_drawTiles (by decide +kernel)) rfl
theorem dX3_drawTiles_96 : decode cX3_drawTiles 96 = .ok (.istore 6, 2) := zo_54 (b1 := 6) (zkb2 zk_cX3_drawTiles zn_cX3_drawTiles (by decide +kernel))
theorem dX3_drawTiles_98 : decode cX3_drawTiles 98 = .ok (.iload_n 1, 1) := zo_27 (zkb zk_cX3_drawTiles zn_cX3_drawTiles (by decide +kernel))
theorem dX3_drawTiles_99 : decode cX3_drawTiles 99 = .ok (.aload_n 0, 1) := zo_42 (zkb zk_cX3_drawTiles zn_cX3_drawTiles (by decide +kernel))
theorem dX3_drawTiles_100 : decode cX3_drawTiles 100 = .ok (.getfield 26, 3) := zo_180 (b1 := 0) (b2 := 26) (zkb3 zk_cX3_drawTiles zn_cX3_drawTiles (by decide +kernel)) rfl
theorem dX3_drawTiles_103 : decode cX3_drawTiles 103 = .ok (.bipush 19, 2) := zo_16 (b1 := 19) (zkb2 zk_cX3_drawTiles zn_cX3_drawTiles (by decide +kernel)) rfl
theorem dX3_drawTiles_105 : decode cX3_drawTiles 105 = .ok (.invokevirtual 62, 3) := zo_182 (b1 := 0) (b2 := 62) (zkb3 zk_cX3_drawTiles zn_cX3_drawTiles (by decide +kernel)) rfl
theorem dX3_drawTiles_108 : decode cX3_drawTiles 108 = .ok (.iadd, 1) := zo_96 (zkb zk_cX3_drawTiles zn_cX3_drawTiles (by decide +kernel))
theorem dX3_drawTiles_109 : decode cX3_drawTiles 109 = .ok (.iload_n 2, 1) := zo_28 (zkb zk_cX3_drawTiles zn_cX3_drawTiles (by decide +kernel))
theorem dX3_drawTiles_110 : decode cX3_drawTiles 110 = .ok (.ifCond .eq 9, 3) := zo_153 (b1 := 0) (b2 := 9) (zkb3 zk_cX3_drawTiles zn_cX3_drawTiles (by decide +kernel)) rfl
theorem dX3_drawTiles_113 : decode cX3_drawTiles 113 = .ok (.sipush 256, 3) := zo_17 (b1 := 1) (b2 := 0) (zkb3 zk_cX3_drawTiles zn_cX3_drawTiles (by decide +kernel)) rfl
theorem dX3_drawTiles_116 : decode cX3_drawTiles 116 = .ok (.goto 6, 3) := zo_167 (b1 := 0) (b2 := 6) (zkb3 zk_cX3_drawTiles zn_cX3_drawTiles (by decide +kernel)) rfl
theorem dX3_drawTiles_119 : decode cX3_drawTiles 119 = .ok (.sipush 224, 3) := zo_17 (b1 := 0) (b2 := 224) (zkb3 zk_cX3_drawTiles zn_cX3_drawTiles (by decide +kernel)) rfl
theorem dX3_drawTiles_122 : decode cX3_drawTiles 122 = .ok (.irem, 1) := zo_112 (zkb zk_cX3_drawTiles zn_cX3_drawTiles (by decide +kernel))
theorem dX3_drawTiles_123 : decode cX3_drawTiles 123 = .ok (.istore 7, 2) := zo_54 (b1 := 7) (zkb2 zk_cX3_drawTiles zn_cX3_drawTiles (by decide +kernel))
theorem dX3_drawTiles_125 : decode cX3_drawTiles 125 = .ok (.iload_n 3, 1) := zo_29 (zkb zk_cX3_drawTiles zn_cX3_drawTiles (by decide +kernel))
theorem dX3_drawTiles_126 : decode cX3_drawTiles 126 = .ok (.sipush 128, 3) := zo_17 (b1 := 0) (b2 := 128) (zkb3 zk_cX3_drawTiles zn_cX3_drawTiles (by decide +kernel)) rfl
theorem dX3_drawTiles_129 : decode cX3_drawTiles 129 = .ok (.iand, 1) := zo_126 (zkb zk_cX3_drawTiles zn_cX3_drawTiles (by decide +kernel))
theorem dX3_drawTiles_130 : decode cX3_drawTiles 130 = .ok (.ifCond .eq 7, 3) := zo_153 (b1 := 0) (b2 := 7) (zkb3 zk_cX3_drawTiles zn_cX3_drawTiles (by decide +kernel)) rfl
theorem dX3_drawTiles_133 : decode cX3_drawTiles 133 = .ok (.iconst 1, 1) := zo_4 (zkb zk_cX3_drawTiles zn_cX3_drawTiles (by decide +kernel))
theorem dX3_drawTiles_134 : decode cX3_drawTiles 134 = .ok (.goto 4, 3) := zo_167 (b1 := 0) (b2 := 4) (zkb3 zk_cX3_drawTiles zn_cX3_drawTiles (by decide +kernel)) rfl
theorem dX3_drawTiles_137 : decode cX3_drawTiles 137 = .ok (.iconst 0, 1) := zo_3 (zkb zk_cX3_drawTiles zn_cX3_drawTiles (by decide +kernel))
theorem dX3_drawTiles_138 : decode cX3_drawTiles 138 = .ok (.istore 8, 2) := zo_54 (b1 := 8) (zkb2 zk_cX3_drawTiles zn_cX3_drawTiles (by decide +kernel))
theorem dX3_drawTiles_140 : decode cX3_drawTiles 140 = .ok (.iconst 0, 1) := zo_3 (zkb zk_cX3_drawTiles zn_cX3_drawTiles (by decide +kernel))
theorem dX3_drawTiles_141 : decode cX3_drawTiles 141 = .ok (.istore 9, 2) := zo_54 (b1 := 9) (zkb2 zk_cX3_drawTiles zn_cX3_drawTiles (by decide +kernel))
theorem dX3_drawTiles_143 : decode cX3_drawTiles 143 = .ok (.iload 9, 2) := zo_21 (b1 := 9) (zkb2 zk_cX3_drawTiles zn_cX3_drawTiles (by decide +kernel))
theorem dX3_drawTiles_145 : decode cX3_drawTiles 145 = .ok (.sipush 256, 3) := zo_17 (b1 := 1) (b2 := 0) (zkb3 zk_cX3_drawTiles zn_cX3_drawTiles (by decide +kernel)) rfl
theorem dX3_drawTiles_148 : decode cX3_drawTiles 148 = .ok (.if_icmp .ge 176, 3) := zo_162 (b1 := 0) (b2 := 176) (zkb3 zk_cX3_drawTiles zn_cX3_drawTiles (by decide +kernel)) rfl
theorem dX3_drawTiles_151 : decode cX3_drawTiles 151 = .ok (.iload 9, 2) := zo_21 (b1 := 9) (zkb2 zk_cX3_drawTiles zn_cX3_drawTiles (by decide +kernel))
theorem dX3_drawTiles_153 : decode cX3_drawTiles 153 = .ok (.iload 6, 2) := zo_21 (b1 := 6) (zkb2 zk_cX3_drawTiles zn_cX3_drawTiles (by decide +kernel))
theorem dX3_drawTiles_155 : decode cX3_drawTiles 155 = .ok (.isub, 1) := zo_100 (zkb zk_cX3_drawTiles zn_cX3_drawTiles (by decide +kernel))
theorem dX3_drawTiles_156 : decode cX3_drawTiles 156 = .ok (.sipush 255, 3) := zo_17 (b1 := 0) (b2 := 255) (zkb3 zk_cX3_drawTiles zn_cX3_drawTiles (by decide +kernel)) rfl
theorem dX3_drawTiles_159 : decode cX3_drawTiles 159 = .ok (.iand, 1) := zo_126 (zkb zk_cX3_drawTiles zn_cX3_drawTiles (by decide +kernel))
theorem dX3_drawTiles_160 : decode cX3_drawTiles 160 = .ok (.istore 10, 2) := zo_54 (b1 := 10) (zkb2 zk_cX3_drawTiles zn_cX3_drawTiles (by decide +kernel))
theorem dX3_drawTiles_162 : decode cX3_drawTiles 162 = .ok (.iload 9, 2) := zo_21 (b1 := 9) (zkb2 zk_cX3_drawTiles zn_cX3_drawTiles (by decide +kernel))
theorem dX3_drawTiles_164 : decode cX3_drawTiles 164 = .ok (.ifCond .eq 19, 3) := zo_153 (b1 := 0) (b2 := 19) (zkb3 zk_cX3_drawTiles zn_cX3_drawTiles (by decide +kernel)) rfl
theorem dX3_drawTiles_167 : decode cX3_drawTiles 167 = .ok (.iload 9, 2) := zo_21 (b1 := 9) (zkb2 zk_cX3_drawTiles zn_cX3_drawTiles (by decide +kernel))
theorem dX3_drawTiles_169 : decode cX3_drawTiles 169 = .ok (.sipush 192, 3) := zo_17 (b1 := 0) (b2 := 192) (zkb3 zk_cX3_drawTiles zn_cX3_drawTiles (by decide +kernel)) rfl
theorem dX3_drawTiles_172 : decode cX3_drawTiles 172 = .ok (.if_icmp .eq 11, 3) := zo_159 (b1 := 0) (b2 := 11) (zkb3 zk_cX3_drawTiles zn_cX3_drawTiles (by decide +kernel)) rfl
theorem dX3_drawTiles_175 : decode cX3_drawTiles 175 = .ok (.iload 10, 2) := zo_21 (b1 := 10) (zkb2 zk_cX3_drawTiles zn_cX3_drawTiles (by decide +kernel))
theorem dX3_drawTiles_177 : decode cX3_drawTiles 177 = .ok (.bipush 7, 2) := zo_16 (b1 := 7) (zkb2 zk_cX3_drawTiles zn_cX3_drawTiles (by decide +kernel)) rfl
theorem dX3_drawTiles_179 : decode cX3_drawTiles 179 = .ok (.iand, 1) := zo_126 (zkb zk_cX3_drawTiles zn_cX3_drawTiles (by decide +kernel))
theorem dX3_drawTiles_180 : decode cX3_drawTiles 180 = .ok (.ifCond .ne 35, 3) := zo_154 (b1 := 0) (b2 := 35) (zkb3 zk_cX3_drawTiles zn_cX3_drawTiles (by decide +kernel)) rfl
theorem dX3_drawTiles_183 : decode cX3_drawTiles 183 = .ok (.aload_n 0, 1) := zo_42 (zkb zk_cX3_drawTiles zn_cX3_drawTiles (by decide +kernel))
theorem dX3_drawTiles_184 : decode cX3_drawTiles 184 = .ok (.iload 5, 2) := zo_21 (b1 := 5) (zkb2 zk_cX3_drawTiles zn_cX3_drawTiles (by decide +kernel))
theorem dX3_drawTiles_186 : decode cX3_drawTiles 186 = .ok (.iconst 2, 1) := zo_5 (zkb zk_cX3_drawTiles zn_cX3_drawTiles (by decide +kernel))
theorem dX3_drawTiles_187 : decode cX3_drawTiles 187 = .ok (.iload 10, 2) := zo_21 (b1 := 10) (zkb2 zk_cX3_drawTiles zn_cX3_drawTiles (by decide +kernel))
theorem dX3_drawTiles_189 : decode cX3_drawTiles 189 = .ok (.iconst 3, 1) := zo_6 (zkb zk_cX3_drawTiles zn_cX3_drawTiles (by decide +kernel))
theorem dX3_drawTiles_190 : decode cX3_drawTiles 190 = .ok (.ishr, 1) := zo_122 (zkb zk_cX3_drawTiles zn_cX3_drawTiles (by decide +kernel))
theorem dX3_drawTiles_191 : decode cX3_drawTiles 191 = .ok (.imul, 1) := zo_104 (zkb zk_cX3_drawTiles zn_cX3_drawTiles (by decide +kernel))
theorem dX3_drawTiles_192 : decode cX3_drawTiles 192 = .ok (.iadd, 1) := zo_96 (zkb zk_cX3_drawTiles zn_cX3_drawTiles (by decide +kernel))
theorem dX3_drawTiles_193 : decode cX3_drawTiles 193 = .ok (.iload 8, 2) := zo_21 (b1 := 8) (zkb2 zk_cX3_drawTiles zn_cX3_drawTiles (by decide +kernel))
theorem dX3_drawTiles_195 : decode cX3_drawTiles 195 = .ok (.ifCond .eq 15, 3) := zo_153 (b1 := 0) (b2 := 15) (zkb3 zk_cX3_drawTiles zn_cX3_drawTiles (by decide +kernel)) rfl
theorem dX3_drawTiles_198 : decode cX3_drawTiles 198 = .ok (.iload 9, 2) := zo_21 (b1 := 9) (zkb2 zk_cX3_drawTiles zn_cX3_drawTiles (by decide +kernel))
theorem dX3_drawTiles_200 : decode cX3_drawTiles 200 = .ok (.sipush 192, 3) := zo_17 (b1 := 0) (b2 := 192) (zkb3 zk_cX3_drawTiles zn_cX3_drawTiles (by decide +kernel)) rfl
theorem dX3_drawTiles_203 : decode cX3_drawTiles 203 = .ok (.if_icmp .lt 7, 3) := zo_161 (b1 := 0) (b2 := 7) (zkb3 zk_cX3_drawTiles zn_cX3_drawTiles (by decide +kernel)) rfl
theorem dX3_drawTiles_206 : decode cX3_drawTiles 206 = .ok (.iload_n 1, 1) := zo_27 (zkb zk_cX3_drawTiles zn_cX3_drawTiles (by decide +kernel))
theorem dX3_drawTiles_207 : decode cX3_drawTiles 207 = .ok (.goto 5, 3) := zo_167 (b1 := 0) (b2 := 5) (zkb3 zk_cX3_drawTiles zn_cX3_drawTiles (by decide +kernel)) rfl
theorem dX3_drawTiles_210 : decode cX3_drawTiles 210 = .ok (.iload 7, 2) := zo_21 (b1 := 7) (zkb2 zk_cX3_drawTiles zn_cX3_drawTiles (by decide +kernel))
theorem dX3_drawTiles_212 : decode cX3_drawTiles 212 = .ok (.invokevirtual 100, 3) := zo_182 (b1 := 0) (b2 := 100) (zkb3 zk_cX3_drawTiles zn_cX3_drawTiles (by decide +kernel)) rfl
theorem dX3_drawTiles_215 : decode cX3_drawTiles 215 = .ok (.aload_n 0, 1) := zo_42 (zkb zk_cX3_drawTiles zn_cX3_drawTiles (by decide +kernel))
theorem dX3_drawTiles_216 : decode cX3_drawTiles 216 = .ok (.getfield 103, 3) := zo_180 (b1 := 0) (b2 := 103) (zkb3 zk_cX3_drawTiles zn_cX3_drawTiles (by decide +kernel)) rfl
theorem dX3_drawTiles_219 : decode cX3_drawTiles 219 = .ok (.sipush 512, 3) := zo_17 (b1 := 2) (b2 := 0) (zkb3 zk_cX3_drawTiles zn_cX3_drawTiles (by decide +kernel)) rfl
theorem dX3_drawTiles_222 : decode cX3_drawTiles 222 = .ok (.iand, 1) := zo_126 (zkb zk_cX3_drawTiles zn_cX3_drawTiles (by decide +kernel))
theorem dX3_drawTiles_223 : decode cX3_drawTiles 223 = .ok (.ifCond .eq 14, 3) := zo_153 (b1 := 0) (b2 := 14) (zkb3 zk_cX3_drawTiles zn_cX3_drawTiles (by decide +kernel)) rfl
theorem dX3_drawTiles_226 : decode cX3_drawTiles 226 = .ok (.bipush 7, 2) := zo_16 (b1 := 7) (zkb2 zk_cX3_drawTiles zn_cX3_drawTiles (by decide +kernel)) rfl
theorem dX3_drawTiles_228 : decode cX3_drawTiles 228 = .ok (.iload 10, 2) := zo_21 (b1 := 10) (zkb2 zk_cX3_drawTiles zn_cX3_drawTiles (by decide +kernel))
theorem dX3_drawTiles_230 : decode cX3_drawTiles 230 = .ok (.bipush 7, 2) := zo_16 (b1 := 7) (zkb2 zk_cX3_drawTiles zn_cX3_drawTiles (by decide +kernel)) rfl
theorem dX3_drawTiles_232 : decode cX3_drawTiles 232 = .ok (.iand, 1) := zo_126 (zkb zk_cX3_drawTiles zn_cX3_drawTiles (by decide +kernel))
theorem dX3_drawTiles_233 : decode cX3_drawTiles 233 = .ok (.isub, 1) := zo_100 (zkb zk_cX3_drawTiles zn_cX3_drawTiles (by decide +kernel))
theorem dX3_drawTiles_234 : decode cX3_drawTiles 234 = .ok (.goto 8, 3) := zo_167 (b1 := 0) (b2 := 8) (zkb3 zk_cX3_drawTiles zn_cX3_drawTiles (by decide +kernel)) rfl
theorem dX3_drawTiles_237 : decode cX3_drawTiles 237 = .ok (.iload 10, 2) := zo_21 (b1 := 10) (zkb2 zk_cX3_drawTiles zn_cX3_drawTiles (by decide +kernel))
theorem dX3_drawTiles_239 : decode cX3_drawTiles 239 = .ok (.bipush 7, 2) := zo_16 (b1 := 7) (zkb2 zk_cX3_drawTiles zn_cX3_drawTiles (by decide +kernel)) rfl
theorem dX3_drawTiles_241 : decode cX3_drawTiles 241 = .ok (.iand, 1) := zo_126 (zkb zk_cX3_drawTiles zn_cX3_drawTiles (by decide +kernel))
theorem dX3_drawTiles_242 : decode cX3_drawTiles 242 = .ok (.istore 11, 2) := zo_54 (b1 := 11) (zkb2 zk_cX3_drawTiles zn_cX3_drawTiles (by decide +kernel))
theorem dX3_drawTiles_244 : decode cX3_drawTiles 244 = .ok (.aload_n 0, 1) := zo_42 (zkb zk_cX3_drawTiles zn_cX3_drawTiles (by decide +kernel))
theorem dX3_drawTiles_245 : decode cX3_drawTiles 245 = .ok (.getfield 107, 3) := zo_180 (b1 := 0) (b2 := 107) (zkb3 zk_cX3_drawTiles zn_cX3_drawTiles (by decide +kernel)) rfl
theorem dX3_drawTiles_248 : decode cX3_drawTiles 248 = .ok (.iload 11, 2) := zo_21 (b1 := 11) (zkb2 zk_cX3_drawTiles zn_cX3_drawTiles (by decide +kernel))
theorem dX3_drawTiles_250 : decode cX3_drawTiles 250 = .ok (.invokestatic 110, 3) := zo_184 (b1 := 0) (b2 := 110) (zkb3 zk_cX3_drawTiles zn_cX3_drawTiles (by decide +kernel)) rfl
theorem dX3_drawTiles_253 : decode cX3_drawTiles 253 = .ok (.istore 12, 2) := zo_54 (b1 := 12) (zkb2 zk_cX3_drawTiles zn_cX3_drawTiles (by decide +kernel))
theorem dX3_drawTiles_255 : decode cX3_drawTiles 255 = .ok (.iload 12, 2) := zo_21 (b1 := 12) (zkb2 zk_cX3_drawTiles zn_cX3_drawTiles (by decide +kernel))
theorem dX3_drawTiles_257 : decode cX3_drawTiles 257 = .ok (.ifCond .le 18, 3) := zo_158 (b1 := 0) (b2 := 18) (zkb3 zk_cX3_drawTiles zn_cX3_drawTiles (by decide +kernel)) rfl
theorem dX3_drawTiles_260 : decode cX3_drawTiles 260 = .ok (.aload_n 0, 1) := zo_42 (zkb zk_cX3_drawTiles zn_cX3_drawTiles (by decide +kernel))
theorem dX3_drawTiles_261 : decode cX3_drawTiles 261 = .ok (.getfield 103, 3) := zo_180 (b1 := 0) (b2 := 103) (zkb3 zk_cX3_drawTiles zn_cX3_drawTiles (by decide +kernel)) rfl
theorem dX3_drawTiles_264 : decode cX3_drawTiles 264 = .ok (.sipush 4096, 3) := zo_17 (b1 := 16) (b2 := 0) (zkb3 zk_cX3_drawTiles zn_cX3_drawTiles (by decide +kernel)) rfl
theorem dX3_drawTiles_267 : decode cX3_drawTiles 267 = .ok (.iand, 1) := zo_126 (zkb zk_cX3_drawTiles zn_cX3_drawTiles (by decide +kernel))
theorem dX3_drawTiles_268 : decode cX3_drawTiles 268 = .ok (.ifCond .eq 7, 3) := zo_153 (b1 := 0) (b2 := 7) (zkb3 zk_cX3_drawTiles zn_cX3_drawTiles (by decide +kernel)) rfl
theorem dX3_drawTiles_271 : decode cX3_drawTiles 271 = .ok (.iconst 1, 1) := zo_4 (zkb zk_cX3_drawTiles zn_cX3_drawTiles (by decide +kernel))
theorem dX3_drawTiles_272 : decode cX3_drawTiles 272 = .ok (.goto 4, 3) := zo_167 (b1 := 0) (b2 := 4) (zkb3 zk_cX3_drawTiles zn_cX3_drawTiles (by decide +kernel)) rfl
theorem dX3_drawTiles_275 : decode cX3_drawTiles 275 = .ok (.iconst 0, 1) := zo_3 (zkb zk_cX3_drawTiles zn_cX3_drawTiles (by decide +kernel))
theorem dX3_drawTiles_276 : decode cX3_drawTiles 276 = .ok (.istore 13, 2) := zo_54 (b1 := 13) (zkb2 zk_cX3_drawTiles zn_cX3_drawTiles (by decide +kernel))
theorem dX3_drawTiles_278 : decode cX3_drawTiles 278 = .ok (.aload_n 0, 1) := zo_42 (zkb zk_cX3_drawTiles zn_cX3_drawTiles (by decide +kernel))
theorem dX3_drawTiles_279 : decode cX3_drawTiles 279 = .ok (.getfield 17, 3) := zo_180 (b1 := 0) (b2 := 17) (zkb3 zk_cX3_drawTiles zn_cX3_drawTiles (by decide +kernel)) rfl
theorem dX3_drawTiles_282 : decode cX3_drawTiles 282 = .ok (.iload 9, 2) := zo_21 (b1 := 9) (zkb2 zk_cX3_drawTiles zn_cX3_drawTiles (by decide +kernel))
theorem dX3_drawTiles_284 : decode cX3_drawTiles 284 = .ok (.iload 12, 2) := zo_21 (b1 := 12) (zkb2 zk_cX3_drawTiles zn_cX3_drawTiles (by decide +kernel))
theorem dX3_drawTiles_286 : decode cX3_drawTiles 286 = .ok (.aload_n 0, 1) := zo_42 (zkb zk_cX3_drawTiles zn_cX3_drawTiles (by decide +kernel))
theorem dX3_drawTiles_287 : decode cX3_drawTiles 287 = .ok (.getfield 103, 3) := zo_180 (b1 := 0) (b2 := 103) (zkb3 zk_cX3_drawTiles zn_cX3_drawTiles (by decide +kernel)) rfl
theorem dX3_drawTiles_290 : decode cX3_drawTiles 290 = .ok (.sipush 2048, 3) := zo_17 (b1 := 8) (b2 := 0) (zkb3 zk_cX3_drawTiles zn_cX3_drawTiles (by decide +kernel)) rfl
theorem dX3_drawTiles_293 : decode cX3_drawTiles 293 = .ok (.iand, 1) := zo_126 (zkb zk_cX3_drawTiles zn_cX3_drawTiles (by decide +kernel))
theorem dX3_drawTiles_294 : decode cX3_drawTiles 294 = .ok (.ifCond .eq 8, 3) := zo_153 (b1 := 0) (b2 := 8) (zkb3 zk_cX3_drawTiles zn_cX3_drawTiles (by decide +kernel)) rfl
theorem dX3_drawTiles_297 : decode cX3_drawTiles 297 = .ok (.bipush 16, 2) := zo_16 (b1 := 16) (zkb2 zk_cX3_drawTiles zn_cX3_drawTiles (by decide +kernel)) rfl
theorem dX3_drawTiles_299 : decode cX3_drawTiles 299 = .ok (.goto 4, 3) := zo_167 (b1 := 0) (b2 := 4) (zkb3 zk_cX3_drawTiles zn_cX3_drawTiles (by decide +kernel)) rfl
theorem dX3_drawTiles_302 : decode cX3_drawTiles 302 = .ok (.iconst 0, 1) := zo_3 (zkb zk_cX3_drawTiles zn_cX3_drawTiles (by decide +kernel))
theorem dX3_drawTiles_303 : decode cX3_drawTiles 303 = .ok (.iadd, 1) := zo_96 (zkb zk_cX3_drawTiles zn_cX3_drawTiles (by decide +kernel))
theorem dX3_drawTiles_304 : decode cX3_drawTiles 304 = .ok (.iload 13, 2) := zo_21 (b1 := 13) (zkb2 zk_cX3_drawTiles zn_cX3_drawTiles (by decide +kernel))
theorem dX3_drawTiles_306 : decode cX3_drawTiles 306 = .ok (.ifCond .eq 9, 3) := zo_153 (b1 := 0) (b2 := 9) (zkb3 zk_cX3_drawTiles zn_cX3_drawTiles (by decide +kernel)) rfl
theorem dX3_drawTiles_309 : decode cX3_drawTiles 309 = .ok (.sipush 256, 3) := zo_17 (b1 := 1) (b2 := 0) (zkb3 zk_cX3_drawTiles zn_cX3_drawTiles (by decide +kernel)) rfl
theorem dX3_drawTiles_312 : decode cX3_drawTiles 312 = .ok (.goto 4, 3) := zo_167 (b1 := 0) (b2 := 4) (zkb3 zk_cX3_drawTiles zn_cX3_drawTiles (by decide +kernel)) rfl
theorem dX3_drawTiles_315 : decode cX3_drawTiles 315 = .ok (.iconst 0, 1) := zo_3 (zkb zk_cX3_drawTiles zn_cX3_drawTiles (by decide +kernel))
theorem dX3_drawTiles_316 : decode cX3_drawTiles 316 = .ok (.iadd, 1) := zo_96 (zkb zk_cX3_drawTiles zn_cX3_drawTiles (by decide +kernel))
theorem dX3_drawTiles_317 : decode cX3_drawTiles 317 = .ok (.iastore, 1) := zo_79 (zkb zk_cX3_drawTiles zn_cX3_drawTiles (by decide +kernel))
theorem dX3_drawTiles_318 : decode cX3_drawTiles 318 = .ok (.iinc 9 1, 3) := zo_132 (b1 := 9) (b2 := 1) (zkb3 zk_cX3_drawTiles zn_cX3_drawTiles (by decide +kernel)) rfl
theorem dX3_drawTiles_321 : decode cX3_drawTiles 321 = .ok (.goto (-178), 3) := zo_167 (b1 := 255) (b2 := 78) (zkb3 zk_cX3_drawTiles zn_cX3_drawTiles (by decide +kernel)) rfl
theorem dX3_drawTiles_324 : decode cX3_drawTiles 324 = .ok (.return_, 1) := zo_177 (zkb zk_cX3_drawTiles zn_cX3_drawTiles (by decide +kernel))
def kn_cX3_takeTile : Nat := 0xb17400b66068041507687eff01116700b42a20102a04367e07101c0700a7647e07101c07100d00997e0004116700b42a6700b5807808107100b660041d1a00b42a7100b61d1a00b42a2a3e60687a061c40101b
theorem zk_cX3_takeTile : zkd cX3_takeTile.data.toList kn_cX3_takeTile = true := by decide +kernel
theorem zn_cX3_takeTile : cX3_takeTile.data.toList.length = 83 := by decide +kernel
theorem dX3_takeTile_0 : decode cX3_takeTile 0 = .ok (.iload_n 1, 1) := zo_27 (zkb zk_cX3_takeTile zn_cX3_takeTile (by decide +kernel))
theorem dX3_takeTile_1 : decode cX3_takeTile 1 = .ok (.bipush 64, 2) := zo_16 (b1 := 64) (zkb2 zk_cX3_takeTile zn_cX3_takeTile (by decide +kernel)) rfl
theorem dX3_takeTile_3 : decode cX3_takeTile 3 = .ok (.iload_n 2, 1) := zo_28 (zkb zk_cX3_takeTile zn_cX3_takeTile (by decide +kernel))
theorem dX3_takeTile_4 : decode cX3_takeTile 4 = .ok (.iconst 3, 1) := zo_6 (zkb zk_cX3_takeTile zn_cX3_takeTile (by decide +kernel))
theorem dX3_takeTile_5 : decode cX3_takeTile 5 = .ok (.ishr, 1) := zo_122 (zkb zk_cX3_takeTile zn_cX3_takeTile (by decide +kernel))
theorem dX3_takeTile_6 : decode cX3_takeTile 6 = .ok (.imul, 1) := zo_104 (zkb zk_cX3_takeTile zn_cX3_takeTile (by decide +kernel))
theorem dX3_takeTile_7 : decode cX3_takeTile 7 = .ok (.iadd, 1) := zo_96 (zkb zk_cX3_takeTile zn_cX3_takeTile (by decide +kernel))
theorem dX3_takeTile_8 : decode cX3_takeTile 8 = .ok (.istore_n 3, 1) := zo_62 (zkb zk_cX3_takeTile zn_cX3_takeTile (by decide +kernel))
theorem dX3_takeTile_9 : decode cX3_takeTile 9 = .ok (.aload_n 0, 1) := zo_42 (zkb zk_cX3_takeTile zn_cX3_takeTile (by decide +kernel))
theorem dX3_takeTile_10 : decode cX3_takeTile 10 = .ok (.aload_n 0, 1) := zo_42 (zkb zk_cX3_takeTile zn_cX3_takeTile (by decide +kernel))
theorem dX3_takeTile_11 : decode cX3_takeTile 11 = .ok (.getfield 26, 3) := zo_180 (b1 := 0) (b2 := 26) (zkb3 zk_cX3_takeTile zn_cX3_takeTile (by decide +kernel)) rfl
theorem dX3_takeTile_14 : decode cX3_takeTile 14 = .ok (.iload_n 3, 1) := zo_29 (zkb zk_cX3_takeTile zn_cX3_takeTile (by decide +kernel))
theorem dX3_takeTile_15 : decode cX3_takeTile 15 = .ok (.invokevirtual 113, 3) := zo_182 (b1 := 0) (b2 := 113) (zkb3 zk_cX3_takeTile zn_cX3_takeTile (by decide +kernel)) rfl
theorem dX3_takeTile_18 : decode cX3_takeTile 18 = .ok (.aload_n 0, 1) := zo_42 (zkb zk_cX3_takeTile zn_cX3_takeTile (by decide +kernel))
theorem dX3_takeTile_19 : decode cX3_takeTile 19 = .ok (.getfield 26, 3) := zo_180 (b1 := 0) (b2 := 26) (zkb3 zk_cX3_takeTile zn_cX3_takeTile (by decide +kernel)) rfl
theorem dX3_takeTile_22 : decode cX3_takeTile 22 = .ok (.iload_n 3, 1) := zo_29 (zkb zk_cX3_takeTile zn_cX3_takeTile (by decide +kernel))
theorem dX3_takeTile_23 : decode cX3_takeTile 23 = .ok (.iconst 1, 1) := zo_4 (zkb zk_cX3_takeTile zn_cX3_takeTile (by decide +kernel))
theorem dX3_takeTile_24 : decode cX3_takeTile 24 = .ok (.iadd, 1) := zo_96 (zkb zk_cX3_takeTile zn_cX3_takeTile (by decide +kernel))
theorem dX3_takeTile_25 : decode cX3_takeTile 25 = .ok (.invokevirtual 113, 3) := zo_182 (b1 := 0) (b2 := 113) (zkb3 zk_cX3_takeTile zn_cX3_takeTile (by decide +kernel)) rfl
theorem dX3_takeTile_28 : decode cX3_takeTile 28 = .ok (.bipush 8, 2) := zo_16 (b1 := 8) (zkb2 zk_cX3_takeTile zn_cX3_takeTile (by decide +kernel)) rfl
theorem dX3_takeTile_30 : decode cX3_takeTile 30 = .ok (.ishl, 1) := zo_120 (zkb zk_cX3_takeTile zn_cX3_takeTile (by decide +kernel))
theorem dX3_takeTile_31 : decode cX3_takeTile 31 = .ok (.ior, 1) := zo_128 (zkb zk_cX3_takeTile zn_cX3_takeTile (by decide +kernel))
theorem dX3_takeTile_32 : decode cX3_takeTile 32 = .ok (.putfield 103, 3) := zo_181 (b1 := 0) (b2 := 103) (zkb3 zk_cX3_takeTile zn_cX3_takeTile (by decide +kernel)) rfl
theorem dX3_takeTile_35 : decode cX3_takeTile 35 = .ok (.aload_n 0, 1) := zo_42 (zkb zk_cX3_takeTile zn_cX3_takeTile (by decide +kernel))
theorem dX3_takeTile_36 : decode cX3_takeTile 36 = .ok (.getfield 103, 3) := zo_180 (b1 := 0) (b2 := 103) (zkb3 zk_cX3_takeTile zn_cX3_takeTile (by decide +kernel)) rfl
theorem dX3_takeTile_39 : decode cX3_takeTile 39 = .ok (.sipush 1024, 3) := zo_17 (b1 := 4) (b2 := 0) (zkb3 zk_cX3_takeTile zn_cX3_takeTile (by decide +kernel)) rfl
theorem dX3_takeTile_42 : decode cX3_takeTile 42 = .ok (.iand, 1) := zo_126 (zkb zk_cX3_takeTile zn_cX3_takeTile (by decide +kernel))
theorem dX3_takeTile_43 : decode cX3_takeTile 43 = .ok (.ifCond .eq 13, 3) := zo_153 (b1 := 0) (b2 := 13) (zkb3 zk_cX3_takeTile zn_cX3_takeTile (by decide +kernel)) rfl
theorem dX3_takeTile_46 : decode cX3_takeTile 46 = .ok (.bipush 7, 2) := zo_16 (b1 := 7) (zkb2 zk_cX3_takeTile zn_cX3_takeTile (by decide +kernel)) rfl
theorem dX3_takeTile_48 : decode cX3_takeTile 48 = .ok (.iload_n 2, 1) := zo_28 (zkb zk_cX3_takeTile zn_cX3_takeTile (by decide +kernel))
theorem dX3_takeTile_49 : decode cX3_takeTile 49 = .ok (.bipush 7, 2) := zo_16 (b1 := 7) (zkb2 zk_cX3_takeTile zn_cX3_takeTile (by decide +kernel)) rfl
theorem dX3_takeTile_51 : decode cX3_takeTile 51 = .ok (.iand, 1) := zo_126 (zkb zk_cX3_takeTile zn_cX3_takeTile (by decide +kernel))
theorem dX3_takeTile_52 : decode cX3_takeTile 52 = .ok (.isub, 1) := zo_100 (zkb zk_cX3_takeTile zn_cX3_takeTile (by decide +kernel))
theorem dX3_takeTile_53 : decode cX3_takeTile 53 = .ok (.goto 7, 3) := zo_167 (b1 := 0) (b2 := 7) (zkb3 zk_cX3_takeTile zn_cX3_takeTile (by decide +kernel)) rfl
theorem dX3_takeTile_56 : decode cX3_takeTile 56 = .ok (.iload_n 2, 1) := zo_28 (zkb zk_cX3_takeTile zn_cX3_takeTile (by decide +kernel))
theorem dX3_takeTile_57 : decode cX3_takeTile 57 = .ok (.bipush 7, 2) := zo_16 (b1 := 7) (zkb2 zk_cX3_takeTile zn_cX3_takeTile (by decide +kernel)) rfl
theorem dX3_takeTile_59 : decode cX3_takeTile 59 = .ok (.iand, 1) := zo_126 (zkb zk_cX3_takeTile zn_cX3_takeTile (by decide +kernel))
theorem dX3_takeTile_60 : decode cX3_takeTile 60 = .ok (.istore 4, 2) := zo_54 (b1 := 4) (zkb2 zk_cX3_takeTile zn_cX3_takeTile (by decide +kernel))
theorem dX3_takeTile_62 : decode cX3_takeTile 62 = .ok (.aload_n 0, 1) := zo_42 (zkb zk_cX3_takeTile zn_cX3_takeTile (by decide +kernel))
theorem dX3_takeTile_63 : decode cX3_takeTile 63 = .ok (.bipush 32, 2) := zo_16 (b1 := 32) (zkb2 zk_cX3_takeTile zn_cX3_takeTile (by decide +kernel)) rfl
theorem dX3_takeTile_65 : decode cX3_takeTile 65 = .ok (.aload_n 0, 1) := zo_42 (zkb zk_cX3_takeTile zn_cX3_takeTile (by decide +kernel))
theorem dX3_takeTile_66 : decode cX3_takeTile 66 = .ok (.getfield 103, 3) := zo_180 (b1 := 0) (b2 := 103) (zkb3 zk_cX3_takeTile zn_cX3_takeTile (by decide +kernel)) rfl
theorem dX3_takeTile_69 : decode cX3_takeTile 69 = .ok (.sipush 511, 3) := zo_17 (b1 := 1) (b2 := 255) (zkb3 zk_cX3_takeTile zn_cX3_takeTile (by decide +kernel)) rfl
theorem dX3_takeTile_72 : decode cX3_takeTile 72 = .ok (.iand, 1) := zo_126 (zkb zk_cX3_takeTile zn_cX3_takeTile (by decide +kernel))
theorem dX3_takeTile_73 : decode cX3_takeTile 73 = .ok (.imul, 1) := zo_104 (zkb zk_cX3_takeTile zn_cX3_takeTile (by decide +kernel))
theorem dX3_takeTile_74 : decode cX3_takeTile 74 = .ok (.iconst 4, 1) := zo_7 (zkb zk_cX3_takeTile zn_cX3_takeTile (by decide +kernel))
theorem dX3_takeTile_75 : decode cX3_takeTile 75 = .ok (.iload 4, 2) := zo_21 (b1 := 4) (zkb2 zk_cX3_takeTile zn_cX3_takeTile (by decide +kernel))
theorem dX3_takeTile_77 : decode cX3_takeTile 77 = .ok (.imul, 1) := zo_104 (zkb zk_cX3_takeTile zn_cX3_takeTile (by decide +kernel))
theorem dX3_takeTile_78 : decode cX3_takeTile 78 = .ok (.iadd, 1) := zo_96 (zkb zk_cX3_takeTile zn_cX3_takeTile (by decide +kernel))
theorem dX3_takeTile_79 : decode cX3_takeTile 79 = .ok (.invokevirtual 116, 3) := zo_182 (b1 := 0) (b2 := 116) (zkb3 zk_cX3_takeTile zn_cX3_takeTile (by decide +kernel)) rfl
theorem dX3_takeTile_82 : decode cX3_takeTile 82 = .ok (.return_, 1) := zo_177 (zkb zk_cX3_takeTile zn_cX3_takeTile (by decide +kernel))
def kn_cX3_takePlanes : Nat := 0xb16b00b5807818107100b660061b1a00b42a807810107100b660051b1a00b42a807808107100b660041b1a00b42a7100b61b1a00b42a2a
theorem zk_cX3_takePlanes : zkd cX3_takePlanes.data.toList kn_cX3_takePlanes = true := by decide +kernel
theorem zn_cX3_takePlanes : cX3_takePlanes.data.toList.length = 55 := by decide +kernel
theorem dX3_takePlanes_0 : decode cX3_takePlanes 0 = .ok (.aload_n 0, 1) := zo_42 (zkb zk_cX3_takePlanes zn_cX3_takePlanes (by decide +kernel))
theorem dX3_takePlanes_1 : decode cX3_takePlanes 1 = .ok (.aload_n 0, 1) := zo_42 (zkb zk_cX3_takePlanes zn_cX3_takePlanes (by decide +kernel))
theorem dX3_takePlanes_2 : decode cX3_takePlanes 2 = .ok (.getfield 26, 3) := zo_180 (b1 := 0) (b2 := 26) (zkb3 zk_cX3_takePlanes zn_cX3_takePlanes (by decide +kernel)) rfl
theorem dX3_takePlanes_5 : decode cX3_takePlanes 5 = .ok (.iload_n 1, 1) := zo_27 (zkb zk_cX3_takePlanes zn_cX3_takePlanes (by decide +kernel))
theorem dX3_takePlanes_6 : decode cX3_takePlanes 6 = .ok (.invokevirtual 113, 3) := zo_182 (b1 := 0) (b2 := 113) (zkb3 zk_cX3_takePlanes zn_cX3_takePlanes (by decide +kernel)) rfl
theorem dX3_takePlanes_9 : decode cX3_takePlanes 9 = .ok (.aload_n 0, 1) := zo_42 (zkb zk_cX3_takePlanes zn_cX3_takePlanes (by decide +kernel))
theorem dX3_takePlanes_10 : decode cX3_takePlanes 10 = .ok (.getfield 26, 3) := zo_180 (b1 := 0) (b2 := 26) (zkb3 zk_cX3_takePlanes zn_cX3_takePlanes (by decide +kernel)) rfl
theorem dX3_takePlanes_13 : decode cX3_takePlanes 13 = .ok (.iload_n 1, 1) := zo_27 (zkb zk_cX3_takePlanes zn_cX3_takePlanes (by decide +kernel))
theorem dX3_takePlanes_14 : decode cX3_takePlanes 14 = .ok (.iconst 1, 1) := zo_4 (zkb zk_cX3_takePlanes zn_cX3_takePlanes (by decide +kernel))
theorem dX3_takePlanes_15 : decode cX3_takePlanes 15 = .ok (.iadd, 1) := zo_96 (zkb zk_cX3_takePlanes zn_cX3_takePlanes (by decide +kernel))
theorem dX3_takePlanes_16 : decode cX3_takePlanes 16 = .ok (.invokevirtual 113, 3) := zo_182 (b1 := 0) (b2 := 113) (zkb3 zk_cX3_takePlanes zn_cX3_takePlanes (by decide +kernel)) rfl
theorem dX3_takePlanes_19 : decode cX3_takePlanes 19 = .ok (.bipush 8, 2) := zo_16 (b1 := 8) (zkb2 zk_cX3_takePlanes zn_cX3_takePlanes (by decide +kernel)) rfl
theorem dX3_takePlanes_21 : decode cX3_takePlanes 21 = .ok (.ishl, 1) := zo_120 (zkb zk_cX3_takePlanes zn_cX3_takePlanes (by decide +kernel))
theorem dX3_takePlanes_22 : decode cX3_takePlanes 22 = .ok (.ior, 1) := zo_128 (zkb zk_cX3_takePlanes zn_cX3_takePlanes (by decide +kernel))
theorem dX3_takePlanes_23 : decode cX3_takePlanes 23 = .ok (.aload_n 0, 1) := zo_42 (zkb zk_cX3_takePlanes zn_cX3_takePlanes (by decide +kernel))
theorem dX3_takePlanes_24 : decode cX3_takePlanes 24 = .ok (.getfield 26, 3) := zo_180 (b1 := 0) (b2 := 26) (zkb3 zk_cX3_takePlanes zn_cX3_takePlanes (by decide +kernel)) rfl
theorem dX3_takePlanes_27 : decode cX3_takePlanes 27 = .ok (.iload_n 1, 1) := zo_27 (zkb zk_cX3_takePlanes zn_cX3_takePlanes (by decide +kernel))
theorem dX3_takePlanes_28 : decode cX3_takePlanes 28 = .ok (.iconst 2, 1) := zo_5 (zkb zk_cX3_takePlanes zn_cX3_takePlanes (by decide +kernel))
theorem dX3_takePlanes_29 : decode cX3_takePlanes 29 = .ok (.iadd, 1) := zo_96 (zkb zk_cX3_takePlanes zn_cX3_takePlanes (by decide +kernel))
theorem dX3_takePlanes_30 : decode cX3_takePlanes 30 = .ok (.invokevirtual 113, 3) := zo_182 (b1 := 0) (b2 := 113) (zkb3 zk_cX3_takePlanes zn_cX3_takePlanes (by decide +kernel)) rfl
theorem dX3_takePlanes_33 : decode cX3_takePlanes 33 = .ok (.bipush 16, 2) := zo_16 (b1 := 16) (zkb2 zk_cX3_takePlanes zn_cX3_takePlanes (by decide +kernel)) rfl
theorem dX3_takePlanes_35 : decode cX3_takePlanes 35 = .ok (.ishl, 1) := zo_120 (zkb zk_cX3_takePlanes zn_cX3_takePlanes (by decide +kernel))
theorem dX3_takePlanes_36 : decode cX3_takePlanes 36 = .ok (.ior, 1) := zo_128 (zkb zk_cX3_takePlanes zn_cX3_takePlanes (by decide +kernel))
theorem dX3_takePlanes_37 : decode cX3_takePlanes 37 = .ok (.aload_n 0, 1) := zo_42 (zkb zk_cX3_takePlanes zn_cX3_takePlanes (by decide +kernel))
theorem dX3_takePlanes_38 : decode cX3_takePlanes 38 = .ok (.getfield 26, 3) := zo_180 (b1 := 0) (b2 := 26) (zkb3 zk_cX3_takePlanes zn_cX3_takePlanes (by decide +kernel)) rfl
theorem dX3_takePlanes_41 : decode cX3_takePlanes 41 = .ok (.iload_n 1, 1) := zo_27 (zkb zk_cX3_takePlanes zn_cX3_takePlanes (by decide +kernel))
theorem dX3_takePlanes_42 : decode cX3_takePlanes 42 = .ok (.iconst 3, 1) := zo_6 (zkb zk_cX3_takePlanes zn_cX3_takePlanes (by decide +kernel))
theorem dX3_takePlanes_43 : decode cX3_takePlanes 43 = .ok (.iadd, 1) := zo_96 (zkb zk_cX3_takePlanes zn_cX3_takePlanes (by decide +kernel))
theorem dX3_takePlanes_44 : decode cX3_takePlanes 44 = .ok (.invokevirtual 113, 3) := zo_182 (b1 := 0) (b2 := 113) (zkb3 zk_cX3_takePlanes zn_cX3_takePlanes (by decide +kernel)) rfl
theorem dX3_takePlanes_47 : decode cX3_takePlanes 47 = .ok (.bipush 24, 2) := zo_16 (b1 := 24) (zkb2 zk_cX3_takePlanes zn_cX3_takePlanes (by decide +kernel)) rfl
theorem dX3_takePlanes_49 : decode cX3_takePlanes 49 = .ok (.ishl, 1) := zo_120 (zkb zk_cX3_takePlanes zn_cX3_takePlanes (by decide +kernel))
theorem dX3_takePlanes_50 : decode cX3_takePlanes 50 = .ok (.ior, 1) := zo_128 (zkb zk_cX3_takePlanes zn_cX3_takePlanes (by decide +kernel))
theorem dX3_takePlanes_51 : decode cX3_takePlanes 51 = .ok (.putfield 107, 3) := zo_181 (b1 := 0) (b2 := 107) (zkb3 zk_cX3_takePlanes zn_cX3_takePlanes (by decide +kernel)) rfl
theorem dX3_takePlanes_54 : decode cX3_takePlanes 54 = .ok (.return_, 1) := zo_177 (zkb zk_cX3_takePlanes zn_cX3_takePlanes (by decide +kernel))
def kn_cX3_numberIn : Nat := 0xac807e08107a15101c807e077a0e101c807e057a07101c7e041c3d7e77127c641b07101a
theorem zk_cX3_numberIn : zkd cX3_numberIn.data.toList kn_cX3_numberIn = true := by decide +kernel
theorem zn_cX3_numberIn : cX3_numberIn.data.toList.length = 36 := by decide +kernel
theorem dX3_numberIn_0 : decode cX3_numberIn 0 = .ok (.iload_n 0, 1) := zo_26 (zkb zk_cX3_numberIn zn_cX3_numberIn (by decide +kernel))
theorem dX3_numberIn_1 : decode cX3_numberIn 1 = .ok (.bipush 7, 2) := zo_16 (b1 := 7) (zkb2 zk_cX3_numberIn zn_cX3_numberIn (by decide +kernel)) rfl
theorem dX3_numberIn_3 : decode cX3_numberIn 3 = .ok (.iload_n 1, 1) := zo_27 (zkb zk_cX3_numberIn zn_cX3_numberIn (by decide +kernel))
theorem dX3_numberIn_4 : decode cX3_numberIn 4 = .ok (.isub, 1) := zo_100 (zkb zk_cX3_numberIn zn_cX3_numberIn (by decide +kernel))
theorem dX3_numberIn_5 : decode cX3_numberIn 5 = .ok (.iushr, 1) := zo_124 (zkb zk_cX3_numberIn zn_cX3_numberIn (by decide +kernel))
theorem dX3_numberIn_6 : decode cX3_numberIn 6 = .ok (.ldc 119, 2) := zo_18 (b1 := 119) (zkb2 zk_cX3_numberIn zn_cX3_numberIn (by decide +kernel))
theorem dX3_numberIn_8 : decode cX3_numberIn 8 = .ok (.iand, 1) := zo_126 (zkb zk_cX3_numberIn zn_cX3_numberIn (by decide +kernel))
theorem dX3_numberIn_9 : decode cX3_numberIn 9 = .ok (.istore_n 2, 1) := zo_61 (zkb zk_cX3_numberIn zn_cX3_numberIn (by decide +kernel))
theorem dX3_numberIn_10 : decode cX3_numberIn 10 = .ok (.iload_n 2, 1) := zo_28 (zkb zk_cX3_numberIn zn_cX3_numberIn (by decide +kernel))
theorem dX3_numberIn_11 : decode cX3_numberIn 11 = .ok (.iconst 1, 1) := zo_4 (zkb zk_cX3_numberIn zn_cX3_numberIn (by decide +kernel))
theorem dX3_numberIn_12 : decode cX3_numberIn 12 = .ok (.iand, 1) := zo_126 (zkb zk_cX3_numberIn zn_cX3_numberIn (by decide +kernel))
theorem dX3_numberIn_13 : decode cX3_numberIn 13 = .ok (.iload_n 2, 1) := zo_28 (zkb zk_cX3_numberIn zn_cX3_numberIn (by decide +kernel))
theorem dX3_numberIn_14 : decode cX3_numberIn 14 = .ok (.bipush 7, 2) := zo_16 (b1 := 7) (zkb2 zk_cX3_numberIn zn_cX3_numberIn (by decide +kernel)) rfl
theorem dX3_numberIn_16 : decode cX3_numberIn 16 = .ok (.ishr, 1) := zo_122 (zkb zk_cX3_numberIn zn_cX3_numberIn (by decide +kernel))
theorem dX3_numberIn_17 : decode cX3_numberIn 17 = .ok (.iconst 2, 1) := zo_5 (zkb zk_cX3_numberIn zn_cX3_numberIn (by decide +kernel))
theorem dX3_numberIn_18 : decode cX3_numberIn 18 = .ok (.iand, 1) := zo_126 (zkb zk_cX3_numberIn zn_cX3_numberIn (by decide +kernel))
theorem dX3_numberIn_19 : decode cX3_numberIn 19 = .ok (.ior, 1) := zo_128 (zkb zk_cX3_numberIn zn_cX3_numberIn (by decide +kernel))
theorem dX3_numberIn_20 : decode cX3_numberIn 20 = .ok (.iload_n 2, 1) := zo_28 (zkb zk_cX3_numberIn zn_cX3_numberIn (by decide +kernel))
theorem dX3_numberIn_21 : decode cX3_numberIn 21 = .ok (.bipush 14, 2) := zo_16 (b1 := 14) (zkb2 zk_cX3_numberIn zn_cX3_numberIn (by decide +kernel)) rfl
theorem dX3_numberIn_23 : decode cX3_numberIn 23 = .ok (.ishr, 1) := zo_122 (zkb zk_cX3_numberIn zn_cX3_numberIn (by decide +kernel))
theorem dX3_numberIn_24 : decode cX3_numberIn 24 = .ok (.iconst 4, 1) := zo_7 (zkb zk_cX3_numberIn zn_cX3_numberIn (by decide +kernel))
theorem dX3_numberIn_25 : decode cX3_numberIn 25 = .ok (.iand, 1) := zo_126 (zkb zk_cX3_numberIn zn_cX3_numberIn (by decide +kernel))
theorem dX3_numberIn_26 : decode cX3_numberIn 26 = .ok (.ior, 1) := zo_128 (zkb zk_cX3_numberIn zn_cX3_numberIn (by decide +kernel))
theorem dX3_numberIn_27 : decode cX3_numberIn 27 = .ok (.iload_n 2, 1) := zo_28 (zkb zk_cX3_numberIn zn_cX3_numberIn (by decide +kernel))
theorem dX3_numberIn_28 : decode cX3_numberIn 28 = .ok (.bipush 21, 2) := zo_16 (b1 := 21) (zkb2 zk_cX3_numberIn zn_cX3_numberIn (by decide +kernel)) rfl
theorem dX3_numberIn_30 : decode cX3_numberIn 30 = .ok (.ishr, 1) := zo_122 (zkb zk_cX3_numberIn zn_cX3_numberIn (by decide +kernel))
theorem dX3_numberIn_31 : decode cX3_numberIn 31 = .ok (.bipush 8, 2) := zo_16 (b1 := 8) (zkb2 zk_cX3_numberIn zn_cX3_numberIn (by decide +kernel)) rfl
theorem dX3_numberIn_33 : decode cX3_numberIn 33 = .ok (.iand, 1) := zo_126 (zkb zk_cX3_numberIn zn_cX3_numberIn (by decide +kernel))
theorem dX3_numberIn_34 : decode cX3_numberIn 34 = .ok (.ior, 1) := zo_128 (zkb zk_cX3_numberIn zn_cX3_numberIn (by decide +kernel))
theorem dX3_numberIn_35 : decode cX3_numberIn 35 = .ok (.ireturn, 1) := zo_172 (zkb zk_cX3_numberIn zn_cX3_numberIn (by decide +kernel))
def kn_cX3_rowOfSprite : Nat := 0xac020400a704150800a208100500a710100800997e051d041504367a0404150900997e041d04367eff00116404641c1b3e3e00b6041a00b42a
theorem zk_cX3_rowOfSprite : zkd cX3_rowOfSprite.data.toList kn_cX3_rowOfSprite = true := by decide +kernel
theorem zn_cX3_rowOfSprite : cX3_rowOfSprite.data.toList.length = 57 := by decide +kernel
theorem dX3_rowOfSprite_0 : decode cX3_rowOfSprite 0 = .ok (.aload_n 0, 1) := zo_42 (zkb zk_cX3_rowOfSprite zn_cX3_rowOfSprite (by decide +kernel))
theorem dX3_rowOfSprite_1 : decode cX3_rowOfSprite 1 = .ok (.getfield 26, 3) := zo_180 (b1 := 0) (b2 := 26) (zkb3 zk_cX3_rowOfSprite zn_cX3_rowOfSprite (by decide +kernel)) rfl
theorem dX3_rowOfSprite_4 : decode cX3_rowOfSprite 4 = .ok (.iconst 1, 1) := zo_4 (zkb zk_cX3_rowOfSprite zn_cX3_rowOfSprite (by decide +kernel))
theorem dX3_rowOfSprite_5 : decode cX3_rowOfSprite 5 = .ok (.invokevirtual 62, 3) := zo_182 (b1 := 0) (b2 := 62) (zkb3 zk_cX3_rowOfSprite zn_cX3_rowOfSprite (by decide +kernel)) rfl
theorem dX3_rowOfSprite_8 : decode cX3_rowOfSprite 8 = .ok (.istore_n 3, 1) := zo_62 (zkb zk_cX3_rowOfSprite zn_cX3_rowOfSprite (by decide +kernel))
theorem dX3_rowOfSprite_9 : decode cX3_rowOfSprite 9 = .ok (.iload_n 1, 1) := zo_27 (zkb zk_cX3_rowOfSprite zn_cX3_rowOfSprite (by decide +kernel))
theorem dX3_rowOfSprite_10 : decode cX3_rowOfSprite 10 = .ok (.iload_n 2, 1) := zo_28 (zkb zk_cX3_rowOfSprite zn_cX3_rowOfSprite (by decide +kernel))
theorem dX3_rowOfSprite_11 : decode cX3_rowOfSprite 11 = .ok (.isub, 1) := zo_100 (zkb zk_cX3_rowOfSprite zn_cX3_rowOfSprite (by decide +kernel))
theorem dX3_rowOfSprite_12 : decode cX3_rowOfSprite 12 = .ok (.iconst 1, 1) := zo_4 (zkb zk_cX3_rowOfSprite zn_cX3_rowOfSprite (by decide +kernel))
theorem dX3_rowOfSprite_13 : decode cX3_rowOfSprite 13 = .ok (.isub, 1) := zo_100 (zkb zk_cX3_rowOfSprite zn_cX3_rowOfSprite (by decide +kernel))
theorem dX3_rowOfSprite_14 : decode cX3_rowOfSprite 14 = .ok (.sipush 255, 3) := zo_17 (b1 := 0) (b2 := 255) (zkb3 zk_cX3_rowOfSprite zn_cX3_rowOfSprite (by decide +kernel)) rfl
theorem dX3_rowOfSprite_17 : decode cX3_rowOfSprite 17 = .ok (.iand, 1) := zo_126 (zkb zk_cX3_rowOfSprite zn_cX3_rowOfSprite (by decide +kernel))
theorem dX3_rowOfSprite_18 : decode cX3_rowOfSprite 18 = .ok (.istore 4, 2) := zo_54 (b1 := 4) (zkb2 zk_cX3_rowOfSprite zn_cX3_rowOfSprite (by decide +kernel))
theorem dX3_rowOfSprite_20 : decode cX3_rowOfSprite 20 = .ok (.iload_n 3, 1) := zo_29 (zkb zk_cX3_rowOfSprite zn_cX3_rowOfSprite (by decide +kernel))
theorem dX3_rowOfSprite_21 : decode cX3_rowOfSprite 21 = .ok (.iconst 1, 1) := zo_4 (zkb zk_cX3_rowOfSprite zn_cX3_rowOfSprite (by decide +kernel))
theorem dX3_rowOfSprite_22 : decode cX3_rowOfSprite 22 = .ok (.iand, 1) := zo_126 (zkb zk_cX3_rowOfSprite zn_cX3_rowOfSprite (by decide +kernel))
theorem dX3_rowOfSprite_23 : decode cX3_rowOfSprite 23 = .ok (.ifCond .eq 9, 3) := zo_153 (b1 := 0) (b2 := 9) (zkb3 zk_cX3_rowOfSprite zn_cX3_rowOfSprite (by decide +kernel)) rfl
theorem dX3_rowOfSprite_26 : decode cX3_rowOfSprite 26 = .ok (.iload 4, 2) := zo_21 (b1 := 4) (zkb2 zk_cX3_rowOfSprite zn_cX3_rowOfSprite (by decide +kernel))
theorem dX3_rowOfSprite_28 : decode cX3_rowOfSprite 28 = .ok (.iconst 1, 1) := zo_4 (zkb zk_cX3_rowOfSprite zn_cX3_rowOfSprite (by decide +kernel))
theorem dX3_rowOfSprite_29 : decode cX3_rowOfSprite 29 = .ok (.ishr, 1) := zo_122 (zkb zk_cX3_rowOfSprite zn_cX3_rowOfSprite (by decide +kernel))
theorem dX3_rowOfSprite_30 : decode cX3_rowOfSprite 30 = .ok (.istore 4, 2) := zo_54 (b1 := 4) (zkb2 zk_cX3_rowOfSprite zn_cX3_rowOfSprite (by decide +kernel))
theorem dX3_rowOfSprite_32 : decode cX3_rowOfSprite 32 = .ok (.iload 4, 2) := zo_21 (b1 := 4) (zkb2 zk_cX3_rowOfSprite zn_cX3_rowOfSprite (by decide +kernel))
theorem dX3_rowOfSprite_34 : decode cX3_rowOfSprite 34 = .ok (.iload_n 3, 1) := zo_29 (zkb zk_cX3_rowOfSprite zn_cX3_rowOfSprite (by decide +kernel))
theorem dX3_rowOfSprite_35 : decode cX3_rowOfSprite 35 = .ok (.iconst 2, 1) := zo_5 (zkb zk_cX3_rowOfSprite zn_cX3_rowOfSprite (by decide +kernel))
theorem dX3_rowOfSprite_36 : decode cX3_rowOfSprite 36 = .ok (.iand, 1) := zo_126 (zkb zk_cX3_rowOfSprite zn_cX3_rowOfSprite (by decide +kernel))
theorem dX3_rowOfSprite_37 : decode cX3_rowOfSprite 37 = .ok (.ifCond .eq 8, 3) := zo_153 (b1 := 0) (b2 := 8) (zkb3 zk_cX3_rowOfSprite zn_cX3_rowOfSprite (by decide +kernel)) rfl
theorem dX3_rowOfSprite_40 : decode cX3_rowOfSprite 40 = .ok (.bipush 16, 2) := zo_16 (b1 := 16) (zkb2 zk_cX3_rowOfSprite zn_cX3_rowOfSprite (by decide +kernel)) rfl
theorem dX3_rowOfSprite_42 : decode cX3_rowOfSprite 42 = .ok (.goto 5, 3) := zo_167 (b1 := 0) (b2 := 5) (zkb3 zk_cX3_rowOfSprite zn_cX3_rowOfSprite (by decide +kernel)) rfl
theorem dX3_rowOfSprite_45 : decode cX3_rowOfSprite 45 = .ok (.bipush 8, 2) := zo_16 (b1 := 8) (zkb2 zk_cX3_rowOfSprite zn_cX3_rowOfSprite (by decide +kernel)) rfl
theorem dX3_rowOfSprite_47 : decode cX3_rowOfSprite 47 = .ok (.if_icmp .ge 8, 3) := zo_162 (b1 := 0) (b2 := 8) (zkb3 zk_cX3_rowOfSprite zn_cX3_rowOfSprite (by decide +kernel)) rfl
theorem dX3_rowOfSprite_50 : decode cX3_rowOfSprite 50 = .ok (.iload 4, 2) := zo_21 (b1 := 4) (zkb2 zk_cX3_rowOfSprite zn_cX3_rowOfSprite (by decide +kernel))
theorem dX3_rowOfSprite_52 : decode cX3_rowOfSprite 52 = .ok (.goto 4, 3) := zo_167 (b1 := 0) (b2 := 4) (zkb3 zk_cX3_rowOfSprite zn_cX3_rowOfSprite (by decide +kernel)) rfl
theorem dX3_rowOfSprite_55 : decode cX3_rowOfSprite 55 = .ok (.iconst (-1), 1) := zo_2 (zkb zk_cX3_rowOfSprite zn_cX3_rowOfSprite (by decide +kernel))
theorem dX3_rowOfSprite_56 : decode cX3_rowOfSprite 56 = .ok (.ireturn, 1) := zo_172 (zkb zk_cX3_rowOfSprite zn_cX3_rowOfSprite (by decide +kernel))
def kn_cX9_held : Nat := 0xac030400a72e1b1000b42a0c00a260101b12009b1b
theorem zk_cX9_held : zkd cX9_held.data.toList kn_cX9_held = true := by decide +kernel
theorem zn_cX9_held : cX9_held.data.toList.length = 21 := by decide +kernel
theorem dX9_held_0 : decode cX9_held 0 = .ok (.iload_n 1, 1) := zo_27 (zkb zk_cX9_held zn_cX9_held (by decide +kernel))
theorem dX9_held_1 : decode cX9_held 1 = .ok (.ifCond .lt 18, 3) := zo_155 (b1 := 0) (b2 := 18) (zkb3 zk_cX9_held zn_cX9_held (by decide +kernel)) rfl
theorem dX9_held_4 : decode cX9_held 4 = .ok (.iload_n 1, 1) := zo_27 (zkb zk_cX9_held zn_cX9_held (by decide +kernel))
theorem dX9_held_5 : decode cX9_held 5 = .ok (.bipush 96, 2) := zo_16 (b1 := 96) (zkb2 zk_cX9_held zn_cX9_held (by decide +kernel)) rfl
theorem dX9_held_7 : decode cX9_held 7 = .ok (.if_icmp .ge 12, 3) := zo_162 (b1 := 0) (b2 := 12) (zkb3 zk_cX9_held zn_cX9_held (by decide +kernel)) rfl
theorem dX9_held_10 : decode cX9_held 10 = .ok (.aload_n 0, 1) := zo_42 (zkb zk_cX9_held zn_cX9_held (by decide +kernel))
theorem dX9_held_11 : decode cX9_held 11 = .ok (.getfield 16, 3) := zo_180 (b1 := 0) (b2 := 16) (zkb3 zk_cX9_held zn_cX9_held (by decide +kernel)) rfl
theorem dX9_held_14 : decode cX9_held 14 = .ok (.iload_n 1, 1) := zo_27 (zkb zk_cX9_held zn_cX9_held (by decide +kernel))
theorem dX9_held_15 : decode cX9_held 15 = .ok (.iaload, 1) := zo_46 (zkb zk_cX9_held zn_cX9_held (by decide +kernel))
theorem dX9_held_16 : decode cX9_held 16 = .ok (.goto 4, 3) := zo_167 (b1 := 0) (b2 := 4) (zkb3 zk_cX9_held zn_cX9_held (by decide +kernel)) rfl
theorem dX9_held_19 : decode cX9_held 19 = .ok (.iconst 0, 1) := zo_3 (zkb zk_cX9_held zn_cX9_held (by decide +kernel))
theorem dX9_held_20 : decode cX9_held 20 = .ok (.ireturn, 1) := zo_172 (zkb zk_cX9_held zn_cX9_held (by decide +kernel))
def kn_cX9_vramByte : Nat := 0xac2e7eff3f111b0900b42a
theorem zk_cX9_vramByte : zkd cX9_vramByte.data.toList kn_cX9_vramByte = true := by decide +kernel
theorem zn_cX9_vramByte : cX9_vramByte.data.toList.length = 11 := by decide +kernel
theorem dX9_vramByte_0 : decode cX9_vramByte 0 = .ok (.aload_n 0, 1) := zo_42 (zkb zk_cX9_vramByte zn_cX9_vramByte (by decide +kernel))
theorem dX9_vramByte_1 : decode cX9_vramByte 1 = .ok (.getfield 9, 3) := zo_180 (b1 := 0) (b2 := 9) (zkb3 zk_cX9_vramByte zn_cX9_vramByte (by decide +kernel)) rfl
theorem dX9_vramByte_4 : decode cX9_vramByte 4 = .ok (.iload_n 1, 1) := zo_27 (zkb zk_cX9_vramByte zn_cX9_vramByte (by decide +kernel))
theorem dX9_vramByte_5 : decode cX9_vramByte 5 = .ok (.sipush 16383, 3) := zo_17 (b1 := 63) (b2 := 255) (zkb3 zk_cX9_vramByte zn_cX9_vramByte (by decide +kernel)) rfl
theorem dX9_vramByte_8 : decode cX9_vramByte 8 = .ok (.iand, 1) := zo_126 (zkb zk_cX9_vramByte zn_cX9_vramByte (by decide +kernel))
theorem dX9_vramByte_9 : decode cX9_vramByte 9 = .ok (.iaload, 1) := zo_46 (zkb zk_cX9_vramByte zn_cX9_vramByte (by decide +kernel))
theorem dX9_vramByte_10 : decode cX9_vramByte 10 = .ok (.ireturn, 1) := zo_172 (zkb zk_cX9_vramByte zn_cX9_vramByte (by decide +kernel))
def kn_cX9_mark : Nat := 0xb14f801b2e5c0f101000b42a
theorem zk_cX9_mark : zkd cX9_mark.data.toList kn_cX9_mark = true := by decide +kernel
theorem zn_cX9_mark : cX9_mark.data.toList.length = 12 := by decide +kernel
theorem dX9_mark_0 : decode cX9_mark 0 = .ok (.aload_n 0, 1) := zo_42 (zkb zk_cX9_mark zn_cX9_mark (by decide +kernel))
theorem dX9_mark_1 : decode cX9_mark 1 = .ok (.getfield 16, 3) := zo_180 (b1 := 0) (b2 := 16) (zkb3 zk_cX9_mark zn_cX9_mark (by decide +kernel)) rfl
theorem dX9_mark_4 : decode cX9_mark 4 = .ok (.bipush 15, 2) := zo_16 (b1 := 15) (zkb2 zk_cX9_mark zn_cX9_mark (by decide +kernel)) rfl
theorem dX9_mark_6 : decode cX9_mark 6 = .ok (.dup2, 1) := zo_92 (zkb zk_cX9_mark zn_cX9_mark (by decide +kernel))
theorem dX9_mark_7 : decode cX9_mark 7 = .ok (.iaload, 1) := zo_46 (zkb zk_cX9_mark zn_cX9_mark (by decide +kernel))
theorem dX9_mark_8 : decode cX9_mark 8 = .ok (.iload_n 1, 1) := zo_27 (zkb zk_cX9_mark zn_cX9_mark (by decide +kernel))
theorem dX9_mark_9 : decode cX9_mark 9 = .ok (.ior, 1) := zo_128 (zkb zk_cX9_mark zn_cX9_mark (by decide +kernel))
theorem dX9_mark_10 : decode cX9_mark 10 = .ok (.iastore, 1) := zo_79 (zkb zk_cX9_mark zn_cX9_mark (by decide +kernel))
theorem dX9_mark_11 : decode cX9_mark 11 = .ok (.return_, 1) := zo_177 (zkb zk_cX9_mark zn_cX9_mark (by decide +kernel))
def kn_cX9_mode : Nat := 0xac030400a7050700997e052e031000b42aac060500997e08102e041000b42aac040500997e10102e041000b42aac070500997e072e031000b42a
theorem zk_cX9_mode : zkd cX9_mode.data.toList kn_cX9_mode = true := by decide +kernel
theorem zn_cX9_mode : cX9_mode.data.toList.length = 58 := by decide +kernel
theorem dX9_mode_0 : decode cX9_mode 0 = .ok (.aload_n 0, 1) := zo_42 (zkb zk_cX9_mode zn_cX9_mode (by decide +kernel))
theorem dX9_mode_1 : decode cX9_mode 1 = .ok (.getfield 16, 3) := zo_180 (b1 := 0) (b2 := 16) (zkb3 zk_cX9_mode zn_cX9_mode (by decide +kernel)) rfl
theorem dX9_mode_4 : decode cX9_mode 4 = .ok (.iconst 0, 1) := zo_3 (zkb zk_cX9_mode zn_cX9_mode (by decide +kernel))
theorem dX9_mode_5 : decode cX9_mode 5 = .ok (.iaload, 1) := zo_46 (zkb zk_cX9_mode zn_cX9_mode (by decide +kernel))
theorem dX9_mode_6 : decode cX9_mode 6 = .ok (.iconst 4, 1) := zo_7 (zkb zk_cX9_mode zn_cX9_mode (by decide +kernel))
theorem dX9_mode_7 : decode cX9_mode 7 = .ok (.iand, 1) := zo_126 (zkb zk_cX9_mode zn_cX9_mode (by decide +kernel))
theorem dX9_mode_8 : decode cX9_mode 8 = .ok (.ifCond .eq 5, 3) := zo_153 (b1 := 0) (b2 := 5) (zkb3 zk_cX9_mode zn_cX9_mode (by decide +kernel)) rfl
theorem dX9_mode_11 : decode cX9_mode 11 = .ok (.iconst 4, 1) := zo_7 (zkb zk_cX9_mode zn_cX9_mode (by decide +kernel))
theorem dX9_mode_12 : decode cX9_mode 12 = .ok (.ireturn, 1) := zo_172 (zkb zk_cX9_mode zn_cX9_mode (by decide +kernel))
theorem dX9_mode_13 : decode cX9_mode 13 = .ok (.aload_n 0, 1) := zo_42 (zkb zk_cX9_mode zn_cX9_mode (by decide +kernel))
theorem dX9_mode_14 : decode cX9_mode 14 = .ok (.getfield 16, 3) := zo_180 (b1 := 0) (b2 := 16) (zkb3 zk_cX9_mode zn_cX9_mode (by decide +kernel)) rfl
theorem dX9_mode_17 : decode cX9_mode 17 = .ok (.iconst 1, 1) := zo_4 (zkb zk_cX9_mode zn_cX9_mode (by decide +kernel))
theorem dX9_mode_18 : decode cX9_mode 18 = .ok (.iaload, 1) := zo_46 (zkb zk_cX9_mode zn_cX9_mode (by decide +kernel))
theorem dX9_mode_19 : decode cX9_mode 19 = .ok (.bipush 16, 2) := zo_16 (b1 := 16) (zkb2 zk_cX9_mode zn_cX9_mode (by decide +kernel)) rfl
theorem dX9_mode_21 : decode cX9_mode 21 = .ok (.iand, 1) := zo_126 (zkb zk_cX9_mode zn_cX9_mode (by decide +kernel))
theorem dX9_mode_22 : decode cX9_mode 22 = .ok (.ifCond .eq 5, 3) := zo_153 (b1 := 0) (b2 := 5) (zkb3 zk_cX9_mode zn_cX9_mode (by decide +kernel)) rfl
theorem dX9_mode_25 : decode cX9_mode 25 = .ok (.iconst 1, 1) := zo_4 (zkb zk_cX9_mode zn_cX9_mode (by decide +kernel))
theorem dX9_mode_26 : decode cX9_mode 26 = .ok (.ireturn, 1) := zo_172 (zkb zk_cX9_mode zn_cX9_mode (by decide +kernel))
theorem dX9_mode_27 : decode cX9_mode 27 = .ok (.aload_n 0, 1) := zo_42 (zkb zk_cX9_mode zn_cX9_mode (by decide +kernel))
theorem dX9_mode_28 : decode cX9_mode 28 = .ok (.getfield 16, 3) := zo_180 (b1 := 0) (b2 := 16) (zkb3 zk_cX9_mode zn_cX9_mode (by decide +kernel)) rfl
theorem dX9_mode_31 : decode cX9_mode 31 = .ok (.iconst 1, 1) := zo_4 (zkb zk_cX9_mode zn_cX9_mode (by decide +kernel))
theorem dX9_mode_32 : decode cX9_mode 32 = .ok (.iaload, 1) := zo_46 (zkb zk_cX9_mode zn_cX9_mode (by decide +kernel))
theorem dX9_mode_33 : decode cX9_mode 33 = .ok (.bipush 8, 2) := zo_16 (b1 := 8) (zkb2 zk_cX9_mode zn_cX9_mode (by decide +kernel)) rfl
theorem dX9_mode_35 : decode cX9_mode 35 = .ok (.iand, 1) := zo_126 (zkb zk_cX9_mode zn_cX9_mode (by decide +kernel))
theorem dX9_mode_36 : decode cX9_mode 36 = .ok (.ifCond .eq 5, 3) := zo_153 (b1 := 0) (b2 := 5) (zkb3 zk_cX9_mode zn_cX9_mode (by decide +kernel)) rfl
theorem dX9_mode_39 : decode cX9_mode 39 = .ok (.iconst 3, 1) := zo_6 (zkb zk_cX9_mode zn_cX9_mode (by decide +kernel))
theorem dX9_mode_40 : decode cX9_mode 40 = .ok (.ireturn, 1) := zo_172 (zkb zk_cX9_mode zn_cX9_mode (by decide +kernel))
theorem dX9_mode_41 : decode cX9_mode 41 = .ok (.aload_n 0, 1) := zo_42 (zkb zk_cX9_mode zn_cX9_mode (by decide +kernel))
theorem dX9_mode_42 : decode cX9_mode 42 = .ok (.getfield 16, 3) := zo_180 (b1 := 0) (b2 := 16) (zkb3 zk_cX9_mode zn_cX9_mode (by decide +kernel)) rfl
theorem dX9_mode_45 : decode cX9_mode 45 = .ok (.iconst 0, 1) := zo_3 (zkb zk_cX9_mode zn_cX9_mode (by decide +kernel))
theorem dX9_mode_46 : decode cX9_mode 46 = .ok (.iaload, 1) := zo_46 (zkb zk_cX9_mode zn_cX9_mode (by decide +kernel))
theorem dX9_mode_47 : decode cX9_mode 47 = .ok (.iconst 2, 1) := zo_5 (zkb zk_cX9_mode zn_cX9_mode (by decide +kernel))
theorem dX9_mode_48 : decode cX9_mode 48 = .ok (.iand, 1) := zo_126 (zkb zk_cX9_mode zn_cX9_mode (by decide +kernel))
theorem dX9_mode_49 : decode cX9_mode 49 = .ok (.ifCond .eq 7, 3) := zo_153 (b1 := 0) (b2 := 7) (zkb3 zk_cX9_mode zn_cX9_mode (by decide +kernel)) rfl
theorem dX9_mode_52 : decode cX9_mode 52 = .ok (.iconst 2, 1) := zo_5 (zkb zk_cX9_mode zn_cX9_mode (by decide +kernel))
theorem dX9_mode_53 : decode cX9_mode 53 = .ok (.goto 4, 3) := zo_167 (b1 := 0) (b2 := 4) (zkb3 zk_cX9_mode zn_cX9_mode (by decide +kernel)) rfl
theorem dX9_mode_56 : decode cX9_mode 56 = .ok (.iconst 0, 1) := zo_3 (zkb zk_cX9_mode zn_cX9_mode (by decide +kernel))
theorem dX9_mode_57 : decode cX9_mode 57 = .ok (.ireturn, 1) := zo_172 (zkb zk_cX9_mode zn_cX9_mode (by decide +kernel))
def kn_cX9_height : Nat := 0xacc00011acf00011ace0001119000000100000001d000000080000000200000021000000ab7e18102e041000b42aacc0001107009f06107e06102e031000b42a
theorem zk_cX9_height : zkd cX9_height.data.toList kn_cX9_height = true := by decide +kernel
theorem zn_cX9_height : cX9_height.data.toList.length = 64 := by decide +kernel
theorem dX9_height_0 : decode cX9_height 0 = .ok (.aload_n 0, 1) := zo_42 (zkb zk_cX9_height zn_cX9_height (by decide +kernel))
theorem dX9_height_1 : decode cX9_height 1 = .ok (.getfield 16, 3) := zo_180 (b1 := 0) (b2 := 16) (zkb3 zk_cX9_height zn_cX9_height (by decide +kernel)) rfl
theorem dX9_height_4 : decode cX9_height 4 = .ok (.iconst 0, 1) := zo_3 (zkb zk_cX9_height zn_cX9_height (by decide +kernel))
theorem dX9_height_5 : decode cX9_height 5 = .ok (.iaload, 1) := zo_46 (zkb zk_cX9_height zn_cX9_height (by decide +kernel))
theorem dX9_height_6 : decode cX9_height 6 = .ok (.bipush 6, 2) := zo_16 (b1 := 6) (zkb2 zk_cX9_height zn_cX9_height (by decide +kernel)) rfl
theorem dX9_height_8 : decode cX9_height 8 = .ok (.iand, 1) := zo_126 (zkb zk_cX9_height zn_cX9_height (by decide +kernel))
theorem dX9_height_9 : decode cX9_height 9 = .ok (.bipush 6, 2) := zo_16 (b1 := 6) (zkb2 zk_cX9_height zn_cX9_height (by decide +kernel)) rfl
theorem dX9_height_11 : decode cX9_height 11 = .ok (.if_icmp .eq 7, 3) := zo_159 (b1 := 0) (b2 := 7) (zkb3 zk_cX9_height zn_cX9_height (by decide +kernel)) rfl
theorem dX9_height_14 : decode cX9_height 14 = .ok (.sipush 192, 3) := zo_17 (b1 := 0) (b2 := 192) (zkb3 zk_cX9_height zn_cX9_height (by decide +kernel)) rfl
theorem dX9_height_17 : decode cX9_height 17 = .ok (.ireturn, 1) := zo_172 (zkb zk_cX9_height zn_cX9_height (by decide +kernel))
theorem dX9_height_18 : decode cX9_height 18 = .ok (.aload_n 0, 1) := zo_42 (zkb zk_cX9_height zn_cX9_height (by decide +kernel))
theorem dX9_height_19 : decode cX9_height 19 = .ok (.getfield 16, 3) := zo_180 (b1 := 0) (b2 := 16) (zkb3 zk_cX9_height zn_cX9_height (by decide +kernel)) rfl
theorem dX9_height_22 : decode cX9_height 22 = .ok (.iconst 1, 1) := zo_4 (zkb zk_cX9_height zn_cX9_height (by decide +kernel))
theorem dX9_height_23 : decode cX9_height 23 = .ok (.iaload, 1) := zo_46 (zkb zk_cX9_height zn_cX9_height (by decide +kernel))
theorem dX9_height_24 : decode cX9_height 24 = .ok (.bipush 24, 2) := zo_16 (b1 := 24) (zkb2 zk_cX9_height zn_cX9_height (by decide +kernel)) rfl
theorem dX9_height_26 : decode cX9_height 26 = .ok (.iand, 1) := zo_126 (zkb zk_cX9_height zn_cX9_height (by decide +kernel))
theorem dX9_height_27 : decode cX9_height 27 = .ok (.lookupswitch 33 #[(8, 29), (16, 25)], 25) := by decide +kernel
theorem dX9_height_52 : decode cX9_height 52 = .ok (.sipush 224, 3) := zo_17 (b1 := 0) (b2 := 224) (zkb3 zk_cX9_height zn_cX9_height (by decide +kernel)) rfl
theorem dX9_height_55 : decode cX9_height 55 = .ok (.ireturn, 1) := zo_172 (zkb zk_cX9_height zn_cX9_height (by decide +kernel))
theorem dX9_height_56 : decode cX9_height 56 = .ok (.sipush 240, 3) := zo_17 (b1 := 0) (b2 := 240) (zkb3 zk_cX9_height zn_cX9_height (by decide +kernel)) rfl
theorem dX9_height_59 : decode cX9_height 59 = .ok (.ireturn, 1) := zo_172 (zkb zk_cX9_height zn_cX9_height (by decide +kernel))
theorem dX9_height_60 : decode cX9_height 60 = .ok (.sipush 192, 3) := zo_17 (b1 := 0) (b2 := 192) (zkb3 zk_cX9_height zn_cX9_height (by decide +kernel)) rfl
theorem dX9_height_63 : decode cX9_height 63 = .ok (.ireturn, 1) := zo_172 (zkb zk_cX9_height zn_cX9_height (by decide +kernel))
def kn_cJ7_fill_53178 : Nat := 0xb1f4ffa70102844f1b1c2a0d00a21d1c3ebe2a3d03
theorem zk_cJ7_fill_53178 : zkd cJ7_fill_53178.data.toList kn_cJ7_fill_53178 = true := by decide +kernel
theorem zn_cJ7_fill_53178 : cJ7_fill_53178.data.toList.length = 21 := by decide +kernel
theorem dJ7_fill_53178_0 : decode cJ7_fill_53178 0 = .ok (.iconst 0, 1) := zo_3 (zkb zk_cJ7_fill_53178 zn_cJ7_fill_53178 (by decide +kernel))
theorem dJ7_fill_53178_1 : decode cJ7_fill_53178 1 = .ok (.istore_n 2, 1) := zo_61 (zkb zk_cJ7_fill_53178 zn_cJ7_fill_53178 (by decide +kernel))
theorem dJ7_fill_53178_2 : decode cJ7_fill_53178 2 = .ok (.aload_n 0, 1) := zo_42 (zkb zk_cJ7_fill_53178 zn_cJ7_fill_53178 (by decide +kernel))
theorem dJ7_fill_53178_3 : decode cJ7_fill_53178 3 = .ok (.arraylength, 1) := zo_190 (zkb zk_cJ7_fill_53178 zn_cJ7_fill_53178 (by decide +kernel))
theorem dJ7_fill_53178_4 : decode cJ7_fill_53178 4 = .ok (.istore_n 3, 1) := zo_62 (zkb zk_cJ7_fill_53178 zn_cJ7_fill_53178 (by decide +kernel))
theorem dJ7_fill_53178_5 : decode cJ7_fill_53178 5 = .ok (.iload_n 2, 1) := zo_28 (zkb zk_cJ7_fill_53178 zn_cJ7_fill_53178 (by decide +kernel))
theorem dJ7_fill_53178_6 : decode cJ7_fill_53178 6 = .ok (.iload_n 3, 1) := zo_29 (zkb zk_cJ7_fill_53178 zn_cJ7_fill_53178 (by decide +kernel))
theorem dJ7_fill_53178_7 : decode cJ7_fill_53178 7 = .ok (.if_icmp .ge 13, 3) := zo_162 (b1 := 0) (b2 := 13) (zkb3 zk_cJ7_fill_53178 zn_cJ7_fill_53178 (by decide +kernel)) rfl
theorem dJ7_fill_53178_10 : decode cJ7_fill_53178 10 = .ok (.aload_n 0, 1) := zo_42 (zkb zk_cJ7_fill_53178 zn_cJ7_fill_53178 (by decide +kernel))
theorem dJ7_fill_53178_11 : decode cJ7_fill_53178 11 = .ok (.iload_n 2, 1) := zo_28 (zkb zk_cJ7_fill_53178 zn_cJ7_fill_53178 (by decide +kernel))
theorem dJ7_fill_53178_12 : decode cJ7_fill_53178 12 = .ok (.iload_n 1, 1) := zo_27 (zkb zk_cJ7_fill_53178 zn_cJ7_fill_53178 (by decide +kernel))
theorem dJ7_fill_53178_13 : decode cJ7_fill_53178 13 = .ok (.iastore, 1) := zo_79 (zkb zk_cJ7_fill_53178 zn_cJ7_fill_53178 (by decide +kernel))
theorem dJ7_fill_53178_14 : decode cJ7_fill_53178 14 = .ok (.iinc 2 1, 3) := zo_132 (b1 := 2) (b2 := 1) (zkb3 zk_cJ7_fill_53178 zn_cJ7_fill_53178 (by decide +kernel)) rfl
theorem dJ7_fill_53178_17 : decode cJ7_fill_53178 17 = .ok (.goto (-12), 3) := zo_167 (b1 := 255) (b2 := 244) (zkb3 zk_cJ7_fill_53178 zn_cJ7_fill_53178 (by decide +kernel)) rfl
theorem dJ7_fill_53178_20 : decode cJ7_fill_53178 20 = .ok (.return_, 1) := zo_177 (zkb zk_cJ7_fill_53178 zn_cJ7_fill_53178 (by decide +kernel))
def rmX2_sumOfCard : Room := { frames := 1, cells := 0, slots := 0, locals := 21 }
def wzX2_sumOfCard : List Cond := .code yX2_sumOfCard cX2_sumOfCard 4 (some .int) :: wsL_law
theorem hinX2_sumOfCard_X20 : ∀ w ∈ wsX20, w ∈ wzX2_sumOfCard := fun w h => List.mem_cons_of_mem _ (inlX2 w h)
def fX2_sumOfCard_77  (σ : zSt) (x2 : Int32) : Option (zSt × Int32) :=
  some (σ, x2 &&& 65535)
def fX2_sumOfCard_55_body (k55 : zSt → Int32 → Int32 → Option (zSt × Int32)) (σ : zSt) (x2 : Int32) (x3 : Int32) : Option (zSt × Int32) :=
  if (zgi σ 1 4) ≤ x3 then fX2_sumOfCard_77 σ x2 else
  zbi (fX2_romByte σ x3) (fun σ1 v2 =>
  zbv (x2 + v2) (fun v3 =>
  zbv (x3 + 1) (fun v4 =>
  k55 σ1 v3 v4)))
def fX2_sumOfCard_55  : Nat → zSt → Int32 → Int32 → Option (zSt × Int32)
  | 0, _, _, _ => none
  | n + 1, σ, x2, x3 => fX2_sumOfCard_55_body (fX2_sumOfCard_55  n) σ x2 x3
def fX2_sumOfCard_52  (σ : zSt) (x2 : Int32) : Option (zSt × Int32) :=
  fX2_sumOfCard_55 zfuel σ x2 32768
def fX2_sumOfCard_19_body (k19 : zSt → Int32 → Int32 → Int32 → Option (zSt × Int32)) (σ : zSt) (x1 : Int32) (x2 : Int32) (x3 : Int32) : Option (zSt × Int32) :=
  if (zgi σ 1 7) ≤ x3 then if 14 ≤ x1 then fX2_sumOfCard_52 σ x2 else
  if 2 < x1 then fX2_sumOfCard_77 σ x2 else
  fX2_sumOfCard_52 σ x2 else
  zbi (fX2_romByte σ x3) (fun σ5 v6 =>
  zbv (x2 + v6) (fun v7 =>
  zbv (x3 + 1) (fun v8 =>
  k19 σ5 x1 v7 v8)))
def fX2_sumOfCard_19  : Nat → zSt → Int32 → Int32 → Int32 → Option (zSt × Int32)
  | 0, _, _, _, _ => none
  | n + 1, σ, x1, x2, x3 => fX2_sumOfCard_19_body (fX2_sumOfCard_19  n) σ x1 x2 x3
def fX2_sumOfCard  (σ : zSt)  : Option (zSt × Int32) :=
  zbi (fX2_romByte σ ((zgi σ 1 7) + 15)) (fun σ9 v10 =>
  zbv (v10 &&& 15) (fun v11 =>
  fX2_sumOfCard_19 zfuel σ9 v11 0 0))
set_option maxRecDepth 20000 in
set_option maxHeartbeats 4000000 in
theorem bX2_sumOfCard_77 {st : Nat → Nat} {p : Program} {l : Launch} {e : Env} {s : State} {m : MethodId} {args : Array Value} {below : List Frame} {meth : Method} {c : Code} {D : va_G} {A : Nat → Prop} {ad : Nat → Nat} {cy : Nat → ClassId} (hC : zC p m c cX2_sumOfCard 4 s args wzX2_sumOfCard RX2 meth (some .int))  {res : zSt × Int32} {H : Heap} {locs : List Loc} {σ : zSt} {ls : Array Slot} {x2 : Int32} (hI : zI st D (tC cy) (wC ad cy σ) A s H locs) (hl : lv_has ls 4 [(2, .int x2)]) (hf : fX2_sumOfCard_77  σ x2 = some res) : W p l e rmX2_sumOfCard s m args below meth c H locs 0 0 (zQi below args s D (tC cy) (wC ad cy) A res) (F0 m 77 ls []) := by
  have hx := hC.1
  have hb := hC.2.1
  unfold fX2_sumOfCard_77 at hf
  refine lv_iload_n hx hb dX2_sumOfCard_77 rfl (lv_at hl 0 rfl) ?_
  refine lv_ldc (v := 65535) hx hb hC.2.2.2.1 (hC.2.2.2.2.1 _ (List.mem_cons_of_mem _ zw17_16)) dX2_sumOfCard_78 ?_
  refine lv_iand hx hb dX2_sumOfCard_80 ?_
  exact z_ireturn hC hI hf dX2_sumOfCard_81
set_option maxRecDepth 20000 in
set_option maxHeartbeats 4000000 in
theorem bX2_sumOfCard_55_body {st : Nat → Nat} {p : Program} {l : Launch} {e : Env} {s : State} {m : MethodId} {args : Array Value} {below : List Frame} {meth : Method} {c : Code} {D : va_G} {A : Nat → Prop} {ad : Nat → Nat} {cy : Nat → ClassId} (hC : zC p m c cX2_sumOfCard 4 s args wzX2_sumOfCard RX2 meth (some .int)) {k55 : zSt → Int32 → Int32 → Option (zSt × Int32)} {res : zSt × Int32} (hk55 : ∀ (H : Heap) (locs : List Loc) (σ : zSt) (ls : Array Slot) (x2 : Int32) (x3 : Int32), zI st D (tC cy) (wC ad cy σ) A s H locs → lv_has ls 4 [(0, .ref (ad 1)), (2, .int x2), (3, .int x3)] → k55 σ x2 x3 = some res → W p l e rmX2_sumOfCard s m args below meth c H locs 0 0 (zQi below args s D (tC cy) (wC ad cy) A res) (F0 m 55 ls [])) {H : Heap} {locs : List Loc} {σ : zSt} {ls : Array Slot} {x2 : Int32} {x3 : Int32} (hI : zI st D (tC cy) (wC ad cy σ) A s H locs) (hl : lv_has ls 4 [(0, .ref (ad 1)), (2, .int x2), (3, .int x3)]) (hf : fX2_sumOfCard_55_body k55 σ x2 x3 = some res) : W p l e rmX2_sumOfCard s m args below meth c H locs 0 0 (zQi below args s D (tC cy) (wC ad cy) A res) (F0 m 55 ls []) := by
  have hx := hC.1
  have hb := hC.2.1
  unfold fX2_sumOfCard_55_body at hf
  refine lv_iload_n hx hb dX2_sumOfCard_55 rfl (lv_at hl 2 rfl) ?_
  refine lv_aload_n hx hb dX2_sumOfCard_56 rfl (lv_at hl 0 rfl) ?_
  refine z_get hC hI hinX2_sumOfCard_X20 1 (wC_e1 ad cy σ) rfl 4 (by decide) (List.mem_cons_of_mem _ zw14_1) rfl dX2_sumOfCard_57 ?_
  refine lv_icmp_ge (tgt := 77) hx hb dX2_sumOfCard_60 (by decide) (fun q => ?_) (fun q => ?_)
  · replace hf := zif_t q hf
    exact bX2_sumOfCard_77 hC  hI (lv_sub hl [1] rfl) hf
  replace hf := zif_f q hf
  refine lv_iload_n hx hb dX2_sumOfCard_63 rfl (lv_at hl 1 rfl) ?_
  refine lv_aload_n hx hb dX2_sumOfCard_64 rfl (lv_at hl 0 rfl) ?_
  refine lv_iload_n hx hb dX2_sumOfCard_65 rfl (lv_at hl 2 rfl) ?_
  obtain ⟨σ1, v2, g1, hf⟩ := zbi_use hf
  refine z_callVi (As := [.int x3]) (rest := [.int x2]) hC hI (cX2_romByte_met st l D ad cy σ x3 _ g1) (zgV zw14_10 zw14_11 zw14_12 zw1_21 zw14_13) rfl ⟨rfl, rfl⟩ 1 hdX2_romByte ⟨Nat.le_of_ble_eq_true rfl, Nat.le_of_ble_eq_true rfl⟩ rfl rfl (wC_e1 ad cy σ) rfl hl rfl (Nat.le_of_ble_eq_true rfl) dX2_sumOfCard_66 ⟨Nat.zero_le _, Nat.zero_le _⟩ (fun H locs hI => ?_)
  refine lv_iadd hx hb dX2_sumOfCard_69 ?_
  refine lv_topi (fun v3 ev3 => ?_)
  replace hf := zbv_use ev3 hf
  refine lv_istore_n (lv' := [(2, .int v3), (0, .ref (ad 1)), (3, .int x3)]) hx hb dX2_sumOfCard_70 rfl hl (by decide) rfl (fun ls hl => ?_)
  obtain ⟨v4, ev4⟩ : ∃ z : Int32, z = x3 + 1 := ⟨_, rfl⟩
  replace hf := zbv_use ev4 hf
  refine lv_iinc (v := v4) (lv' := [(3, .int v4), (2, .int v3), (0, .ref (ad 1))]) hx hb dX2_sumOfCard_71 hl (k := 2) rfl (by rw [ev4]; rfl) (by decide) rfl (fun ls hl => ?_)
  refine lv_goto (tgt := 55) hx hb dX2_sumOfCard_74 (by decide) ?_
  exact hk55 _ _ _ _ _ _ hI (lv_sub hl [2, 1, 0] rfl) hf
theorem blX2_sumOfCard_55 {st : Nat → Nat} {p : Program} {l : Launch} {e : Env} {s : State} {m : MethodId} {args : Array Value} {below : List Frame} {meth : Method} {c : Code} {D : va_G} {A : Nat → Prop} {ad : Nat → Nat} {cy : Nat → ClassId} (hC : zC p m c cX2_sumOfCard 4 s args wzX2_sumOfCard RX2 meth (some .int))  {res : zSt × Int32} : ∀ (n : Nat) (H : Heap) (locs : List Loc) (σ : zSt) (ls : Array Slot) (x2 : Int32) (x3 : Int32), zI st D (tC cy) (wC ad cy σ) A s H locs → lv_has ls 4 [(0, .ref (ad 1)), (2, .int x2), (3, .int x3)] → fX2_sumOfCard_55  n σ x2 x3 = some res → W p l e rmX2_sumOfCard s m args below meth c H locs 0 0 (zQi below args s D (tC cy) (wC ad cy) A res) (F0 m 55 ls []) := by
  intro n
  induction n with
  | zero => intro H locs σ ls x2 x3 hI hl hf; cases hf
  | succ n ih => intro H locs σ ls x2 x3 hI hl hf; exact bX2_sumOfCard_55_body hC ih hI hl hf
set_option maxRecDepth 20000 in
set_option maxHeartbeats 4000000 in
theorem bX2_sumOfCard_52 {st : Nat → Nat} {p : Program} {l : Launch} {e : Env} {s : State} {m : MethodId} {args : Array Value} {below : List Frame} {meth : Method} {c : Code} {D : va_G} {A : Nat → Prop} {ad : Nat → Nat} {cy : Nat → ClassId} (hC : zC p m c cX2_sumOfCard 4 s args wzX2_sumOfCard RX2 meth (some .int))  {res : zSt × Int32} {H : Heap} {locs : List Loc} {σ : zSt} {ls : Array Slot} {x2 : Int32} (hI : zI st D (tC cy) (wC ad cy σ) A s H locs) (hl : lv_has ls 4 [(0, .ref (ad 1)), (2, .int x2)]) (hf : fX2_sumOfCard_52  σ x2 = some res) : W p l e rmX2_sumOfCard s m args below meth c H locs 0 0 (zQi below args s D (tC cy) (wC ad cy) A res) (F0 m 52 ls []) := by
  have hx := hC.1
  have hb := hC.2.1
  unfold fX2_sumOfCard_52 at hf
  refine lv_ldc (v := 32768) hx hb hC.2.2.2.1 (hC.2.2.2.2.1 _ (List.mem_cons_of_mem _ zw3_21)) dX2_sumOfCard_52 ?_
  refine lv_istore_n (lv' := [(3, .int 32768), (0, .ref (ad 1)), (2, .int x2)]) hx hb dX2_sumOfCard_54 rfl hl (by decide) rfl (fun ls hl => ?_)
  exact blX2_sumOfCard_55 hC  zfuel _ _ _ _ _ _ hI (lv_sub hl [1, 2, 0] rfl) hf
set_option maxRecDepth 20000 in
set_option maxHeartbeats 4000000 in
theorem bX2_sumOfCard_19_body {st : Nat → Nat} {p : Program} {l : Launch} {e : Env} {s : State} {m : MethodId} {args : Array Value} {below : List Frame} {meth : Method} {c : Code} {D : va_G} {A : Nat → Prop} {ad : Nat → Nat} {cy : Nat → ClassId} (hC : zC p m c cX2_sumOfCard 4 s args wzX2_sumOfCard RX2 meth (some .int)) {k19 : zSt → Int32 → Int32 → Int32 → Option (zSt × Int32)} {res : zSt × Int32} (hk19 : ∀ (H : Heap) (locs : List Loc) (σ : zSt) (ls : Array Slot) (x1 : Int32) (x2 : Int32) (x3 : Int32), zI st D (tC cy) (wC ad cy σ) A s H locs → lv_has ls 4 [(0, .ref (ad 1)), (1, .int x1), (2, .int x2), (3, .int x3)] → k19 σ x1 x2 x3 = some res → W p l e rmX2_sumOfCard s m args below meth c H locs 0 0 (zQi below args s D (tC cy) (wC ad cy) A res) (F0 m 19 ls [])) {H : Heap} {locs : List Loc} {σ : zSt} {ls : Array Slot} {x1 : Int32} {x2 : Int32} {x3 : Int32} (hI : zI st D (tC cy) (wC ad cy σ) A s H locs) (hl : lv_has ls 4 [(0, .ref (ad 1)), (1, .int x1), (2, .int x2), (3, .int x3)]) (hf : fX2_sumOfCard_19_body k19 σ x1 x2 x3 = some res) : W p l e rmX2_sumOfCard s m args below meth c H locs 0 0 (zQi below args s D (tC cy) (wC ad cy) A res) (F0 m 19 ls []) := by
  have hx := hC.1
  have hb := hC.2.1
  unfold fX2_sumOfCard_19_body at hf
  refine lv_iload_n hx hb dX2_sumOfCard_19 rfl (lv_at hl 3 rfl) ?_
  refine lv_aload_n hx hb dX2_sumOfCard_20 rfl (lv_at hl 0 rfl) ?_
  refine z_get hC hI hinX2_sumOfCard_X20 1 (wC_e1 ad cy σ) rfl 7 (by decide) (List.mem_cons_of_mem _ zw3_18) rfl dX2_sumOfCard_21 ?_
  refine lv_icmp_ge (tgt := 41) hx hb dX2_sumOfCard_24 (by decide) (fun q => ?_) (fun q => ?_)
  · replace hf := zif_t q hf
    refine lv_iload_n hx hb dX2_sumOfCard_41 rfl (lv_at hl 1 rfl) ?_
    refine lv_bipush (v := 14) hx hb dX2_sumOfCard_42 (by decide) ?_
    refine lv_icmp_ge (tgt := 52) hx hb dX2_sumOfCard_44 (by decide) (fun q => ?_) (fun q => ?_)
    · replace hf := zif_t q hf
      exact bX2_sumOfCard_52 hC  hI (lv_sub hl [0, 2] rfl) hf
    replace hf := zif_f q hf
    refine lv_iload_n hx hb dX2_sumOfCard_47 rfl (lv_at hl 1 rfl) ?_
    refine lv_iconst (v := 2) hx hb dX2_sumOfCard_48 (by decide) ?_
    refine lv_icmp_gt (tgt := 77) hx hb dX2_sumOfCard_49 (by decide) (fun q => ?_) (fun q => ?_)
    · replace hf := zif_t q hf
      exact bX2_sumOfCard_77 hC  hI (lv_sub hl [2] rfl) hf
    replace hf := zif_f q hf
    exact bX2_sumOfCard_52 hC  hI (lv_sub hl [0, 2] rfl) hf
  replace hf := zif_f q hf
  refine lv_iload_n hx hb dX2_sumOfCard_27 rfl (lv_at hl 2 rfl) ?_
  refine lv_aload_n hx hb dX2_sumOfCard_28 rfl (lv_at hl 0 rfl) ?_
  refine lv_iload_n hx hb dX2_sumOfCard_29 rfl (lv_at hl 3 rfl) ?_
  obtain ⟨σ5, v6, g5, hf⟩ := zbi_use hf
  refine z_callVi (As := [.int x3]) (rest := [.int x2]) hC hI (cX2_romByte_met st l D ad cy σ x3 _ g5) (zgV zw14_10 zw14_11 zw14_12 zw1_21 zw14_13) rfl ⟨rfl, rfl⟩ 1 hdX2_romByte ⟨Nat.le_of_ble_eq_true rfl, Nat.le_of_ble_eq_true rfl⟩ rfl rfl (wC_e1 ad cy σ) rfl hl rfl (Nat.le_of_ble_eq_true rfl) dX2_sumOfCard_30 ⟨Nat.zero_le _, Nat.zero_le _⟩ (fun H locs hI => ?_)
  refine lv_iadd hx hb dX2_sumOfCard_33 ?_
  refine lv_topi (fun v7 ev7 => ?_)
  replace hf := zbv_use ev7 hf
  refine lv_istore_n (lv' := [(2, .int v7), (0, .ref (ad 1)), (1, .int x1), (3, .int x3)]) hx hb dX2_sumOfCard_34 rfl hl (by decide) rfl (fun ls hl => ?_)
  obtain ⟨v8, ev8⟩ : ∃ z : Int32, z = x3 + 1 := ⟨_, rfl⟩
  replace hf := zbv_use ev8 hf
  refine lv_iinc (v := v8) (lv' := [(3, .int v8), (2, .int v7), (0, .ref (ad 1)), (1, .int x1)]) hx hb dX2_sumOfCard_35 hl (k := 3) rfl (by rw [ev8]; rfl) (by decide) rfl (fun ls hl => ?_)
  refine lv_goto (tgt := 19) hx hb dX2_sumOfCard_38 (by decide) ?_
  exact hk19 _ _ _ _ _ _ _ hI (lv_sub hl [2, 3, 1, 0] rfl) hf
theorem blX2_sumOfCard_19 {st : Nat → Nat} {p : Program} {l : Launch} {e : Env} {s : State} {m : MethodId} {args : Array Value} {below : List Frame} {meth : Method} {c : Code} {D : va_G} {A : Nat → Prop} {ad : Nat → Nat} {cy : Nat → ClassId} (hC : zC p m c cX2_sumOfCard 4 s args wzX2_sumOfCard RX2 meth (some .int))  {res : zSt × Int32} : ∀ (n : Nat) (H : Heap) (locs : List Loc) (σ : zSt) (ls : Array Slot) (x1 : Int32) (x2 : Int32) (x3 : Int32), zI st D (tC cy) (wC ad cy σ) A s H locs → lv_has ls 4 [(0, .ref (ad 1)), (1, .int x1), (2, .int x2), (3, .int x3)] → fX2_sumOfCard_19  n σ x1 x2 x3 = some res → W p l e rmX2_sumOfCard s m args below meth c H locs 0 0 (zQi below args s D (tC cy) (wC ad cy) A res) (F0 m 19 ls []) := by
  intro n
  induction n with
  | zero => intro H locs σ ls x1 x2 x3 hI hl hf; cases hf
  | succ n ih => intro H locs σ ls x1 x2 x3 hI hl hf; exact bX2_sumOfCard_19_body hC ih hI hl hf
set_option maxRecDepth 20000 in
set_option maxHeartbeats 4000000 in
theorem bX2_sumOfCard {st : Nat → Nat} {p : Program} {l : Launch} {e : Env} {s : State} {m : MethodId} {args : Array Value} {below : List Frame} {meth : Method} {c : Code} {D : va_G} {A : Nat → Prop} {ad : Nat → Nat} {cy : Nat → ClassId} (hC : zC p m c cX2_sumOfCard 4 s args wzX2_sumOfCard RX2 meth (some .int))  {res : zSt × Int32} {H : Heap} {locs : List Loc} {σ : zSt} {ls : Array Slot}  (hI : zI st D (tC cy) (wC ad cy σ) A s H locs) (hl : lv_has ls 4 [(0, .ref (ad 1))]) (hf : fX2_sumOfCard  σ  = some res) : W p l e rmX2_sumOfCard s m args below meth c H locs 0 0 (zQi below args s D (tC cy) (wC ad cy) A res) (F0 m 0 ls []) := by
  have hx := hC.1
  have hb := hC.2.1
  unfold fX2_sumOfCard at hf
  refine lv_aload_n hx hb dX2_sumOfCard_0 rfl (lv_at hl 0 rfl) ?_
  refine lv_aload_n hx hb dX2_sumOfCard_1 rfl (lv_at hl 0 rfl) ?_
  refine z_get hC hI hinX2_sumOfCard_X20 1 (wC_e1 ad cy σ) rfl 7 (by decide) (List.mem_cons_of_mem _ zw3_18) rfl dX2_sumOfCard_2 ?_
  refine lv_bipush (v := 15) hx hb dX2_sumOfCard_5 (by decide) ?_
  refine lv_iadd hx hb dX2_sumOfCard_7 ?_
  obtain ⟨σ9, v10, g9, hf⟩ := zbi_use hf
  refine z_callVi (As := [.int ((zgi σ 1 7) + 15)]) (rest := []) hC hI (cX2_romByte_met st l D ad cy σ ((zgi σ 1 7) + 15) _ g9) (zgV zw14_10 zw14_11 zw14_12 zw1_21 zw14_13) rfl ⟨rfl, rfl⟩ 1 hdX2_romByte ⟨Nat.le_of_ble_eq_true rfl, Nat.le_of_ble_eq_true rfl⟩ rfl rfl (wC_e1 ad cy σ) rfl hl rfl (Nat.le_of_ble_eq_true rfl) dX2_sumOfCard_8 ⟨Nat.zero_le _, Nat.zero_le _⟩ (fun H locs hI => ?_)
  refine lv_bipush (v := 15) hx hb dX2_sumOfCard_11 (by decide) ?_
  refine lv_iand hx hb dX2_sumOfCard_13 ?_
  refine lv_topi (fun v11 ev11 => ?_)
  replace hf := zbv_use ev11 hf
  refine lv_istore_n (lv' := [(1, .int v11), (0, .ref (ad 1))]) hx hb dX2_sumOfCard_14 rfl hl (by decide) rfl (fun ls hl => ?_)
  refine lv_iconst (v := 0) hx hb dX2_sumOfCard_15 (by decide) ?_
  refine lv_istore_n (lv' := [(2, .int 0), (1, .int v11), (0, .ref (ad 1))]) hx hb dX2_sumOfCard_16 rfl hl (by decide) rfl (fun ls hl => ?_)
  refine lv_iconst (v := 0) hx hb dX2_sumOfCard_17 (by decide) ?_
  refine lv_istore_n (lv' := [(3, .int 0), (2, .int 0), (1, .int v11), (0, .ref (ad 1))]) hx hb dX2_sumOfCard_18 rfl hl (by decide) rfl (fun ls hl => ?_)
  exact blX2_sumOfCard_19 hC  zfuel _ _ _ _ _ _ _ hI (lv_sub hl [3, 2, 1, 0] rfl) hf
set_option maxRecDepth 20000 in
theorem cX2_sumOfCard_met (st : Nat → Nat) (l : Launch) (D : va_G) (ad : Nat → Nat) (cy : Nat → ClassId) (σ : zSt)  (res : zSt × Int32) (hf : fX2_sumOfCard σ  = some res) (sz : Nat) : zMi st l yX2_sumOfCard wzX2_sumOfCard rmX2_sumOfCard [.ref (ad 1)] D (tC cy) (wC ad cy) sz σ res :=
  zMi.of (cc := cX2_sumOfCard) (maxL := 4) (ret := (some .int)) (by decide) rfl (Nat.le_of_ble_eq_true rfl) (fun p e s m args below meth c hC A hI ls hl => bX2_sumOfCard hC hI hl hf)
theorem hdX2_sumOfCard : yX2_sumOfCard.cls = RX2 ∧ yX2_sumOfCard.cls ≠ "java/lang/invoke/MethodHandle" ∧ yX2_sumOfCard.cls ≠ "java/lang/invoke/VarHandle" ∧ (parseMethodDescriptor yX2_sumOfCard.desc).map (fun d => d.parameters.length) = some 0 := by decide +kernel
def rmX2_decimal : Room := { frames := 1, cells := 0, slots := 0, locals := 21 }
def wzX2_decimal : List Cond := .code yX2_decimal cX2_decimal 3 (some .int) :: wsL_law
theorem hinX2_decimal_X20 : ∀ w ∈ wsX20, w ∈ wzX2_decimal := fun w h => List.mem_cons_of_mem _ (inlX2 w h)
def fX2_decimal  (σ : zSt) (x1 : Int32) : Option (zSt × Int32) :=
  zbi (fX2_romByte σ ((zgi σ 1 7) + x1)) (fun σ1 v2 =>
  some (σ1, (10 * (v2 >>> ((4 : Int32) &&& 31))) + (v2 &&& 15)))
set_option maxRecDepth 20000 in
set_option maxHeartbeats 4000000 in
theorem bX2_decimal {st : Nat → Nat} {p : Program} {l : Launch} {e : Env} {s : State} {m : MethodId} {args : Array Value} {below : List Frame} {meth : Method} {c : Code} {D : va_G} {A : Nat → Prop} {ad : Nat → Nat} {cy : Nat → ClassId} (hC : zC p m c cX2_decimal 3 s args wzX2_decimal RX2 meth (some .int))  {res : zSt × Int32} {H : Heap} {locs : List Loc} {σ : zSt} {ls : Array Slot} {x1 : Int32} (hI : zI st D (tC cy) (wC ad cy σ) A s H locs) (hl : lv_has ls 3 [(0, .ref (ad 1)), (1, .int x1)]) (hf : fX2_decimal  σ x1 = some res) : W p l e rmX2_decimal s m args below meth c H locs 0 0 (zQi below args s D (tC cy) (wC ad cy) A res) (F0 m 0 ls []) := by
  have hx := hC.1
  have hb := hC.2.1
  unfold fX2_decimal at hf
  refine lv_aload_n hx hb dX2_decimal_0 rfl (lv_at hl 0 rfl) ?_
  refine lv_aload_n hx hb dX2_decimal_1 rfl (lv_at hl 0 rfl) ?_
  refine z_get hC hI hinX2_decimal_X20 1 (wC_e1 ad cy σ) rfl 7 (by decide) (List.mem_cons_of_mem _ zw3_18) rfl dX2_decimal_2 ?_
  refine lv_iload_n hx hb dX2_decimal_5 rfl (lv_at hl 1 rfl) ?_
  refine lv_iadd hx hb dX2_decimal_6 ?_
  obtain ⟨σ1, v2, g1, hf⟩ := zbi_use hf
  refine z_callVi (As := [.int ((zgi σ 1 7) + x1)]) (rest := []) hC hI (cX2_romByte_met st l D ad cy σ ((zgi σ 1 7) + x1) _ g1) (zgV zw14_10 zw14_11 zw14_12 zw1_21 zw14_13) rfl ⟨rfl, rfl⟩ 1 hdX2_romByte ⟨Nat.le_of_ble_eq_true rfl, Nat.le_of_ble_eq_true rfl⟩ rfl rfl (wC_e1 ad cy σ) rfl hl rfl (Nat.le_of_ble_eq_true rfl) dX2_decimal_7 ⟨Nat.zero_le _, Nat.zero_le _⟩ (fun H locs hI => ?_)
  refine lv_istore_n (lv' := [(2, .int v2), (0, .ref (ad 1)), (1, .int x1)]) hx hb dX2_decimal_10 rfl hl (by decide) rfl (fun ls hl => ?_)
  refine lv_bipush (v := 10) hx hb dX2_decimal_11 (by decide) ?_
  refine lv_iload_n hx hb dX2_decimal_13 rfl (lv_at hl 0 rfl) ?_
  refine lv_iconst (v := 4) hx hb dX2_decimal_14 (by decide) ?_
  refine lv_ishr hx hb dX2_decimal_15 ?_
  refine lv_imul hx hb dX2_decimal_16 ?_
  refine lv_iload_n hx hb dX2_decimal_17 rfl (lv_at hl 0 rfl) ?_
  refine lv_bipush (v := 15) hx hb dX2_decimal_18 (by decide) ?_
  refine lv_iand hx hb dX2_decimal_20 ?_
  refine lv_iadd hx hb dX2_decimal_21 ?_
  exact z_ireturn hC hI hf dX2_decimal_22
set_option maxRecDepth 20000 in
theorem cX2_decimal_met (st : Nat → Nat) (l : Launch) (D : va_G) (ad : Nat → Nat) (cy : Nat → ClassId) (σ : zSt) (x1 : Int32) (res : zSt × Int32) (hf : fX2_decimal σ x1 = some res) (sz : Nat) : zMi st l yX2_decimal wzX2_decimal rmX2_decimal [.ref (ad 1), .int x1] D (tC cy) (wC ad cy) sz σ res :=
  zMi.of (cc := cX2_decimal) (maxL := 3) (ret := (some .int)) (by decide) rfl (Nat.le_of_ble_eq_true rfl) (fun p e s m args below meth c hC A hI ls hl => bX2_decimal hC hI hl hf)
theorem hdX2_decimal : yX2_decimal.cls = RX2 ∧ yX2_decimal.cls ≠ "java/lang/invoke/MethodHandle" ∧ yX2_decimal.cls ≠ "java/lang/invoke/VarHandle" ∧ (parseMethodDescriptor yX2_decimal.desc).map (fun d => d.parameters.length) = some 1 := by decide +kernel
def rmX2_aboutCard : Room := { frames := 2, cells := 0, slots := 0, locals := 44 }
def wzX2_aboutCard : List Cond := .code yX2_aboutCard cX2_aboutCard 2 (some .int) :: wsL_law
theorem hinX2_aboutCard_X20 : ∀ w ∈ wsX20, w ∈ wzX2_aboutCard := fun w h => List.mem_cons_of_mem _ (inlX2 w h)
def fX2_aboutCard_14  (σ : zSt) (x1 : Int32) : Option (zSt × Int32) :=
  if x1 = 0 then some (σ, zgi σ 1 6) else
  if x1 = 1 then some (σ, zgi σ 1 5) else
  if x1 = 2 then some (σ, zgi σ 1 7) else
  if x1 = 3 then zbi (fX2_decimal σ 12) (fun σ1 v2 =>
  zbi (fX2_decimal σ1 13) (fun σ3 v4 =>
  zbi (fX2_romByte σ3 ((zgi σ3 1 7) + 14)) (fun σ5 v6 =>
  some (σ5, (v2 + (100 * v4)) + (10000 * (v6 >>> ((4 : Int32) &&& 31))))))) else
  if x1 = 4 then zbi (fX2_romByte σ ((zgi σ 1 7) + 15)) (fun σ7 v8 =>
  some (σ7, v8 >>> ((4 : Int32) &&& 31))) else
  if x1 = 5 then zbi (fX2_romByte σ ((zgi σ 1 7) + 15)) (fun σ9 v10 =>
  some (σ9, v10 &&& 15)) else
  if x1 = 6 then zbi (fX2_romWord σ ((zgi σ 1 7) + 10)) (fun σ11 v12 =>
  some (σ11, v12)) else
  zbi (fX2_sumOfCard σ ) (fun σ13 v14 =>
  some (σ13, v14))
def fX2_aboutCard  (σ : zSt) (x1 : Int32) : Option (zSt × Int32) :=
  if x1 < 3 then fX2_aboutCard_14 σ x1 else
  if 0 ≤ (zgi σ 1 7) then fX2_aboutCard_14 σ x1 else
  some (σ, 0)
set_option maxRecDepth 20000 in
set_option maxHeartbeats 4000000 in
theorem bX2_aboutCard_14 {st : Nat → Nat} {p : Program} {l : Launch} {e : Env} {s : State} {m : MethodId} {args : Array Value} {below : List Frame} {meth : Method} {c : Code} {D : va_G} {A : Nat → Prop} {ad : Nat → Nat} {cy : Nat → ClassId} (hC : zC p m c cX2_aboutCard 2 s args wzX2_aboutCard RX2 meth (some .int))  {res : zSt × Int32} {H : Heap} {locs : List Loc} {σ : zSt} {ls : Array Slot} {x1 : Int32} (hI : zI st D (tC cy) (wC ad cy σ) A s H locs) (hl : lv_has ls 2 [(0, .ref (ad 1)), (1, .int x1)]) (hf : fX2_aboutCard_14  σ x1 = some res) : W p l e rmX2_aboutCard s m args below meth c H locs 0 0 (zQi below args s D (tC cy) (wC ad cy) A res) (F0 m 14 ls []) := by
  have hx := hC.1
  have hb := hC.2.1
  unfold fX2_aboutCard_14 at hf
  refine lv_iload_n hx hb dX2_aboutCard_14 rfl (lv_at hl 1 rfl) ?_
  by_cases q0 : x1 = 0
  · replace hf := zif_t q0 hf
    refine lv_tableIn (tgt := 56) hx hb dX2_aboutCard_15 (by rw [q0]; decide) (by rw [q0]; decide) (by rw [q0]; rfl) (by decide) ?_
    refine lv_aload_n hx hb dX2_aboutCard_56 rfl (lv_at hl 0 rfl) ?_
    refine z_get hC hI hinX2_aboutCard_X20 1 (wC_e1 ad cy σ) rfl 6 (by decide) (List.mem_cons_of_mem _ zw14_3) rfl dX2_aboutCard_57 ?_
    exact z_ireturn hC hI hf dX2_aboutCard_60
  replace hf := zif_f q0 hf
  by_cases q1 : x1 = 1
  · replace hf := zif_t q1 hf
    refine lv_tableIn (tgt := 61) hx hb dX2_aboutCard_15 (by rw [q1]; decide) (by rw [q1]; decide) (by rw [q1]; rfl) (by decide) ?_
    refine lv_aload_n hx hb dX2_aboutCard_61 rfl (lv_at hl 0 rfl) ?_
    refine z_get hC hI hinX2_aboutCard_X20 1 (wC_e1 ad cy σ) rfl 5 (by decide) (List.mem_cons_of_mem _ zw14_2) rfl dX2_aboutCard_62 ?_
    exact z_ireturn hC hI hf dX2_aboutCard_65
  replace hf := zif_f q1 hf
  by_cases q2 : x1 = 2
  · replace hf := zif_t q2 hf
    refine lv_tableIn (tgt := 66) hx hb dX2_aboutCard_15 (by rw [q2]; decide) (by rw [q2]; decide) (by rw [q2]; rfl) (by decide) ?_
    refine lv_aload_n hx hb dX2_aboutCard_66 rfl (lv_at hl 0 rfl) ?_
    refine z_get hC hI hinX2_aboutCard_X20 1 (wC_e1 ad cy σ) rfl 7 (by decide) (List.mem_cons_of_mem _ zw3_18) rfl dX2_aboutCard_67 ?_
    exact z_ireturn hC hI hf dX2_aboutCard_70
  replace hf := zif_f q2 hf
  by_cases q3 : x1 = 3
  · replace hf := zif_t q3 hf
    refine lv_tableIn (tgt := 71) hx hb dX2_aboutCard_15 (by rw [q3]; decide) (by rw [q3]; decide) (by rw [q3]; rfl) (by decide) ?_
    refine lv_aload_n hx hb dX2_aboutCard_71 rfl (lv_at hl 0 rfl) ?_
    refine lv_bipush (v := 12) hx hb dX2_aboutCard_72 (by decide) ?_
    obtain ⟨σ1, v2, g1, hf⟩ := zbi_use hf
    refine z_callVi (As := [.int 12]) (rest := []) hC hI (cX2_decimal_met st l D ad cy σ 12 _ g1) (zgV zw17_8 zw17_9 zw17_10 zw1_21 zw17_11) rfl ⟨rfl, rfl⟩ 1 hdX2_decimal ⟨Nat.le_of_ble_eq_true rfl, Nat.le_of_ble_eq_true rfl⟩ rfl rfl (wC_e1 ad cy σ) rfl hl rfl (Nat.le_of_ble_eq_true rfl) dX2_aboutCard_74 ⟨Nat.zero_le _, Nat.zero_le _⟩ (fun H locs hI => ?_)
    refine lv_bipush (v := 100) hx hb dX2_aboutCard_77 (by decide) ?_
    refine lv_aload_n hx hb dX2_aboutCard_79 rfl (lv_at hl 0 rfl) ?_
    refine lv_bipush (v := 13) hx hb dX2_aboutCard_80 (by decide) ?_
    obtain ⟨σ3, v4, g3, hf⟩ := zbi_use hf
    refine z_callVi (As := [.int 13]) (rest := [.int 100, .int v2]) hC hI (cX2_decimal_met st l D ad cy σ1 13 _ g3) (zgV zw17_8 zw17_9 zw17_10 zw1_21 zw17_11) rfl ⟨rfl, rfl⟩ 1 hdX2_decimal ⟨Nat.le_of_ble_eq_true rfl, Nat.le_of_ble_eq_true rfl⟩ rfl rfl (wC_e1 ad cy σ1) rfl hl rfl (Nat.le_of_ble_eq_true rfl) dX2_aboutCard_82 ⟨Nat.zero_le _, Nat.zero_le _⟩ (fun H locs hI => ?_)
    refine lv_imul hx hb dX2_aboutCard_85 ?_
    refine lv_iadd hx hb dX2_aboutCard_86 ?_
    refine lv_sipush (v := 10000) hx hb dX2_aboutCard_87 (by decide) ?_
    refine lv_aload_n hx hb dX2_aboutCard_90 rfl (lv_at hl 0 rfl) ?_
    refine lv_aload_n hx hb dX2_aboutCard_91 rfl (lv_at hl 0 rfl) ?_
    refine z_get hC hI hinX2_aboutCard_X20 1 (wC_e1 ad cy σ3) rfl 7 (by decide) (List.mem_cons_of_mem _ zw3_18) rfl dX2_aboutCard_92 ?_
    refine lv_bipush (v := 14) hx hb dX2_aboutCard_95 (by decide) ?_
    refine lv_iadd hx hb dX2_aboutCard_97 ?_
    obtain ⟨σ5, v6, g5, hf⟩ := zbi_use hf
    refine z_callVi (As := [.int ((zgi σ3 1 7) + 14)]) (rest := [.int 10000, .int (v2 + (100 * v4))]) hC hI (cX2_romByte_met st l D ad cy σ3 ((zgi σ3 1 7) + 14) _ g5) (zgV zw14_10 zw14_11 zw14_12 zw1_21 zw14_13) rfl ⟨rfl, rfl⟩ 1 hdX2_romByte ⟨Nat.le_of_ble_eq_true rfl, Nat.le_of_ble_eq_true rfl⟩ rfl rfl (wC_e1 ad cy σ3) rfl hl rfl (Nat.le_of_ble_eq_true rfl) dX2_aboutCard_98 ⟨Nat.zero_le _, Nat.zero_le _⟩ (fun H locs hI => ?_)
    refine lv_iconst (v := 4) hx hb dX2_aboutCard_101 (by decide) ?_
    refine lv_ishr hx hb dX2_aboutCard_102 ?_
    refine lv_imul hx hb dX2_aboutCard_103 ?_
    refine lv_iadd hx hb dX2_aboutCard_104 ?_
    exact z_ireturn hC hI hf dX2_aboutCard_105
  replace hf := zif_f q3 hf
  by_cases q4 : x1 = 4
  · replace hf := zif_t q4 hf
    refine lv_tableIn (tgt := 106) hx hb dX2_aboutCard_15 (by rw [q4]; decide) (by rw [q4]; decide) (by rw [q4]; rfl) (by decide) ?_
    refine lv_aload_n hx hb dX2_aboutCard_106 rfl (lv_at hl 0 rfl) ?_
    refine lv_aload_n hx hb dX2_aboutCard_107 rfl (lv_at hl 0 rfl) ?_
    refine z_get hC hI hinX2_aboutCard_X20 1 (wC_e1 ad cy σ) rfl 7 (by decide) (List.mem_cons_of_mem _ zw3_18) rfl dX2_aboutCard_108 ?_
    refine lv_bipush (v := 15) hx hb dX2_aboutCard_111 (by decide) ?_
    refine lv_iadd hx hb dX2_aboutCard_113 ?_
    obtain ⟨σ7, v8, g7, hf⟩ := zbi_use hf
    refine z_callVi (As := [.int ((zgi σ 1 7) + 15)]) (rest := []) hC hI (cX2_romByte_met st l D ad cy σ ((zgi σ 1 7) + 15) _ g7) (zgV zw14_10 zw14_11 zw14_12 zw1_21 zw14_13) rfl ⟨rfl, rfl⟩ 1 hdX2_romByte ⟨Nat.le_of_ble_eq_true rfl, Nat.le_of_ble_eq_true rfl⟩ rfl rfl (wC_e1 ad cy σ) rfl hl rfl (Nat.le_of_ble_eq_true rfl) dX2_aboutCard_114 ⟨Nat.zero_le _, Nat.zero_le _⟩ (fun H locs hI => ?_)
    refine lv_iconst (v := 4) hx hb dX2_aboutCard_117 (by decide) ?_
    refine lv_ishr hx hb dX2_aboutCard_118 ?_
    exact z_ireturn hC hI hf dX2_aboutCard_119
  replace hf := zif_f q4 hf
  by_cases q5 : x1 = 5
  · replace hf := zif_t q5 hf
    refine lv_tableIn (tgt := 120) hx hb dX2_aboutCard_15 (by rw [q5]; decide) (by rw [q5]; decide) (by rw [q5]; rfl) (by decide) ?_
    refine lv_aload_n hx hb dX2_aboutCard_120 rfl (lv_at hl 0 rfl) ?_
    refine lv_aload_n hx hb dX2_aboutCard_121 rfl (lv_at hl 0 rfl) ?_
    refine z_get hC hI hinX2_aboutCard_X20 1 (wC_e1 ad cy σ) rfl 7 (by decide) (List.mem_cons_of_mem _ zw3_18) rfl dX2_aboutCard_122 ?_
    refine lv_bipush (v := 15) hx hb dX2_aboutCard_125 (by decide) ?_
    refine lv_iadd hx hb dX2_aboutCard_127 ?_
    obtain ⟨σ9, v10, g9, hf⟩ := zbi_use hf
    refine z_callVi (As := [.int ((zgi σ 1 7) + 15)]) (rest := []) hC hI (cX2_romByte_met st l D ad cy σ ((zgi σ 1 7) + 15) _ g9) (zgV zw14_10 zw14_11 zw14_12 zw1_21 zw14_13) rfl ⟨rfl, rfl⟩ 1 hdX2_romByte ⟨Nat.le_of_ble_eq_true rfl, Nat.le_of_ble_eq_true rfl⟩ rfl rfl (wC_e1 ad cy σ) rfl hl rfl (Nat.le_of_ble_eq_true rfl) dX2_aboutCard_128 ⟨Nat.zero_le _, Nat.zero_le _⟩ (fun H locs hI => ?_)
    refine lv_bipush (v := 15) hx hb dX2_aboutCard_131 (by decide) ?_
    refine lv_iand hx hb dX2_aboutCard_133 ?_
    exact z_ireturn hC hI hf dX2_aboutCard_134
  replace hf := zif_f q5 hf
  by_cases q6 : x1 = 6
  · replace hf := zif_t q6 hf
    refine lv_tableIn (tgt := 135) hx hb dX2_aboutCard_15 (by rw [q6]; decide) (by rw [q6]; decide) (by rw [q6]; rfl) (by decide) ?_
    refine lv_aload_n hx hb dX2_aboutCard_135 rfl (lv_at hl 0 rfl) ?_
    refine lv_aload_n hx hb dX2_aboutCard_136 rfl (lv_at hl 0 rfl) ?_
    refine z_get hC hI hinX2_aboutCard_X20 1 (wC_e1 ad cy σ) rfl 7 (by decide) (List.mem_cons_of_mem _ zw3_18) rfl dX2_aboutCard_137 ?_
    refine lv_bipush (v := 10) hx hb dX2_aboutCard_140 (by decide) ?_
    refine lv_iadd hx hb dX2_aboutCard_142 ?_
    obtain ⟨σ11, v12, g11, hf⟩ := zbi_use hf
    refine z_callVi (As := [.int ((zgi σ 1 7) + 10)]) (rest := []) hC hI (cX2_romWord_met st l D ad cy σ ((zgi σ 1 7) + 10) _ g11) (zgV zw14_20 zw14_21 zw14_22 zw1_21 zw14_23) rfl ⟨rfl, rfl⟩ 1 hdX2_romWord ⟨Nat.le_of_ble_eq_true rfl, Nat.le_of_ble_eq_true rfl⟩ rfl rfl (wC_e1 ad cy σ) rfl hl rfl (Nat.le_of_ble_eq_true rfl) dX2_aboutCard_143 ⟨Nat.zero_le _, Nat.zero_le _⟩ (fun H locs hI => ?_)
    exact z_ireturn hC hI hf dX2_aboutCard_146
  replace hf := zif_f q6 hf
  refine lv_tableOut (tgt := 147) hx hb dX2_aboutCard_15 (zsw (fun k h1 h2 => by rcases (show k = 0 ∨ k = 1 ∨ k = 2 ∨ k = 3 ∨ k = 4 ∨ k = 5 ∨ k = 6 by omega) with rfl | rfl | rfl | rfl | rfl | rfl | rfl <;> assumption)) (by decide) ?_
  refine lv_aload_n hx hb dX2_aboutCard_147 rfl (lv_at hl 0 rfl) ?_
  obtain ⟨σ13, v14, g13, hf⟩ := zbi_use hf
  refine z_callVi (As := []) (rest := []) hC hI (cX2_sumOfCard_met st l D ad cy σ  _ g13) (zgV zw17_12 zw17_13 zw17_14 zw1_21 zw17_15) rfl ⟨rfl, rfl⟩ 0 hdX2_sumOfCard ⟨Nat.le_of_ble_eq_true rfl, Nat.le_of_ble_eq_true rfl⟩ rfl rfl (wC_e1 ad cy σ) rfl hl rfl (Nat.le_of_ble_eq_true rfl) dX2_aboutCard_148 ⟨Nat.zero_le _, Nat.zero_le _⟩ (fun H locs hI => ?_)
  exact z_ireturn hC hI hf dX2_aboutCard_151
set_option maxRecDepth 20000 in
set_option maxHeartbeats 4000000 in
theorem bX2_aboutCard {st : Nat → Nat} {p : Program} {l : Launch} {e : Env} {s : State} {m : MethodId} {args : Array Value} {below : List Frame} {meth : Method} {c : Code} {D : va_G} {A : Nat → Prop} {ad : Nat → Nat} {cy : Nat → ClassId} (hC : zC p m c cX2_aboutCard 2 s args wzX2_aboutCard RX2 meth (some .int))  {res : zSt × Int32} {H : Heap} {locs : List Loc} {σ : zSt} {ls : Array Slot} {x1 : Int32} (hI : zI st D (tC cy) (wC ad cy σ) A s H locs) (hl : lv_has ls 2 [(0, .ref (ad 1)), (1, .int x1)]) (hf : fX2_aboutCard  σ x1 = some res) : W p l e rmX2_aboutCard s m args below meth c H locs 0 0 (zQi below args s D (tC cy) (wC ad cy) A res) (F0 m 0 ls []) := by
  have hx := hC.1
  have hb := hC.2.1
  unfold fX2_aboutCard at hf
  refine lv_iload_n hx hb dX2_aboutCard_0 rfl (lv_at hl 1 rfl) ?_
  refine lv_iconst (v := 3) hx hb dX2_aboutCard_1 (by decide) ?_
  refine lv_icmp_lt (tgt := 14) hx hb dX2_aboutCard_2 (by decide) (fun q => ?_) (fun q => ?_)
  · replace hf := zif_t q hf
    exact bX2_aboutCard_14 hC  hI hl hf
  replace hf := zif_f q hf
  refine lv_aload_n hx hb dX2_aboutCard_5 rfl (lv_at hl 0 rfl) ?_
  refine z_get hC hI hinX2_aboutCard_X20 1 (wC_e1 ad cy σ) rfl 7 (by decide) (List.mem_cons_of_mem _ zw3_18) rfl dX2_aboutCard_6 ?_
  refine lv_if_ge (tgt := 14) hx hb dX2_aboutCard_9 (by decide) (fun q => ?_) (fun q => ?_)
  · replace hf := zif_t q hf
    exact bX2_aboutCard_14 hC  hI hl hf
  replace hf := zif_f q hf
  refine lv_iconst (v := 0) hx hb dX2_aboutCard_12 (by decide) ?_
  exact z_ireturn hC hI hf dX2_aboutCard_13
set_option maxRecDepth 20000 in
theorem cX2_aboutCard_met (st : Nat → Nat) (l : Launch) (D : va_G) (ad : Nat → Nat) (cy : Nat → ClassId) (σ : zSt) (x1 : Int32) (res : zSt × Int32) (hf : fX2_aboutCard σ x1 = some res) (sz : Nat) : zMi st l yX2_aboutCard wzX2_aboutCard rmX2_aboutCard [.ref (ad 1), .int x1] D (tC cy) (wC ad cy) sz σ res :=
  zMi.of (cc := cX2_aboutCard) (maxL := 2) (ret := (some .int)) (by decide) rfl (Nat.le_of_ble_eq_true rfl) (fun p e s m args below meth c hC A hI ls hl => bX2_aboutCard hC hI hl hf)
theorem hdX2_aboutCard : yX2_aboutCard.cls = RX2 ∧ yX2_aboutCard.cls ≠ "java/lang/invoke/MethodHandle" ∧ yX2_aboutCard.cls ≠ "java/lang/invoke/VarHandle" ∧ (parseMethodDescriptor yX2_aboutCard.desc).map (fun d => d.parameters.length) = some 1 := by decide +kernel
def rmX2_cardSize : Room := { frames := 0, cells := 0, slots := 0, locals := 0 }
def wzX2_cardSize : List Cond := .code yX2_cardSize cX2_cardSize 1 (some .int) :: wsL_law
theorem hinX2_cardSize_X20 : ∀ w ∈ wsX20, w ∈ wzX2_cardSize := fun w h => List.mem_cons_of_mem _ (inlX2 w h)
def fX2_cardSize  (σ : zSt)  : Option (zSt × Int32) :=
  some (σ, zgi σ 1 4)
set_option maxRecDepth 20000 in
set_option maxHeartbeats 4000000 in
theorem bX2_cardSize {st : Nat → Nat} {p : Program} {l : Launch} {e : Env} {s : State} {m : MethodId} {args : Array Value} {below : List Frame} {meth : Method} {c : Code} {D : va_G} {A : Nat → Prop} {ad : Nat → Nat} {cy : Nat → ClassId} (hC : zC p m c cX2_cardSize 1 s args wzX2_cardSize RX2 meth (some .int))  {res : zSt × Int32} {H : Heap} {locs : List Loc} {σ : zSt} {ls : Array Slot}  (hI : zI st D (tC cy) (wC ad cy σ) A s H locs) (hl : lv_has ls 1 [(0, .ref (ad 1))]) (hf : fX2_cardSize  σ  = some res) : W p l e rmX2_cardSize s m args below meth c H locs 0 0 (zQi below args s D (tC cy) (wC ad cy) A res) (F0 m 0 ls []) := by
  have hx := hC.1
  have hb := hC.2.1
  unfold fX2_cardSize at hf
  refine lv_aload_n hx hb dX2_cardSize_0 rfl (lv_at hl 0 rfl) ?_
  refine z_get hC hI hinX2_cardSize_X20 1 (wC_e1 ad cy σ) rfl 4 (by decide) (List.mem_cons_of_mem _ zw14_1) rfl dX2_cardSize_1 ?_
  exact z_ireturn hC hI hf dX2_cardSize_4
set_option maxRecDepth 20000 in
theorem cX2_cardSize_met (st : Nat → Nat) (l : Launch) (D : va_G) (ad : Nat → Nat) (cy : Nat → ClassId) (σ : zSt)  (res : zSt × Int32) (hf : fX2_cardSize σ  = some res) (sz : Nat) : zMi st l yX2_cardSize wzX2_cardSize rmX2_cardSize [.ref (ad 1)] D (tC cy) (wC ad cy) sz σ res :=
  zMi.of (cc := cX2_cardSize) (maxL := 1) (ret := (some .int)) (by decide) rfl (Nat.le_of_ble_eq_true rfl) (fun p e s m args below meth c hC A hI ls hl => bX2_cardSize hC hI hl hf)
theorem hdX2_cardSize : yX2_cardSize.cls = RX2 ∧ yX2_cardSize.cls ≠ "java/lang/invoke/MethodHandle" ∧ yX2_cardSize.cls ≠ "java/lang/invoke/VarHandle" ∧ (parseMethodDescriptor yX2_cardSize.desc).map (fun d => d.parameters.length) = some 0 := by decide +kernel
def rmX2_page : Room := { frames := 0, cells := 0, slots := 0, locals := 0 }
def wzX2_page : List Cond := .code yX2_page cX2_page 2 (some .int) :: wsL_law
theorem hinX2_page_X20 : ∀ w ∈ wsX20, w ∈ wzX2_page := fun w h => List.mem_cons_of_mem _ (inlX2 w h)
def fX2_page  (σ : zSt) (x1 : Int32) : Option (zSt × Int32) :=
  zck (zin (x1 &&& 3) 4) (
  some (σ, zgi σ 19 (x1 &&& 3).toNatClampNeg))
set_option maxRecDepth 20000 in
set_option maxHeartbeats 4000000 in
theorem bX2_page {st : Nat → Nat} {p : Program} {l : Launch} {e : Env} {s : State} {m : MethodId} {args : Array Value} {below : List Frame} {meth : Method} {c : Code} {D : va_G} {A : Nat → Prop} {ad : Nat → Nat} {cy : Nat → ClassId} (hC : zC p m c cX2_page 2 s args wzX2_page RX2 meth (some .int))  {res : zSt × Int32} {H : Heap} {locs : List Loc} {σ : zSt} {ls : Array Slot} {x1 : Int32} (hI : zI st D (tC cy) (wC ad cy σ) A s H locs) (hl : lv_has ls 2 [(0, .ref (ad 1)), (1, .int x1)]) (hf : fX2_page  σ x1 = some res) : W p l e rmX2_page s m args below meth c H locs 0 0 (zQi below args s D (tC cy) (wC ad cy) A res) (F0 m 0 ls []) := by
  have hx := hC.1
  have hb := hC.2.1
  unfold fX2_page at hf
  refine lv_aload_n hx hb dX2_page_0 rfl (lv_at hl 0 rfl) ?_
  refine z_get hC hI hinX2_page_X20 1 (wC_e1 ad cy σ) rfl 12 (by decide) (List.mem_cons_of_mem _ zw4_0) rfl dX2_page_1 ?_
  refine lv_iload_n hx hb dX2_page_4 rfl (lv_at hl 1 rfl) ?_
  refine lv_iconst (v := 3) hx hb dX2_page_5 (by decide) ?_
  refine lv_iand hx hb dX2_page_6 ?_
  obtain ⟨q, hf⟩ := zck_use hf
  refine z_iald hC hI 19 6 (wC_e19 ad cy σ) (tC_t19 cy) q dX2_page_7 ?_
  exact z_ireturn hC hI hf dX2_page_8
set_option maxRecDepth 20000 in
theorem cX2_page_met (st : Nat → Nat) (l : Launch) (D : va_G) (ad : Nat → Nat) (cy : Nat → ClassId) (σ : zSt) (x1 : Int32) (res : zSt × Int32) (hf : fX2_page σ x1 = some res) (sz : Nat) : zMi st l yX2_page wzX2_page rmX2_page [.ref (ad 1), .int x1] D (tC cy) (wC ad cy) sz σ res :=
  zMi.of (cc := cX2_page) (maxL := 2) (ret := (some .int)) (by decide) rfl (Nat.le_of_ble_eq_true rfl) (fun p e s m args below meth c hC A hI ls hl => bX2_page hC hI hl hf)
theorem hdX2_page : yX2_page.cls = RX2 ∧ yX2_page.cls ≠ "java/lang/invoke/MethodHandle" ∧ yX2_page.cls ≠ "java/lang/invoke/VarHandle" ∧ (parseMethodDescriptor yX2_page.desc).map (fun d => d.parameters.length) = some 1 := by decide +kernel
def rmX2_batteryIsIn : Room := { frames := 0, cells := 0, slots := 0, locals := 0 }
def wzX2_batteryIsIn : List Cond := .code yX2_batteryIsIn cX2_batteryIsIn 1 (some .boolean) :: wsL_law
theorem hinX2_batteryIsIn_X20 : ∀ w ∈ wsX20, w ∈ wzX2_batteryIsIn := fun w h => List.mem_cons_of_mem _ (inlX2 w h)
def fX2_batteryIsIn_25  (σ : zSt) (s0 : Int32) : Option (zSt × Int32) :=
  zck (zbo s0) (some (σ, s0))
def fX2_batteryIsIn_24  (σ : zSt)  : Option (zSt × Int32) :=
  fX2_batteryIsIn_25 σ 0
def fX2_batteryIsIn  (σ : zSt)  : Option (zSt × Int32) :=
  if (zgi σ 1 6) = 1 then zck (zin 3 4) (
  if ((zgi σ 19 (3 : Int32).toNatClampNeg) &&& 8) = 0 then fX2_batteryIsIn_24 σ else
  fX2_batteryIsIn_25 σ 1) else
  fX2_batteryIsIn_24 σ
set_option maxRecDepth 20000 in
set_option maxHeartbeats 4000000 in
theorem bX2_batteryIsIn_25 {st : Nat → Nat} {p : Program} {l : Launch} {e : Env} {s : State} {m : MethodId} {args : Array Value} {below : List Frame} {meth : Method} {c : Code} {D : va_G} {A : Nat → Prop} {ad : Nat → Nat} {cy : Nat → ClassId} (hC : zC p m c cX2_batteryIsIn 1 s args wzX2_batteryIsIn RX2 meth (some .boolean))  {res : zSt × Int32} {H : Heap} {locs : List Loc} {σ : zSt} {ls : Array Slot} {s0 : Int32} (hI : zI st D (tC cy) (wC ad cy σ) A s H locs) (hl : lv_has ls 1 []) (hf : fX2_batteryIsIn_25  σ s0 = some res) : W p l e rmX2_batteryIsIn s m args below meth c H locs 0 0 (zQi below args s D (tC cy) (wC ad cy) A res) (F0 m 25 ls [.int s0]) := by
  have hx := hC.1
  have hb := hC.2.1
  unfold fX2_batteryIsIn_25 at hf
  obtain ⟨q, hf⟩ := zck_use hf
  exact z_zreturn hC hI (zbo_n q) hf dX2_batteryIsIn_25
set_option maxRecDepth 20000 in
set_option maxHeartbeats 4000000 in
theorem bX2_batteryIsIn_24 {st : Nat → Nat} {p : Program} {l : Launch} {e : Env} {s : State} {m : MethodId} {args : Array Value} {below : List Frame} {meth : Method} {c : Code} {D : va_G} {A : Nat → Prop} {ad : Nat → Nat} {cy : Nat → ClassId} (hC : zC p m c cX2_batteryIsIn 1 s args wzX2_batteryIsIn RX2 meth (some .boolean))  {res : zSt × Int32} {H : Heap} {locs : List Loc} {σ : zSt} {ls : Array Slot}  (hI : zI st D (tC cy) (wC ad cy σ) A s H locs) (hl : lv_has ls 1 []) (hf : fX2_batteryIsIn_24  σ  = some res) : W p l e rmX2_batteryIsIn s m args below meth c H locs 0 0 (zQi below args s D (tC cy) (wC ad cy) A res) (F0 m 24 ls []) := by
  have hx := hC.1
  have hb := hC.2.1
  unfold fX2_batteryIsIn_24 at hf
  refine lv_iconst (v := 0) hx hb dX2_batteryIsIn_24 (by decide) ?_
  exact bX2_batteryIsIn_25 hC  hI hl hf
set_option maxRecDepth 20000 in
set_option maxHeartbeats 4000000 in
theorem bX2_batteryIsIn {st : Nat → Nat} {p : Program} {l : Launch} {e : Env} {s : State} {m : MethodId} {args : Array Value} {below : List Frame} {meth : Method} {c : Code} {D : va_G} {A : Nat → Prop} {ad : Nat → Nat} {cy : Nat → ClassId} (hC : zC p m c cX2_batteryIsIn 1 s args wzX2_batteryIsIn RX2 meth (some .boolean))  {res : zSt × Int32} {H : Heap} {locs : List Loc} {σ : zSt} {ls : Array Slot}  (hI : zI st D (tC cy) (wC ad cy σ) A s H locs) (hl : lv_has ls 1 [(0, .ref (ad 1))]) (hf : fX2_batteryIsIn  σ  = some res) : W p l e rmX2_batteryIsIn s m args below meth c H locs 0 0 (zQi below args s D (tC cy) (wC ad cy) A res) (F0 m 0 ls []) := by
  have hx := hC.1
  have hb := hC.2.1
  unfold fX2_batteryIsIn at hf
  refine lv_aload_n hx hb dX2_batteryIsIn_0 rfl (lv_at hl 0 rfl) ?_
  refine z_get hC hI hinX2_batteryIsIn_X20 1 (wC_e1 ad cy σ) rfl 6 (by decide) (List.mem_cons_of_mem _ zw14_3) rfl dX2_batteryIsIn_1 ?_
  refine lv_iconst (v := 1) hx hb dX2_batteryIsIn_4 (by decide) ?_
  refine lv_icmp_ne (tgt := 24) hx hb dX2_batteryIsIn_5 (by decide) (fun q => ?_) (fun q => ?_)
  · replace hf := zif_f q hf
    exact bX2_batteryIsIn_24 hC  hI (lv_sub hl [] rfl) hf
  replace hf := zif_t q hf
  refine lv_aload_n hx hb dX2_batteryIsIn_8 rfl (lv_at hl 0 rfl) ?_
  refine z_get hC hI hinX2_batteryIsIn_X20 1 (wC_e1 ad cy σ) rfl 12 (by decide) (List.mem_cons_of_mem _ zw4_0) rfl dX2_batteryIsIn_9 ?_
  refine lv_iconst (v := 3) hx hb dX2_batteryIsIn_12 (by decide) ?_
  obtain ⟨q, hf⟩ := zck_use hf
  refine z_iald hC hI 19 6 (wC_e19 ad cy σ) (tC_t19 cy) q dX2_batteryIsIn_13 ?_
  refine lv_bipush (v := 8) hx hb dX2_batteryIsIn_14 (by decide) ?_
  refine lv_iand hx hb dX2_batteryIsIn_16 ?_
  refine lv_if_eq (tgt := 24) hx hb dX2_batteryIsIn_17 (by decide) (fun q => ?_) (fun q => ?_)
  · replace hf := zif_t q hf
    exact bX2_batteryIsIn_24 hC  hI (lv_sub hl [] rfl) hf
  replace hf := zif_f q hf
  refine lv_iconst (v := 1) hx hb dX2_batteryIsIn_20 (by decide) ?_
  refine lv_goto (tgt := 25) hx hb dX2_batteryIsIn_21 (by decide) ?_
  exact bX2_batteryIsIn_25 hC  hI (lv_sub hl [] rfl) hf
set_option maxRecDepth 20000 in
theorem cX2_batteryIsIn_met (st : Nat → Nat) (l : Launch) (D : va_G) (ad : Nat → Nat) (cy : Nat → ClassId) (σ : zSt)  (res : zSt × Int32) (hf : fX2_batteryIsIn σ  = some res) (sz : Nat) : zMi st l yX2_batteryIsIn wzX2_batteryIsIn rmX2_batteryIsIn [.ref (ad 1)] D (tC cy) (wC ad cy) sz σ res :=
  zMi.of (cc := cX2_batteryIsIn) (maxL := 1) (ret := (some .boolean)) (by decide) rfl (Nat.le_of_ble_eq_true rfl) (fun p e s m args below meth c hC A hI ls hl => bX2_batteryIsIn hC hI hl hf)
theorem hdX2_batteryIsIn : yX2_batteryIsIn.cls = RX2 ∧ yX2_batteryIsIn.cls ≠ "java/lang/invoke/MethodHandle" ∧ yX2_batteryIsIn.cls ≠ "java/lang/invoke/VarHandle" ∧ (parseMethodDescriptor yX2_batteryIsIn.desc).map (fun d => d.parameters.length) = some 0 := by decide +kernel
def rmX2_batteryPlace : Room := { frames := 0, cells := 0, slots := 0, locals := 0 }
def wzX2_batteryPlace : List Cond := .code yX2_batteryPlace cX2_batteryPlace 2 (some .int) :: wsL_law
theorem hinX2_batteryPlace_X20 : ∀ w ∈ wsX20, w ∈ wzX2_batteryPlace := fun w h => List.mem_cons_of_mem _ (inlX2 w h)
def fX2_batteryPlace  (σ : zSt) (x1 : Int32) : Option (zSt × Int32) :=
  zck (zin 3 4) (
  some (σ, (x1 &&& 16383) + (16384 * (((zgi σ 19 (3 : Int32).toNatClampNeg) >>> ((2 : Int32) &&& 31)) &&& 1))))
set_option maxRecDepth 20000 in
set_option maxHeartbeats 4000000 in
theorem bX2_batteryPlace {st : Nat → Nat} {p : Program} {l : Launch} {e : Env} {s : State} {m : MethodId} {args : Array Value} {below : List Frame} {meth : Method} {c : Code} {D : va_G} {A : Nat → Prop} {ad : Nat → Nat} {cy : Nat → ClassId} (hC : zC p m c cX2_batteryPlace 2 s args wzX2_batteryPlace RX2 meth (some .int))  {res : zSt × Int32} {H : Heap} {locs : List Loc} {σ : zSt} {ls : Array Slot} {x1 : Int32} (hI : zI st D (tC cy) (wC ad cy σ) A s H locs) (hl : lv_has ls 2 [(0, .ref (ad 1)), (1, .int x1)]) (hf : fX2_batteryPlace  σ x1 = some res) : W p l e rmX2_batteryPlace s m args below meth c H locs 0 0 (zQi below args s D (tC cy) (wC ad cy) A res) (F0 m 0 ls []) := by
  have hx := hC.1
  have hb := hC.2.1
  unfold fX2_batteryPlace at hf
  refine lv_iload_n hx hb dX2_batteryPlace_0 rfl (lv_at hl 1 rfl) ?_
  refine lv_sipush (v := 16383) hx hb dX2_batteryPlace_1 (by decide) ?_
  refine lv_iand hx hb dX2_batteryPlace_4 ?_
  refine lv_sipush (v := 16384) hx hb dX2_batteryPlace_5 (by decide) ?_
  refine lv_aload_n hx hb dX2_batteryPlace_8 rfl (lv_at hl 0 rfl) ?_
  refine z_get hC hI hinX2_batteryPlace_X20 1 (wC_e1 ad cy σ) rfl 12 (by decide) (List.mem_cons_of_mem _ zw4_0) rfl dX2_batteryPlace_9 ?_
  refine lv_iconst (v := 3) hx hb dX2_batteryPlace_12 (by decide) ?_
  obtain ⟨q, hf⟩ := zck_use hf
  refine z_iald hC hI 19 6 (wC_e19 ad cy σ) (tC_t19 cy) q dX2_batteryPlace_13 ?_
  refine lv_iconst (v := 2) hx hb dX2_batteryPlace_14 (by decide) ?_
  refine lv_ishr hx hb dX2_batteryPlace_15 ?_
  refine lv_iconst (v := 1) hx hb dX2_batteryPlace_16 (by decide) ?_
  refine lv_iand hx hb dX2_batteryPlace_17 ?_
  refine lv_imul hx hb dX2_batteryPlace_18 ?_
  refine lv_iadd hx hb dX2_batteryPlace_19 ?_
  exact z_ireturn hC hI hf dX2_batteryPlace_20
set_option maxRecDepth 20000 in
theorem cX2_batteryPlace_met (st : Nat → Nat) (l : Launch) (D : va_G) (ad : Nat → Nat) (cy : Nat → ClassId) (σ : zSt) (x1 : Int32) (res : zSt × Int32) (hf : fX2_batteryPlace σ x1 = some res) (sz : Nat) : zMi st l yX2_batteryPlace wzX2_batteryPlace rmX2_batteryPlace [.ref (ad 1), .int x1] D (tC cy) (wC ad cy) sz σ res :=
  zMi.of (cc := cX2_batteryPlace) (maxL := 2) (ret := (some .int)) (by decide) rfl (Nat.le_of_ble_eq_true rfl) (fun p e s m args below meth c hC A hI ls hl => bX2_batteryPlace hC hI hl hf)
theorem hdX2_batteryPlace : yX2_batteryPlace.cls = RX2 ∧ yX2_batteryPlace.cls ≠ "java/lang/invoke/MethodHandle" ∧ yX2_batteryPlace.cls ≠ "java/lang/invoke/VarHandle" ∧ (parseMethodDescriptor yX2_batteryPlace.desc).map (fun d => d.parameters.length) = some 1 := by decide +kernel
def rmX2_read : Room := { frames := 1, cells := 0, slots := 0, locals := 21 }
def wzX2_read : List Cond := .code yX2_read cX2_read 7 (some .int) :: wsL_law
theorem hinX2_read_X20 : ∀ w ∈ wsX20, w ∈ wzX2_read := fun w h => List.mem_cons_of_mem _ (inlX2 w h)
def fX2_read_169  (σ : zSt) (s0 : Int32) : Option (zSt × Int32) :=
  some (σ, s0)
def fX2_read_144  (σ : zSt) (x3 : Int32) : Option (zSt × Int32) :=
  if (zgi σ 1 4) ≤ x3 then fX2_read_169 σ 255 else
  zck (zin ((zgi σ 1 3) + x3) 262656) (
  fX2_read_169 σ (zgi σ (ztp ((zgi σ 1 1))) ((zgi σ 1 3) + x3).toNatClampNeg))
def fX2_read_126  (σ : zSt) (x2 : Int32) (x6 : Int32) : Option (zSt × Int32) :=
  zck (decide (¬ (zgi σ 1 5) = 0)) (
  zbv (((zrem x6 (zgi σ 1 5)) * 16384) + (x2 &&& 16383)) (fun v1 =>
  fX2_read_144 σ v1))
def fX2_read_106  (σ : zSt) (x2 : Int32) (s0 : Int32) : Option (zSt × Int32) :=
  if (zgi σ 1 6) = 1 then if 1024 ≤ x2 then fX2_read_126 σ x2 s0 else
  fX2_read_126 σ x2 0 else
  fX2_read_126 σ x2 s0
def fX2_read_87  (σ : zSt) (x2 : Int32) (x4 : Int32) (s0 : Int32) : Option (zSt × Int32) :=
  if s0 = 0 then zck (zin x4 4) (
  fX2_read_106 σ x2 (zgi σ 19 x4.toNatClampNeg)) else
  fX2_read_106 σ x2 x4
def fX2_read_86  (σ : zSt) (x2 : Int32) (x4 : Int32) : Option (zSt × Int32) :=
  fX2_read_87 σ x2 x4 0
def fX2_read_62  (σ : zSt) (x2 : Int32) : Option (zSt × Int32) :=
  zbv (x2 >>> ((14 : Int32) &&& 31)) (fun v2 =>
  if (zgi σ 1 6) = 3 then if 2 ≤ v2 then fX2_read_86 σ x2 v2 else
  fX2_read_87 σ x2 v2 1 else
  fX2_read_86 σ x2 v2)
def fX2_read  (σ : zSt) (x1 : Int32) : Option (zSt × Int32) :=
  zbv (x1 &&& 65535) (fun v3 =>
  if v3 < 49152 then if (zgi σ 1 6) = 0 then fX2_read_144 σ v3 else
  if (zgi σ 1 5) ≤ 0 then fX2_read_144 σ v3 else
  if v3 < 32768 then fX2_read_62 σ v3 else
  zbi (fX2_batteryIsIn σ ) (fun σ4 v5 =>
  if v5 = 0 then fX2_read_62 σ4 v3 else
  zbi (fX2_batteryPlace σ4 v3) (fun σ6 v7 =>
  zck (zin v7 32768) (
  some (σ6, zgi σ6 17 v7.toNatClampNeg)))) else
  zck (zin (v3 &&& 8191) 8192) (
  some (σ, zgi σ 15 (v3 &&& 8191).toNatClampNeg)))
set_option maxRecDepth 20000 in
set_option maxHeartbeats 4000000 in
theorem bX2_read_169 {st : Nat → Nat} {p : Program} {l : Launch} {e : Env} {s : State} {m : MethodId} {args : Array Value} {below : List Frame} {meth : Method} {c : Code} {D : va_G} {A : Nat → Prop} {ad : Nat → Nat} {cy : Nat → ClassId} (hC : zC p m c cX2_read 7 s args wzX2_read RX2 meth (some .int))  {res : zSt × Int32} {H : Heap} {locs : List Loc} {σ : zSt} {ls : Array Slot} {s0 : Int32} (hI : zI st D (tC cy) (wC ad cy σ) A s H locs) (hl : lv_has ls 7 []) (hf : fX2_read_169  σ s0 = some res) : W p l e rmX2_read s m args below meth c H locs 0 0 (zQi below args s D (tC cy) (wC ad cy) A res) (F0 m 169 ls [.int s0]) := by
  have hx := hC.1
  have hb := hC.2.1
  unfold fX2_read_169 at hf
  exact z_ireturn hC hI hf dX2_read_169
set_option maxRecDepth 20000 in
set_option maxHeartbeats 4000000 in
theorem bX2_read_144 {st : Nat → Nat} {p : Program} {l : Launch} {e : Env} {s : State} {m : MethodId} {args : Array Value} {below : List Frame} {meth : Method} {c : Code} {D : va_G} {A : Nat → Prop} {ad : Nat → Nat} {cy : Nat → ClassId} (hC : zC p m c cX2_read 7 s args wzX2_read RX2 meth (some .int))  {res : zSt × Int32} {H : Heap} {locs : List Loc} {σ : zSt} {ls : Array Slot} {x3 : Int32} (hI : zI st D (tC cy) (wC ad cy σ) A s H locs) (hl : lv_has ls 7 [(0, .ref (ad 1)), (3, .int x3)]) (hf : fX2_read_144  σ x3 = some res) : W p l e rmX2_read s m args below meth c H locs 0 0 (zQi below args s D (tC cy) (wC ad cy) A res) (F0 m 144 ls []) := by
  have hx := hC.1
  have hb := hC.2.1
  unfold fX2_read_144 at hf
  refine lv_iload_n hx hb dX2_read_144 rfl (lv_at hl 1 rfl) ?_
  refine lv_aload_n hx hb dX2_read_145 rfl (lv_at hl 0 rfl) ?_
  refine z_get hC hI hinX2_read_X20 1 (wC_e1 ad cy σ) rfl 4 (by decide) (List.mem_cons_of_mem _ zw14_1) rfl dX2_read_146 ?_
  refine lv_icmp_ge (tgt := 166) hx hb dX2_read_149 (by decide) (fun q => ?_) (fun q => ?_)
  · replace hf := zif_t q hf
    refine lv_sipush (v := 255) hx hb dX2_read_166 (by decide) ?_
    exact bX2_read_169 hC  hI (lv_sub hl [] rfl) hf
  replace hf := zif_f q hf
  refine lv_aload_n hx hb dX2_read_152 rfl (lv_at hl 0 rfl) ?_
  refine z_get hC hI hinX2_read_X20 1 (wC_e1 ad cy σ) rfl 1 (by decide) (List.mem_cons_of_mem _ zw3_17) rfl dX2_read_153 ?_
  refine lv_aload_n hx hb dX2_read_156 rfl (lv_at hl 0 rfl) ?_
  refine z_get hC hI hinX2_read_X20 1 (wC_e1 ad cy σ) rfl 3 (by decide) (List.mem_cons_of_mem _ zw14_0) rfl dX2_read_157 ?_
  refine lv_iload_n hx hb dX2_read_160 rfl (lv_at hl 1 rfl) ?_
  refine lv_iadd hx hb dX2_read_161 ?_
  obtain ⟨q, hf⟩ := zck_use hf
  refine z_iald hC hI _ _ (wC_e_tp ad cy σ _) (tC_tp cy _) q dX2_read_162 ?_
  refine lv_goto (tgt := 169) hx hb dX2_read_163 (by decide) ?_
  exact bX2_read_169 hC  hI (lv_sub hl [] rfl) hf
set_option maxRecDepth 20000 in
set_option maxHeartbeats 4000000 in
theorem bX2_read_126 {st : Nat → Nat} {p : Program} {l : Launch} {e : Env} {s : State} {m : MethodId} {args : Array Value} {below : List Frame} {meth : Method} {c : Code} {D : va_G} {A : Nat → Prop} {ad : Nat → Nat} {cy : Nat → ClassId} (hC : zC p m c cX2_read 7 s args wzX2_read RX2 meth (some .int))  {res : zSt × Int32} {H : Heap} {locs : List Loc} {σ : zSt} {ls : Array Slot} {x2 : Int32} {x6 : Int32} (hI : zI st D (tC cy) (wC ad cy σ) A s H locs) (hl : lv_has ls 7 [(0, .ref (ad 1)), (2, .int x2), (6, .int x6)]) (hf : fX2_read_126  σ x2 x6 = some res) : W p l e rmX2_read s m args below meth c H locs 0 0 (zQi below args s D (tC cy) (wC ad cy) A res) (F0 m 126 ls []) := by
  have hx := hC.1
  have hb := hC.2.1
  unfold fX2_read_126 at hf
  refine lv_iload hx hb dX2_read_126 (lv_at hl 2 rfl) ?_
  refine lv_aload_n hx hb dX2_read_128 rfl (lv_at hl 0 rfl) ?_
  refine z_get hC hI hinX2_read_X20 1 (wC_e1 ad cy σ) rfl 5 (by decide) (List.mem_cons_of_mem _ zw14_2) rfl dX2_read_129 ?_
  obtain ⟨q, hf⟩ := zck_use hf
  refine z_irem hx hb dX2_read_132 (of_decide_eq_true q) ?_
  refine lv_sipush (v := 16384) hx hb dX2_read_133 (by decide) ?_
  refine lv_imul hx hb dX2_read_136 ?_
  refine lv_iload_n hx hb dX2_read_137 rfl (lv_at hl 1 rfl) ?_
  refine lv_sipush (v := 16383) hx hb dX2_read_138 (by decide) ?_
  refine lv_iand hx hb dX2_read_141 ?_
  refine lv_iadd hx hb dX2_read_142 ?_
  refine lv_topi (fun v1 ev1 => ?_)
  replace hf := zbv_use ev1 hf
  refine lv_istore_n (lv' := [(3, .int v1), (0, .ref (ad 1)), (2, .int x2), (6, .int x6)]) hx hb dX2_read_143 rfl hl (by decide) rfl (fun ls hl => ?_)
  exact bX2_read_144 hC  hI (lv_sub hl [1, 0] rfl) hf
set_option maxRecDepth 20000 in
set_option maxHeartbeats 4000000 in
theorem bX2_read_106 {st : Nat → Nat} {p : Program} {l : Launch} {e : Env} {s : State} {m : MethodId} {args : Array Value} {below : List Frame} {meth : Method} {c : Code} {D : va_G} {A : Nat → Prop} {ad : Nat → Nat} {cy : Nat → ClassId} (hC : zC p m c cX2_read 7 s args wzX2_read RX2 meth (some .int))  {res : zSt × Int32} {H : Heap} {locs : List Loc} {σ : zSt} {ls : Array Slot} {x2 : Int32} {s0 : Int32} (hI : zI st D (tC cy) (wC ad cy σ) A s H locs) (hl : lv_has ls 7 [(0, .ref (ad 1)), (2, .int x2)]) (hf : fX2_read_106  σ x2 s0 = some res) : W p l e rmX2_read s m args below meth c H locs 0 0 (zQi below args s D (tC cy) (wC ad cy) A res) (F0 m 106 ls [.int s0]) := by
  have hx := hC.1
  have hb := hC.2.1
  unfold fX2_read_106 at hf
  refine lv_istore (lv' := [(6, .int s0), (0, .ref (ad 1)), (2, .int x2)]) hx hb dX2_read_106 hl (by decide) rfl (fun ls hl => ?_)
  refine lv_aload_n hx hb dX2_read_108 rfl (lv_at hl 1 rfl) ?_
  refine z_get hC hI hinX2_read_X20 1 (wC_e1 ad cy σ) rfl 6 (by decide) (List.mem_cons_of_mem _ zw14_3) rfl dX2_read_109 ?_
  refine lv_iconst (v := 1) hx hb dX2_read_112 (by decide) ?_
  refine lv_icmp_ne (tgt := 126) hx hb dX2_read_113 (by decide) (fun q => ?_) (fun q => ?_)
  · replace hf := zif_f q hf
    exact bX2_read_126 hC  hI (lv_sub hl [1, 2, 0] rfl) hf
  replace hf := zif_t q hf
  refine lv_iload_n hx hb dX2_read_116 rfl (lv_at hl 2 rfl) ?_
  refine lv_sipush (v := 1024) hx hb dX2_read_117 (by decide) ?_
  refine lv_icmp_ge (tgt := 126) hx hb dX2_read_120 (by decide) (fun q => ?_) (fun q => ?_)
  · replace hf := zif_t q hf
    exact bX2_read_126 hC  hI (lv_sub hl [1, 2, 0] rfl) hf
  replace hf := zif_f q hf
  refine lv_iconst (v := 0) hx hb dX2_read_123 (by decide) ?_
  refine lv_istore (lv' := [(6, .int 0), (0, .ref (ad 1)), (2, .int x2)]) hx hb dX2_read_124 hl (by decide) rfl (fun ls hl => ?_)
  exact bX2_read_126 hC  hI (lv_sub hl [1, 2, 0] rfl) hf
set_option maxRecDepth 20000 in
set_option maxHeartbeats 4000000 in
theorem bX2_read_87 {st : Nat → Nat} {p : Program} {l : Launch} {e : Env} {s : State} {m : MethodId} {args : Array Value} {below : List Frame} {meth : Method} {c : Code} {D : va_G} {A : Nat → Prop} {ad : Nat → Nat} {cy : Nat → ClassId} (hC : zC p m c cX2_read 7 s args wzX2_read RX2 meth (some .int))  {res : zSt × Int32} {H : Heap} {locs : List Loc} {σ : zSt} {ls : Array Slot} {x2 : Int32} {x4 : Int32} {s0 : Int32} (hI : zI st D (tC cy) (wC ad cy σ) A s H locs) (hl : lv_has ls 7 [(0, .ref (ad 1)), (2, .int x2), (4, .int x4)]) (hf : fX2_read_87  σ x2 x4 s0 = some res) : W p l e rmX2_read s m args below meth c H locs 0 0 (zQi below args s D (tC cy) (wC ad cy) A res) (F0 m 87 ls [.int s0]) := by
  have hx := hC.1
  have hb := hC.2.1
  unfold fX2_read_87 at hf
  refine lv_istore (lv' := [(5, .int s0), (0, .ref (ad 1)), (2, .int x2), (4, .int x4)]) hx hb dX2_read_87 hl (by decide) rfl (fun ls hl => ?_)
  refine lv_iload hx hb dX2_read_89 (lv_at hl 0 rfl) ?_
  refine lv_if_eq (tgt := 99) hx hb dX2_read_91 (by decide) (fun q => ?_) (fun q => ?_)
  · replace hf := zif_t q hf
    refine lv_aload_n hx hb dX2_read_99 rfl (lv_at hl 1 rfl) ?_
    refine z_get hC hI hinX2_read_X20 1 (wC_e1 ad cy σ) rfl 12 (by decide) (List.mem_cons_of_mem _ zw4_0) rfl dX2_read_100 ?_
    refine lv_iload hx hb dX2_read_103 (lv_at hl 3 rfl) ?_
    obtain ⟨q, hf⟩ := zck_use hf
    refine z_iald hC hI 19 6 (wC_e19 ad cy σ) (tC_t19 cy) q dX2_read_105 ?_
    exact bX2_read_106 hC  hI (lv_sub hl [1, 2] rfl) hf
  replace hf := zif_f q hf
  refine lv_iload hx hb dX2_read_94 (lv_at hl 3 rfl) ?_
  refine lv_goto (tgt := 106) hx hb dX2_read_96 (by decide) ?_
  exact bX2_read_106 hC  hI (lv_sub hl [1, 2] rfl) hf
set_option maxRecDepth 20000 in
set_option maxHeartbeats 4000000 in
theorem bX2_read_86 {st : Nat → Nat} {p : Program} {l : Launch} {e : Env} {s : State} {m : MethodId} {args : Array Value} {below : List Frame} {meth : Method} {c : Code} {D : va_G} {A : Nat → Prop} {ad : Nat → Nat} {cy : Nat → ClassId} (hC : zC p m c cX2_read 7 s args wzX2_read RX2 meth (some .int))  {res : zSt × Int32} {H : Heap} {locs : List Loc} {σ : zSt} {ls : Array Slot} {x2 : Int32} {x4 : Int32} (hI : zI st D (tC cy) (wC ad cy σ) A s H locs) (hl : lv_has ls 7 [(0, .ref (ad 1)), (2, .int x2), (4, .int x4)]) (hf : fX2_read_86  σ x2 x4 = some res) : W p l e rmX2_read s m args below meth c H locs 0 0 (zQi below args s D (tC cy) (wC ad cy) A res) (F0 m 86 ls []) := by
  have hx := hC.1
  have hb := hC.2.1
  unfold fX2_read_86 at hf
  refine lv_iconst (v := 0) hx hb dX2_read_86 (by decide) ?_
  exact bX2_read_87 hC  hI hl hf
set_option maxRecDepth 20000 in
set_option maxHeartbeats 4000000 in
theorem bX2_read_62 {st : Nat → Nat} {p : Program} {l : Launch} {e : Env} {s : State} {m : MethodId} {args : Array Value} {below : List Frame} {meth : Method} {c : Code} {D : va_G} {A : Nat → Prop} {ad : Nat → Nat} {cy : Nat → ClassId} (hC : zC p m c cX2_read 7 s args wzX2_read RX2 meth (some .int))  {res : zSt × Int32} {H : Heap} {locs : List Loc} {σ : zSt} {ls : Array Slot} {x2 : Int32} (hI : zI st D (tC cy) (wC ad cy σ) A s H locs) (hl : lv_has ls 7 [(0, .ref (ad 1)), (2, .int x2)]) (hf : fX2_read_62  σ x2 = some res) : W p l e rmX2_read s m args below meth c H locs 0 0 (zQi below args s D (tC cy) (wC ad cy) A res) (F0 m 62 ls []) := by
  have hx := hC.1
  have hb := hC.2.1
  unfold fX2_read_62 at hf
  refine lv_iload_n hx hb dX2_read_62 rfl (lv_at hl 1 rfl) ?_
  refine lv_bipush (v := 14) hx hb dX2_read_63 (by decide) ?_
  refine lv_ishr hx hb dX2_read_65 ?_
  refine lv_topi (fun v2 ev2 => ?_)
  replace hf := zbv_use ev2 hf
  refine lv_istore (lv' := [(4, .int v2), (0, .ref (ad 1)), (2, .int x2)]) hx hb dX2_read_66 hl (by decide) rfl (fun ls hl => ?_)
  refine lv_aload_n hx hb dX2_read_68 rfl (lv_at hl 1 rfl) ?_
  refine z_get hC hI hinX2_read_X20 1 (wC_e1 ad cy σ) rfl 6 (by decide) (List.mem_cons_of_mem _ zw14_3) rfl dX2_read_69 ?_
  refine lv_iconst (v := 3) hx hb dX2_read_72 (by decide) ?_
  refine lv_icmp_ne (tgt := 86) hx hb dX2_read_73 (by decide) (fun q => ?_) (fun q => ?_)
  · replace hf := zif_f q hf
    exact bX2_read_86 hC  hI (lv_sub hl [1, 2, 0] rfl) hf
  replace hf := zif_t q hf
  refine lv_iload hx hb dX2_read_76 (lv_at hl 0 rfl) ?_
  refine lv_iconst (v := 2) hx hb dX2_read_78 (by decide) ?_
  refine lv_icmp_ge (tgt := 86) hx hb dX2_read_79 (by decide) (fun q => ?_) (fun q => ?_)
  · replace hf := zif_t q hf
    exact bX2_read_86 hC  hI (lv_sub hl [1, 2, 0] rfl) hf
  replace hf := zif_f q hf
  refine lv_iconst (v := 1) hx hb dX2_read_82 (by decide) ?_
  refine lv_goto (tgt := 87) hx hb dX2_read_83 (by decide) ?_
  exact bX2_read_87 hC  hI (lv_sub hl [1, 2, 0] rfl) hf
set_option maxRecDepth 20000 in
set_option maxHeartbeats 4000000 in
theorem bX2_read {st : Nat → Nat} {p : Program} {l : Launch} {e : Env} {s : State} {m : MethodId} {args : Array Value} {below : List Frame} {meth : Method} {c : Code} {D : va_G} {A : Nat → Prop} {ad : Nat → Nat} {cy : Nat → ClassId} (hC : zC p m c cX2_read 7 s args wzX2_read RX2 meth (some .int))  {res : zSt × Int32} {H : Heap} {locs : List Loc} {σ : zSt} {ls : Array Slot} {x1 : Int32} (hI : zI st D (tC cy) (wC ad cy σ) A s H locs) (hl : lv_has ls 7 [(0, .ref (ad 1)), (1, .int x1)]) (hf : fX2_read  σ x1 = some res) : W p l e rmX2_read s m args below meth c H locs 0 0 (zQi below args s D (tC cy) (wC ad cy) A res) (F0 m 0 ls []) := by
  have hx := hC.1
  have hb := hC.2.1
  unfold fX2_read at hf
  refine lv_iload_n hx hb dX2_read_0 rfl (lv_at hl 1 rfl) ?_
  refine lv_ldc (v := 65535) hx hb hC.2.2.2.1 (hC.2.2.2.2.1 _ (List.mem_cons_of_mem _ zw17_16)) dX2_read_1 ?_
  refine lv_iand hx hb dX2_read_3 ?_
  refine lv_topi (fun v3 ev3 => ?_)
  replace hf := zbv_use ev3 hf
  refine lv_istore_n (lv' := [(2, .int v3), (0, .ref (ad 1)), (1, .int x1)]) hx hb dX2_read_4 rfl hl (by decide) rfl (fun ls hl => ?_)
  refine lv_iload_n hx hb dX2_read_5 rfl (lv_at hl 0 rfl) ?_
  refine lv_ldc (v := 49152) hx hb hC.2.2.2.1 (hC.2.2.2.2.1 _ (List.mem_cons_of_mem _ zw14_18)) dX2_read_6 ?_
  refine lv_icmp_lt (tgt := 22) hx hb dX2_read_8 (by decide) (fun q => ?_) (fun q => ?_)
  · replace hf := zif_t q hf
    refine lv_iload_n hx hb dX2_read_22 rfl (lv_at hl 0 rfl) ?_
    refine lv_istore_n (lv' := [(3, .int v3), (2, .int v3), (0, .ref (ad 1)), (1, .int x1)]) hx hb dX2_read_23 rfl hl (by decide) rfl (fun ls hl => ?_)
    refine lv_aload_n hx hb dX2_read_24 rfl (lv_at hl 2 rfl) ?_
    refine z_get hC hI hinX2_read_X20 1 (wC_e1 ad cy σ) rfl 6 (by decide) (List.mem_cons_of_mem _ zw14_3) rfl dX2_read_25 ?_
    refine lv_if_eq (tgt := 144) hx hb dX2_read_28 (by decide) (fun q => ?_) (fun q => ?_)
    · replace hf := zif_t q hf
      exact bX2_read_144 hC  hI (lv_sub hl [2, 0] rfl) hf
    replace hf := zif_f q hf
    refine lv_aload_n hx hb dX2_read_31 rfl (lv_at hl 2 rfl) ?_
    refine z_get hC hI hinX2_read_X20 1 (wC_e1 ad cy σ) rfl 5 (by decide) (List.mem_cons_of_mem _ zw14_2) rfl dX2_read_32 ?_
    refine lv_if_le (tgt := 144) hx hb dX2_read_35 (by decide) (fun q => ?_) (fun q => ?_)
    · replace hf := zif_t q hf
      exact bX2_read_144 hC  hI (lv_sub hl [2, 0] rfl) hf
    replace hf := zif_f q hf
    refine lv_iload_n hx hb dX2_read_38 rfl (lv_at hl 1 rfl) ?_
    refine lv_ldc (v := 32768) hx hb hC.2.2.2.1 (hC.2.2.2.2.1 _ (List.mem_cons_of_mem _ zw3_21)) dX2_read_39 ?_
    refine lv_icmp_lt (tgt := 62) hx hb dX2_read_41 (by decide) (fun q => ?_) (fun q => ?_)
    · replace hf := zif_t q hf
      exact bX2_read_62 hC  hI (lv_sub hl [2, 1] rfl) hf
    replace hf := zif_f q hf
    refine lv_aload_n hx hb dX2_read_44 rfl (lv_at hl 2 rfl) ?_
    obtain ⟨σ4, v5, g4, hf⟩ := zbi_use hf
    refine z_callVi (As := []) (rest := []) hC hI (cX2_batteryIsIn_met st l D ad cy σ  _ g4) (zgV zw20_14 zw20_15 zw20_16 zw1_21 zw20_17) rfl ⟨rfl, rfl⟩ 0 hdX2_batteryIsIn ⟨Nat.le_of_ble_eq_true rfl, Nat.le_of_ble_eq_true rfl⟩ rfl rfl (wC_e1 ad cy σ) rfl hl rfl (Nat.le_of_ble_eq_true rfl) dX2_read_45 ⟨Nat.zero_le _, Nat.zero_le _⟩ (fun H locs hI => ?_)
    refine lv_if_eq (tgt := 62) hx hb dX2_read_48 (by decide) (fun q => ?_) (fun q => ?_)
    · replace hf := zif_t q hf
      exact bX2_read_62 hC  hI (lv_sub hl [2, 1] rfl) hf
    replace hf := zif_f q hf
    refine lv_aload_n hx hb dX2_read_51 rfl (lv_at hl 2 rfl) ?_
    refine z_get hC hI hinX2_read_X20 1 (wC_e1 ad cy σ4) rfl 10 (by decide) (List.mem_cons_of_mem _ zw3_22) rfl dX2_read_52 ?_
    refine lv_aload_n hx hb dX2_read_55 rfl (lv_at hl 2 rfl) ?_
    refine lv_iload_n hx hb dX2_read_56 rfl (lv_at hl 1 rfl) ?_
    obtain ⟨σ6, v7, g6, hf⟩ := zbi_use hf
    refine z_callVi (As := [.int v3]) (rest := [.ref (ad 17)]) hC hI (cX2_batteryPlace_met st l D ad cy σ4 v3 _ g6) (zgV zw20_18 zw20_19 zw20_20 zw1_21 zw20_21) rfl ⟨rfl, rfl⟩ 1 hdX2_batteryPlace ⟨Nat.le_of_ble_eq_true rfl, Nat.le_of_ble_eq_true rfl⟩ rfl rfl (wC_e1 ad cy σ4) rfl hl rfl (Nat.le_of_ble_eq_true rfl) dX2_read_57 ⟨Nat.zero_le _, Nat.zero_le _⟩ (fun H locs hI => ?_)
    obtain ⟨q, hf⟩ := zck_use hf
    refine z_iald hC hI 17 4 (wC_e17 ad cy σ6) (tC_t17 cy) q dX2_read_60 ?_
    exact z_ireturn hC hI hf dX2_read_61
  replace hf := zif_f q hf
  refine lv_aload_n hx hb dX2_read_11 rfl (lv_at hl 1 rfl) ?_
  refine z_get hC hI hinX2_read_X20 1 (wC_e1 ad cy σ) rfl 8 (by decide) (List.mem_cons_of_mem _ zw3_19) rfl dX2_read_12 ?_
  refine lv_iload_n hx hb dX2_read_15 rfl (lv_at hl 0 rfl) ?_
  refine lv_sipush (v := 8191) hx hb dX2_read_16 (by decide) ?_
  refine lv_iand hx hb dX2_read_19 ?_
  obtain ⟨q, hf⟩ := zck_use hf
  refine z_iald hC hI 15 2 (wC_e15 ad cy σ) (tC_t15 cy) q dX2_read_20 ?_
  exact z_ireturn hC hI hf dX2_read_21
set_option maxRecDepth 20000 in
theorem cX2_read_met (st : Nat → Nat) (l : Launch) (D : va_G) (ad : Nat → Nat) (cy : Nat → ClassId) (σ : zSt) (x1 : Int32) (res : zSt × Int32) (hf : fX2_read σ x1 = some res) (sz : Nat) : zMi st l yX2_read wzX2_read rmX2_read [.ref (ad 1), .int x1] D (tC cy) (wC ad cy) sz σ res :=
  zMi.of (cc := cX2_read) (maxL := 7) (ret := (some .int)) (by decide) rfl (Nat.le_of_ble_eq_true rfl) (fun p e s m args below meth c hC A hI ls hl => bX2_read hC hI hl hf)
theorem hdX2_read : yX2_read.cls = RX2 ∧ yX2_read.cls ≠ "java/lang/invoke/MethodHandle" ∧ yX2_read.cls ≠ "java/lang/invoke/VarHandle" ∧ (parseMethodDescriptor yX2_read.desc).map (fun d => d.parameters.length) = some 1 := by decide +kernel
def rmX2_write : Room := { frames := 1, cells := 0, slots := 0, locals := 21 }
def wzX2_write : List Cond := .code yX2_write cX2_write 4 none :: wsL_law
theorem hinX2_write_X20 : ∀ w ∈ wsX20, w ∈ wzX2_write := fun w h => List.mem_cons_of_mem _ (inlX2 w h)
def fX2_write_151  (σ : zSt)  : Option (zSt) :=
  some σ
def fX2_write_54  (σ : zSt) (x2 : Int32) (s0 : Int32) : Option (zSt) :=
  zck (zin s0 4) (zbv (zsi σ 19 (s0.toNatClampNeg) x2) (fun σ1 =>
  fX2_write_151 σ1))
def fX2_write_130  (σ : zSt) (x2 : Int32) (x3 : Int32) : Option (zSt) :=
  if (zgi σ 1 6) = 3 then if x3 = 40960 then zck (zin 2 4) (zbv (zsi σ 19 ((2 : Int32).toNatClampNeg) x2) (fun σ2 =>
  fX2_write_151 σ2)) else
  fX2_write_151 σ else
  fX2_write_151 σ
def fX2_write_117  (σ : zSt) (x2 : Int32) (x3 : Int32) : Option (zSt) :=
  zck (zin (x3 >>> ((14 : Int32) &&& 31)) 4) (zbv (zsi σ 19 ((x3 >>> ((14 : Int32) &&& 31)).toNatClampNeg) x2) (fun σ3 =>
  fX2_write_151 σ3))
def fX2_write_22  (σ : zSt) (x2 : Int32) (x3 : Int32) : Option (zSt) :=
  if (zgi σ 1 6) = 1 then if x3 < 65532 then if x3 < 32768 then fX2_write_151 σ else
  if 49152 ≤ x3 then fX2_write_151 σ else
  zbi (fX2_batteryIsIn σ ) (fun σ4 v5 =>
  if v5 = 0 then fX2_write_151 σ4 else
  zbi (fX2_batteryPlace σ4 x3) (fun σ6 v7 =>
  zck (zin v7 32768) (zbv (zsi σ6 17 (v7.toNatClampNeg) x2) (fun σ8 =>
  fX2_write_151 σ8)))) else
  if x3 = 65532 then fX2_write_54 σ x2 3 else
  fX2_write_54 σ x2 (x3 - 65533) else
  if (zgi σ 1 6) = 2 then if x3 = 0 then fX2_write_117 σ x2 x3 else
  if x3 = 16384 then fX2_write_117 σ x2 x3 else
  if x3 = 32768 then fX2_write_117 σ x2 x3 else
  fX2_write_130 σ x2 x3 else
  fX2_write_130 σ x2 x3
def fX2_write  (σ : zSt) (x1 : Int32) (x2 : Int32) : Option (zSt) :=
  zbv (x1 &&& 65535) (fun v9 =>
  if v9 < 49152 then fX2_write_22 σ x2 v9 else
  zck (zin (v9 &&& 8191) 8192) (zbv (zsi σ 15 ((v9 &&& 8191).toNatClampNeg) x2) (fun σ10 =>
  fX2_write_22 σ10 x2 v9)))
set_option maxRecDepth 20000 in
set_option maxHeartbeats 4000000 in
theorem bX2_write_151 {st : Nat → Nat} {p : Program} {l : Launch} {e : Env} {s : State} {m : MethodId} {args : Array Value} {below : List Frame} {meth : Method} {c : Code} {D : va_G} {A : Nat → Prop} {ad : Nat → Nat} {cy : Nat → ClassId} (hC : zC p m c cX2_write 4 s args wzX2_write RX2 meth none)  {res : zSt} {H : Heap} {locs : List Loc} {σ : zSt} {ls : Array Slot}  (hI : zI st D (tC cy) (wC ad cy σ) A s H locs) (hl : lv_has ls 4 []) (hf : fX2_write_151  σ  = some res) : W p l e rmX2_write s m args below meth c H locs 0 0 (zQu below args s D (tC cy) (wC ad cy) A res) (F0 m 151 ls []) := by
  have hx := hC.1
  have hb := hC.2.1
  unfold fX2_write_151 at hf
  exact z_return hC hI hf dX2_write_151
set_option maxRecDepth 20000 in
set_option maxHeartbeats 4000000 in
theorem bX2_write_54 {st : Nat → Nat} {p : Program} {l : Launch} {e : Env} {s : State} {m : MethodId} {args : Array Value} {below : List Frame} {meth : Method} {c : Code} {D : va_G} {A : Nat → Prop} {ad : Nat → Nat} {cy : Nat → ClassId} (hC : zC p m c cX2_write 4 s args wzX2_write RX2 meth none)  {res : zSt} {H : Heap} {locs : List Loc} {σ : zSt} {ls : Array Slot} {x2 : Int32} {s0 : Int32} (hI : zI st D (tC cy) (wC ad cy σ) A s H locs) (hl : lv_has ls 4 [(2, .int x2)]) (hf : fX2_write_54  σ x2 s0 = some res) : W p l e rmX2_write s m args below meth c H locs 0 0 (zQu below args s D (tC cy) (wC ad cy) A res) (F0 m 54 ls [.int s0, .ref (ad 19)]) := by
  have hx := hC.1
  have hb := hC.2.1
  unfold fX2_write_54 at hf
  refine lv_iload_n hx hb dX2_write_54 rfl (lv_at hl 0 rfl) ?_
  obtain ⟨q, hf⟩ := zck_use hf
  obtain ⟨σ1, eσ1⟩ : ∃ z, z = zsi σ 19 (s0.toNatClampNeg) x2 := ⟨_, rfl⟩
  replace hf := zbv_use eσ1 hf
  refine z_iast hC hI 19 6 (wC_e19 ad cy σ) (tC_t19 cy) q ((wC_s19 ad cy σ _ _).trans (congrArg (wC ad cy) eσ1.symm)) dX2_write_55 (fun H locs hI => ?_)
  refine lv_goto (tgt := 151) hx hb dX2_write_56 (by decide) ?_
  exact bX2_write_151 hC  hI (lv_sub hl [] rfl) hf
set_option maxRecDepth 20000 in
set_option maxHeartbeats 4000000 in
theorem bX2_write_130 {st : Nat → Nat} {p : Program} {l : Launch} {e : Env} {s : State} {m : MethodId} {args : Array Value} {below : List Frame} {meth : Method} {c : Code} {D : va_G} {A : Nat → Prop} {ad : Nat → Nat} {cy : Nat → ClassId} (hC : zC p m c cX2_write 4 s args wzX2_write RX2 meth none)  {res : zSt} {H : Heap} {locs : List Loc} {σ : zSt} {ls : Array Slot} {x2 : Int32} {x3 : Int32} (hI : zI st D (tC cy) (wC ad cy σ) A s H locs) (hl : lv_has ls 4 [(0, .ref (ad 1)), (2, .int x2), (3, .int x3)]) (hf : fX2_write_130  σ x2 x3 = some res) : W p l e rmX2_write s m args below meth c H locs 0 0 (zQu below args s D (tC cy) (wC ad cy) A res) (F0 m 130 ls []) := by
  have hx := hC.1
  have hb := hC.2.1
  unfold fX2_write_130 at hf
  refine lv_aload_n hx hb dX2_write_130 rfl (lv_at hl 0 rfl) ?_
  refine z_get hC hI hinX2_write_X20 1 (wC_e1 ad cy σ) rfl 6 (by decide) (List.mem_cons_of_mem _ zw14_3) rfl dX2_write_131 ?_
  refine lv_iconst (v := 3) hx hb dX2_write_134 (by decide) ?_
  refine lv_icmp_ne (tgt := 151) hx hb dX2_write_135 (by decide) (fun q => ?_) (fun q => ?_)
  · replace hf := zif_f q hf
    exact bX2_write_151 hC  hI (lv_sub hl [] rfl) hf
  replace hf := zif_t q hf
  refine lv_iload_n hx hb dX2_write_138 rfl (lv_at hl 2 rfl) ?_
  refine lv_ldc (v := 40960) hx hb hC.2.2.2.1 (hC.2.2.2.2.1 _ (List.mem_cons_of_mem _ zw20_13)) dX2_write_139 ?_
  refine lv_icmp_ne (tgt := 151) hx hb dX2_write_141 (by decide) (fun q => ?_) (fun q => ?_)
  · replace hf := zif_f q hf
    exact bX2_write_151 hC  hI (lv_sub hl [] rfl) hf
  replace hf := zif_t q hf
  refine lv_aload_n hx hb dX2_write_144 rfl (lv_at hl 0 rfl) ?_
  refine z_get hC hI hinX2_write_X20 1 (wC_e1 ad cy σ) rfl 12 (by decide) (List.mem_cons_of_mem _ zw4_0) rfl dX2_write_145 ?_
  refine lv_iconst (v := 2) hx hb dX2_write_148 (by decide) ?_
  refine lv_iload_n hx hb dX2_write_149 rfl (lv_at hl 1 rfl) ?_
  obtain ⟨q, hf⟩ := zck_use hf
  obtain ⟨σ2, eσ2⟩ : ∃ z, z = zsi σ 19 ((2 : Int32).toNatClampNeg) x2 := ⟨_, rfl⟩
  replace hf := zbv_use eσ2 hf
  refine z_iast hC hI 19 6 (wC_e19 ad cy σ) (tC_t19 cy) q ((wC_s19 ad cy σ _ _).trans (congrArg (wC ad cy) eσ2.symm)) dX2_write_150 (fun H locs hI => ?_)
  exact bX2_write_151 hC  hI (lv_sub hl [] rfl) hf
set_option maxRecDepth 20000 in
set_option maxHeartbeats 4000000 in
theorem bX2_write_117 {st : Nat → Nat} {p : Program} {l : Launch} {e : Env} {s : State} {m : MethodId} {args : Array Value} {below : List Frame} {meth : Method} {c : Code} {D : va_G} {A : Nat → Prop} {ad : Nat → Nat} {cy : Nat → ClassId} (hC : zC p m c cX2_write 4 s args wzX2_write RX2 meth none)  {res : zSt} {H : Heap} {locs : List Loc} {σ : zSt} {ls : Array Slot} {x2 : Int32} {x3 : Int32} (hI : zI st D (tC cy) (wC ad cy σ) A s H locs) (hl : lv_has ls 4 [(0, .ref (ad 1)), (2, .int x2), (3, .int x3)]) (hf : fX2_write_117  σ x2 x3 = some res) : W p l e rmX2_write s m args below meth c H locs 0 0 (zQu below args s D (tC cy) (wC ad cy) A res) (F0 m 117 ls []) := by
  have hx := hC.1
  have hb := hC.2.1
  unfold fX2_write_117 at hf
  refine lv_aload_n hx hb dX2_write_117 rfl (lv_at hl 0 rfl) ?_
  refine z_get hC hI hinX2_write_X20 1 (wC_e1 ad cy σ) rfl 12 (by decide) (List.mem_cons_of_mem _ zw4_0) rfl dX2_write_118 ?_
  refine lv_iload_n hx hb dX2_write_121 rfl (lv_at hl 2 rfl) ?_
  refine lv_bipush (v := 14) hx hb dX2_write_122 (by decide) ?_
  refine lv_ishr hx hb dX2_write_124 ?_
  refine lv_iload_n hx hb dX2_write_125 rfl (lv_at hl 1 rfl) ?_
  obtain ⟨q, hf⟩ := zck_use hf
  obtain ⟨σ3, eσ3⟩ : ∃ z, z = zsi σ 19 ((x3 >>> ((14 : Int32) &&& 31)).toNatClampNeg) x2 := ⟨_, rfl⟩
  replace hf := zbv_use eσ3 hf
  refine z_iast hC hI 19 6 (wC_e19 ad cy σ) (tC_t19 cy) q ((wC_s19 ad cy σ _ _).trans (congrArg (wC ad cy) eσ3.symm)) dX2_write_126 (fun H locs hI => ?_)
  refine lv_goto (tgt := 151) hx hb dX2_write_127 (by decide) ?_
  exact bX2_write_151 hC  hI (lv_sub hl [] rfl) hf
set_option maxRecDepth 20000 in
set_option maxHeartbeats 4000000 in
theorem bX2_write_22 {st : Nat → Nat} {p : Program} {l : Launch} {e : Env} {s : State} {m : MethodId} {args : Array Value} {below : List Frame} {meth : Method} {c : Code} {D : va_G} {A : Nat → Prop} {ad : Nat → Nat} {cy : Nat → ClassId} (hC : zC p m c cX2_write 4 s args wzX2_write RX2 meth none)  {res : zSt} {H : Heap} {locs : List Loc} {σ : zSt} {ls : Array Slot} {x2 : Int32} {x3 : Int32} (hI : zI st D (tC cy) (wC ad cy σ) A s H locs) (hl : lv_has ls 4 [(0, .ref (ad 1)), (2, .int x2), (3, .int x3)]) (hf : fX2_write_22  σ x2 x3 = some res) : W p l e rmX2_write s m args below meth c H locs 0 0 (zQu below args s D (tC cy) (wC ad cy) A res) (F0 m 22 ls []) := by
  have hx := hC.1
  have hb := hC.2.1
  unfold fX2_write_22 at hf
  refine lv_aload_n hx hb dX2_write_22 rfl (lv_at hl 0 rfl) ?_
  refine z_get hC hI hinX2_write_X20 1 (wC_e1 ad cy σ) rfl 6 (by decide) (List.mem_cons_of_mem _ zw14_3) rfl dX2_write_23 ?_
  refine lv_iconst (v := 1) hx hb dX2_write_26 (by decide) ?_
  refine lv_icmp_ne (tgt := 92) hx hb dX2_write_27 (by decide) (fun q => ?_) (fun q => ?_)
  · replace hf := zif_f q hf
    refine lv_aload_n hx hb dX2_write_92 rfl (lv_at hl 0 rfl) ?_
    refine z_get hC hI hinX2_write_X20 1 (wC_e1 ad cy σ) rfl 6 (by decide) (List.mem_cons_of_mem _ zw14_3) rfl dX2_write_93 ?_
    refine lv_iconst (v := 2) hx hb dX2_write_96 (by decide) ?_
    refine lv_icmp_ne (tgt := 130) hx hb dX2_write_97 (by decide) (fun q => ?_) (fun q => ?_)
    · replace hf := zif_f q hf
      exact bX2_write_130 hC  hI hl hf
    replace hf := zif_t q hf
    refine lv_iload_n hx hb dX2_write_100 rfl (lv_at hl 2 rfl) ?_
    refine lv_if_eq (tgt := 117) hx hb dX2_write_101 (by decide) (fun q => ?_) (fun q => ?_)
    · replace hf := zif_t q hf
      exact bX2_write_117 hC  hI hl hf
    replace hf := zif_f q hf
    refine lv_iload_n hx hb dX2_write_104 rfl (lv_at hl 2 rfl) ?_
    refine lv_sipush (v := 16384) hx hb dX2_write_105 (by decide) ?_
    refine lv_icmp_eq (tgt := 117) hx hb dX2_write_108 (by decide) (fun q => ?_) (fun q => ?_)
    · replace hf := zif_t q hf
      exact bX2_write_117 hC  hI hl hf
    replace hf := zif_f q hf
    refine lv_iload_n hx hb dX2_write_111 rfl (lv_at hl 2 rfl) ?_
    refine lv_ldc (v := 32768) hx hb hC.2.2.2.1 (hC.2.2.2.2.1 _ (List.mem_cons_of_mem _ zw3_21)) dX2_write_112 ?_
    refine lv_icmp_ne (tgt := 130) hx hb dX2_write_114 (by decide) (fun q => ?_) (fun q => ?_)
    · replace hf := zif_f q hf
      exact bX2_write_130 hC  hI hl hf
    replace hf := zif_t q hf
    exact bX2_write_117 hC  hI hl hf
  replace hf := zif_t q hf
  refine lv_iload_n hx hb dX2_write_30 rfl (lv_at hl 2 rfl) ?_
  refine lv_ldc (v := 65532) hx hb hC.2.2.2.1 (hC.2.2.2.2.1 _ (List.mem_cons_of_mem _ zw20_11)) dX2_write_31 ?_
  refine lv_icmp_lt (tgt := 59) hx hb dX2_write_33 (by decide) (fun q => ?_) (fun q => ?_)
  · replace hf := zif_t q hf
    refine lv_iload_n hx hb dX2_write_59 rfl (lv_at hl 2 rfl) ?_
    refine lv_ldc (v := 32768) hx hb hC.2.2.2.1 (hC.2.2.2.2.1 _ (List.mem_cons_of_mem _ zw3_21)) dX2_write_60 ?_
    refine lv_icmp_lt (tgt := 151) hx hb dX2_write_62 (by decide) (fun q => ?_) (fun q => ?_)
    · replace hf := zif_t q hf
      exact bX2_write_151 hC  hI (lv_sub hl [] rfl) hf
    replace hf := zif_f q hf
    refine lv_iload_n hx hb dX2_write_65 rfl (lv_at hl 2 rfl) ?_
    refine lv_ldc (v := 49152) hx hb hC.2.2.2.1 (hC.2.2.2.2.1 _ (List.mem_cons_of_mem _ zw14_18)) dX2_write_66 ?_
    refine lv_icmp_ge (tgt := 151) hx hb dX2_write_68 (by decide) (fun q => ?_) (fun q => ?_)
    · replace hf := zif_t q hf
      exact bX2_write_151 hC  hI (lv_sub hl [] rfl) hf
    replace hf := zif_f q hf
    refine lv_aload_n hx hb dX2_write_71 rfl (lv_at hl 0 rfl) ?_
    obtain ⟨σ4, v5, g4, hf⟩ := zbi_use hf
    refine z_callVi (As := []) (rest := []) hC hI (cX2_batteryIsIn_met st l D ad cy σ  _ g4) (zgV zw20_14 zw20_15 zw20_16 zw1_21 zw20_17) rfl ⟨rfl, rfl⟩ 0 hdX2_batteryIsIn ⟨Nat.le_of_ble_eq_true rfl, Nat.le_of_ble_eq_true rfl⟩ rfl rfl (wC_e1 ad cy σ) rfl hl rfl (Nat.le_of_ble_eq_true rfl) dX2_write_72 ⟨Nat.zero_le _, Nat.zero_le _⟩ (fun H locs hI => ?_)
    refine lv_if_eq (tgt := 151) hx hb dX2_write_75 (by decide) (fun q => ?_) (fun q => ?_)
    · replace hf := zif_t q hf
      exact bX2_write_151 hC  hI (lv_sub hl [] rfl) hf
    replace hf := zif_f q hf
    refine lv_aload_n hx hb dX2_write_78 rfl (lv_at hl 0 rfl) ?_
    refine z_get hC hI hinX2_write_X20 1 (wC_e1 ad cy σ4) rfl 10 (by decide) (List.mem_cons_of_mem _ zw3_22) rfl dX2_write_79 ?_
    refine lv_aload_n hx hb dX2_write_82 rfl (lv_at hl 0 rfl) ?_
    refine lv_iload_n hx hb dX2_write_83 rfl (lv_at hl 2 rfl) ?_
    obtain ⟨σ6, v7, g6, hf⟩ := zbi_use hf
    refine z_callVi (As := [.int x3]) (rest := [.ref (ad 17)]) hC hI (cX2_batteryPlace_met st l D ad cy σ4 x3 _ g6) (zgV zw20_18 zw20_19 zw20_20 zw1_21 zw20_21) rfl ⟨rfl, rfl⟩ 1 hdX2_batteryPlace ⟨Nat.le_of_ble_eq_true rfl, Nat.le_of_ble_eq_true rfl⟩ rfl rfl (wC_e1 ad cy σ4) rfl hl rfl (Nat.le_of_ble_eq_true rfl) dX2_write_84 ⟨Nat.zero_le _, Nat.zero_le _⟩ (fun H locs hI => ?_)
    refine lv_iload_n hx hb dX2_write_87 rfl (lv_at hl 1 rfl) ?_
    obtain ⟨q, hf⟩ := zck_use hf
    obtain ⟨σ8, eσ8⟩ : ∃ z, z = zsi σ6 17 (v7.toNatClampNeg) x2 := ⟨_, rfl⟩
    replace hf := zbv_use eσ8 hf
    refine z_iast hC hI 17 4 (wC_e17 ad cy σ6) (tC_t17 cy) q ((wC_s17 ad cy σ6 _ _).trans (congrArg (wC ad cy) eσ8.symm)) dX2_write_88 (fun H locs hI => ?_)
    refine lv_goto (tgt := 151) hx hb dX2_write_89 (by decide) ?_
    exact bX2_write_151 hC  hI (lv_sub hl [] rfl) hf
  replace hf := zif_f q hf
  refine lv_aload_n hx hb dX2_write_36 rfl (lv_at hl 0 rfl) ?_
  refine z_get hC hI hinX2_write_X20 1 (wC_e1 ad cy σ) rfl 12 (by decide) (List.mem_cons_of_mem _ zw4_0) rfl dX2_write_37 ?_
  refine lv_iload_n hx hb dX2_write_40 rfl (lv_at hl 2 rfl) ?_
  refine lv_ldc (v := 65532) hx hb hC.2.2.2.1 (hC.2.2.2.2.1 _ (List.mem_cons_of_mem _ zw20_11)) dX2_write_41 ?_
  refine lv_icmp_ne (tgt := 50) hx hb dX2_write_43 (by decide) (fun q => ?_) (fun q => ?_)
  · replace hf := zif_f q hf
    refine lv_iload_n hx hb dX2_write_50 rfl (lv_at hl 2 rfl) ?_
    refine lv_ldc (v := 65533) hx hb hC.2.2.2.1 (hC.2.2.2.2.1 _ (List.mem_cons_of_mem _ zw20_12)) dX2_write_51 ?_
    refine lv_isub hx hb dX2_write_53 ?_
    exact bX2_write_54 hC  hI (lv_sub hl [1] rfl) hf
  replace hf := zif_t q hf
  refine lv_iconst (v := 3) hx hb dX2_write_46 (by decide) ?_
  refine lv_goto (tgt := 54) hx hb dX2_write_47 (by decide) ?_
  exact bX2_write_54 hC  hI (lv_sub hl [1] rfl) hf
set_option maxRecDepth 20000 in
set_option maxHeartbeats 4000000 in
theorem bX2_write {st : Nat → Nat} {p : Program} {l : Launch} {e : Env} {s : State} {m : MethodId} {args : Array Value} {below : List Frame} {meth : Method} {c : Code} {D : va_G} {A : Nat → Prop} {ad : Nat → Nat} {cy : Nat → ClassId} (hC : zC p m c cX2_write 4 s args wzX2_write RX2 meth none)  {res : zSt} {H : Heap} {locs : List Loc} {σ : zSt} {ls : Array Slot} {x1 : Int32} {x2 : Int32} (hI : zI st D (tC cy) (wC ad cy σ) A s H locs) (hl : lv_has ls 4 [(0, .ref (ad 1)), (1, .int x1), (2, .int x2)]) (hf : fX2_write  σ x1 x2 = some res) : W p l e rmX2_write s m args below meth c H locs 0 0 (zQu below args s D (tC cy) (wC ad cy) A res) (F0 m 0 ls []) := by
  have hx := hC.1
  have hb := hC.2.1
  unfold fX2_write at hf
  refine lv_iload_n hx hb dX2_write_0 rfl (lv_at hl 1 rfl) ?_
  refine lv_ldc (v := 65535) hx hb hC.2.2.2.1 (hC.2.2.2.2.1 _ (List.mem_cons_of_mem _ zw17_16)) dX2_write_1 ?_
  refine lv_iand hx hb dX2_write_3 ?_
  refine lv_topi (fun v9 ev9 => ?_)
  replace hf := zbv_use ev9 hf
  refine lv_istore_n (lv' := [(3, .int v9), (0, .ref (ad 1)), (1, .int x1), (2, .int x2)]) hx hb dX2_write_4 rfl hl (by decide) rfl (fun ls hl => ?_)
  refine lv_iload_n hx hb dX2_write_5 rfl (lv_at hl 0 rfl) ?_
  refine lv_ldc (v := 49152) hx hb hC.2.2.2.1 (hC.2.2.2.2.1 _ (List.mem_cons_of_mem _ zw14_18)) dX2_write_6 ?_
  refine lv_icmp_lt (tgt := 22) hx hb dX2_write_8 (by decide) (fun q => ?_) (fun q => ?_)
  · replace hf := zif_t q hf
    exact bX2_write_22 hC  hI (lv_sub hl [1, 3, 0] rfl) hf
  replace hf := zif_f q hf
  refine lv_aload_n hx hb dX2_write_11 rfl (lv_at hl 1 rfl) ?_
  refine z_get hC hI hinX2_write_X20 1 (wC_e1 ad cy σ) rfl 8 (by decide) (List.mem_cons_of_mem _ zw3_19) rfl dX2_write_12 ?_
  refine lv_iload_n hx hb dX2_write_15 rfl (lv_at hl 0 rfl) ?_
  refine lv_sipush (v := 8191) hx hb dX2_write_16 (by decide) ?_
  refine lv_iand hx hb dX2_write_19 ?_
  refine lv_iload_n hx hb dX2_write_20 rfl (lv_at hl 3 rfl) ?_
  obtain ⟨q, hf⟩ := zck_use hf
  obtain ⟨σ10, eσ10⟩ : ∃ z, z = zsi σ 15 ((v9 &&& 8191).toNatClampNeg) x2 := ⟨_, rfl⟩
  replace hf := zbv_use eσ10 hf
  refine z_iast hC hI 15 2 (wC_e15 ad cy σ) (tC_t15 cy) q ((wC_s15 ad cy σ _ _).trans (congrArg (wC ad cy) eσ10.symm)) dX2_write_21 (fun H locs hI => ?_)
  exact bX2_write_22 hC  hI (lv_sub hl [1, 3, 0] rfl) hf
set_option maxRecDepth 20000 in
theorem cX2_write_met (st : Nat → Nat) (l : Launch) (D : va_G) (ad : Nat → Nat) (cy : Nat → ClassId) (σ : zSt) (x1 : Int32) (x2 : Int32) (res : zSt) (hf : fX2_write σ x1 x2 = some res) (sz : Nat) : zMu st l yX2_write wzX2_write rmX2_write [.ref (ad 1), .int x1, .int x2] D (tC cy) (wC ad cy) sz σ res :=
  zMu.of (cc := cX2_write) (maxL := 4) (ret := none) (by decide) rfl (Nat.le_of_ble_eq_true rfl) (fun p e s m args below meth c hC A hI ls hl => bX2_write hC hI hl hf)
theorem hdX2_write : yX2_write.cls = RX2 ∧ yX2_write.cls ≠ "java/lang/invoke/MethodHandle" ∧ yX2_write.cls ≠ "java/lang/invoke/VarHandle" ∧ (parseMethodDescriptor yX2_write.desc).map (fun d => d.parameters.length) = some 2 := by decide +kernel
def rmX2_batteryByte : Room := { frames := 0, cells := 0, slots := 0, locals := 0 }
def wzX2_batteryByte : List Cond := .code yX2_batteryByte cX2_batteryByte 2 (some .int) :: wsL_law
theorem hinX2_batteryByte_X20 : ∀ w ∈ wsX20, w ∈ wzX2_batteryByte := fun w h => List.mem_cons_of_mem _ (inlX2 w h)
def fX2_batteryByte  (σ : zSt) (x1 : Int32) : Option (zSt × Int32) :=
  zck (zin (x1 &&& 32767) 32768) (
  some (σ, zgi σ 17 (x1 &&& 32767).toNatClampNeg))
set_option maxRecDepth 20000 in
set_option maxHeartbeats 4000000 in
theorem bX2_batteryByte {st : Nat → Nat} {p : Program} {l : Launch} {e : Env} {s : State} {m : MethodId} {args : Array Value} {below : List Frame} {meth : Method} {c : Code} {D : va_G} {A : Nat → Prop} {ad : Nat → Nat} {cy : Nat → ClassId} (hC : zC p m c cX2_batteryByte 2 s args wzX2_batteryByte RX2 meth (some .int))  {res : zSt × Int32} {H : Heap} {locs : List Loc} {σ : zSt} {ls : Array Slot} {x1 : Int32} (hI : zI st D (tC cy) (wC ad cy σ) A s H locs) (hl : lv_has ls 2 [(0, .ref (ad 1)), (1, .int x1)]) (hf : fX2_batteryByte  σ x1 = some res) : W p l e rmX2_batteryByte s m args below meth c H locs 0 0 (zQi below args s D (tC cy) (wC ad cy) A res) (F0 m 0 ls []) := by
  have hx := hC.1
  have hb := hC.2.1
  unfold fX2_batteryByte at hf
  refine lv_aload_n hx hb dX2_batteryByte_0 rfl (lv_at hl 0 rfl) ?_
  refine z_get hC hI hinX2_batteryByte_X20 1 (wC_e1 ad cy σ) rfl 10 (by decide) (List.mem_cons_of_mem _ zw3_22) rfl dX2_batteryByte_1 ?_
  refine lv_iload_n hx hb dX2_batteryByte_4 rfl (lv_at hl 1 rfl) ?_
  refine lv_sipush (v := 32767) hx hb dX2_batteryByte_5 (by decide) ?_
  refine lv_iand hx hb dX2_batteryByte_8 ?_
  obtain ⟨q, hf⟩ := zck_use hf
  refine z_iald hC hI 17 4 (wC_e17 ad cy σ) (tC_t17 cy) q dX2_batteryByte_9 ?_
  exact z_ireturn hC hI hf dX2_batteryByte_10
set_option maxRecDepth 20000 in
theorem cX2_batteryByte_met (st : Nat → Nat) (l : Launch) (D : va_G) (ad : Nat → Nat) (cy : Nat → ClassId) (σ : zSt) (x1 : Int32) (res : zSt × Int32) (hf : fX2_batteryByte σ x1 = some res) (sz : Nat) : zMi st l yX2_batteryByte wzX2_batteryByte rmX2_batteryByte [.ref (ad 1), .int x1] D (tC cy) (wC ad cy) sz σ res :=
  zMi.of (cc := cX2_batteryByte) (maxL := 2) (ret := (some .int)) (by decide) rfl (Nat.le_of_ble_eq_true rfl) (fun p e s m args below meth c hC A hI ls hl => bX2_batteryByte hC hI hl hf)
theorem hdX2_batteryByte : yX2_batteryByte.cls = RX2 ∧ yX2_batteryByte.cls ≠ "java/lang/invoke/MethodHandle" ∧ yX2_batteryByte.cls ≠ "java/lang/invoke/VarHandle" ∧ (parseMethodDescriptor yX2_batteryByte.desc).map (fun d => d.parameters.length) = some 1 := by decide +kernel
def rmJ7_fill_53178_k17 : Room := { frames := 0, cells := 0, slots := 0, locals := 0 }
def wzJ7_fill_53178 : List Cond := .code yJ7_fill_53178 cJ7_fill_53178 4 none :: wsL_law
def fJ7_fill_53178_k17_5_body (k5 : zSt → Int32 → Int32 → Int32 → Option (zSt)) (σ : zSt) (x1 : Int32) (x2 : Int32) (x3 : Int32) : Option (zSt) :=
  if x3 ≤ x2 then some σ else
  zck (zin x2 32768) (zbv (zsi σ 17 (x2.toNatClampNeg) x1) (fun σ1 =>
  zbv (x2 + 1) (fun v2 =>
  k5 σ1 x1 v2 x3)))
def fJ7_fill_53178_k17_5  : Nat → zSt → Int32 → Int32 → Int32 → Option (zSt)
  | 0, _, _, _, _ => none
  | n + 1, σ, x1, x2, x3 => fJ7_fill_53178_k17_5_body (fJ7_fill_53178_k17_5  n) σ x1 x2 x3
def fJ7_fill_53178_k17  (σ : zSt) (x1 : Int32) : Option (zSt) :=
  fJ7_fill_53178_k17_5 zfuel σ x1 0 32768
set_option maxRecDepth 20000 in
set_option maxHeartbeats 4000000 in
theorem bJ7_fill_53178_k17_5_body {st : Nat → Nat} {p : Program} {l : Launch} {e : Env} {s : State} {m : MethodId} {args : Array Value} {below : List Frame} {meth : Method} {c : Code} {D : va_G} {A : Nat → Prop} {ad : Nat → Nat} {cy : Nat → ClassId} (hC : zC p m c cJ7_fill_53178 4 s args wzJ7_fill_53178 RJ7 meth none) {k5 : zSt → Int32 → Int32 → Int32 → Option (zSt)} {res : zSt} (hk5 : ∀ (H : Heap) (locs : List Loc) (σ : zSt) (ls : Array Slot) (x1 : Int32) (x2 : Int32) (x3 : Int32), zI st D (tC cy) (wC ad cy σ) A s H locs → lv_has ls 4 [(0, .ref (ad 17)), (1, .int x1), (2, .int x2), (3, .int x3)] → k5 σ x1 x2 x3 = some res → W p l e rmJ7_fill_53178_k17 s m args below meth c H locs 0 0 (zQu below args s D (tC cy) (wC ad cy) A res) (F0 m 5 ls [])) {H : Heap} {locs : List Loc} {σ : zSt} {ls : Array Slot} {x1 : Int32} {x2 : Int32} {x3 : Int32} (hI : zI st D (tC cy) (wC ad cy σ) A s H locs) (hl : lv_has ls 4 [(0, .ref (ad 17)), (1, .int x1), (2, .int x2), (3, .int x3)]) (hf : fJ7_fill_53178_k17_5_body k5 σ x1 x2 x3 = some res) : W p l e rmJ7_fill_53178_k17 s m args below meth c H locs 0 0 (zQu below args s D (tC cy) (wC ad cy) A res) (F0 m 5 ls []) := by
  have hx := hC.1
  have hb := hC.2.1
  unfold fJ7_fill_53178_k17_5_body at hf
  refine lv_iload_n hx hb dJ7_fill_53178_5 rfl (lv_at hl 2 rfl) ?_
  refine lv_iload_n hx hb dJ7_fill_53178_6 rfl (lv_at hl 3 rfl) ?_
  refine lv_icmp_ge (tgt := 20) hx hb dJ7_fill_53178_7 (by decide) (fun q => ?_) (fun q => ?_)
  · replace hf := zif_t q hf
    exact z_return hC hI hf dJ7_fill_53178_20
  replace hf := zif_f q hf
  refine lv_aload_n hx hb dJ7_fill_53178_10 rfl (lv_at hl 0 rfl) ?_
  refine lv_iload_n hx hb dJ7_fill_53178_11 rfl (lv_at hl 2 rfl) ?_
  refine lv_iload_n hx hb dJ7_fill_53178_12 rfl (lv_at hl 1 rfl) ?_
  obtain ⟨q, hf⟩ := zck_use hf
  obtain ⟨σ1, eσ1⟩ : ∃ z, z = zsi σ 17 (x2.toNatClampNeg) x1 := ⟨_, rfl⟩
  replace hf := zbv_use eσ1 hf
  refine z_iast hC hI 17 4 (wC_e17 ad cy σ) (tC_t17 cy) q ((wC_s17 ad cy σ _ _).trans (congrArg (wC ad cy) eσ1.symm)) dJ7_fill_53178_13 (fun H locs hI => ?_)
  obtain ⟨v2, ev2⟩ : ∃ z : Int32, z = x2 + 1 := ⟨_, rfl⟩
  replace hf := zbv_use ev2 hf
  refine lv_iinc (v := v2) (lv' := [(2, .int v2), (0, .ref (ad 17)), (1, .int x1), (3, .int x3)]) hx hb dJ7_fill_53178_14 hl (k := 2) rfl (by rw [ev2]; rfl) (by decide) rfl (fun ls hl => ?_)
  refine lv_goto (tgt := 5) hx hb dJ7_fill_53178_17 (by decide) ?_
  exact hk5 _ _ _ _ _ _ _ hI (lv_sub hl [1, 2, 0, 3] rfl) hf
theorem blJ7_fill_53178_k17_5 {st : Nat → Nat} {p : Program} {l : Launch} {e : Env} {s : State} {m : MethodId} {args : Array Value} {below : List Frame} {meth : Method} {c : Code} {D : va_G} {A : Nat → Prop} {ad : Nat → Nat} {cy : Nat → ClassId} (hC : zC p m c cJ7_fill_53178 4 s args wzJ7_fill_53178 RJ7 meth none)  {res : zSt} : ∀ (n : Nat) (H : Heap) (locs : List Loc) (σ : zSt) (ls : Array Slot) (x1 : Int32) (x2 : Int32) (x3 : Int32), zI st D (tC cy) (wC ad cy σ) A s H locs → lv_has ls 4 [(0, .ref (ad 17)), (1, .int x1), (2, .int x2), (3, .int x3)] → fJ7_fill_53178_k17_5  n σ x1 x2 x3 = some res → W p l e rmJ7_fill_53178_k17 s m args below meth c H locs 0 0 (zQu below args s D (tC cy) (wC ad cy) A res) (F0 m 5 ls []) := by
  intro n
  induction n with
  | zero => intro H locs σ ls x1 x2 x3 hI hl hf; cases hf
  | succ n ih => intro H locs σ ls x1 x2 x3 hI hl hf; exact bJ7_fill_53178_k17_5_body hC ih hI hl hf
set_option maxRecDepth 20000 in
set_option maxHeartbeats 4000000 in
theorem bJ7_fill_53178_k17 {st : Nat → Nat} {p : Program} {l : Launch} {e : Env} {s : State} {m : MethodId} {args : Array Value} {below : List Frame} {meth : Method} {c : Code} {D : va_G} {A : Nat → Prop} {ad : Nat → Nat} {cy : Nat → ClassId} (hC : zC p m c cJ7_fill_53178 4 s args wzJ7_fill_53178 RJ7 meth none)  {res : zSt} {H : Heap} {locs : List Loc} {σ : zSt} {ls : Array Slot} {x1 : Int32} (hI : zI st D (tC cy) (wC ad cy σ) A s H locs) (hl : lv_has ls 4 [(0, .ref (ad 17)), (1, .int x1)]) (hf : fJ7_fill_53178_k17  σ x1 = some res) : W p l e rmJ7_fill_53178_k17 s m args below meth c H locs 0 0 (zQu below args s D (tC cy) (wC ad cy) A res) (F0 m 0 ls []) := by
  have hx := hC.1
  have hb := hC.2.1
  unfold fJ7_fill_53178_k17 at hf
  refine lv_iconst (v := 0) hx hb dJ7_fill_53178_0 (by decide) ?_
  refine lv_istore_n (lv' := [(2, .int 0), (0, .ref (ad 17)), (1, .int x1)]) hx hb dJ7_fill_53178_1 rfl hl (by decide) rfl (fun ls hl => ?_)
  refine lv_aload_n hx hb dJ7_fill_53178_2 rfl (lv_at hl 1 rfl) ?_
  refine z_alen (v := 32768) hC hI 17 4 (wC_e17 ad cy σ) (tC_t17 cy) rfl dJ7_fill_53178_3 ?_
  refine lv_istore_n (lv' := [(3, .int 32768), (2, .int 0), (0, .ref (ad 17)), (1, .int x1)]) hx hb dJ7_fill_53178_4 rfl hl (by decide) rfl (fun ls hl => ?_)
  exact blJ7_fill_53178_k17_5 hC  zfuel _ _ _ _ _ _ _ hI (lv_sub hl [2, 3, 1, 0] rfl) hf
set_option maxRecDepth 20000 in
theorem cJ7_fill_53178_k17_met (st : Nat → Nat) (l : Launch) (D : va_G) (ad : Nat → Nat) (cy : Nat → ClassId) (σ : zSt) (x1 : Int32) (res : zSt) (hf : fJ7_fill_53178_k17 σ x1 = some res) (sz : Nat) : zMu st l yJ7_fill_53178 wzJ7_fill_53178 rmJ7_fill_53178_k17 [.ref (ad 17), .int x1] D (tC cy) (wC ad cy) sz σ res :=
  zMu.of (cc := cJ7_fill_53178) (maxL := 4) (ret := none) (by decide) rfl (Nat.le_of_ble_eq_true rfl) (fun p e s m args below meth c hC A hI ls hl => bJ7_fill_53178_k17 hC hI hl hf)
theorem hdJ7_fill_53178_k17 : yJ7_fill_53178.cls ≠ "java/lang/invoke/MethodHandle" ∧ yJ7_fill_53178.cls ≠ "java/lang/invoke/VarHandle" ∧ (parseMethodDescriptor yJ7_fill_53178.desc).map (fun d => d.parameters.length) = some 2 := by decide +kernel
def rmX2_clearBattery : Room := { frames := 1, cells := 0, slots := 0, locals := 23 }
def wzX2_clearBattery : List Cond := .code yX2_clearBattery cX2_clearBattery 1 none :: wsL_law
theorem hinX2_clearBattery_X20 : ∀ w ∈ wsX20, w ∈ wzX2_clearBattery := fun w h => List.mem_cons_of_mem _ (inlX2 w h)
def fX2_clearBattery  (σ : zSt)  : Option (zSt) :=
  zbu (fJ7_fill_53178_k17 σ 0) (fun σ1 =>
  some σ1)
set_option maxRecDepth 20000 in
set_option maxHeartbeats 4000000 in
theorem bX2_clearBattery {st : Nat → Nat} {p : Program} {l : Launch} {e : Env} {s : State} {m : MethodId} {args : Array Value} {below : List Frame} {meth : Method} {c : Code} {D : va_G} {A : Nat → Prop} {ad : Nat → Nat} {cy : Nat → ClassId} (hC : zC p m c cX2_clearBattery 1 s args wzX2_clearBattery RX2 meth none)  {res : zSt} {H : Heap} {locs : List Loc} {σ : zSt} {ls : Array Slot}  (hI : zI st D (tC cy) (wC ad cy σ) A s H locs) (hl : lv_has ls 1 [(0, .ref (ad 1))]) (hf : fX2_clearBattery  σ  = some res) : W p l e rmX2_clearBattery s m args below meth c H locs 0 0 (zQu below args s D (tC cy) (wC ad cy) A res) (F0 m 0 ls []) := by
  have hx := hC.1
  have hb := hC.2.1
  unfold fX2_clearBattery at hf
  refine lv_aload_n hx hb dX2_clearBattery_0 rfl (lv_at hl 0 rfl) ?_
  refine z_get hC hI hinX2_clearBattery_X20 1 (wC_e1 ad cy σ) rfl 10 (by decide) (List.mem_cons_of_mem _ zw3_22) rfl dX2_clearBattery_1 ?_
  refine lv_iconst (v := 0) hx hb dX2_clearBattery_4 (by decide) ?_
  obtain ⟨σ1, g1, hf⟩ := zbu_use hf
  refine z_callSu (As := [.ref (ad 17), .int 0]) (rest := []) hC hI (cJ7_fill_53178_k17_met st l D ad cy σ 0 _ g1) (zgS zw15_4 zw5_12 zw5_13 zw5_14) rfl ⟨rfl, rfl⟩ 2 hdJ7_fill_53178_k17 ⟨Nat.le_of_ble_eq_true rfl, Nat.le_of_ble_eq_true rfl⟩ rfl hl rfl (Nat.le_of_ble_eq_true rfl) dX2_clearBattery_5 ⟨Nat.zero_le _, Nat.zero_le _⟩ (fun H locs hI => ?_)
  exact z_return hC hI hf dX2_clearBattery_8
set_option maxRecDepth 20000 in
theorem cX2_clearBattery_met (st : Nat → Nat) (l : Launch) (D : va_G) (ad : Nat → Nat) (cy : Nat → ClassId) (σ : zSt)  (res : zSt) (hf : fX2_clearBattery σ  = some res) (sz : Nat) : zMu st l yX2_clearBattery wzX2_clearBattery rmX2_clearBattery [.ref (ad 1)] D (tC cy) (wC ad cy) sz σ res :=
  zMu.of (cc := cX2_clearBattery) (maxL := 1) (ret := none) (by decide) rfl (Nat.le_of_ble_eq_true rfl) (fun p e s m args below meth c hC A hI ls hl => bX2_clearBattery hC hI hl hf)
theorem hdX2_clearBattery : yX2_clearBattery.cls = RX2 ∧ yX2_clearBattery.cls ≠ "java/lang/invoke/MethodHandle" ∧ yX2_clearBattery.cls ≠ "java/lang/invoke/VarHandle" ∧ (parseMethodDescriptor yX2_clearBattery.desc).map (fun d => d.parameters.length) = some 0 := by decide +kernel
def rmJ7_fill_53178_k15 : Room := { frames := 0, cells := 0, slots := 0, locals := 0 }
def fJ7_fill_53178_k15_5_body (k5 : zSt → Int32 → Int32 → Int32 → Option (zSt)) (σ : zSt) (x1 : Int32) (x2 : Int32) (x3 : Int32) : Option (zSt) :=
  if x3 ≤ x2 then some σ else
  zck (zin x2 8192) (zbv (zsi σ 15 (x2.toNatClampNeg) x1) (fun σ1 =>
  zbv (x2 + 1) (fun v2 =>
  k5 σ1 x1 v2 x3)))
def fJ7_fill_53178_k15_5  : Nat → zSt → Int32 → Int32 → Int32 → Option (zSt)
  | 0, _, _, _, _ => none
  | n + 1, σ, x1, x2, x3 => fJ7_fill_53178_k15_5_body (fJ7_fill_53178_k15_5  n) σ x1 x2 x3
def fJ7_fill_53178_k15  (σ : zSt) (x1 : Int32) : Option (zSt) :=
  fJ7_fill_53178_k15_5 zfuel σ x1 0 8192
set_option maxRecDepth 20000 in
set_option maxHeartbeats 4000000 in
theorem bJ7_fill_53178_k15_5_body {st : Nat → Nat} {p : Program} {l : Launch} {e : Env} {s : State} {m : MethodId} {args : Array Value} {below : List Frame} {meth : Method} {c : Code} {D : va_G} {A : Nat → Prop} {ad : Nat → Nat} {cy : Nat → ClassId} (hC : zC p m c cJ7_fill_53178 4 s args wzJ7_fill_53178 RJ7 meth none) {k5 : zSt → Int32 → Int32 → Int32 → Option (zSt)} {res : zSt} (hk5 : ∀ (H : Heap) (locs : List Loc) (σ : zSt) (ls : Array Slot) (x1 : Int32) (x2 : Int32) (x3 : Int32), zI st D (tC cy) (wC ad cy σ) A s H locs → lv_has ls 4 [(0, .ref (ad 15)), (1, .int x1), (2, .int x2), (3, .int x3)] → k5 σ x1 x2 x3 = some res → W p l e rmJ7_fill_53178_k15 s m args below meth c H locs 0 0 (zQu below args s D (tC cy) (wC ad cy) A res) (F0 m 5 ls [])) {H : Heap} {locs : List Loc} {σ : zSt} {ls : Array Slot} {x1 : Int32} {x2 : Int32} {x3 : Int32} (hI : zI st D (tC cy) (wC ad cy σ) A s H locs) (hl : lv_has ls 4 [(0, .ref (ad 15)), (1, .int x1), (2, .int x2), (3, .int x3)]) (hf : fJ7_fill_53178_k15_5_body k5 σ x1 x2 x3 = some res) : W p l e rmJ7_fill_53178_k15 s m args below meth c H locs 0 0 (zQu below args s D (tC cy) (wC ad cy) A res) (F0 m 5 ls []) := by
  have hx := hC.1
  have hb := hC.2.1
  unfold fJ7_fill_53178_k15_5_body at hf
  refine lv_iload_n hx hb dJ7_fill_53178_5 rfl (lv_at hl 2 rfl) ?_
  refine lv_iload_n hx hb dJ7_fill_53178_6 rfl (lv_at hl 3 rfl) ?_
  refine lv_icmp_ge (tgt := 20) hx hb dJ7_fill_53178_7 (by decide) (fun q => ?_) (fun q => ?_)
  · replace hf := zif_t q hf
    exact z_return hC hI hf dJ7_fill_53178_20
  replace hf := zif_f q hf
  refine lv_aload_n hx hb dJ7_fill_53178_10 rfl (lv_at hl 0 rfl) ?_
  refine lv_iload_n hx hb dJ7_fill_53178_11 rfl (lv_at hl 2 rfl) ?_
  refine lv_iload_n hx hb dJ7_fill_53178_12 rfl (lv_at hl 1 rfl) ?_
  obtain ⟨q, hf⟩ := zck_use hf
  obtain ⟨σ1, eσ1⟩ : ∃ z, z = zsi σ 15 (x2.toNatClampNeg) x1 := ⟨_, rfl⟩
  replace hf := zbv_use eσ1 hf
  refine z_iast hC hI 15 2 (wC_e15 ad cy σ) (tC_t15 cy) q ((wC_s15 ad cy σ _ _).trans (congrArg (wC ad cy) eσ1.symm)) dJ7_fill_53178_13 (fun H locs hI => ?_)
  obtain ⟨v2, ev2⟩ : ∃ z : Int32, z = x2 + 1 := ⟨_, rfl⟩
  replace hf := zbv_use ev2 hf
  refine lv_iinc (v := v2) (lv' := [(2, .int v2), (0, .ref (ad 15)), (1, .int x1), (3, .int x3)]) hx hb dJ7_fill_53178_14 hl (k := 2) rfl (by rw [ev2]; rfl) (by decide) rfl (fun ls hl => ?_)
  refine lv_goto (tgt := 5) hx hb dJ7_fill_53178_17 (by decide) ?_
  exact hk5 _ _ _ _ _ _ _ hI (lv_sub hl [1, 2, 0, 3] rfl) hf
theorem blJ7_fill_53178_k15_5 {st : Nat → Nat} {p : Program} {l : Launch} {e : Env} {s : State} {m : MethodId} {args : Array Value} {below : List Frame} {meth : Method} {c : Code} {D : va_G} {A : Nat → Prop} {ad : Nat → Nat} {cy : Nat → ClassId} (hC : zC p m c cJ7_fill_53178 4 s args wzJ7_fill_53178 RJ7 meth none)  {res : zSt} : ∀ (n : Nat) (H : Heap) (locs : List Loc) (σ : zSt) (ls : Array Slot) (x1 : Int32) (x2 : Int32) (x3 : Int32), zI st D (tC cy) (wC ad cy σ) A s H locs → lv_has ls 4 [(0, .ref (ad 15)), (1, .int x1), (2, .int x2), (3, .int x3)] → fJ7_fill_53178_k15_5  n σ x1 x2 x3 = some res → W p l e rmJ7_fill_53178_k15 s m args below meth c H locs 0 0 (zQu below args s D (tC cy) (wC ad cy) A res) (F0 m 5 ls []) := by
  intro n
  induction n with
  | zero => intro H locs σ ls x1 x2 x3 hI hl hf; cases hf
  | succ n ih => intro H locs σ ls x1 x2 x3 hI hl hf; exact bJ7_fill_53178_k15_5_body hC ih hI hl hf
set_option maxRecDepth 20000 in
set_option maxHeartbeats 4000000 in
theorem bJ7_fill_53178_k15 {st : Nat → Nat} {p : Program} {l : Launch} {e : Env} {s : State} {m : MethodId} {args : Array Value} {below : List Frame} {meth : Method} {c : Code} {D : va_G} {A : Nat → Prop} {ad : Nat → Nat} {cy : Nat → ClassId} (hC : zC p m c cJ7_fill_53178 4 s args wzJ7_fill_53178 RJ7 meth none)  {res : zSt} {H : Heap} {locs : List Loc} {σ : zSt} {ls : Array Slot} {x1 : Int32} (hI : zI st D (tC cy) (wC ad cy σ) A s H locs) (hl : lv_has ls 4 [(0, .ref (ad 15)), (1, .int x1)]) (hf : fJ7_fill_53178_k15  σ x1 = some res) : W p l e rmJ7_fill_53178_k15 s m args below meth c H locs 0 0 (zQu below args s D (tC cy) (wC ad cy) A res) (F0 m 0 ls []) := by
  have hx := hC.1
  have hb := hC.2.1
  unfold fJ7_fill_53178_k15 at hf
  refine lv_iconst (v := 0) hx hb dJ7_fill_53178_0 (by decide) ?_
  refine lv_istore_n (lv' := [(2, .int 0), (0, .ref (ad 15)), (1, .int x1)]) hx hb dJ7_fill_53178_1 rfl hl (by decide) rfl (fun ls hl => ?_)
  refine lv_aload_n hx hb dJ7_fill_53178_2 rfl (lv_at hl 1 rfl) ?_
  refine z_alen (v := 8192) hC hI 15 2 (wC_e15 ad cy σ) (tC_t15 cy) rfl dJ7_fill_53178_3 ?_
  refine lv_istore_n (lv' := [(3, .int 8192), (2, .int 0), (0, .ref (ad 15)), (1, .int x1)]) hx hb dJ7_fill_53178_4 rfl hl (by decide) rfl (fun ls hl => ?_)
  exact blJ7_fill_53178_k15_5 hC  zfuel _ _ _ _ _ _ _ hI (lv_sub hl [2, 3, 1, 0] rfl) hf
set_option maxRecDepth 20000 in
theorem cJ7_fill_53178_k15_met (st : Nat → Nat) (l : Launch) (D : va_G) (ad : Nat → Nat) (cy : Nat → ClassId) (σ : zSt) (x1 : Int32) (res : zSt) (hf : fJ7_fill_53178_k15 σ x1 = some res) (sz : Nat) : zMu st l yJ7_fill_53178 wzJ7_fill_53178 rmJ7_fill_53178_k15 [.ref (ad 15), .int x1] D (tC cy) (wC ad cy) sz σ res :=
  zMu.of (cc := cJ7_fill_53178) (maxL := 4) (ret := none) (by decide) rfl (Nat.le_of_ble_eq_true rfl) (fun p e s m args below meth c hC A hI ls hl => bJ7_fill_53178_k15 hC hI hl hf)
theorem hdJ7_fill_53178_k15 : yJ7_fill_53178.cls ≠ "java/lang/invoke/MethodHandle" ∧ yJ7_fill_53178.cls ≠ "java/lang/invoke/VarHandle" ∧ (parseMethodDescriptor yJ7_fill_53178.desc).map (fun d => d.parameters.length) = some 2 := by decide +kernel
def rmX2_clearRam : Room := { frames := 1, cells := 0, slots := 0, locals := 23 }
def wzX2_clearRam : List Cond := .code yX2_clearRam cX2_clearRam 1 none :: wsL_law
theorem hinX2_clearRam_X20 : ∀ w ∈ wsX20, w ∈ wzX2_clearRam := fun w h => List.mem_cons_of_mem _ (inlX2 w h)
def fX2_clearRam  (σ : zSt)  : Option (zSt) :=
  zbu (fJ7_fill_53178_k15 σ 0) (fun σ1 =>
  some σ1)
set_option maxRecDepth 20000 in
set_option maxHeartbeats 4000000 in
theorem bX2_clearRam {st : Nat → Nat} {p : Program} {l : Launch} {e : Env} {s : State} {m : MethodId} {args : Array Value} {below : List Frame} {meth : Method} {c : Code} {D : va_G} {A : Nat → Prop} {ad : Nat → Nat} {cy : Nat → ClassId} (hC : zC p m c cX2_clearRam 1 s args wzX2_clearRam RX2 meth none)  {res : zSt} {H : Heap} {locs : List Loc} {σ : zSt} {ls : Array Slot}  (hI : zI st D (tC cy) (wC ad cy σ) A s H locs) (hl : lv_has ls 1 [(0, .ref (ad 1))]) (hf : fX2_clearRam  σ  = some res) : W p l e rmX2_clearRam s m args below meth c H locs 0 0 (zQu below args s D (tC cy) (wC ad cy) A res) (F0 m 0 ls []) := by
  have hx := hC.1
  have hb := hC.2.1
  unfold fX2_clearRam at hf
  refine lv_aload_n hx hb dX2_clearRam_0 rfl (lv_at hl 0 rfl) ?_
  refine z_get hC hI hinX2_clearRam_X20 1 (wC_e1 ad cy σ) rfl 8 (by decide) (List.mem_cons_of_mem _ zw3_19) rfl dX2_clearRam_1 ?_
  refine lv_iconst (v := 0) hx hb dX2_clearRam_4 (by decide) ?_
  obtain ⟨σ1, g1, hf⟩ := zbu_use hf
  refine z_callSu (As := [.ref (ad 15), .int 0]) (rest := []) hC hI (cJ7_fill_53178_k15_met st l D ad cy σ 0 _ g1) (zgS zw15_4 zw5_12 zw5_13 zw5_14) rfl ⟨rfl, rfl⟩ 2 hdJ7_fill_53178_k15 ⟨Nat.le_of_ble_eq_true rfl, Nat.le_of_ble_eq_true rfl⟩ rfl hl rfl (Nat.le_of_ble_eq_true rfl) dX2_clearRam_5 ⟨Nat.zero_le _, Nat.zero_le _⟩ (fun H locs hI => ?_)
  exact z_return hC hI hf dX2_clearRam_8
set_option maxRecDepth 20000 in
theorem cX2_clearRam_met (st : Nat → Nat) (l : Launch) (D : va_G) (ad : Nat → Nat) (cy : Nat → ClassId) (σ : zSt)  (res : zSt) (hf : fX2_clearRam σ  = some res) (sz : Nat) : zMu st l yX2_clearRam wzX2_clearRam rmX2_clearRam [.ref (ad 1)] D (tC cy) (wC ad cy) sz σ res :=
  zMu.of (cc := cX2_clearRam) (maxL := 1) (ret := none) (by decide) rfl (Nat.le_of_ble_eq_true rfl) (fun p e s m args below meth c hC A hI ls hl => bX2_clearRam hC hI hl hf)
theorem hdX2_clearRam : yX2_clearRam.cls = RX2 ∧ yX2_clearRam.cls ≠ "java/lang/invoke/MethodHandle" ∧ yX2_clearRam.cls ≠ "java/lang/invoke/VarHandle" ∧ (parseMethodDescriptor yX2_clearRam.desc).map (fun d => d.parameters.length) = some 0 := by decide +kernel
def rmX2_clearPages : Room := { frames := 0, cells := 0, slots := 0, locals := 0 }
def wzX2_clearPages : List Cond := .code yX2_clearPages cX2_clearPages 1 none :: wsL_law
theorem hinX2_clearPages_X20 : ∀ w ∈ wsX20, w ∈ wzX2_clearPages := fun w h => List.mem_cons_of_mem _ (inlX2 w h)
def fX2_clearPages_32  (σ : zSt) (s0 : Int32) (s1 : Int32) : Option (zSt) :=
  zck (zin s1 4) (zbv (zsi σ 19 (s1.toNatClampNeg) s0) (fun σ1 =>
  zck (zin 3 4) (zbv (zsi σ1 19 ((3 : Int32).toNatClampNeg) 0) (fun σ2 =>
  some σ2))))
def fX2_clearPages  (σ : zSt)  : Option (zSt) :=
  zck (zin 0 4) (zbv (zsi σ 19 ((0 : Int32).toNatClampNeg) 0) (fun σ3 =>
  zck (zin 1 4) (zbv (zsi σ3 19 ((1 : Int32).toNatClampNeg) 1) (fun σ4 =>
  if (zgi σ4 1 6) = 2 then fX2_clearPages_32 σ4 0 2 else
  fX2_clearPages_32 σ4 2 2))))
set_option maxRecDepth 20000 in
set_option maxHeartbeats 4000000 in
theorem bX2_clearPages_32 {st : Nat → Nat} {p : Program} {l : Launch} {e : Env} {s : State} {m : MethodId} {args : Array Value} {below : List Frame} {meth : Method} {c : Code} {D : va_G} {A : Nat → Prop} {ad : Nat → Nat} {cy : Nat → ClassId} (hC : zC p m c cX2_clearPages 1 s args wzX2_clearPages RX2 meth none)  {res : zSt} {H : Heap} {locs : List Loc} {σ : zSt} {ls : Array Slot} {s0 : Int32} {s1 : Int32} (hI : zI st D (tC cy) (wC ad cy σ) A s H locs) (hl : lv_has ls 1 [(0, .ref (ad 1))]) (hf : fX2_clearPages_32  σ s0 s1 = some res) : W p l e rmX2_clearPages s m args below meth c H locs 0 0 (zQu below args s D (tC cy) (wC ad cy) A res) (F0 m 32 ls [.int s0, .int s1, .ref (ad 19)]) := by
  have hx := hC.1
  have hb := hC.2.1
  unfold fX2_clearPages_32 at hf
  obtain ⟨q, hf⟩ := zck_use hf
  obtain ⟨σ1, eσ1⟩ : ∃ z, z = zsi σ 19 (s1.toNatClampNeg) s0 := ⟨_, rfl⟩
  replace hf := zbv_use eσ1 hf
  refine z_iast hC hI 19 6 (wC_e19 ad cy σ) (tC_t19 cy) q ((wC_s19 ad cy σ _ _).trans (congrArg (wC ad cy) eσ1.symm)) dX2_clearPages_32 (fun H locs hI => ?_)
  refine lv_aload_n hx hb dX2_clearPages_33 rfl (lv_at hl 0 rfl) ?_
  refine z_get hC hI hinX2_clearPages_X20 1 (wC_e1 ad cy σ1) rfl 12 (by decide) (List.mem_cons_of_mem _ zw4_0) rfl dX2_clearPages_34 ?_
  refine lv_iconst (v := 3) hx hb dX2_clearPages_37 (by decide) ?_
  refine lv_iconst (v := 0) hx hb dX2_clearPages_38 (by decide) ?_
  obtain ⟨q, hf⟩ := zck_use hf
  obtain ⟨σ2, eσ2⟩ : ∃ z, z = zsi σ1 19 ((3 : Int32).toNatClampNeg) 0 := ⟨_, rfl⟩
  replace hf := zbv_use eσ2 hf
  refine z_iast hC hI 19 6 (wC_e19 ad cy σ1) (tC_t19 cy) q ((wC_s19 ad cy σ1 _ _).trans (congrArg (wC ad cy) eσ2.symm)) dX2_clearPages_39 (fun H locs hI => ?_)
  exact z_return hC hI hf dX2_clearPages_40
set_option maxRecDepth 20000 in
set_option maxHeartbeats 4000000 in
theorem bX2_clearPages {st : Nat → Nat} {p : Program} {l : Launch} {e : Env} {s : State} {m : MethodId} {args : Array Value} {below : List Frame} {meth : Method} {c : Code} {D : va_G} {A : Nat → Prop} {ad : Nat → Nat} {cy : Nat → ClassId} (hC : zC p m c cX2_clearPages 1 s args wzX2_clearPages RX2 meth none)  {res : zSt} {H : Heap} {locs : List Loc} {σ : zSt} {ls : Array Slot}  (hI : zI st D (tC cy) (wC ad cy σ) A s H locs) (hl : lv_has ls 1 [(0, .ref (ad 1))]) (hf : fX2_clearPages  σ  = some res) : W p l e rmX2_clearPages s m args below meth c H locs 0 0 (zQu below args s D (tC cy) (wC ad cy) A res) (F0 m 0 ls []) := by
  have hx := hC.1
  have hb := hC.2.1
  unfold fX2_clearPages at hf
  refine lv_aload_n hx hb dX2_clearPages_0 rfl (lv_at hl 0 rfl) ?_
  refine z_get hC hI hinX2_clearPages_X20 1 (wC_e1 ad cy σ) rfl 12 (by decide) (List.mem_cons_of_mem _ zw4_0) rfl dX2_clearPages_1 ?_
  refine lv_iconst (v := 0) hx hb dX2_clearPages_4 (by decide) ?_
  refine lv_iconst (v := 0) hx hb dX2_clearPages_5 (by decide) ?_
  obtain ⟨q, hf⟩ := zck_use hf
  obtain ⟨σ3, eσ3⟩ : ∃ z, z = zsi σ 19 ((0 : Int32).toNatClampNeg) 0 := ⟨_, rfl⟩
  replace hf := zbv_use eσ3 hf
  refine z_iast hC hI 19 6 (wC_e19 ad cy σ) (tC_t19 cy) q ((wC_s19 ad cy σ _ _).trans (congrArg (wC ad cy) eσ3.symm)) dX2_clearPages_6 (fun H locs hI => ?_)
  refine lv_aload_n hx hb dX2_clearPages_7 rfl (lv_at hl 0 rfl) ?_
  refine z_get hC hI hinX2_clearPages_X20 1 (wC_e1 ad cy σ3) rfl 12 (by decide) (List.mem_cons_of_mem _ zw4_0) rfl dX2_clearPages_8 ?_
  refine lv_iconst (v := 1) hx hb dX2_clearPages_11 (by decide) ?_
  refine lv_iconst (v := 1) hx hb dX2_clearPages_12 (by decide) ?_
  obtain ⟨q, hf⟩ := zck_use hf
  obtain ⟨σ4, eσ4⟩ : ∃ z, z = zsi σ3 19 ((1 : Int32).toNatClampNeg) 1 := ⟨_, rfl⟩
  replace hf := zbv_use eσ4 hf
  refine z_iast hC hI 19 6 (wC_e19 ad cy σ3) (tC_t19 cy) q ((wC_s19 ad cy σ3 _ _).trans (congrArg (wC ad cy) eσ4.symm)) dX2_clearPages_13 (fun H locs hI => ?_)
  refine lv_aload_n hx hb dX2_clearPages_14 rfl (lv_at hl 0 rfl) ?_
  refine z_get hC hI hinX2_clearPages_X20 1 (wC_e1 ad cy σ4) rfl 12 (by decide) (List.mem_cons_of_mem _ zw4_0) rfl dX2_clearPages_15 ?_
  refine lv_iconst (v := 2) hx hb dX2_clearPages_18 (by decide) ?_
  refine lv_aload_n hx hb dX2_clearPages_19 rfl (lv_at hl 0 rfl) ?_
  refine z_get hC hI hinX2_clearPages_X20 1 (wC_e1 ad cy σ4) rfl 6 (by decide) (List.mem_cons_of_mem _ zw14_3) rfl dX2_clearPages_20 ?_
  refine lv_iconst (v := 2) hx hb dX2_clearPages_23 (by decide) ?_
  refine lv_icmp_ne (tgt := 31) hx hb dX2_clearPages_24 (by decide) (fun q => ?_) (fun q => ?_)
  · replace hf := zif_f q hf
    refine lv_iconst (v := 2) hx hb dX2_clearPages_31 (by decide) ?_
    exact bX2_clearPages_32 hC  hI hl hf
  replace hf := zif_t q hf
  refine lv_iconst (v := 0) hx hb dX2_clearPages_27 (by decide) ?_
  refine lv_goto (tgt := 32) hx hb dX2_clearPages_28 (by decide) ?_
  exact bX2_clearPages_32 hC  hI hl hf
set_option maxRecDepth 20000 in
theorem cX2_clearPages_met (st : Nat → Nat) (l : Launch) (D : va_G) (ad : Nat → Nat) (cy : Nat → ClassId) (σ : zSt)  (res : zSt) (hf : fX2_clearPages σ  = some res) (sz : Nat) : zMu st l yX2_clearPages wzX2_clearPages rmX2_clearPages [.ref (ad 1)] D (tC cy) (wC ad cy) sz σ res :=
  zMu.of (cc := cX2_clearPages) (maxL := 1) (ret := none) (by decide) rfl (Nat.le_of_ble_eq_true rfl) (fun p e s m args below meth c hC A hI ls hl => bX2_clearPages hC hI hl hf)
theorem hdX2_clearPages : yX2_clearPages.cls = RX2 ∧ yX2_clearPages.cls ≠ "java/lang/invoke/MethodHandle" ∧ yX2_clearPages.cls ≠ "java/lang/invoke/VarHandle" ∧ (parseMethodDescriptor yX2_clearPages.desc).map (fun d => d.parameters.length) = some 0 := by decide +kernel
def rmX2_keep : Room := { frames := 1, cells := 0, slots := 0, locals := 64 }
def wzX2_keep : List Cond := .code yX2_keep cX2_keep 1 none :: wsL_law
theorem hinX2_keep_X20 : ∀ w ∈ wsX20, w ∈ wzX2_keep := fun w h => List.mem_cons_of_mem _ (inlX2 w h)
def fX2_keep  (σ : zSt)  : Option (zSt) :=
  zck (zco 0 0 8192 8192 8192) (zbv (zcpi σ 15 16 ((0 : Int32).toNatClampNeg) ((0 : Int32).toNatClampNeg) ((8192 : Int32).toNatClampNeg)) (fun σ1 =>
  zck (zco 0 0 32768 32768 32768) (zbv (zcpi σ1 17 18 ((0 : Int32).toNatClampNeg) ((0 : Int32).toNatClampNeg) ((32768 : Int32).toNatClampNeg)) (fun σ2 =>
  zck (zco 0 0 4 4 4) (zbv (zcpi σ2 19 20 ((0 : Int32).toNatClampNeg) ((0 : Int32).toNatClampNeg) ((4 : Int32).toNatClampNeg)) (fun σ3 =>
  some σ3))))))
set_option maxRecDepth 20000 in
set_option maxHeartbeats 4000000 in
theorem bX2_keep {st : Nat → Nat} {p : Program} {l : Launch} {e : Env} {s : State} {m : MethodId} {args : Array Value} {below : List Frame} {meth : Method} {c : Code} {D : va_G} {A : Nat → Prop} {ad : Nat → Nat} {cy : Nat → ClassId} (hC : zC p m c cX2_keep 1 s args wzX2_keep RX2 meth none)  {res : zSt} {H : Heap} {locs : List Loc} {σ : zSt} {ls : Array Slot}  (hI : zI st D (tC cy) (wC ad cy σ) A s H locs) (hl : lv_has ls 1 [(0, .ref (ad 1))]) (hf : fX2_keep  σ  = some res) : W p l e rmX2_keep s m args below meth c H locs 0 0 (zQu below args s D (tC cy) (wC ad cy) A res) (F0 m 0 ls []) := by
  have hx := hC.1
  have hb := hC.2.1
  unfold fX2_keep at hf
  refine lv_aload_n hx hb dX2_keep_0 rfl (lv_at hl 0 rfl) ?_
  refine z_get hC hI hinX2_keep_X20 1 (wC_e1 ad cy σ) rfl 8 (by decide) (List.mem_cons_of_mem _ zw3_19) rfl dX2_keep_1 ?_
  refine lv_iconst (v := 0) hx hb dX2_keep_4 (by decide) ?_
  refine lv_aload_n hx hb dX2_keep_5 rfl (lv_at hl 0 rfl) ?_
  refine z_get hC hI hinX2_keep_X20 1 (wC_e1 ad cy σ) rfl 9 (by decide) (List.mem_cons_of_mem _ zw3_20) rfl dX2_keep_6 ?_
  refine lv_iconst (v := 0) hx hb dX2_keep_9 (by decide) ?_
  refine lv_sipush (v := 8192) hx hb dX2_keep_10 (by decide) ?_
  obtain ⟨q, hf⟩ := zck_use hf
  obtain ⟨σ1, eσ1⟩ : ∃ z, z = zcpi σ 15 16 ((0 : Int32).toNatClampNeg) ((0 : Int32).toNatClampNeg) ((8192 : Int32).toNatClampNeg) := ⟨_, rfl⟩
  replace hf := zbv_use eσ1 hf
  refine z_cpi hC hI (List.mem_cons_of_mem _ zw80_5) (List.mem_cons_of_mem _ zw80_6) (List.mem_cons_of_mem _ zw80_7) (List.mem_cons_of_mem _ zw80_8) hl 15 16 2 3 (wC_e15 ad cy σ) (wC_e16 ad cy σ) (tC_t15 cy) (tC_t16 cy) q (show _ = wC ad cy σ1 from eσ1 ▸ rfl) (Nat.le_of_ble_eq_true rfl) (Nat.le_of_ble_eq_true rfl) dX2_keep_13 (fun H locs hI => ?_)
  refine lv_aload_n hx hb dX2_keep_16 rfl (lv_at hl 0 rfl) ?_
  refine z_get hC hI hinX2_keep_X20 1 (wC_e1 ad cy σ1) rfl 10 (by decide) (List.mem_cons_of_mem _ zw3_22) rfl dX2_keep_17 ?_
  refine lv_iconst (v := 0) hx hb dX2_keep_20 (by decide) ?_
  refine lv_aload_n hx hb dX2_keep_21 rfl (lv_at hl 0 rfl) ?_
  refine z_get hC hI hinX2_keep_X20 1 (wC_e1 ad cy σ1) rfl 11 (by decide) (List.mem_cons_of_mem _ zw3_23) rfl dX2_keep_22 ?_
  refine lv_iconst (v := 0) hx hb dX2_keep_25 (by decide) ?_
  refine lv_ldc (v := 32768) hx hb hC.2.2.2.1 (hC.2.2.2.2.1 _ (List.mem_cons_of_mem _ zw3_21)) dX2_keep_26 ?_
  obtain ⟨q, hf⟩ := zck_use hf
  obtain ⟨σ2, eσ2⟩ : ∃ z, z = zcpi σ1 17 18 ((0 : Int32).toNatClampNeg) ((0 : Int32).toNatClampNeg) ((32768 : Int32).toNatClampNeg) := ⟨_, rfl⟩
  replace hf := zbv_use eσ2 hf
  refine z_cpi hC hI (List.mem_cons_of_mem _ zw80_5) (List.mem_cons_of_mem _ zw80_6) (List.mem_cons_of_mem _ zw80_7) (List.mem_cons_of_mem _ zw80_8) hl 17 18 4 5 (wC_e17 ad cy σ1) (wC_e18 ad cy σ1) (tC_t17 cy) (tC_t18 cy) q (show _ = wC ad cy σ2 from eσ2 ▸ rfl) (Nat.le_of_ble_eq_true rfl) (Nat.le_of_ble_eq_true rfl) dX2_keep_28 (fun H locs hI => ?_)
  refine lv_aload_n hx hb dX2_keep_31 rfl (lv_at hl 0 rfl) ?_
  refine z_get hC hI hinX2_keep_X20 1 (wC_e1 ad cy σ2) rfl 12 (by decide) (List.mem_cons_of_mem _ zw4_0) rfl dX2_keep_32 ?_
  refine lv_iconst (v := 0) hx hb dX2_keep_35 (by decide) ?_
  refine lv_aload_n hx hb dX2_keep_36 rfl (lv_at hl 0 rfl) ?_
  refine z_get hC hI hinX2_keep_X20 1 (wC_e1 ad cy σ2) rfl 13 (by decide) (List.mem_cons_of_mem _ zw4_1) rfl dX2_keep_37 ?_
  refine lv_iconst (v := 0) hx hb dX2_keep_40 (by decide) ?_
  refine lv_iconst (v := 4) hx hb dX2_keep_41 (by decide) ?_
  obtain ⟨q, hf⟩ := zck_use hf
  obtain ⟨σ3, eσ3⟩ : ∃ z, z = zcpi σ2 19 20 ((0 : Int32).toNatClampNeg) ((0 : Int32).toNatClampNeg) ((4 : Int32).toNatClampNeg) := ⟨_, rfl⟩
  replace hf := zbv_use eσ3 hf
  refine z_cpi hC hI (List.mem_cons_of_mem _ zw80_5) (List.mem_cons_of_mem _ zw80_6) (List.mem_cons_of_mem _ zw80_7) (List.mem_cons_of_mem _ zw80_8) hl 19 20 6 7 (wC_e19 ad cy σ2) (wC_e20 ad cy σ2) (tC_t19 cy) (tC_t20 cy) q (show _ = wC ad cy σ3 from eσ3 ▸ rfl) (Nat.le_of_ble_eq_true rfl) (Nat.le_of_ble_eq_true rfl) dX2_keep_42 (fun H locs hI => ?_)
  exact z_return hC hI hf dX2_keep_45
set_option maxRecDepth 20000 in
theorem cX2_keep_met (st : Nat → Nat) (l : Launch) (D : va_G) (ad : Nat → Nat) (cy : Nat → ClassId) (σ : zSt)  (res : zSt) (hf : fX2_keep σ  = some res) (sz : Nat) : zMu st l yX2_keep wzX2_keep rmX2_keep [.ref (ad 1)] D (tC cy) (wC ad cy) sz σ res :=
  zMu.of (cc := cX2_keep) (maxL := 1) (ret := none) (by decide) rfl (Nat.le_of_ble_eq_true rfl) (fun p e s m args below meth c hC A hI ls hl => bX2_keep hC hI hl hf)
theorem hdX2_keep : yX2_keep.cls = RX2 ∧ yX2_keep.cls ≠ "java/lang/invoke/MethodHandle" ∧ yX2_keep.cls ≠ "java/lang/invoke/VarHandle" ∧ (parseMethodDescriptor yX2_keep.desc).map (fun d => d.parameters.length) = some 0 := by decide +kernel
def rmX2_bringBack : Room := { frames := 1, cells := 0, slots := 0, locals := 64 }
def wzX2_bringBack : List Cond := .code yX2_bringBack cX2_bringBack 1 none :: wsL_law
theorem hinX2_bringBack_X20 : ∀ w ∈ wsX20, w ∈ wzX2_bringBack := fun w h => List.mem_cons_of_mem _ (inlX2 w h)
def fX2_bringBack  (σ : zSt)  : Option (zSt) :=
  zck (zco 0 0 8192 8192 8192) (zbv (zcpi σ 16 15 ((0 : Int32).toNatClampNeg) ((0 : Int32).toNatClampNeg) ((8192 : Int32).toNatClampNeg)) (fun σ1 =>
  zck (zco 0 0 32768 32768 32768) (zbv (zcpi σ1 18 17 ((0 : Int32).toNatClampNeg) ((0 : Int32).toNatClampNeg) ((32768 : Int32).toNatClampNeg)) (fun σ2 =>
  zck (zco 0 0 4 4 4) (zbv (zcpi σ2 20 19 ((0 : Int32).toNatClampNeg) ((0 : Int32).toNatClampNeg) ((4 : Int32).toNatClampNeg)) (fun σ3 =>
  some σ3))))))
set_option maxRecDepth 20000 in
set_option maxHeartbeats 4000000 in
theorem bX2_bringBack {st : Nat → Nat} {p : Program} {l : Launch} {e : Env} {s : State} {m : MethodId} {args : Array Value} {below : List Frame} {meth : Method} {c : Code} {D : va_G} {A : Nat → Prop} {ad : Nat → Nat} {cy : Nat → ClassId} (hC : zC p m c cX2_bringBack 1 s args wzX2_bringBack RX2 meth none)  {res : zSt} {H : Heap} {locs : List Loc} {σ : zSt} {ls : Array Slot}  (hI : zI st D (tC cy) (wC ad cy σ) A s H locs) (hl : lv_has ls 1 [(0, .ref (ad 1))]) (hf : fX2_bringBack  σ  = some res) : W p l e rmX2_bringBack s m args below meth c H locs 0 0 (zQu below args s D (tC cy) (wC ad cy) A res) (F0 m 0 ls []) := by
  have hx := hC.1
  have hb := hC.2.1
  unfold fX2_bringBack at hf
  refine lv_aload_n hx hb dX2_bringBack_0 rfl (lv_at hl 0 rfl) ?_
  refine z_get hC hI hinX2_bringBack_X20 1 (wC_e1 ad cy σ) rfl 9 (by decide) (List.mem_cons_of_mem _ zw3_20) rfl dX2_bringBack_1 ?_
  refine lv_iconst (v := 0) hx hb dX2_bringBack_4 (by decide) ?_
  refine lv_aload_n hx hb dX2_bringBack_5 rfl (lv_at hl 0 rfl) ?_
  refine z_get hC hI hinX2_bringBack_X20 1 (wC_e1 ad cy σ) rfl 8 (by decide) (List.mem_cons_of_mem _ zw3_19) rfl dX2_bringBack_6 ?_
  refine lv_iconst (v := 0) hx hb dX2_bringBack_9 (by decide) ?_
  refine lv_sipush (v := 8192) hx hb dX2_bringBack_10 (by decide) ?_
  obtain ⟨q, hf⟩ := zck_use hf
  obtain ⟨σ1, eσ1⟩ : ∃ z, z = zcpi σ 16 15 ((0 : Int32).toNatClampNeg) ((0 : Int32).toNatClampNeg) ((8192 : Int32).toNatClampNeg) := ⟨_, rfl⟩
  replace hf := zbv_use eσ1 hf
  refine z_cpi hC hI (List.mem_cons_of_mem _ zw80_5) (List.mem_cons_of_mem _ zw80_6) (List.mem_cons_of_mem _ zw80_7) (List.mem_cons_of_mem _ zw80_8) hl 16 15 3 2 (wC_e16 ad cy σ) (wC_e15 ad cy σ) (tC_t16 cy) (tC_t15 cy) q (show _ = wC ad cy σ1 from eσ1 ▸ rfl) (Nat.le_of_ble_eq_true rfl) (Nat.le_of_ble_eq_true rfl) dX2_bringBack_13 (fun H locs hI => ?_)
  refine lv_aload_n hx hb dX2_bringBack_16 rfl (lv_at hl 0 rfl) ?_
  refine z_get hC hI hinX2_bringBack_X20 1 (wC_e1 ad cy σ1) rfl 11 (by decide) (List.mem_cons_of_mem _ zw3_23) rfl dX2_bringBack_17 ?_
  refine lv_iconst (v := 0) hx hb dX2_bringBack_20 (by decide) ?_
  refine lv_aload_n hx hb dX2_bringBack_21 rfl (lv_at hl 0 rfl) ?_
  refine z_get hC hI hinX2_bringBack_X20 1 (wC_e1 ad cy σ1) rfl 10 (by decide) (List.mem_cons_of_mem _ zw3_22) rfl dX2_bringBack_22 ?_
  refine lv_iconst (v := 0) hx hb dX2_bringBack_25 (by decide) ?_
  refine lv_ldc (v := 32768) hx hb hC.2.2.2.1 (hC.2.2.2.2.1 _ (List.mem_cons_of_mem _ zw3_21)) dX2_bringBack_26 ?_
  obtain ⟨q, hf⟩ := zck_use hf
  obtain ⟨σ2, eσ2⟩ : ∃ z, z = zcpi σ1 18 17 ((0 : Int32).toNatClampNeg) ((0 : Int32).toNatClampNeg) ((32768 : Int32).toNatClampNeg) := ⟨_, rfl⟩
  replace hf := zbv_use eσ2 hf
  refine z_cpi hC hI (List.mem_cons_of_mem _ zw80_5) (List.mem_cons_of_mem _ zw80_6) (List.mem_cons_of_mem _ zw80_7) (List.mem_cons_of_mem _ zw80_8) hl 18 17 5 4 (wC_e18 ad cy σ1) (wC_e17 ad cy σ1) (tC_t18 cy) (tC_t17 cy) q (show _ = wC ad cy σ2 from eσ2 ▸ rfl) (Nat.le_of_ble_eq_true rfl) (Nat.le_of_ble_eq_true rfl) dX2_bringBack_28 (fun H locs hI => ?_)
  refine lv_aload_n hx hb dX2_bringBack_31 rfl (lv_at hl 0 rfl) ?_
  refine z_get hC hI hinX2_bringBack_X20 1 (wC_e1 ad cy σ2) rfl 13 (by decide) (List.mem_cons_of_mem _ zw4_1) rfl dX2_bringBack_32 ?_
  refine lv_iconst (v := 0) hx hb dX2_bringBack_35 (by decide) ?_
  refine lv_aload_n hx hb dX2_bringBack_36 rfl (lv_at hl 0 rfl) ?_
  refine z_get hC hI hinX2_bringBack_X20 1 (wC_e1 ad cy σ2) rfl 12 (by decide) (List.mem_cons_of_mem _ zw4_0) rfl dX2_bringBack_37 ?_
  refine lv_iconst (v := 0) hx hb dX2_bringBack_40 (by decide) ?_
  refine lv_iconst (v := 4) hx hb dX2_bringBack_41 (by decide) ?_
  obtain ⟨q, hf⟩ := zck_use hf
  obtain ⟨σ3, eσ3⟩ : ∃ z, z = zcpi σ2 20 19 ((0 : Int32).toNatClampNeg) ((0 : Int32).toNatClampNeg) ((4 : Int32).toNatClampNeg) := ⟨_, rfl⟩
  replace hf := zbv_use eσ3 hf
  refine z_cpi hC hI (List.mem_cons_of_mem _ zw80_5) (List.mem_cons_of_mem _ zw80_6) (List.mem_cons_of_mem _ zw80_7) (List.mem_cons_of_mem _ zw80_8) hl 20 19 7 6 (wC_e20 ad cy σ2) (wC_e19 ad cy σ2) (tC_t20 cy) (tC_t19 cy) q (show _ = wC ad cy σ3 from eσ3 ▸ rfl) (Nat.le_of_ble_eq_true rfl) (Nat.le_of_ble_eq_true rfl) dX2_bringBack_42 (fun H locs hI => ?_)
  exact z_return hC hI hf dX2_bringBack_45
set_option maxRecDepth 20000 in
theorem cX2_bringBack_met (st : Nat → Nat) (l : Launch) (D : va_G) (ad : Nat → Nat) (cy : Nat → ClassId) (σ : zSt)  (res : zSt) (hf : fX2_bringBack σ  = some res) (sz : Nat) : zMu st l yX2_bringBack wzX2_bringBack rmX2_bringBack [.ref (ad 1)] D (tC cy) (wC ad cy) sz σ res :=
  zMu.of (cc := cX2_bringBack) (maxL := 1) (ret := none) (by decide) rfl (Nat.le_of_ble_eq_true rfl) (fun p e s m args below meth c hC A hI ls hl => bX2_bringBack hC hI hl hf)
theorem hdX2_bringBack : yX2_bringBack.cls = RX2 ∧ yX2_bringBack.cls ≠ "java/lang/invoke/MethodHandle" ∧ yX2_bringBack.cls ≠ "java/lang/invoke/VarHandle" ∧ (parseMethodDescriptor yX2_bringBack.desc).map (fun d => d.parameters.length) = some 0 := by decide +kernel
def rmX3_keep : Room := { frames := 1, cells := 0, slots := 0, locals := 64 }
def wzX3_keep : List Cond := .code yX3_keep cX3_keep 1 none :: wsL_law
theorem hinX3_keep_X30 : ∀ w ∈ wsX30, w ∈ wzX3_keep := fun w h => List.mem_cons_of_mem _ (inlX3 w h)
def fX3_keep  (σ : zSt)  : Option (zSt) :=
  zck (zco 0 0 61440 61440 61440) (zbv (zcpi σ 25 26 ((0 : Int32).toNatClampNeg) ((0 : Int32).toNatClampNeg) ((61440 : Int32).toNatClampNeg)) (fun σ1 =>
  some σ1))
set_option maxRecDepth 20000 in
set_option maxHeartbeats 4000000 in
theorem bX3_keep {st : Nat → Nat} {p : Program} {l : Launch} {e : Env} {s : State} {m : MethodId} {args : Array Value} {below : List Frame} {meth : Method} {c : Code} {D : va_G} {A : Nat → Prop} {ad : Nat → Nat} {cy : Nat → ClassId} (hC : zC p m c cX3_keep 1 s args wzX3_keep RX3 meth none)  {res : zSt} {H : Heap} {locs : List Loc} {σ : zSt} {ls : Array Slot}  (hI : zI st D (tC cy) (wC ad cy σ) A s H locs) (hl : lv_has ls 1 [(0, .ref (ad 3))]) (hf : fX3_keep  σ  = some res) : W p l e rmX3_keep s m args below meth c H locs 0 0 (zQu below args s D (tC cy) (wC ad cy) A res) (F0 m 0 ls []) := by
  have hx := hC.1
  have hb := hC.2.1
  unfold fX3_keep at hf
  refine lv_aload_n hx hb dX3_keep_0 rfl (lv_at hl 0 rfl) ?_
  refine z_get hC hI hinX3_keep_X30 3 (wC_e3 ad cy σ) rfl 2 (by decide) (List.mem_cons_of_mem _ zw4_17) rfl dX3_keep_1 ?_
  refine lv_iconst (v := 0) hx hb dX3_keep_4 (by decide) ?_
  refine lv_aload_n hx hb dX3_keep_5 rfl (lv_at hl 0 rfl) ?_
  refine z_get hC hI hinX3_keep_X30 3 (wC_e3 ad cy σ) rfl 3 (by decide) (List.mem_cons_of_mem _ zw4_18) rfl dX3_keep_6 ?_
  refine lv_iconst (v := 0) hx hb dX3_keep_9 (by decide) ?_
  refine lv_aload_n hx hb dX3_keep_10 rfl (lv_at hl 0 rfl) ?_
  refine z_get hC hI hinX3_keep_X30 3 (wC_e3 ad cy σ) rfl 2 (by decide) (List.mem_cons_of_mem _ zw4_17) rfl dX3_keep_11 ?_
  refine z_alen (v := 61440) hC hI 25 12 (wC_e25 ad cy σ) (tC_t25 cy) rfl dX3_keep_14 ?_
  obtain ⟨q, hf⟩ := zck_use hf
  obtain ⟨σ1, eσ1⟩ : ∃ z, z = zcpi σ 25 26 ((0 : Int32).toNatClampNeg) ((0 : Int32).toNatClampNeg) ((61440 : Int32).toNatClampNeg) := ⟨_, rfl⟩
  replace hf := zbv_use eσ1 hf
  refine z_cpi hC hI (List.mem_cons_of_mem _ zw80_18) (List.mem_cons_of_mem _ zw80_6) (List.mem_cons_of_mem _ zw80_7) (List.mem_cons_of_mem _ zw80_8) hl 25 26 12 13 (wC_e25 ad cy σ) (wC_e26 ad cy σ) (tC_t25 cy) (tC_t26 cy) q (show _ = wC ad cy σ1 from eσ1 ▸ rfl) (Nat.le_of_ble_eq_true rfl) (Nat.le_of_ble_eq_true rfl) dX3_keep_15 (fun H locs hI => ?_)
  exact z_return hC hI hf dX3_keep_18
set_option maxRecDepth 20000 in
theorem cX3_keep_met (st : Nat → Nat) (l : Launch) (D : va_G) (ad : Nat → Nat) (cy : Nat → ClassId) (σ : zSt)  (res : zSt) (hf : fX3_keep σ  = some res) (sz : Nat) : zMu st l yX3_keep wzX3_keep rmX3_keep [.ref (ad 3)] D (tC cy) (wC ad cy) sz σ res :=
  zMu.of (cc := cX3_keep) (maxL := 1) (ret := none) (by decide) rfl (Nat.le_of_ble_eq_true rfl) (fun p e s m args below meth c hC A hI ls hl => bX3_keep hC hI hl hf)
theorem hdX3_keep : yX3_keep.cls = RX3 ∧ yX3_keep.cls ≠ "java/lang/invoke/MethodHandle" ∧ yX3_keep.cls ≠ "java/lang/invoke/VarHandle" ∧ (parseMethodDescriptor yX3_keep.desc).map (fun d => d.parameters.length) = some 0 := by decide +kernel
def rmX3_bringBack : Room := { frames := 1, cells := 0, slots := 0, locals := 64 }
def wzX3_bringBack : List Cond := .code yX3_bringBack cX3_bringBack 1 none :: wsL_law
theorem hinX3_bringBack_X30 : ∀ w ∈ wsX30, w ∈ wzX3_bringBack := fun w h => List.mem_cons_of_mem _ (inlX3 w h)
def fX3_bringBack  (σ : zSt)  : Option (zSt) :=
  zck (zco 0 0 61440 61440 61440) (zbv (zcpi σ 26 25 ((0 : Int32).toNatClampNeg) ((0 : Int32).toNatClampNeg) ((61440 : Int32).toNatClampNeg)) (fun σ1 =>
  some σ1))
set_option maxRecDepth 20000 in
set_option maxHeartbeats 4000000 in
theorem bX3_bringBack {st : Nat → Nat} {p : Program} {l : Launch} {e : Env} {s : State} {m : MethodId} {args : Array Value} {below : List Frame} {meth : Method} {c : Code} {D : va_G} {A : Nat → Prop} {ad : Nat → Nat} {cy : Nat → ClassId} (hC : zC p m c cX3_bringBack 1 s args wzX3_bringBack RX3 meth none)  {res : zSt} {H : Heap} {locs : List Loc} {σ : zSt} {ls : Array Slot}  (hI : zI st D (tC cy) (wC ad cy σ) A s H locs) (hl : lv_has ls 1 [(0, .ref (ad 3))]) (hf : fX3_bringBack  σ  = some res) : W p l e rmX3_bringBack s m args below meth c H locs 0 0 (zQu below args s D (tC cy) (wC ad cy) A res) (F0 m 0 ls []) := by
  have hx := hC.1
  have hb := hC.2.1
  unfold fX3_bringBack at hf
  refine lv_aload_n hx hb dX3_bringBack_0 rfl (lv_at hl 0 rfl) ?_
  refine z_get hC hI hinX3_bringBack_X30 3 (wC_e3 ad cy σ) rfl 3 (by decide) (List.mem_cons_of_mem _ zw4_18) rfl dX3_bringBack_1 ?_
  refine lv_iconst (v := 0) hx hb dX3_bringBack_4 (by decide) ?_
  refine lv_aload_n hx hb dX3_bringBack_5 rfl (lv_at hl 0 rfl) ?_
  refine z_get hC hI hinX3_bringBack_X30 3 (wC_e3 ad cy σ) rfl 2 (by decide) (List.mem_cons_of_mem _ zw4_17) rfl dX3_bringBack_6 ?_
  refine lv_iconst (v := 0) hx hb dX3_bringBack_9 (by decide) ?_
  refine lv_aload_n hx hb dX3_bringBack_10 rfl (lv_at hl 0 rfl) ?_
  refine z_get hC hI hinX3_bringBack_X30 3 (wC_e3 ad cy σ) rfl 2 (by decide) (List.mem_cons_of_mem _ zw4_17) rfl dX3_bringBack_11 ?_
  refine z_alen (v := 61440) hC hI 25 12 (wC_e25 ad cy σ) (tC_t25 cy) rfl dX3_bringBack_14 ?_
  obtain ⟨q, hf⟩ := zck_use hf
  obtain ⟨σ1, eσ1⟩ : ∃ z, z = zcpi σ 26 25 ((0 : Int32).toNatClampNeg) ((0 : Int32).toNatClampNeg) ((61440 : Int32).toNatClampNeg) := ⟨_, rfl⟩
  replace hf := zbv_use eσ1 hf
  refine z_cpi hC hI (List.mem_cons_of_mem _ zw80_18) (List.mem_cons_of_mem _ zw80_6) (List.mem_cons_of_mem _ zw80_7) (List.mem_cons_of_mem _ zw80_8) hl 26 25 13 12 (wC_e26 ad cy σ) (wC_e25 ad cy σ) (tC_t26 cy) (tC_t25 cy) q (show _ = wC ad cy σ1 from eσ1 ▸ rfl) (Nat.le_of_ble_eq_true rfl) (Nat.le_of_ble_eq_true rfl) dX3_bringBack_15 (fun H locs hI => ?_)
  exact z_return hC hI hf dX3_bringBack_18
set_option maxRecDepth 20000 in
theorem cX3_bringBack_met (st : Nat → Nat) (l : Launch) (D : va_G) (ad : Nat → Nat) (cy : Nat → ClassId) (σ : zSt)  (res : zSt) (hf : fX3_bringBack σ  = some res) (sz : Nat) : zMu st l yX3_bringBack wzX3_bringBack rmX3_bringBack [.ref (ad 3)] D (tC cy) (wC ad cy) sz σ res :=
  zMu.of (cc := cX3_bringBack) (maxL := 1) (ret := none) (by decide) rfl (Nat.le_of_ble_eq_true rfl) (fun p e s m args below meth c hC A hI ls hl => bX3_bringBack hC hI hl hf)
theorem hdX3_bringBack : yX3_bringBack.cls = RX3 ∧ yX3_bringBack.cls ≠ "java/lang/invoke/MethodHandle" ∧ yX3_bringBack.cls ≠ "java/lang/invoke/VarHandle" ∧ (parseMethodDescriptor yX3_bringBack.desc).map (fun d => d.parameters.length) = some 0 := by decide +kernel
def rmX3_width : Room := { frames := 0, cells := 0, slots := 0, locals := 0 }
def wzX3_width : List Cond := .code yX3_width cX3_width 1 (some .int) :: wsL_law
theorem hinX3_width_X30 : ∀ w ∈ wsX30, w ∈ wzX3_width := fun w h => List.mem_cons_of_mem _ (inlX3 w h)
def fX3_width_16  (σ : zSt) (s0 : Int32) : Option (zSt × Int32) :=
  some (σ, s0)
def fX3_width  (σ : zSt)  : Option (zSt × Int32) :=
  if (zgi σ 3 1) = 0 then fX3_width_16 σ 256 else
  fX3_width_16 σ 160
set_option maxRecDepth 20000 in
set_option maxHeartbeats 4000000 in
theorem bX3_width_16 {st : Nat → Nat} {p : Program} {l : Launch} {e : Env} {s : State} {m : MethodId} {args : Array Value} {below : List Frame} {meth : Method} {c : Code} {D : va_G} {A : Nat → Prop} {ad : Nat → Nat} {cy : Nat → ClassId} (hC : zC p m c cX3_width 1 s args wzX3_width RX3 meth (some .int))  {res : zSt × Int32} {H : Heap} {locs : List Loc} {σ : zSt} {ls : Array Slot} {s0 : Int32} (hI : zI st D (tC cy) (wC ad cy σ) A s H locs) (hl : lv_has ls 1 []) (hf : fX3_width_16  σ s0 = some res) : W p l e rmX3_width s m args below meth c H locs 0 0 (zQi below args s D (tC cy) (wC ad cy) A res) (F0 m 16 ls [.int s0]) := by
  have hx := hC.1
  have hb := hC.2.1
  unfold fX3_width_16 at hf
  exact z_ireturn hC hI hf dX3_width_16
set_option maxRecDepth 20000 in
set_option maxHeartbeats 4000000 in
theorem bX3_width {st : Nat → Nat} {p : Program} {l : Launch} {e : Env} {s : State} {m : MethodId} {args : Array Value} {below : List Frame} {meth : Method} {c : Code} {D : va_G} {A : Nat → Prop} {ad : Nat → Nat} {cy : Nat → ClassId} (hC : zC p m c cX3_width 1 s args wzX3_width RX3 meth (some .int))  {res : zSt × Int32} {H : Heap} {locs : List Loc} {σ : zSt} {ls : Array Slot}  (hI : zI st D (tC cy) (wC ad cy σ) A s H locs) (hl : lv_has ls 1 [(0, .ref (ad 3))]) (hf : fX3_width  σ  = some res) : W p l e rmX3_width s m args below meth c H locs 0 0 (zQi below args s D (tC cy) (wC ad cy) A res) (F0 m 0 ls []) := by
  have hx := hC.1
  have hb := hC.2.1
  unfold fX3_width at hf
  refine lv_aload_n hx hb dX3_width_0 rfl (lv_at hl 0 rfl) ?_
  refine z_get hC hI hinX3_width_X30 3 (wC_e3 ad cy σ) rfl 1 (by decide) (List.mem_cons_of_mem _ zw4_23) rfl dX3_width_1 ?_
  refine lv_if_eq (tgt := 13) hx hb dX3_width_4 (by decide) (fun q => ?_) (fun q => ?_)
  · replace hf := zif_t q hf
    refine lv_sipush (v := 256) hx hb dX3_width_13 (by decide) ?_
    exact bX3_width_16 hC  hI (lv_sub hl [] rfl) hf
  replace hf := zif_f q hf
  refine lv_sipush (v := 160) hx hb dX3_width_7 (by decide) ?_
  refine lv_goto (tgt := 16) hx hb dX3_width_10 (by decide) ?_
  exact bX3_width_16 hC  hI (lv_sub hl [] rfl) hf
set_option maxRecDepth 20000 in
theorem cX3_width_met (st : Nat → Nat) (l : Launch) (D : va_G) (ad : Nat → Nat) (cy : Nat → ClassId) (σ : zSt)  (res : zSt × Int32) (hf : fX3_width σ  = some res) (sz : Nat) : zMi st l yX3_width wzX3_width rmX3_width [.ref (ad 3)] D (tC cy) (wC ad cy) sz σ res :=
  zMi.of (cc := cX3_width) (maxL := 1) (ret := (some .int)) (by decide) rfl (Nat.le_of_ble_eq_true rfl) (fun p e s m args below meth c hC A hI ls hl => bX3_width hC hI hl hf)
theorem hdX3_width : yX3_width.cls = RX3 ∧ yX3_width.cls ≠ "java/lang/invoke/MethodHandle" ∧ yX3_width.cls ≠ "java/lang/invoke/VarHandle" ∧ (parseMethodDescriptor yX3_width.desc).map (fun d => d.parameters.length) = some 0 := by decide +kernel
def rmX9_height : Room := { frames := 0, cells := 0, slots := 0, locals := 0 }
def wzX9_height : List Cond := .code yX9_height cX9_height 1 (some .int) :: wsL_law
theorem hinX9_height_X90 : ∀ w ∈ wsX90, w ∈ wzX9_height := fun w h => List.mem_cons_of_mem _ (inlX9 w h)
def fX9_height  (σ : zSt)  : Option (zSt × Int32) :=
  zck (zin 0 96) (
  if ((zgi σ 23 (0 : Int32).toNatClampNeg) &&& 6) = 6 then zck (zin 1 96) (
  if ((zgi σ 23 (1 : Int32).toNatClampNeg) &&& 24) = 8 then some (σ, 240) else
  if ((zgi σ 23 (1 : Int32).toNatClampNeg) &&& 24) = 16 then some (σ, 224) else
  some (σ, 192)) else
  some (σ, 192))
set_option maxRecDepth 20000 in
set_option maxHeartbeats 4000000 in
theorem bX9_height {st : Nat → Nat} {p : Program} {l : Launch} {e : Env} {s : State} {m : MethodId} {args : Array Value} {below : List Frame} {meth : Method} {c : Code} {D : va_G} {A : Nat → Prop} {ad : Nat → Nat} {cy : Nat → ClassId} (hC : zC p m c cX9_height 1 s args wzX9_height RX9 meth (some .int))  {res : zSt × Int32} {H : Heap} {locs : List Loc} {σ : zSt} {ls : Array Slot}  (hI : zI st D (tC cy) (wC ad cy σ) A s H locs) (hl : lv_has ls 1 [(0, .ref (ad 2))]) (hf : fX9_height  σ  = some res) : W p l e rmX9_height s m args below meth c H locs 0 0 (zQi below args s D (tC cy) (wC ad cy) A res) (F0 m 0 ls []) := by
  have hx := hC.1
  have hb := hC.2.1
  unfold fX9_height at hf
  refine lv_aload_n hx hb dX9_height_0 rfl (lv_at hl 0 rfl) ?_
  refine z_get hC hI hinX9_height_X90 2 (wC_e2 ad cy σ) rfl 4 (by decide) (List.mem_cons_of_mem _ zw4_8) rfl dX9_height_1 ?_
  refine lv_iconst (v := 0) hx hb dX9_height_4 (by decide) ?_
  obtain ⟨q, hf⟩ := zck_use hf
  refine z_iald hC hI 23 10 (wC_e23 ad cy σ) (tC_t23 cy) q dX9_height_5 ?_
  refine lv_bipush (v := 6) hx hb dX9_height_6 (by decide) ?_
  refine lv_iand hx hb dX9_height_8 ?_
  refine lv_bipush (v := 6) hx hb dX9_height_9 (by decide) ?_
  refine lv_icmp_eq (tgt := 18) hx hb dX9_height_11 (by decide) (fun q => ?_) (fun q => ?_)
  · replace hf := zif_t q hf
    refine lv_aload_n hx hb dX9_height_18 rfl (lv_at hl 0 rfl) ?_
    refine z_get hC hI hinX9_height_X90 2 (wC_e2 ad cy σ) rfl 4 (by decide) (List.mem_cons_of_mem _ zw4_8) rfl dX9_height_19 ?_
    refine lv_iconst (v := 1) hx hb dX9_height_22 (by decide) ?_
    obtain ⟨q, hf⟩ := zck_use hf
    refine z_iald hC hI 23 10 (wC_e23 ad cy σ) (tC_t23 cy) q dX9_height_23 ?_
    refine lv_bipush (v := 24) hx hb dX9_height_24 (by decide) ?_
    refine lv_iand hx hb dX9_height_26 ?_
    by_cases q0 : ((zgi σ 23 (1 : Int32).toNatClampNeg) &&& 24) = 8
    · replace hf := zif_t q0 hf
      refine lv_lookup (off := 29) (tgt := 56) hx hb dX9_height_27 (by decide) (by rw [q0] <;> rfl) (by decide) ?_
      refine lv_sipush (v := 240) hx hb dX9_height_56 (by decide) ?_
      exact z_ireturn hC hI hf dX9_height_59
    replace hf := zif_f q0 hf
    by_cases q1 : ((zgi σ 23 (1 : Int32).toNatClampNeg) &&& 24) = 16
    · replace hf := zif_t q1 hf
      refine lv_lookup (off := 25) (tgt := 52) hx hb dX9_height_27 (by decide) (by rw [q1] <;> rfl) (by decide) ?_
      refine lv_sipush (v := 224) hx hb dX9_height_52 (by decide) ?_
      exact z_ireturn hC hI hf dX9_height_55
    replace hf := zif_f q1 hf
    refine lv_lookup (off := 33) (tgt := 60) hx hb dX9_height_27 (by decide) (by show Op.lookupswitch.offset [(8, 29), (16, 25)] _ _ = _; rw [lv_osw q0 (by decide), lv_osw q1 (by decide)] <;> rfl) (by decide) ?_
    refine lv_sipush (v := 192) hx hb dX9_height_60 (by decide) ?_
    exact z_ireturn hC hI hf dX9_height_63
  replace hf := zif_f q hf
  refine lv_sipush (v := 192) hx hb dX9_height_14 (by decide) ?_
  exact z_ireturn hC hI hf dX9_height_17
set_option maxRecDepth 20000 in
theorem cX9_height_met (st : Nat → Nat) (l : Launch) (D : va_G) (ad : Nat → Nat) (cy : Nat → ClassId) (σ : zSt)  (res : zSt × Int32) (hf : fX9_height σ  = some res) (sz : Nat) : zMi st l yX9_height wzX9_height rmX9_height [.ref (ad 2)] D (tC cy) (wC ad cy) sz σ res :=
  zMi.of (cc := cX9_height) (maxL := 1) (ret := (some .int)) (by decide) rfl (Nat.le_of_ble_eq_true rfl) (fun p e s m args below meth c hC A hI ls hl => bX9_height hC hI hl hf)
theorem hdX9_height : yX9_height.cls = RX9 ∧ yX9_height.cls ≠ "java/lang/invoke/MethodHandle" ∧ yX9_height.cls ≠ "java/lang/invoke/VarHandle" ∧ (parseMethodDescriptor yX9_height.desc).map (fun d => d.parameters.length) = some 0 := by decide +kernel
def rmX3_height : Room := { frames := 1, cells := 0, slots := 0, locals := 20 }
def wzX3_height : List Cond := .code yX3_height cX3_height 1 (some .int) :: wsL_law
theorem hinX3_height_X30 : ∀ w ∈ wsX30, w ∈ wzX3_height := fun w h => List.mem_cons_of_mem _ (inlX3 w h)
def fX3_height_20  (σ : zSt) (s0 : Int32) : Option (zSt × Int32) :=
  some (σ, s0)
def fX3_height  (σ : zSt)  : Option (zSt × Int32) :=
  if (zgi σ 3 1) = 0 then zbi (fX9_height σ ) (fun σ1 v2 =>
  fX3_height_20 σ1 v2) else
  fX3_height_20 σ 144
set_option maxRecDepth 20000 in
set_option maxHeartbeats 4000000 in
theorem bX3_height_20 {st : Nat → Nat} {p : Program} {l : Launch} {e : Env} {s : State} {m : MethodId} {args : Array Value} {below : List Frame} {meth : Method} {c : Code} {D : va_G} {A : Nat → Prop} {ad : Nat → Nat} {cy : Nat → ClassId} (hC : zC p m c cX3_height 1 s args wzX3_height RX3 meth (some .int))  {res : zSt × Int32} {H : Heap} {locs : List Loc} {σ : zSt} {ls : Array Slot} {s0 : Int32} (hI : zI st D (tC cy) (wC ad cy σ) A s H locs) (hl : lv_has ls 1 []) (hf : fX3_height_20  σ s0 = some res) : W p l e rmX3_height s m args below meth c H locs 0 0 (zQi below args s D (tC cy) (wC ad cy) A res) (F0 m 20 ls [.int s0]) := by
  have hx := hC.1
  have hb := hC.2.1
  unfold fX3_height_20 at hf
  exact z_ireturn hC hI hf dX3_height_20
set_option maxRecDepth 20000 in
set_option maxHeartbeats 4000000 in
theorem bX3_height {st : Nat → Nat} {p : Program} {l : Launch} {e : Env} {s : State} {m : MethodId} {args : Array Value} {below : List Frame} {meth : Method} {c : Code} {D : va_G} {A : Nat → Prop} {ad : Nat → Nat} {cy : Nat → ClassId} (hC : zC p m c cX3_height 1 s args wzX3_height RX3 meth (some .int))  {res : zSt × Int32} {H : Heap} {locs : List Loc} {σ : zSt} {ls : Array Slot}  (hI : zI st D (tC cy) (wC ad cy σ) A s H locs) (hl : lv_has ls 1 [(0, .ref (ad 3))]) (hf : fX3_height  σ  = some res) : W p l e rmX3_height s m args below meth c H locs 0 0 (zQi below args s D (tC cy) (wC ad cy) A res) (F0 m 0 ls []) := by
  have hx := hC.1
  have hb := hC.2.1
  unfold fX3_height at hf
  refine lv_aload_n hx hb dX3_height_0 rfl (lv_at hl 0 rfl) ?_
  refine z_get hC hI hinX3_height_X30 3 (wC_e3 ad cy σ) rfl 1 (by decide) (List.mem_cons_of_mem _ zw4_23) rfl dX3_height_1 ?_
  refine lv_if_eq (tgt := 13) hx hb dX3_height_4 (by decide) (fun q => ?_) (fun q => ?_)
  · replace hf := zif_t q hf
    refine lv_aload_n hx hb dX3_height_13 rfl (lv_at hl 0 rfl) ?_
    refine z_get hC hI hinX3_height_X30 3 (wC_e3 ad cy σ) rfl 0 (by decide) (List.mem_cons_of_mem _ zw4_22) rfl dX3_height_14 ?_
    obtain ⟨σ1, v2, g1, hf⟩ := zbi_use hf
    refine z_callVi (As := []) (rest := []) hC hI (cX9_height_met st l D ad cy σ  _ g1) (zgV zw36_9 zw25_17 zw25_18 zw2_1 zw25_19) rfl ⟨rfl, rfl⟩ 0 hdX9_height ⟨Nat.le_of_ble_eq_true rfl, Nat.le_of_ble_eq_true rfl⟩ rfl rfl (wC_e2 ad cy σ) rfl hl rfl (Nat.le_of_ble_eq_true rfl) dX3_height_17 ⟨Nat.zero_le _, Nat.zero_le _⟩ (fun H locs hI => ?_)
    exact bX3_height_20 hC  hI (lv_sub hl [] rfl) hf
  replace hf := zif_f q hf
  refine lv_sipush (v := 144) hx hb dX3_height_7 (by decide) ?_
  refine lv_goto (tgt := 20) hx hb dX3_height_10 (by decide) ?_
  exact bX3_height_20 hC  hI (lv_sub hl [] rfl) hf
set_option maxRecDepth 20000 in
theorem cX3_height_met (st : Nat → Nat) (l : Launch) (D : va_G) (ad : Nat → Nat) (cy : Nat → ClassId) (σ : zSt)  (res : zSt × Int32) (hf : fX3_height σ  = some res) (sz : Nat) : zMi st l yX3_height wzX3_height rmX3_height [.ref (ad 3)] D (tC cy) (wC ad cy) sz σ res :=
  zMi.of (cc := cX3_height) (maxL := 1) (ret := (some .int)) (by decide) rfl (Nat.le_of_ble_eq_true rfl) (fun p e s m args below meth c hC A hI ls hl => bX3_height hC hI hl hf)
theorem hdX3_height : yX3_height.cls = RX3 ∧ yX3_height.cls ≠ "java/lang/invoke/MethodHandle" ∧ yX3_height.cls ≠ "java/lang/invoke/VarHandle" ∧ (parseMethodDescriptor yX3_height.desc).map (fun d => d.parameters.length) = some 0 := by decide +kernel
def rmX3_placeOf : Room := { frames := 0, cells := 0, slots := 0, locals := 0 }
def wzX3_placeOf : List Cond := .code yX3_placeOf cX3_placeOf 2 (some .int) :: wsL_law
theorem hinX3_placeOf_X30 : ∀ w ∈ wsX30, w ∈ wzX3_placeOf := fun w h => List.mem_cons_of_mem _ (inlX3 w h)
def fX3_placeOf_26  (σ : zSt) (s0 : Int32) : Option (zSt × Int32) :=
  some (σ, s0)
def fX3_placeOf  (σ : zSt) (x1 : Int32) : Option (zSt × Int32) :=
  if (zgi σ 3 1) = 0 then fX3_placeOf_26 σ (x1 * 256) else
  fX3_placeOf_26 σ (((x1 + 24) * 256) + 48)
set_option maxRecDepth 20000 in
set_option maxHeartbeats 4000000 in
theorem bX3_placeOf_26 {st : Nat → Nat} {p : Program} {l : Launch} {e : Env} {s : State} {m : MethodId} {args : Array Value} {below : List Frame} {meth : Method} {c : Code} {D : va_G} {A : Nat → Prop} {ad : Nat → Nat} {cy : Nat → ClassId} (hC : zC p m c cX3_placeOf 2 s args wzX3_placeOf RX3 meth (some .int))  {res : zSt × Int32} {H : Heap} {locs : List Loc} {σ : zSt} {ls : Array Slot} {s0 : Int32} (hI : zI st D (tC cy) (wC ad cy σ) A s H locs) (hl : lv_has ls 2 []) (hf : fX3_placeOf_26  σ s0 = some res) : W p l e rmX3_placeOf s m args below meth c H locs 0 0 (zQi below args s D (tC cy) (wC ad cy) A res) (F0 m 26 ls [.int s0]) := by
  have hx := hC.1
  have hb := hC.2.1
  unfold fX3_placeOf_26 at hf
  exact z_ireturn hC hI hf dX3_placeOf_26
set_option maxRecDepth 20000 in
set_option maxHeartbeats 4000000 in
theorem bX3_placeOf {st : Nat → Nat} {p : Program} {l : Launch} {e : Env} {s : State} {m : MethodId} {args : Array Value} {below : List Frame} {meth : Method} {c : Code} {D : va_G} {A : Nat → Prop} {ad : Nat → Nat} {cy : Nat → ClassId} (hC : zC p m c cX3_placeOf 2 s args wzX3_placeOf RX3 meth (some .int))  {res : zSt × Int32} {H : Heap} {locs : List Loc} {σ : zSt} {ls : Array Slot} {x1 : Int32} (hI : zI st D (tC cy) (wC ad cy σ) A s H locs) (hl : lv_has ls 2 [(0, .ref (ad 3)), (1, .int x1)]) (hf : fX3_placeOf  σ x1 = some res) : W p l e rmX3_placeOf s m args below meth c H locs 0 0 (zQi below args s D (tC cy) (wC ad cy) A res) (F0 m 0 ls []) := by
  have hx := hC.1
  have hb := hC.2.1
  unfold fX3_placeOf at hf
  refine lv_aload_n hx hb dX3_placeOf_0 rfl (lv_at hl 0 rfl) ?_
  refine z_get hC hI hinX3_placeOf_X30 3 (wC_e3 ad cy σ) rfl 1 (by decide) (List.mem_cons_of_mem _ zw4_23) rfl dX3_placeOf_1 ?_
  refine lv_if_eq (tgt := 21) hx hb dX3_placeOf_4 (by decide) (fun q => ?_) (fun q => ?_)
  · replace hf := zif_t q hf
    refine lv_iload_n hx hb dX3_placeOf_21 rfl (lv_at hl 1 rfl) ?_
    refine lv_sipush (v := 256) hx hb dX3_placeOf_22 (by decide) ?_
    refine lv_imul hx hb dX3_placeOf_25 ?_
    exact bX3_placeOf_26 hC  hI (lv_sub hl [] rfl) hf
  replace hf := zif_f q hf
  refine lv_iload_n hx hb dX3_placeOf_7 rfl (lv_at hl 1 rfl) ?_
  refine lv_bipush (v := 24) hx hb dX3_placeOf_8 (by decide) ?_
  refine lv_iadd hx hb dX3_placeOf_10 ?_
  refine lv_sipush (v := 256) hx hb dX3_placeOf_11 (by decide) ?_
  refine lv_imul hx hb dX3_placeOf_14 ?_
  refine lv_bipush (v := 48) hx hb dX3_placeOf_15 (by decide) ?_
  refine lv_iadd hx hb dX3_placeOf_17 ?_
  refine lv_goto (tgt := 26) hx hb dX3_placeOf_18 (by decide) ?_
  exact bX3_placeOf_26 hC  hI (lv_sub hl [] rfl) hf
set_option maxRecDepth 20000 in
theorem cX3_placeOf_met (st : Nat → Nat) (l : Launch) (D : va_G) (ad : Nat → Nat) (cy : Nat → ClassId) (σ : zSt) (x1 : Int32) (res : zSt × Int32) (hf : fX3_placeOf σ x1 = some res) (sz : Nat) : zMi st l yX3_placeOf wzX3_placeOf rmX3_placeOf [.ref (ad 3), .int x1] D (tC cy) (wC ad cy) sz σ res :=
  zMi.of (cc := cX3_placeOf) (maxL := 2) (ret := (some .int)) (by decide) rfl (Nat.le_of_ble_eq_true rfl) (fun p e s m args below meth c hC A hI ls hl => bX3_placeOf hC hI hl hf)
theorem hdX3_placeOf : yX3_placeOf.cls = RX3 ∧ yX3_placeOf.cls ≠ "java/lang/invoke/MethodHandle" ∧ yX3_placeOf.cls ≠ "java/lang/invoke/VarHandle" ∧ (parseMethodDescriptor yX3_placeOf.desc).map (fun d => d.parameters.length) = some 1 := by decide +kernel
def rmX3_dotAt : Room := { frames := 1, cells := 0, slots := 0, locals := 21 }
def wzX3_dotAt : List Cond := .code yX3_dotAt cX3_dotAt 4 (some .int) :: wsL_law
theorem hinX3_dotAt_X30 : ∀ w ∈ wsX30, w ∈ wzX3_dotAt := fun w h => List.mem_cons_of_mem _ (inlX3 w h)
def fX3_dotAt_31  (σ : zSt) (s0 : Int32) : Option (zSt × Int32) :=
  some (σ, s0)
def fX3_dotAt_30  (σ : zSt)  : Option (zSt × Int32) :=
  fX3_dotAt_31 σ 0
def fX3_dotAt  (σ : zSt) (x1 : Int32) (x2 : Int32) : Option (zSt × Int32) :=
  zbi (fX3_placeOf σ x2) (fun σ1 v2 =>
  zbv (v2 + x1) (fun v3 =>
  if v3 < 0 then fX3_dotAt_30 σ1 else
  if 61440 ≤ v3 then fX3_dotAt_30 σ1 else
  zck (zin v3 61440) (
  fX3_dotAt_31 σ1 (zgi σ1 25 v3.toNatClampNeg))))
set_option maxRecDepth 20000 in
set_option maxHeartbeats 4000000 in
theorem bX3_dotAt_31 {st : Nat → Nat} {p : Program} {l : Launch} {e : Env} {s : State} {m : MethodId} {args : Array Value} {below : List Frame} {meth : Method} {c : Code} {D : va_G} {A : Nat → Prop} {ad : Nat → Nat} {cy : Nat → ClassId} (hC : zC p m c cX3_dotAt 4 s args wzX3_dotAt RX3 meth (some .int))  {res : zSt × Int32} {H : Heap} {locs : List Loc} {σ : zSt} {ls : Array Slot} {s0 : Int32} (hI : zI st D (tC cy) (wC ad cy σ) A s H locs) (hl : lv_has ls 4 []) (hf : fX3_dotAt_31  σ s0 = some res) : W p l e rmX3_dotAt s m args below meth c H locs 0 0 (zQi below args s D (tC cy) (wC ad cy) A res) (F0 m 31 ls [.int s0]) := by
  have hx := hC.1
  have hb := hC.2.1
  unfold fX3_dotAt_31 at hf
  exact z_ireturn hC hI hf dX3_dotAt_31
set_option maxRecDepth 20000 in
set_option maxHeartbeats 4000000 in
theorem bX3_dotAt_30 {st : Nat → Nat} {p : Program} {l : Launch} {e : Env} {s : State} {m : MethodId} {args : Array Value} {below : List Frame} {meth : Method} {c : Code} {D : va_G} {A : Nat → Prop} {ad : Nat → Nat} {cy : Nat → ClassId} (hC : zC p m c cX3_dotAt 4 s args wzX3_dotAt RX3 meth (some .int))  {res : zSt × Int32} {H : Heap} {locs : List Loc} {σ : zSt} {ls : Array Slot}  (hI : zI st D (tC cy) (wC ad cy σ) A s H locs) (hl : lv_has ls 4 []) (hf : fX3_dotAt_30  σ  = some res) : W p l e rmX3_dotAt s m args below meth c H locs 0 0 (zQi below args s D (tC cy) (wC ad cy) A res) (F0 m 30 ls []) := by
  have hx := hC.1
  have hb := hC.2.1
  unfold fX3_dotAt_30 at hf
  refine lv_iconst (v := 0) hx hb dX3_dotAt_30 (by decide) ?_
  exact bX3_dotAt_31 hC  hI hl hf
set_option maxRecDepth 20000 in
set_option maxHeartbeats 4000000 in
theorem bX3_dotAt {st : Nat → Nat} {p : Program} {l : Launch} {e : Env} {s : State} {m : MethodId} {args : Array Value} {below : List Frame} {meth : Method} {c : Code} {D : va_G} {A : Nat → Prop} {ad : Nat → Nat} {cy : Nat → ClassId} (hC : zC p m c cX3_dotAt 4 s args wzX3_dotAt RX3 meth (some .int))  {res : zSt × Int32} {H : Heap} {locs : List Loc} {σ : zSt} {ls : Array Slot} {x1 : Int32} {x2 : Int32} (hI : zI st D (tC cy) (wC ad cy σ) A s H locs) (hl : lv_has ls 4 [(0, .ref (ad 3)), (1, .int x1), (2, .int x2)]) (hf : fX3_dotAt  σ x1 x2 = some res) : W p l e rmX3_dotAt s m args below meth c H locs 0 0 (zQi below args s D (tC cy) (wC ad cy) A res) (F0 m 0 ls []) := by
  have hx := hC.1
  have hb := hC.2.1
  unfold fX3_dotAt at hf
  refine lv_aload_n hx hb dX3_dotAt_0 rfl (lv_at hl 0 rfl) ?_
  refine lv_iload_n hx hb dX3_dotAt_1 rfl (lv_at hl 2 rfl) ?_
  obtain ⟨σ1, v2, g1, hf⟩ := zbi_use hf
  refine z_callVi (As := [.int x2]) (rest := []) hC hI (cX3_placeOf_met st l D ad cy σ x2 _ g1) (zgV zw90_21 zw90_22 zw90_23 zw2_5 zw91_0) rfl ⟨rfl, rfl⟩ 1 hdX3_placeOf ⟨Nat.le_of_ble_eq_true rfl, Nat.le_of_ble_eq_true rfl⟩ rfl rfl (wC_e3 ad cy σ) rfl hl rfl (Nat.le_of_ble_eq_true rfl) dX3_dotAt_2 ⟨Nat.zero_le _, Nat.zero_le _⟩ (fun H locs hI => ?_)
  refine lv_iload_n hx hb dX3_dotAt_5 rfl (lv_at hl 1 rfl) ?_
  refine lv_iadd hx hb dX3_dotAt_6 ?_
  refine lv_topi (fun v3 ev3 => ?_)
  replace hf := zbv_use ev3 hf
  refine lv_istore_n (lv' := [(3, .int v3), (0, .ref (ad 3)), (1, .int x1), (2, .int x2)]) hx hb dX3_dotAt_7 rfl hl (by decide) rfl (fun ls hl => ?_)
  refine lv_iload_n hx hb dX3_dotAt_8 rfl (lv_at hl 0 rfl) ?_
  refine lv_if_lt (tgt := 30) hx hb dX3_dotAt_9 (by decide) (fun q => ?_) (fun q => ?_)
  · replace hf := zif_t q hf
    exact bX3_dotAt_30 hC  hI (lv_sub hl [] rfl) hf
  replace hf := zif_f q hf
  refine lv_iload_n hx hb dX3_dotAt_12 rfl (lv_at hl 0 rfl) ?_
  refine lv_aload_n hx hb dX3_dotAt_13 rfl (lv_at hl 1 rfl) ?_
  refine z_get hC hI hinX3_dotAt_X30 3 (wC_e3 ad cy σ1) rfl 2 (by decide) (List.mem_cons_of_mem _ zw4_17) rfl dX3_dotAt_14 ?_
  refine z_alen (v := 61440) hC hI 25 12 (wC_e25 ad cy σ1) (tC_t25 cy) rfl dX3_dotAt_17 ?_
  refine lv_icmp_ge (tgt := 30) hx hb dX3_dotAt_18 (by decide) (fun q => ?_) (fun q => ?_)
  · replace hf := zif_t q hf
    exact bX3_dotAt_30 hC  hI (lv_sub hl [] rfl) hf
  replace hf := zif_f q hf
  refine lv_aload_n hx hb dX3_dotAt_21 rfl (lv_at hl 1 rfl) ?_
  refine z_get hC hI hinX3_dotAt_X30 3 (wC_e3 ad cy σ1) rfl 2 (by decide) (List.mem_cons_of_mem _ zw4_17) rfl dX3_dotAt_22 ?_
  refine lv_iload_n hx hb dX3_dotAt_25 rfl (lv_at hl 0 rfl) ?_
  obtain ⟨q, hf⟩ := zck_use hf
  refine z_iald hC hI 25 12 (wC_e25 ad cy σ1) (tC_t25 cy) q dX3_dotAt_26 ?_
  refine lv_goto (tgt := 31) hx hb dX3_dotAt_27 (by decide) ?_
  exact bX3_dotAt_31 hC  hI (lv_sub hl [] rfl) hf
set_option maxRecDepth 20000 in
theorem cX3_dotAt_met (st : Nat → Nat) (l : Launch) (D : va_G) (ad : Nat → Nat) (cy : Nat → ClassId) (σ : zSt) (x1 : Int32) (x2 : Int32) (res : zSt × Int32) (hf : fX3_dotAt σ x1 x2 = some res) (sz : Nat) : zMi st l yX3_dotAt wzX3_dotAt rmX3_dotAt [.ref (ad 3), .int x1, .int x2] D (tC cy) (wC ad cy) sz σ res :=
  zMi.of (cc := cX3_dotAt) (maxL := 4) (ret := (some .int)) (by decide) rfl (Nat.le_of_ble_eq_true rfl) (fun p e s m args below meth c hC A hI ls hl => bX3_dotAt hC hI hl hf)
theorem hdX3_dotAt : yX3_dotAt.cls = RX3 ∧ yX3_dotAt.cls ≠ "java/lang/invoke/MethodHandle" ∧ yX3_dotAt.cls ≠ "java/lang/invoke/VarHandle" ∧ (parseMethodDescriptor yX3_dotAt.desc).map (fun d => d.parameters.length) = some 2 := by decide +kernel
def rmX3_sumOfLine : Room := { frames := 1, cells := 0, slots := 0, locals := 21 }
def wzX3_sumOfLine : List Cond := .code yX3_sumOfLine cX3_sumOfLine 6 (some .int) :: wsL_law
theorem hinX3_sumOfLine_X30 : ∀ w ∈ wsX30, w ∈ wzX3_sumOfLine := fun w h => List.mem_cons_of_mem _ (inlX3 w h)
def fX3_sumOfLine_31_body (k31 : zSt → Int32 → Int32 → Int32 → Option (zSt × Int32)) (σ : zSt) (x2 : Int32) (x4 : Int32) (x5 : Int32) : Option (zSt × Int32) :=
  if x4 ≤ x5 then some (σ, x2) else
  zck (zin x5 61440) (
  zbv ((31 * x2) + (zgi σ 25 x5.toNatClampNeg)) (fun v1 =>
  zbv (x5 + 1) (fun v2 =>
  k31 σ v1 x4 v2)))
def fX3_sumOfLine_31  : Nat → zSt → Int32 → Int32 → Int32 → Option (zSt × Int32)
  | 0, _, _, _, _ => none
  | n + 1, σ, x2, x4, x5 => fX3_sumOfLine_31_body (fX3_sumOfLine_31  n) σ x2 x4 x5
def fX3_sumOfLine  (σ : zSt) (x1 : Int32) : Option (zSt × Int32) :=
  zbi (fX3_placeOf σ x1) (fun σ3 v4 =>
  zbi (fX3_width σ3 ) (fun σ5 v6 =>
  zbv (zmin (v4 + v6) 61440) (fun v7 =>
  zbv (zmax 0 v4) (fun v8 =>
  fX3_sumOfLine_31 zfuel σ5 0 v7 v8))))
set_option maxRecDepth 20000 in
set_option maxHeartbeats 4000000 in
theorem bX3_sumOfLine_31_body {st : Nat → Nat} {p : Program} {l : Launch} {e : Env} {s : State} {m : MethodId} {args : Array Value} {below : List Frame} {meth : Method} {c : Code} {D : va_G} {A : Nat → Prop} {ad : Nat → Nat} {cy : Nat → ClassId} (hC : zC p m c cX3_sumOfLine 6 s args wzX3_sumOfLine RX3 meth (some .int)) {k31 : zSt → Int32 → Int32 → Int32 → Option (zSt × Int32)} {res : zSt × Int32} (hk31 : ∀ (H : Heap) (locs : List Loc) (σ : zSt) (ls : Array Slot) (x2 : Int32) (x4 : Int32) (x5 : Int32), zI st D (tC cy) (wC ad cy σ) A s H locs → lv_has ls 6 [(0, .ref (ad 3)), (2, .int x2), (4, .int x4), (5, .int x5)] → k31 σ x2 x4 x5 = some res → W p l e rmX3_sumOfLine s m args below meth c H locs 0 0 (zQi below args s D (tC cy) (wC ad cy) A res) (F0 m 31 ls [])) {H : Heap} {locs : List Loc} {σ : zSt} {ls : Array Slot} {x2 : Int32} {x4 : Int32} {x5 : Int32} (hI : zI st D (tC cy) (wC ad cy σ) A s H locs) (hl : lv_has ls 6 [(0, .ref (ad 3)), (2, .int x2), (4, .int x4), (5, .int x5)]) (hf : fX3_sumOfLine_31_body k31 σ x2 x4 x5 = some res) : W p l e rmX3_sumOfLine s m args below meth c H locs 0 0 (zQi below args s D (tC cy) (wC ad cy) A res) (F0 m 31 ls []) := by
  have hx := hC.1
  have hb := hC.2.1
  unfold fX3_sumOfLine_31_body at hf
  refine lv_iload hx hb dX3_sumOfLine_31 (lv_at hl 3 rfl) ?_
  refine lv_iload hx hb dX3_sumOfLine_33 (lv_at hl 2 rfl) ?_
  refine lv_icmp_ge (tgt := 57) hx hb dX3_sumOfLine_35 (by decide) (fun q => ?_) (fun q => ?_)
  · replace hf := zif_t q hf
    refine lv_iload_n hx hb dX3_sumOfLine_57 rfl (lv_at hl 1 rfl) ?_
    exact z_ireturn hC hI hf dX3_sumOfLine_58
  replace hf := zif_f q hf
  refine lv_bipush (v := 31) hx hb dX3_sumOfLine_38 (by decide) ?_
  refine lv_iload_n hx hb dX3_sumOfLine_40 rfl (lv_at hl 1 rfl) ?_
  refine lv_imul hx hb dX3_sumOfLine_41 ?_
  refine lv_aload_n hx hb dX3_sumOfLine_42 rfl (lv_at hl 0 rfl) ?_
  refine z_get hC hI hinX3_sumOfLine_X30 3 (wC_e3 ad cy σ) rfl 2 (by decide) (List.mem_cons_of_mem _ zw4_17) rfl dX3_sumOfLine_43 ?_
  refine lv_iload hx hb dX3_sumOfLine_46 (lv_at hl 3 rfl) ?_
  obtain ⟨q, hf⟩ := zck_use hf
  refine z_iald hC hI 25 12 (wC_e25 ad cy σ) (tC_t25 cy) q dX3_sumOfLine_48 ?_
  refine lv_iadd hx hb dX3_sumOfLine_49 ?_
  refine lv_topi (fun v1 ev1 => ?_)
  replace hf := zbv_use ev1 hf
  refine lv_istore_n (lv' := [(2, .int v1), (0, .ref (ad 3)), (4, .int x4), (5, .int x5)]) hx hb dX3_sumOfLine_50 rfl hl (by decide) rfl (fun ls hl => ?_)
  obtain ⟨v2, ev2⟩ : ∃ z : Int32, z = x5 + 1 := ⟨_, rfl⟩
  replace hf := zbv_use ev2 hf
  refine lv_iinc (v := v2) (lv' := [(5, .int v2), (2, .int v1), (0, .ref (ad 3)), (4, .int x4)]) hx hb dX3_sumOfLine_51 hl (k := 3) rfl (by rw [ev2]; rfl) (by decide) rfl (fun ls hl => ?_)
  refine lv_goto (tgt := 31) hx hb dX3_sumOfLine_54 (by decide) ?_
  exact hk31 _ _ _ _ _ _ _ hI (lv_sub hl [2, 1, 3, 0] rfl) hf
theorem blX3_sumOfLine_31 {st : Nat → Nat} {p : Program} {l : Launch} {e : Env} {s : State} {m : MethodId} {args : Array Value} {below : List Frame} {meth : Method} {c : Code} {D : va_G} {A : Nat → Prop} {ad : Nat → Nat} {cy : Nat → ClassId} (hC : zC p m c cX3_sumOfLine 6 s args wzX3_sumOfLine RX3 meth (some .int))  {res : zSt × Int32} : ∀ (n : Nat) (H : Heap) (locs : List Loc) (σ : zSt) (ls : Array Slot) (x2 : Int32) (x4 : Int32) (x5 : Int32), zI st D (tC cy) (wC ad cy σ) A s H locs → lv_has ls 6 [(0, .ref (ad 3)), (2, .int x2), (4, .int x4), (5, .int x5)] → fX3_sumOfLine_31  n σ x2 x4 x5 = some res → W p l e rmX3_sumOfLine s m args below meth c H locs 0 0 (zQi below args s D (tC cy) (wC ad cy) A res) (F0 m 31 ls []) := by
  intro n
  induction n with
  | zero => intro H locs σ ls x2 x4 x5 hI hl hf; cases hf
  | succ n ih => intro H locs σ ls x2 x4 x5 hI hl hf; exact bX3_sumOfLine_31_body hC ih hI hl hf
set_option maxRecDepth 20000 in
set_option maxHeartbeats 4000000 in
theorem bX3_sumOfLine {st : Nat → Nat} {p : Program} {l : Launch} {e : Env} {s : State} {m : MethodId} {args : Array Value} {below : List Frame} {meth : Method} {c : Code} {D : va_G} {A : Nat → Prop} {ad : Nat → Nat} {cy : Nat → ClassId} (hC : zC p m c cX3_sumOfLine 6 s args wzX3_sumOfLine RX3 meth (some .int))  {res : zSt × Int32} {H : Heap} {locs : List Loc} {σ : zSt} {ls : Array Slot} {x1 : Int32} (hI : zI st D (tC cy) (wC ad cy σ) A s H locs) (hl : lv_has ls 6 [(0, .ref (ad 3)), (1, .int x1)]) (hf : fX3_sumOfLine  σ x1 = some res) : W p l e rmX3_sumOfLine s m args below meth c H locs 0 0 (zQi below args s D (tC cy) (wC ad cy) A res) (F0 m 0 ls []) := by
  have hx := hC.1
  have hb := hC.2.1
  unfold fX3_sumOfLine at hf
  refine lv_iconst (v := 0) hx hb dX3_sumOfLine_0 (by decide) ?_
  refine lv_istore_n (lv' := [(2, .int 0), (0, .ref (ad 3)), (1, .int x1)]) hx hb dX3_sumOfLine_1 rfl hl (by decide) rfl (fun ls hl => ?_)
  refine lv_aload_n hx hb dX3_sumOfLine_2 rfl (lv_at hl 1 rfl) ?_
  refine lv_iload_n hx hb dX3_sumOfLine_3 rfl (lv_at hl 2 rfl) ?_
  obtain ⟨σ3, v4, g3, hf⟩ := zbi_use hf
  refine z_callVi (As := [.int x1]) (rest := []) hC hI (cX3_placeOf_met st l D ad cy σ x1 _ g3) (zgV zw90_21 zw90_22 zw90_23 zw2_5 zw91_0) rfl ⟨rfl, rfl⟩ 1 hdX3_placeOf ⟨Nat.le_of_ble_eq_true rfl, Nat.le_of_ble_eq_true rfl⟩ rfl rfl (wC_e3 ad cy σ) rfl hl rfl (Nat.le_of_ble_eq_true rfl) dX3_sumOfLine_4 ⟨Nat.zero_le _, Nat.zero_le _⟩ (fun H locs hI => ?_)
  refine lv_istore_n (lv' := [(3, .int v4), (2, .int 0), (0, .ref (ad 3)), (1, .int x1)]) hx hb dX3_sumOfLine_7 rfl hl (by decide) rfl (fun ls hl => ?_)
  refine lv_iload_n hx hb dX3_sumOfLine_8 rfl (lv_at hl 0 rfl) ?_
  refine lv_aload_n hx hb dX3_sumOfLine_9 rfl (lv_at hl 2 rfl) ?_
  obtain ⟨σ5, v6, g5, hf⟩ := zbi_use hf
  refine z_callVi (As := []) (rest := [.int v4]) hC hI (cX3_width_met st l D ad cy σ3  _ g5) (zgV zw91_18 zw90_10 zw90_11 zw2_5 zw90_12) rfl ⟨rfl, rfl⟩ 0 hdX3_width ⟨Nat.le_of_ble_eq_true rfl, Nat.le_of_ble_eq_true rfl⟩ rfl rfl (wC_e3 ad cy σ3) rfl hl rfl (Nat.le_of_ble_eq_true rfl) dX3_sumOfLine_10 ⟨Nat.zero_le _, Nat.zero_le _⟩ (fun H locs hI => ?_)
  refine lv_iadd hx hb dX3_sumOfLine_13 ?_
  refine lv_aload_n hx hb dX3_sumOfLine_14 rfl (lv_at hl 2 rfl) ?_
  refine z_get hC hI hinX3_sumOfLine_X30 3 (wC_e3 ad cy σ5) rfl 2 (by decide) (List.mem_cons_of_mem _ zw4_17) rfl dX3_sumOfLine_15 ?_
  refine z_alen (v := 61440) hC hI 25 12 (wC_e25 ad cy σ5) (tC_t25 cy) rfl dX3_sumOfLine_18 ?_
  refine z_mmin hC (List.mem_cons_of_mem _ zw91_16) (List.mem_cons_of_mem _ zw12_14) (List.mem_cons_of_mem _ zw12_15) (List.mem_cons_of_mem _ zw12_16) hl (Nat.le_of_ble_eq_true rfl) (Nat.le_of_ble_eq_true rfl) ⟨Nat.zero_le _, Nat.zero_le _⟩ dX3_sumOfLine_19 ?_
  refine lv_topi (fun v7 ev7 => ?_)
  replace hf := zbv_use ev7 hf
  refine lv_istore (lv' := [(4, .int v7), (3, .int v4), (2, .int 0), (0, .ref (ad 3)), (1, .int x1)]) hx hb dX3_sumOfLine_22 hl (by decide) rfl (fun ls hl => ?_)
  refine lv_iconst (v := 0) hx hb dX3_sumOfLine_24 (by decide) ?_
  refine lv_iload_n hx hb dX3_sumOfLine_25 rfl (lv_at hl 1 rfl) ?_
  refine z_mmax hC (List.mem_cons_of_mem _ zw91_17) (List.mem_cons_of_mem _ zw12_18) (List.mem_cons_of_mem _ zw12_15) (List.mem_cons_of_mem _ zw12_19) hl (Nat.le_of_ble_eq_true rfl) (Nat.le_of_ble_eq_true rfl) ⟨Nat.zero_le _, Nat.zero_le _⟩ dX3_sumOfLine_26 ?_
  refine lv_topi (fun v8 ev8 => ?_)
  replace hf := zbv_use ev8 hf
  refine lv_istore (lv' := [(5, .int v8), (4, .int v7), (3, .int v4), (2, .int 0), (0, .ref (ad 3)), (1, .int x1)]) hx hb dX3_sumOfLine_29 hl (by decide) rfl (fun ls hl => ?_)
  exact blX3_sumOfLine_31 hC  zfuel _ _ _ _ _ _ _ hI (lv_sub hl [4, 3, 1, 0] rfl) hf
set_option maxRecDepth 20000 in
theorem cX3_sumOfLine_met (st : Nat → Nat) (l : Launch) (D : va_G) (ad : Nat → Nat) (cy : Nat → ClassId) (σ : zSt) (x1 : Int32) (res : zSt × Int32) (hf : fX3_sumOfLine σ x1 = some res) (sz : Nat) : zMi st l yX3_sumOfLine wzX3_sumOfLine rmX3_sumOfLine [.ref (ad 3), .int x1] D (tC cy) (wC ad cy) sz σ res :=
  zMi.of (cc := cX3_sumOfLine) (maxL := 6) (ret := (some .int)) (by decide) rfl (Nat.le_of_ble_eq_true rfl) (fun p e s m args below meth c hC A hI ls hl => bX3_sumOfLine hC hI hl hf)
theorem hdX3_sumOfLine : yX3_sumOfLine.cls = RX3 ∧ yX3_sumOfLine.cls ≠ "java/lang/invoke/MethodHandle" ∧ yX3_sumOfLine.cls ≠ "java/lang/invoke/VarHandle" ∧ (parseMethodDescriptor yX3_sumOfLine.desc).map (fun d => d.parameters.length) = some 1 := by decide +kernel
def rmX9_held : Room := { frames := 0, cells := 0, slots := 0, locals := 0 }
def wzX9_held : List Cond := .code yX9_held cX9_held 2 (some .int) :: wsL_law
theorem hinX9_held_X90 : ∀ w ∈ wsX90, w ∈ wzX9_held := fun w h => List.mem_cons_of_mem _ (inlX9 w h)
def fX9_held_20  (σ : zSt) (s0 : Int32) : Option (zSt × Int32) :=
  some (σ, s0)
def fX9_held_19  (σ : zSt)  : Option (zSt × Int32) :=
  fX9_held_20 σ 0
def fX9_held  (σ : zSt) (x1 : Int32) : Option (zSt × Int32) :=
  if x1 < 0 then fX9_held_19 σ else
  if 96 ≤ x1 then fX9_held_19 σ else
  zck (zin x1 96) (
  fX9_held_20 σ (zgi σ 23 x1.toNatClampNeg))
set_option maxRecDepth 20000 in
set_option maxHeartbeats 4000000 in
theorem bX9_held_20 {st : Nat → Nat} {p : Program} {l : Launch} {e : Env} {s : State} {m : MethodId} {args : Array Value} {below : List Frame} {meth : Method} {c : Code} {D : va_G} {A : Nat → Prop} {ad : Nat → Nat} {cy : Nat → ClassId} (hC : zC p m c cX9_held 2 s args wzX9_held RX9 meth (some .int))  {res : zSt × Int32} {H : Heap} {locs : List Loc} {σ : zSt} {ls : Array Slot} {s0 : Int32} (hI : zI st D (tC cy) (wC ad cy σ) A s H locs) (hl : lv_has ls 2 []) (hf : fX9_held_20  σ s0 = some res) : W p l e rmX9_held s m args below meth c H locs 0 0 (zQi below args s D (tC cy) (wC ad cy) A res) (F0 m 20 ls [.int s0]) := by
  have hx := hC.1
  have hb := hC.2.1
  unfold fX9_held_20 at hf
  exact z_ireturn hC hI hf dX9_held_20
set_option maxRecDepth 20000 in
set_option maxHeartbeats 4000000 in
theorem bX9_held_19 {st : Nat → Nat} {p : Program} {l : Launch} {e : Env} {s : State} {m : MethodId} {args : Array Value} {below : List Frame} {meth : Method} {c : Code} {D : va_G} {A : Nat → Prop} {ad : Nat → Nat} {cy : Nat → ClassId} (hC : zC p m c cX9_held 2 s args wzX9_held RX9 meth (some .int))  {res : zSt × Int32} {H : Heap} {locs : List Loc} {σ : zSt} {ls : Array Slot}  (hI : zI st D (tC cy) (wC ad cy σ) A s H locs) (hl : lv_has ls 2 []) (hf : fX9_held_19  σ  = some res) : W p l e rmX9_held s m args below meth c H locs 0 0 (zQi below args s D (tC cy) (wC ad cy) A res) (F0 m 19 ls []) := by
  have hx := hC.1
  have hb := hC.2.1
  unfold fX9_held_19 at hf
  refine lv_iconst (v := 0) hx hb dX9_held_19 (by decide) ?_
  exact bX9_held_20 hC  hI hl hf
set_option maxRecDepth 20000 in
set_option maxHeartbeats 4000000 in
theorem bX9_held {st : Nat → Nat} {p : Program} {l : Launch} {e : Env} {s : State} {m : MethodId} {args : Array Value} {below : List Frame} {meth : Method} {c : Code} {D : va_G} {A : Nat → Prop} {ad : Nat → Nat} {cy : Nat → ClassId} (hC : zC p m c cX9_held 2 s args wzX9_held RX9 meth (some .int))  {res : zSt × Int32} {H : Heap} {locs : List Loc} {σ : zSt} {ls : Array Slot} {x1 : Int32} (hI : zI st D (tC cy) (wC ad cy σ) A s H locs) (hl : lv_has ls 2 [(0, .ref (ad 2)), (1, .int x1)]) (hf : fX9_held  σ x1 = some res) : W p l e rmX9_held s m args below meth c H locs 0 0 (zQi below args s D (tC cy) (wC ad cy) A res) (F0 m 0 ls []) := by
  have hx := hC.1
  have hb := hC.2.1
  unfold fX9_held at hf
  refine lv_iload_n hx hb dX9_held_0 rfl (lv_at hl 1 rfl) ?_
  refine lv_if_lt (tgt := 19) hx hb dX9_held_1 (by decide) (fun q => ?_) (fun q => ?_)
  · replace hf := zif_t q hf
    exact bX9_held_19 hC  hI (lv_sub hl [] rfl) hf
  replace hf := zif_f q hf
  refine lv_iload_n hx hb dX9_held_4 rfl (lv_at hl 1 rfl) ?_
  refine lv_bipush (v := 96) hx hb dX9_held_5 (by decide) ?_
  refine lv_icmp_ge (tgt := 19) hx hb dX9_held_7 (by decide) (fun q => ?_) (fun q => ?_)
  · replace hf := zif_t q hf
    exact bX9_held_19 hC  hI (lv_sub hl [] rfl) hf
  replace hf := zif_f q hf
  refine lv_aload_n hx hb dX9_held_10 rfl (lv_at hl 0 rfl) ?_
  refine z_get hC hI hinX9_held_X90 2 (wC_e2 ad cy σ) rfl 4 (by decide) (List.mem_cons_of_mem _ zw4_8) rfl dX9_held_11 ?_
  refine lv_iload_n hx hb dX9_held_14 rfl (lv_at hl 1 rfl) ?_
  obtain ⟨q, hf⟩ := zck_use hf
  refine z_iald hC hI 23 10 (wC_e23 ad cy σ) (tC_t23 cy) q dX9_held_15 ?_
  refine lv_goto (tgt := 20) hx hb dX9_held_16 (by decide) ?_
  exact bX9_held_20 hC  hI (lv_sub hl [] rfl) hf
set_option maxRecDepth 20000 in
theorem cX9_held_met (st : Nat → Nat) (l : Launch) (D : va_G) (ad : Nat → Nat) (cy : Nat → ClassId) (σ : zSt) (x1 : Int32) (res : zSt × Int32) (hf : fX9_held σ x1 = some res) (sz : Nat) : zMi st l yX9_held wzX9_held rmX9_held [.ref (ad 2), .int x1] D (tC cy) (wC ad cy) sz σ res :=
  zMi.of (cc := cX9_held) (maxL := 2) (ret := (some .int)) (by decide) rfl (Nat.le_of_ble_eq_true rfl) (fun p e s m args below meth c hC A hI ls hl => bX9_held hC hI hl hf)
theorem hdX9_held : yX9_held.cls = RX9 ∧ yX9_held.cls ≠ "java/lang/invoke/MethodHandle" ∧ yX9_held.cls ≠ "java/lang/invoke/VarHandle" ∧ (parseMethodDescriptor yX9_held.desc).map (fun d => d.parameters.length) = some 1 := by decide +kernel
def rmX9_mode : Room := { frames := 0, cells := 0, slots := 0, locals := 0 }
def wzX9_mode : List Cond := .code yX9_mode cX9_mode 1 (some .int) :: wsL_law
theorem hinX9_mode_X90 : ∀ w ∈ wsX90, w ∈ wzX9_mode := fun w h => List.mem_cons_of_mem _ (inlX9 w h)
def fX9_mode_57  (σ : zSt) (s0 : Int32) : Option (zSt × Int32) :=
  some (σ, s0)
def fX9_mode  (σ : zSt)  : Option (zSt × Int32) :=
  zck (zin 0 96) (
  if ((zgi σ 23 (0 : Int32).toNatClampNeg) &&& 4) = 0 then zck (zin 1 96) (
  if ((zgi σ 23 (1 : Int32).toNatClampNeg) &&& 16) = 0 then zck (zin 1 96) (
  if ((zgi σ 23 (1 : Int32).toNatClampNeg) &&& 8) = 0 then zck (zin 0 96) (
  if ((zgi σ 23 (0 : Int32).toNatClampNeg) &&& 2) = 0 then fX9_mode_57 σ 0 else
  fX9_mode_57 σ 2) else
  some (σ, 3)) else
  some (σ, 1)) else
  some (σ, 4))
set_option maxRecDepth 20000 in
set_option maxHeartbeats 4000000 in
theorem bX9_mode_57 {st : Nat → Nat} {p : Program} {l : Launch} {e : Env} {s : State} {m : MethodId} {args : Array Value} {below : List Frame} {meth : Method} {c : Code} {D : va_G} {A : Nat → Prop} {ad : Nat → Nat} {cy : Nat → ClassId} (hC : zC p m c cX9_mode 1 s args wzX9_mode RX9 meth (some .int))  {res : zSt × Int32} {H : Heap} {locs : List Loc} {σ : zSt} {ls : Array Slot} {s0 : Int32} (hI : zI st D (tC cy) (wC ad cy σ) A s H locs) (hl : lv_has ls 1 []) (hf : fX9_mode_57  σ s0 = some res) : W p l e rmX9_mode s m args below meth c H locs 0 0 (zQi below args s D (tC cy) (wC ad cy) A res) (F0 m 57 ls [.int s0]) := by
  have hx := hC.1
  have hb := hC.2.1
  unfold fX9_mode_57 at hf
  exact z_ireturn hC hI hf dX9_mode_57
set_option maxRecDepth 20000 in
set_option maxHeartbeats 4000000 in
theorem bX9_mode {st : Nat → Nat} {p : Program} {l : Launch} {e : Env} {s : State} {m : MethodId} {args : Array Value} {below : List Frame} {meth : Method} {c : Code} {D : va_G} {A : Nat → Prop} {ad : Nat → Nat} {cy : Nat → ClassId} (hC : zC p m c cX9_mode 1 s args wzX9_mode RX9 meth (some .int))  {res : zSt × Int32} {H : Heap} {locs : List Loc} {σ : zSt} {ls : Array Slot}  (hI : zI st D (tC cy) (wC ad cy σ) A s H locs) (hl : lv_has ls 1 [(0, .ref (ad 2))]) (hf : fX9_mode  σ  = some res) : W p l e rmX9_mode s m args below meth c H locs 0 0 (zQi below args s D (tC cy) (wC ad cy) A res) (F0 m 0 ls []) := by
  have hx := hC.1
  have hb := hC.2.1
  unfold fX9_mode at hf
  refine lv_aload_n hx hb dX9_mode_0 rfl (lv_at hl 0 rfl) ?_
  refine z_get hC hI hinX9_mode_X90 2 (wC_e2 ad cy σ) rfl 4 (by decide) (List.mem_cons_of_mem _ zw4_8) rfl dX9_mode_1 ?_
  refine lv_iconst (v := 0) hx hb dX9_mode_4 (by decide) ?_
  obtain ⟨q, hf⟩ := zck_use hf
  refine z_iald hC hI 23 10 (wC_e23 ad cy σ) (tC_t23 cy) q dX9_mode_5 ?_
  refine lv_iconst (v := 4) hx hb dX9_mode_6 (by decide) ?_
  refine lv_iand hx hb dX9_mode_7 ?_
  refine lv_if_eq (tgt := 13) hx hb dX9_mode_8 (by decide) (fun q => ?_) (fun q => ?_)
  · replace hf := zif_t q hf
    refine lv_aload_n hx hb dX9_mode_13 rfl (lv_at hl 0 rfl) ?_
    refine z_get hC hI hinX9_mode_X90 2 (wC_e2 ad cy σ) rfl 4 (by decide) (List.mem_cons_of_mem _ zw4_8) rfl dX9_mode_14 ?_
    refine lv_iconst (v := 1) hx hb dX9_mode_17 (by decide) ?_
    obtain ⟨q, hf⟩ := zck_use hf
    refine z_iald hC hI 23 10 (wC_e23 ad cy σ) (tC_t23 cy) q dX9_mode_18 ?_
    refine lv_bipush (v := 16) hx hb dX9_mode_19 (by decide) ?_
    refine lv_iand hx hb dX9_mode_21 ?_
    refine lv_if_eq (tgt := 27) hx hb dX9_mode_22 (by decide) (fun q => ?_) (fun q => ?_)
    · replace hf := zif_t q hf
      refine lv_aload_n hx hb dX9_mode_27 rfl (lv_at hl 0 rfl) ?_
      refine z_get hC hI hinX9_mode_X90 2 (wC_e2 ad cy σ) rfl 4 (by decide) (List.mem_cons_of_mem _ zw4_8) rfl dX9_mode_28 ?_
      refine lv_iconst (v := 1) hx hb dX9_mode_31 (by decide) ?_
      obtain ⟨q, hf⟩ := zck_use hf
      refine z_iald hC hI 23 10 (wC_e23 ad cy σ) (tC_t23 cy) q dX9_mode_32 ?_
      refine lv_bipush (v := 8) hx hb dX9_mode_33 (by decide) ?_
      refine lv_iand hx hb dX9_mode_35 ?_
      refine lv_if_eq (tgt := 41) hx hb dX9_mode_36 (by decide) (fun q => ?_) (fun q => ?_)
      · replace hf := zif_t q hf
        refine lv_aload_n hx hb dX9_mode_41 rfl (lv_at hl 0 rfl) ?_
        refine z_get hC hI hinX9_mode_X90 2 (wC_e2 ad cy σ) rfl 4 (by decide) (List.mem_cons_of_mem _ zw4_8) rfl dX9_mode_42 ?_
        refine lv_iconst (v := 0) hx hb dX9_mode_45 (by decide) ?_
        obtain ⟨q, hf⟩ := zck_use hf
        refine z_iald hC hI 23 10 (wC_e23 ad cy σ) (tC_t23 cy) q dX9_mode_46 ?_
        refine lv_iconst (v := 2) hx hb dX9_mode_47 (by decide) ?_
        refine lv_iand hx hb dX9_mode_48 ?_
        refine lv_if_eq (tgt := 56) hx hb dX9_mode_49 (by decide) (fun q => ?_) (fun q => ?_)
        · replace hf := zif_t q hf
          refine lv_iconst (v := 0) hx hb dX9_mode_56 (by decide) ?_
          exact bX9_mode_57 hC  hI (lv_sub hl [] rfl) hf
        replace hf := zif_f q hf
        refine lv_iconst (v := 2) hx hb dX9_mode_52 (by decide) ?_
        refine lv_goto (tgt := 57) hx hb dX9_mode_53 (by decide) ?_
        exact bX9_mode_57 hC  hI (lv_sub hl [] rfl) hf
      replace hf := zif_f q hf
      refine lv_iconst (v := 3) hx hb dX9_mode_39 (by decide) ?_
      exact z_ireturn hC hI hf dX9_mode_40
    replace hf := zif_f q hf
    refine lv_iconst (v := 1) hx hb dX9_mode_25 (by decide) ?_
    exact z_ireturn hC hI hf dX9_mode_26
  replace hf := zif_f q hf
  refine lv_iconst (v := 4) hx hb dX9_mode_11 (by decide) ?_
  exact z_ireturn hC hI hf dX9_mode_12
set_option maxRecDepth 20000 in
theorem cX9_mode_met (st : Nat → Nat) (l : Launch) (D : va_G) (ad : Nat → Nat) (cy : Nat → ClassId) (σ : zSt)  (res : zSt × Int32) (hf : fX9_mode σ  = some res) (sz : Nat) : zMi st l yX9_mode wzX9_mode rmX9_mode [.ref (ad 2)] D (tC cy) (wC ad cy) sz σ res :=
  zMi.of (cc := cX9_mode) (maxL := 1) (ret := (some .int)) (by decide) rfl (Nat.le_of_ble_eq_true rfl) (fun p e s m args below meth c hC A hI ls hl => bX9_mode hC hI hl hf)
theorem hdX9_mode : yX9_mode.cls = RX9 ∧ yX9_mode.cls ≠ "java/lang/invoke/MethodHandle" ∧ yX9_mode.cls ≠ "java/lang/invoke/VarHandle" ∧ (parseMethodDescriptor yX9_mode.desc).map (fun d => d.parameters.length) = some 0 := by decide +kernel
def rmJ7_fill_53178_k27 : Room := { frames := 0, cells := 0, slots := 0, locals := 0 }
def fJ7_fill_53178_k27_5_body (k5 : zSt → Int32 → Int32 → Int32 → Option (zSt)) (σ : zSt) (x1 : Int32) (x2 : Int32) (x3 : Int32) : Option (zSt) :=
  if x3 ≤ x2 then some σ else
  zck (zin x2 256) (zbv (zsi σ 27 (x2.toNatClampNeg) x1) (fun σ1 =>
  zbv (x2 + 1) (fun v2 =>
  k5 σ1 x1 v2 x3)))
def fJ7_fill_53178_k27_5  : Nat → zSt → Int32 → Int32 → Int32 → Option (zSt)
  | 0, _, _, _, _ => none
  | n + 1, σ, x1, x2, x3 => fJ7_fill_53178_k27_5_body (fJ7_fill_53178_k27_5  n) σ x1 x2 x3
def fJ7_fill_53178_k27  (σ : zSt) (x1 : Int32) : Option (zSt) :=
  fJ7_fill_53178_k27_5 zfuel σ x1 0 256
set_option maxRecDepth 20000 in
set_option maxHeartbeats 4000000 in
theorem bJ7_fill_53178_k27_5_body {st : Nat → Nat} {p : Program} {l : Launch} {e : Env} {s : State} {m : MethodId} {args : Array Value} {below : List Frame} {meth : Method} {c : Code} {D : va_G} {A : Nat → Prop} {ad : Nat → Nat} {cy : Nat → ClassId} (hC : zC p m c cJ7_fill_53178 4 s args wzJ7_fill_53178 RJ7 meth none) {k5 : zSt → Int32 → Int32 → Int32 → Option (zSt)} {res : zSt} (hk5 : ∀ (H : Heap) (locs : List Loc) (σ : zSt) (ls : Array Slot) (x1 : Int32) (x2 : Int32) (x3 : Int32), zI st D (tC cy) (wC ad cy σ) A s H locs → lv_has ls 4 [(0, .ref (ad 27)), (1, .int x1), (2, .int x2), (3, .int x3)] → k5 σ x1 x2 x3 = some res → W p l e rmJ7_fill_53178_k27 s m args below meth c H locs 0 0 (zQu below args s D (tC cy) (wC ad cy) A res) (F0 m 5 ls [])) {H : Heap} {locs : List Loc} {σ : zSt} {ls : Array Slot} {x1 : Int32} {x2 : Int32} {x3 : Int32} (hI : zI st D (tC cy) (wC ad cy σ) A s H locs) (hl : lv_has ls 4 [(0, .ref (ad 27)), (1, .int x1), (2, .int x2), (3, .int x3)]) (hf : fJ7_fill_53178_k27_5_body k5 σ x1 x2 x3 = some res) : W p l e rmJ7_fill_53178_k27 s m args below meth c H locs 0 0 (zQu below args s D (tC cy) (wC ad cy) A res) (F0 m 5 ls []) := by
  have hx := hC.1
  have hb := hC.2.1
  unfold fJ7_fill_53178_k27_5_body at hf
  refine lv_iload_n hx hb dJ7_fill_53178_5 rfl (lv_at hl 2 rfl) ?_
  refine lv_iload_n hx hb dJ7_fill_53178_6 rfl (lv_at hl 3 rfl) ?_
  refine lv_icmp_ge (tgt := 20) hx hb dJ7_fill_53178_7 (by decide) (fun q => ?_) (fun q => ?_)
  · replace hf := zif_t q hf
    exact z_return hC hI hf dJ7_fill_53178_20
  replace hf := zif_f q hf
  refine lv_aload_n hx hb dJ7_fill_53178_10 rfl (lv_at hl 0 rfl) ?_
  refine lv_iload_n hx hb dJ7_fill_53178_11 rfl (lv_at hl 2 rfl) ?_
  refine lv_iload_n hx hb dJ7_fill_53178_12 rfl (lv_at hl 1 rfl) ?_
  obtain ⟨q, hf⟩ := zck_use hf
  obtain ⟨σ1, eσ1⟩ : ∃ z, z = zsi σ 27 (x2.toNatClampNeg) x1 := ⟨_, rfl⟩
  replace hf := zbv_use eσ1 hf
  refine z_iast hC hI 27 14 (wC_e27 ad cy σ) (tC_t27 cy) q ((wC_s27 ad cy σ _ _).trans (congrArg (wC ad cy) eσ1.symm)) dJ7_fill_53178_13 (fun H locs hI => ?_)
  obtain ⟨v2, ev2⟩ : ∃ z : Int32, z = x2 + 1 := ⟨_, rfl⟩
  replace hf := zbv_use ev2 hf
  refine lv_iinc (v := v2) (lv' := [(2, .int v2), (0, .ref (ad 27)), (1, .int x1), (3, .int x3)]) hx hb dJ7_fill_53178_14 hl (k := 2) rfl (by rw [ev2]; rfl) (by decide) rfl (fun ls hl => ?_)
  refine lv_goto (tgt := 5) hx hb dJ7_fill_53178_17 (by decide) ?_
  exact hk5 _ _ _ _ _ _ _ hI (lv_sub hl [1, 2, 0, 3] rfl) hf
theorem blJ7_fill_53178_k27_5 {st : Nat → Nat} {p : Program} {l : Launch} {e : Env} {s : State} {m : MethodId} {args : Array Value} {below : List Frame} {meth : Method} {c : Code} {D : va_G} {A : Nat → Prop} {ad : Nat → Nat} {cy : Nat → ClassId} (hC : zC p m c cJ7_fill_53178 4 s args wzJ7_fill_53178 RJ7 meth none)  {res : zSt} : ∀ (n : Nat) (H : Heap) (locs : List Loc) (σ : zSt) (ls : Array Slot) (x1 : Int32) (x2 : Int32) (x3 : Int32), zI st D (tC cy) (wC ad cy σ) A s H locs → lv_has ls 4 [(0, .ref (ad 27)), (1, .int x1), (2, .int x2), (3, .int x3)] → fJ7_fill_53178_k27_5  n σ x1 x2 x3 = some res → W p l e rmJ7_fill_53178_k27 s m args below meth c H locs 0 0 (zQu below args s D (tC cy) (wC ad cy) A res) (F0 m 5 ls []) := by
  intro n
  induction n with
  | zero => intro H locs σ ls x1 x2 x3 hI hl hf; cases hf
  | succ n ih => intro H locs σ ls x1 x2 x3 hI hl hf; exact bJ7_fill_53178_k27_5_body hC ih hI hl hf
set_option maxRecDepth 20000 in
set_option maxHeartbeats 4000000 in
theorem bJ7_fill_53178_k27 {st : Nat → Nat} {p : Program} {l : Launch} {e : Env} {s : State} {m : MethodId} {args : Array Value} {below : List Frame} {meth : Method} {c : Code} {D : va_G} {A : Nat → Prop} {ad : Nat → Nat} {cy : Nat → ClassId} (hC : zC p m c cJ7_fill_53178 4 s args wzJ7_fill_53178 RJ7 meth none)  {res : zSt} {H : Heap} {locs : List Loc} {σ : zSt} {ls : Array Slot} {x1 : Int32} (hI : zI st D (tC cy) (wC ad cy σ) A s H locs) (hl : lv_has ls 4 [(0, .ref (ad 27)), (1, .int x1)]) (hf : fJ7_fill_53178_k27  σ x1 = some res) : W p l e rmJ7_fill_53178_k27 s m args below meth c H locs 0 0 (zQu below args s D (tC cy) (wC ad cy) A res) (F0 m 0 ls []) := by
  have hx := hC.1
  have hb := hC.2.1
  unfold fJ7_fill_53178_k27 at hf
  refine lv_iconst (v := 0) hx hb dJ7_fill_53178_0 (by decide) ?_
  refine lv_istore_n (lv' := [(2, .int 0), (0, .ref (ad 27)), (1, .int x1)]) hx hb dJ7_fill_53178_1 rfl hl (by decide) rfl (fun ls hl => ?_)
  refine lv_aload_n hx hb dJ7_fill_53178_2 rfl (lv_at hl 1 rfl) ?_
  refine z_alen (v := 256) hC hI 27 14 (wC_e27 ad cy σ) (tC_t27 cy) rfl dJ7_fill_53178_3 ?_
  refine lv_istore_n (lv' := [(3, .int 256), (2, .int 0), (0, .ref (ad 27)), (1, .int x1)]) hx hb dJ7_fill_53178_4 rfl hl (by decide) rfl (fun ls hl => ?_)
  exact blJ7_fill_53178_k27_5 hC  zfuel _ _ _ _ _ _ _ hI (lv_sub hl [2, 3, 1, 0] rfl) hf
set_option maxRecDepth 20000 in
theorem cJ7_fill_53178_k27_met (st : Nat → Nat) (l : Launch) (D : va_G) (ad : Nat → Nat) (cy : Nat → ClassId) (σ : zSt) (x1 : Int32) (res : zSt) (hf : fJ7_fill_53178_k27 σ x1 = some res) (sz : Nat) : zMu st l yJ7_fill_53178 wzJ7_fill_53178 rmJ7_fill_53178_k27 [.ref (ad 27), .int x1] D (tC cy) (wC ad cy) sz σ res :=
  zMu.of (cc := cJ7_fill_53178) (maxL := 4) (ret := none) (by decide) rfl (Nat.le_of_ble_eq_true rfl) (fun p e s m args below meth c hC A hI ls hl => bJ7_fill_53178_k27 hC hI hl hf)
theorem hdJ7_fill_53178_k27 : yJ7_fill_53178.cls ≠ "java/lang/invoke/MethodHandle" ∧ yJ7_fill_53178.cls ≠ "java/lang/invoke/VarHandle" ∧ (parseMethodDescriptor yJ7_fill_53178.desc).map (fun d => d.parameters.length) = some 2 := by decide +kernel
def rmX3_mixColours : Room := { frames := 1, cells := 0, slots := 0, locals := 21 }
def wzX3_mixColours : List Cond := .code yX3_mixColours cX3_mixColours 4 none :: wsL_law
theorem hinX3_mixColours_X30 : ∀ w ∈ wsX30, w ∈ wzX3_mixColours := fun w h => List.mem_cons_of_mem _ (inlX3 w h)
def fX3_mixColours_130 (k2 : zSt → Int32 → Int32 → Option (zSt)) (σ : zSt) (x1 : Int32) (x2 : Int32) : Option (zSt) :=
  zbv (x2 + 1) (fun v1 =>
  k2 σ x1 v1)
def fX3_mixColours_78 (k2 : zSt → Int32 → Int32 → Option (zSt)) (σ : zSt) (x1 : Int32) (x2 : Int32) (s0 : Int32) (s1 : Int32) : Option (zSt) :=
  zck (zin s1 32) (zbv (zsi σ 29 (s1.toNatClampNeg) s0) (fun σ2 =>
  fX3_mixColours_130 k2 σ2 x1 x2))
def fX3_mixColours_129 (k2 : zSt → Int32 → Int32 → Option (zSt)) (σ : zSt) (x1 : Int32) (x2 : Int32) (s0 : Int32) (s1 : Int32) : Option (zSt) :=
  zck (zin s1 32) (zbv (zsi σ 29 (s1.toNatClampNeg) s0) (fun σ3 =>
  fX3_mixColours_130 k2 σ3 x1 x2))
def fX3_mixColours_2_body (k2 : zSt → Int32 → Int32 → Option (zSt)) (σ : zSt) (x1 : Int32) (x2 : Int32) : Option (zSt) :=
  if 32 ≤ x2 then some σ else
  if x1 = 4 then if (zgi σ 3 1) = 0 then zbi (fX9_held σ (32 + x2)) (fun σ5 v6 =>
  fX3_mixColours_78 k2 σ5 x1 x2 (v6 &&& 63) x2) else
  zbi (fX9_held σ (32 + (2 * x2))) (fun σ7 v8 =>
  zbi (fX9_held σ7 ((32 + (2 * x2)) + 1)) (fun σ9 v10 =>
  fX3_mixColours_78 k2 σ9 x1 x2 ((v8 ||| (v10 <<< ((8 : Int32) &&& 31))) &&& 4095) x2)) else
  zck (zin (x2 &&& 15) 16) (
  zbv (zt3 (x2 &&& 15).toNatClampNeg) (fun v4 =>
  if (zgi σ 3 1) = 0 then fX3_mixColours_129 k2 σ x1 x2 v4 x2 else
  fX3_mixColours_129 k2 σ x1 x2 (((5 * (v4 &&& 3)) + (80 * ((v4 >>> ((2 : Int32) &&& 31)) &&& 3))) + (1280 * (v4 >>> ((4 : Int32) &&& 31)))) x2))
def fX3_mixColours_2  : Nat → zSt → Int32 → Int32 → Option (zSt)
  | 0, _, _, _ => none
  | n + 1, σ, x1, x2 => fX3_mixColours_2_body (fX3_mixColours_2  n) σ x1 x2
def fX3_mixColours  (σ : zSt) (x1 : Int32) : Option (zSt) :=
  fX3_mixColours_2 zfuel σ x1 0
set_option maxRecDepth 20000 in
set_option maxHeartbeats 4000000 in
theorem bX3_mixColours_130 {st : Nat → Nat} {p : Program} {l : Launch} {e : Env} {s : State} {m : MethodId} {args : Array Value} {below : List Frame} {meth : Method} {c : Code} {D : va_G} {A : Nat → Prop} {ad : Nat → Nat} {cy : Nat → ClassId} (hC : zC p m c cX3_mixColours 4 s args wzX3_mixColours RX3 meth none) {k2 : zSt → Int32 → Int32 → Option (zSt)} {res : zSt} (hk2 : ∀ (H : Heap) (locs : List Loc) (σ : zSt) (ls : Array Slot) (x1 : Int32) (x2 : Int32), zI st D (tC cy) (wC ad cy σ) A s H locs → lv_has ls 4 [(0, .ref (ad 3)), (1, .int x1), (2, .int x2)] → k2 σ x1 x2 = some res → W p l e rmX3_mixColours s m args below meth c H locs 0 0 (zQu below args s D (tC cy) (wC ad cy) A res) (F0 m 2 ls [])) {H : Heap} {locs : List Loc} {σ : zSt} {ls : Array Slot} {x1 : Int32} {x2 : Int32} (hI : zI st D (tC cy) (wC ad cy σ) A s H locs) (hl : lv_has ls 4 [(0, .ref (ad 3)), (1, .int x1), (2, .int x2)]) (hf : fX3_mixColours_130 k2 σ x1 x2 = some res) : W p l e rmX3_mixColours s m args below meth c H locs 0 0 (zQu below args s D (tC cy) (wC ad cy) A res) (F0 m 130 ls []) := by
  have hx := hC.1
  have hb := hC.2.1
  unfold fX3_mixColours_130 at hf
  obtain ⟨v1, ev1⟩ : ∃ z : Int32, z = x2 + 1 := ⟨_, rfl⟩
  replace hf := zbv_use ev1 hf
  refine lv_iinc (v := v1) (lv' := [(2, .int v1), (0, .ref (ad 3)), (1, .int x1)]) hx hb dX3_mixColours_130 hl (k := 2) rfl (by rw [ev1]; rfl) (by decide) rfl (fun ls hl => ?_)
  refine lv_goto (tgt := 2) hx hb dX3_mixColours_133 (by decide) ?_
  exact hk2 _ _ _ _ _ _ hI (lv_sub hl [1, 2, 0] rfl) hf
set_option maxRecDepth 20000 in
set_option maxHeartbeats 4000000 in
theorem bX3_mixColours_78 {st : Nat → Nat} {p : Program} {l : Launch} {e : Env} {s : State} {m : MethodId} {args : Array Value} {below : List Frame} {meth : Method} {c : Code} {D : va_G} {A : Nat → Prop} {ad : Nat → Nat} {cy : Nat → ClassId} (hC : zC p m c cX3_mixColours 4 s args wzX3_mixColours RX3 meth none) {k2 : zSt → Int32 → Int32 → Option (zSt)} {res : zSt} (hk2 : ∀ (H : Heap) (locs : List Loc) (σ : zSt) (ls : Array Slot) (x1 : Int32) (x2 : Int32), zI st D (tC cy) (wC ad cy σ) A s H locs → lv_has ls 4 [(0, .ref (ad 3)), (1, .int x1), (2, .int x2)] → k2 σ x1 x2 = some res → W p l e rmX3_mixColours s m args below meth c H locs 0 0 (zQu below args s D (tC cy) (wC ad cy) A res) (F0 m 2 ls [])) {H : Heap} {locs : List Loc} {σ : zSt} {ls : Array Slot} {x1 : Int32} {x2 : Int32} {s0 : Int32} {s1 : Int32} (hI : zI st D (tC cy) (wC ad cy σ) A s H locs) (hl : lv_has ls 4 [(0, .ref (ad 3)), (1, .int x1), (2, .int x2)]) (hf : fX3_mixColours_78 k2 σ x1 x2 s0 s1 = some res) : W p l e rmX3_mixColours s m args below meth c H locs 0 0 (zQu below args s D (tC cy) (wC ad cy) A res) (F0 m 78 ls [.int s0, .int s1, .ref (ad 29)]) := by
  have hx := hC.1
  have hb := hC.2.1
  unfold fX3_mixColours_78 at hf
  obtain ⟨q, hf⟩ := zck_use hf
  obtain ⟨σ2, eσ2⟩ : ∃ z, z = zsi σ 29 (s1.toNatClampNeg) s0 := ⟨_, rfl⟩
  replace hf := zbv_use eσ2 hf
  refine z_iast hC hI 29 16 (wC_e29 ad cy σ) (tC_t29 cy) q ((wC_s29 ad cy σ _ _).trans (congrArg (wC ad cy) eσ2.symm)) dX3_mixColours_78 (fun H locs hI => ?_)
  refine lv_goto (tgt := 130) hx hb dX3_mixColours_79 (by decide) ?_
  exact bX3_mixColours_130 hC hk2 hI hl hf
set_option maxRecDepth 20000 in
set_option maxHeartbeats 4000000 in
theorem bX3_mixColours_129 {st : Nat → Nat} {p : Program} {l : Launch} {e : Env} {s : State} {m : MethodId} {args : Array Value} {below : List Frame} {meth : Method} {c : Code} {D : va_G} {A : Nat → Prop} {ad : Nat → Nat} {cy : Nat → ClassId} (hC : zC p m c cX3_mixColours 4 s args wzX3_mixColours RX3 meth none) {k2 : zSt → Int32 → Int32 → Option (zSt)} {res : zSt} (hk2 : ∀ (H : Heap) (locs : List Loc) (σ : zSt) (ls : Array Slot) (x1 : Int32) (x2 : Int32), zI st D (tC cy) (wC ad cy σ) A s H locs → lv_has ls 4 [(0, .ref (ad 3)), (1, .int x1), (2, .int x2)] → k2 σ x1 x2 = some res → W p l e rmX3_mixColours s m args below meth c H locs 0 0 (zQu below args s D (tC cy) (wC ad cy) A res) (F0 m 2 ls [])) {H : Heap} {locs : List Loc} {σ : zSt} {ls : Array Slot} {x1 : Int32} {x2 : Int32} {s0 : Int32} {s1 : Int32} (hI : zI st D (tC cy) (wC ad cy σ) A s H locs) (hl : lv_has ls 4 [(0, .ref (ad 3)), (1, .int x1), (2, .int x2)]) (hf : fX3_mixColours_129 k2 σ x1 x2 s0 s1 = some res) : W p l e rmX3_mixColours s m args below meth c H locs 0 0 (zQu below args s D (tC cy) (wC ad cy) A res) (F0 m 129 ls [.int s0, .int s1, .ref (ad 29)]) := by
  have hx := hC.1
  have hb := hC.2.1
  unfold fX3_mixColours_129 at hf
  obtain ⟨q, hf⟩ := zck_use hf
  obtain ⟨σ3, eσ3⟩ : ∃ z, z = zsi σ 29 (s1.toNatClampNeg) s0 := ⟨_, rfl⟩
  replace hf := zbv_use eσ3 hf
  refine z_iast hC hI 29 16 (wC_e29 ad cy σ) (tC_t29 cy) q ((wC_s29 ad cy σ _ _).trans (congrArg (wC ad cy) eσ3.symm)) dX3_mixColours_129 (fun H locs hI => ?_)
  exact bX3_mixColours_130 hC hk2 hI hl hf
set_option maxRecDepth 20000 in
set_option maxHeartbeats 4000000 in
theorem bX3_mixColours_2_body {st : Nat → Nat} {p : Program} {l : Launch} {e : Env} {s : State} {m : MethodId} {args : Array Value} {below : List Frame} {meth : Method} {c : Code} {D : va_G} {A : Nat → Prop} {ad : Nat → Nat} {cy : Nat → ClassId} (hC : zC p m c cX3_mixColours 4 s args wzX3_mixColours RX3 meth none) {k2 : zSt → Int32 → Int32 → Option (zSt)} {res : zSt} (hk2 : ∀ (H : Heap) (locs : List Loc) (σ : zSt) (ls : Array Slot) (x1 : Int32) (x2 : Int32), zI st D (tC cy) (wC ad cy σ) A s H locs → lv_has ls 4 [(0, .ref (ad 3)), (1, .int x1), (2, .int x2)] → k2 σ x1 x2 = some res → W p l e rmX3_mixColours s m args below meth c H locs 0 0 (zQu below args s D (tC cy) (wC ad cy) A res) (F0 m 2 ls [])) {H : Heap} {locs : List Loc} {σ : zSt} {ls : Array Slot} {x1 : Int32} {x2 : Int32} (hI : zI st D (tC cy) (wC ad cy σ) A s H locs) (hl : lv_has ls 4 [(0, .ref (ad 3)), (1, .int x1), (2, .int x2)]) (hf : fX3_mixColours_2_body k2 σ x1 x2 = some res) : W p l e rmX3_mixColours s m args below meth c H locs 0 0 (zQu below args s D (tC cy) (wC ad cy) A res) (F0 m 2 ls []) := by
  have hx := hC.1
  have hb := hC.2.1
  unfold fX3_mixColours_2_body at hf
  refine lv_iload_n hx hb dX3_mixColours_2 rfl (lv_at hl 2 rfl) ?_
  refine lv_bipush (v := 32) hx hb dX3_mixColours_3 (by decide) ?_
  refine lv_icmp_ge (tgt := 136) hx hb dX3_mixColours_5 (by decide) (fun q => ?_) (fun q => ?_)
  · replace hf := zif_t q hf
    exact z_return hC hI hf dX3_mixColours_136
  replace hf := zif_f q hf
  refine lv_iload_n hx hb dX3_mixColours_8 rfl (lv_at hl 1 rfl) ?_
  refine lv_iconst (v := 4) hx hb dX3_mixColours_9 (by decide) ?_
  refine lv_icmp_ne (tgt := 82) hx hb dX3_mixColours_10 (by decide) (fun q => ?_) (fun q => ?_)
  · replace hf := zif_f q hf
    refine z_gets hC hI 3 (by decide) (List.mem_cons_of_mem _ zw39_19) dX3_mixColours_82 ?_
    refine lv_iload_n hx hb dX3_mixColours_85 rfl (lv_at hl 2 rfl) ?_
    refine lv_bipush (v := 15) hx hb dX3_mixColours_86 (by decide) ?_
    refine lv_iand hx hb dX3_mixColours_88 ?_
    obtain ⟨q, hf⟩ := zck_use hf
    refine z_ti hC hI 3 (by decide) rfl rfl q rfl dX3_mixColours_89 ?_
    refine lv_topi (fun v4 ev4 => ?_)
    replace hf := zbv_use ev4 hf
    refine lv_istore_n (lv' := [(3, .int v4), (0, .ref (ad 3)), (1, .int x1), (2, .int x2)]) hx hb dX3_mixColours_90 rfl hl (by decide) rfl (fun ls hl => ?_)
    refine lv_aload_n hx hb dX3_mixColours_91 rfl (lv_at hl 1 rfl) ?_
    refine z_get hC hI hinX3_mixColours_X30 3 (wC_e3 ad cy σ) rfl 6 (by decide) (List.mem_cons_of_mem _ zw4_21) rfl dX3_mixColours_92 ?_
    refine lv_iload_n hx hb dX3_mixColours_95 rfl (lv_at hl 3 rfl) ?_
    refine lv_aload_n hx hb dX3_mixColours_96 rfl (lv_at hl 1 rfl) ?_
    refine z_get hC hI hinX3_mixColours_X30 3 (wC_e3 ad cy σ) rfl 1 (by decide) (List.mem_cons_of_mem _ zw4_23) rfl dX3_mixColours_97 ?_
    refine lv_if_eq (tgt := 128) hx hb dX3_mixColours_100 (by decide) (fun q => ?_) (fun q => ?_)
    · replace hf := zif_t q hf
      refine lv_iload_n hx hb dX3_mixColours_128 rfl (lv_at hl 0 rfl) ?_
      exact bX3_mixColours_129 hC hk2 hI (lv_sub hl [1, 2, 3] rfl) hf
    replace hf := zif_f q hf
    refine lv_iconst (v := 5) hx hb dX3_mixColours_103 (by decide) ?_
    refine lv_iload_n hx hb dX3_mixColours_104 rfl (lv_at hl 0 rfl) ?_
    refine lv_iconst (v := 3) hx hb dX3_mixColours_105 (by decide) ?_
    refine lv_iand hx hb dX3_mixColours_106 ?_
    refine lv_imul hx hb dX3_mixColours_107 ?_
    refine lv_bipush (v := 80) hx hb dX3_mixColours_108 (by decide) ?_
    refine lv_iload_n hx hb dX3_mixColours_110 rfl (lv_at hl 0 rfl) ?_
    refine lv_iconst (v := 2) hx hb dX3_mixColours_111 (by decide) ?_
    refine lv_ishr hx hb dX3_mixColours_112 ?_
    refine lv_iconst (v := 3) hx hb dX3_mixColours_113 (by decide) ?_
    refine lv_iand hx hb dX3_mixColours_114 ?_
    refine lv_imul hx hb dX3_mixColours_115 ?_
    refine lv_iadd hx hb dX3_mixColours_116 ?_
    refine lv_sipush (v := 1280) hx hb dX3_mixColours_117 (by decide) ?_
    refine lv_iload_n hx hb dX3_mixColours_120 rfl (lv_at hl 0 rfl) ?_
    refine lv_iconst (v := 4) hx hb dX3_mixColours_121 (by decide) ?_
    refine lv_ishr hx hb dX3_mixColours_122 ?_
    refine lv_imul hx hb dX3_mixColours_123 ?_
    refine lv_iadd hx hb dX3_mixColours_124 ?_
    refine lv_goto (tgt := 129) hx hb dX3_mixColours_125 (by decide) ?_
    exact bX3_mixColours_129 hC hk2 hI (lv_sub hl [1, 2, 3] rfl) hf
  replace hf := zif_t q hf
  refine lv_aload_n hx hb dX3_mixColours_13 rfl (lv_at hl 0 rfl) ?_
  refine z_get hC hI hinX3_mixColours_X30 3 (wC_e3 ad cy σ) rfl 6 (by decide) (List.mem_cons_of_mem _ zw4_21) rfl dX3_mixColours_14 ?_
  refine lv_iload_n hx hb dX3_mixColours_17 rfl (lv_at hl 2 rfl) ?_
  refine lv_aload_n hx hb dX3_mixColours_18 rfl (lv_at hl 0 rfl) ?_
  refine z_get hC hI hinX3_mixColours_X30 3 (wC_e3 ad cy σ) rfl 1 (by decide) (List.mem_cons_of_mem _ zw4_23) rfl dX3_mixColours_19 ?_
  refine lv_if_eq (tgt := 64) hx hb dX3_mixColours_22 (by decide) (fun q => ?_) (fun q => ?_)
  · replace hf := zif_t q hf
    refine lv_aload_n hx hb dX3_mixColours_64 rfl (lv_at hl 0 rfl) ?_
    refine z_get hC hI hinX3_mixColours_X30 3 (wC_e3 ad cy σ) rfl 0 (by decide) (List.mem_cons_of_mem _ zw4_22) rfl dX3_mixColours_65 ?_
    refine lv_bipush (v := 32) hx hb dX3_mixColours_68 (by decide) ?_
    refine lv_iload_n hx hb dX3_mixColours_70 rfl (lv_at hl 2 rfl) ?_
    refine lv_iadd hx hb dX3_mixColours_71 ?_
    obtain ⟨σ5, v6, g5, hf⟩ := zbi_use hf
    refine z_callVi (As := [.int (32 + x2)]) (rest := [.int x2, .ref (ad 29)]) hC hI (cX9_held_met st l D ad cy σ (32 + x2) _ g5) (zgV zw35_21 zw35_13 zw35_14 zw2_1 zw35_15) rfl ⟨rfl, rfl⟩ 1 hdX9_held ⟨Nat.le_of_ble_eq_true rfl, Nat.le_of_ble_eq_true rfl⟩ rfl rfl (wC_e2 ad cy σ) rfl hl rfl (Nat.le_of_ble_eq_true rfl) dX3_mixColours_72 ⟨Nat.zero_le _, Nat.zero_le _⟩ (fun H locs hI => ?_)
    refine lv_bipush (v := 63) hx hb dX3_mixColours_75 (by decide) ?_
    refine lv_iand hx hb dX3_mixColours_77 ?_
    exact bX3_mixColours_78 hC hk2 hI hl hf
  replace hf := zif_f q hf
  refine lv_aload_n hx hb dX3_mixColours_25 rfl (lv_at hl 0 rfl) ?_
  refine z_get hC hI hinX3_mixColours_X30 3 (wC_e3 ad cy σ) rfl 0 (by decide) (List.mem_cons_of_mem _ zw4_22) rfl dX3_mixColours_26 ?_
  refine lv_bipush (v := 32) hx hb dX3_mixColours_29 (by decide) ?_
  refine lv_iconst (v := 2) hx hb dX3_mixColours_31 (by decide) ?_
  refine lv_iload_n hx hb dX3_mixColours_32 rfl (lv_at hl 2 rfl) ?_
  refine lv_imul hx hb dX3_mixColours_33 ?_
  refine lv_iadd hx hb dX3_mixColours_34 ?_
  obtain ⟨σ7, v8, g7, hf⟩ := zbi_use hf
  refine z_callVi (As := [.int (32 + (2 * x2))]) (rest := [.int x2, .ref (ad 29)]) hC hI (cX9_held_met st l D ad cy σ (32 + (2 * x2)) _ g7) (zgV zw35_21 zw35_13 zw35_14 zw2_1 zw35_15) rfl ⟨rfl, rfl⟩ 1 hdX9_held ⟨Nat.le_of_ble_eq_true rfl, Nat.le_of_ble_eq_true rfl⟩ rfl rfl (wC_e2 ad cy σ) rfl hl rfl (Nat.le_of_ble_eq_true rfl) dX3_mixColours_35 ⟨Nat.zero_le _, Nat.zero_le _⟩ (fun H locs hI => ?_)
  refine lv_aload_n hx hb dX3_mixColours_38 rfl (lv_at hl 0 rfl) ?_
  refine z_get hC hI hinX3_mixColours_X30 3 (wC_e3 ad cy σ7) rfl 0 (by decide) (List.mem_cons_of_mem _ zw4_22) rfl dX3_mixColours_39 ?_
  refine lv_bipush (v := 32) hx hb dX3_mixColours_42 (by decide) ?_
  refine lv_iconst (v := 2) hx hb dX3_mixColours_44 (by decide) ?_
  refine lv_iload_n hx hb dX3_mixColours_45 rfl (lv_at hl 2 rfl) ?_
  refine lv_imul hx hb dX3_mixColours_46 ?_
  refine lv_iadd hx hb dX3_mixColours_47 ?_
  refine lv_iconst (v := 1) hx hb dX3_mixColours_48 (by decide) ?_
  refine lv_iadd hx hb dX3_mixColours_49 ?_
  obtain ⟨σ9, v10, g9, hf⟩ := zbi_use hf
  refine z_callVi (As := [.int ((32 + (2 * x2)) + 1)]) (rest := [.int v8, .int x2, .ref (ad 29)]) hC hI (cX9_held_met st l D ad cy σ7 ((32 + (2 * x2)) + 1) _ g9) (zgV zw35_21 zw35_13 zw35_14 zw2_1 zw35_15) rfl ⟨rfl, rfl⟩ 1 hdX9_held ⟨Nat.le_of_ble_eq_true rfl, Nat.le_of_ble_eq_true rfl⟩ rfl rfl (wC_e2 ad cy σ7) rfl hl rfl (Nat.le_of_ble_eq_true rfl) dX3_mixColours_50 ⟨Nat.zero_le _, Nat.zero_le _⟩ (fun H locs hI => ?_)
  refine lv_bipush (v := 8) hx hb dX3_mixColours_53 (by decide) ?_
  refine lv_ishl hx hb dX3_mixColours_55 ?_
  refine lv_ior hx hb dX3_mixColours_56 ?_
  refine lv_sipush (v := 4095) hx hb dX3_mixColours_57 (by decide) ?_
  refine lv_iand hx hb dX3_mixColours_60 ?_
  refine lv_goto (tgt := 78) hx hb dX3_mixColours_61 (by decide) ?_
  exact bX3_mixColours_78 hC hk2 hI hl hf
theorem blX3_mixColours_2 {st : Nat → Nat} {p : Program} {l : Launch} {e : Env} {s : State} {m : MethodId} {args : Array Value} {below : List Frame} {meth : Method} {c : Code} {D : va_G} {A : Nat → Prop} {ad : Nat → Nat} {cy : Nat → ClassId} (hC : zC p m c cX3_mixColours 4 s args wzX3_mixColours RX3 meth none)  {res : zSt} : ∀ (n : Nat) (H : Heap) (locs : List Loc) (σ : zSt) (ls : Array Slot) (x1 : Int32) (x2 : Int32), zI st D (tC cy) (wC ad cy σ) A s H locs → lv_has ls 4 [(0, .ref (ad 3)), (1, .int x1), (2, .int x2)] → fX3_mixColours_2  n σ x1 x2 = some res → W p l e rmX3_mixColours s m args below meth c H locs 0 0 (zQu below args s D (tC cy) (wC ad cy) A res) (F0 m 2 ls []) := by
  intro n
  induction n with
  | zero => intro H locs σ ls x1 x2 hI hl hf; cases hf
  | succ n ih => intro H locs σ ls x1 x2 hI hl hf; exact bX3_mixColours_2_body hC ih hI hl hf
set_option maxRecDepth 20000 in
set_option maxHeartbeats 4000000 in
theorem bX3_mixColours {st : Nat → Nat} {p : Program} {l : Launch} {e : Env} {s : State} {m : MethodId} {args : Array Value} {below : List Frame} {meth : Method} {c : Code} {D : va_G} {A : Nat → Prop} {ad : Nat → Nat} {cy : Nat → ClassId} (hC : zC p m c cX3_mixColours 4 s args wzX3_mixColours RX3 meth none)  {res : zSt} {H : Heap} {locs : List Loc} {σ : zSt} {ls : Array Slot} {x1 : Int32} (hI : zI st D (tC cy) (wC ad cy σ) A s H locs) (hl : lv_has ls 4 [(0, .ref (ad 3)), (1, .int x1)]) (hf : fX3_mixColours  σ x1 = some res) : W p l e rmX3_mixColours s m args below meth c H locs 0 0 (zQu below args s D (tC cy) (wC ad cy) A res) (F0 m 0 ls []) := by
  have hx := hC.1
  have hb := hC.2.1
  unfold fX3_mixColours at hf
  refine lv_iconst (v := 0) hx hb dX3_mixColours_0 (by decide) ?_
  refine lv_istore_n (lv' := [(2, .int 0), (0, .ref (ad 3)), (1, .int x1)]) hx hb dX3_mixColours_1 rfl hl (by decide) rfl (fun ls hl => ?_)
  exact blX3_mixColours_2 hC  zfuel _ _ _ _ _ _ hI (lv_sub hl [1, 2, 0] rfl) hf
set_option maxRecDepth 20000 in
theorem cX3_mixColours_met (st : Nat → Nat) (l : Launch) (D : va_G) (ad : Nat → Nat) (cy : Nat → ClassId) (σ : zSt) (x1 : Int32) (res : zSt) (hf : fX3_mixColours σ x1 = some res) (sz : Nat) : zMu st l yX3_mixColours wzX3_mixColours rmX3_mixColours [.ref (ad 3), .int x1] D (tC cy) (wC ad cy) sz σ res :=
  zMu.of (cc := cX3_mixColours) (maxL := 4) (ret := none) (by decide) rfl (Nat.le_of_ble_eq_true rfl) (fun p e s m args below meth c hC A hI ls hl => bX3_mixColours hC hI hl hf)
theorem hdX3_mixColours : yX3_mixColours.cls = RX3 ∧ yX3_mixColours.cls ≠ "java/lang/invoke/MethodHandle" ∧ yX3_mixColours.cls ≠ "java/lang/invoke/VarHandle" ∧ (parseMethodDescriptor yX3_mixColours.desc).map (fun d => d.parameters.length) = some 1 := by decide +kernel
def rmX9_vramByte : Room := { frames := 0, cells := 0, slots := 0, locals := 0 }
def wzX9_vramByte : List Cond := .code yX9_vramByte cX9_vramByte 2 (some .int) :: wsL_law
theorem hinX9_vramByte_X90 : ∀ w ∈ wsX90, w ∈ wzX9_vramByte := fun w h => List.mem_cons_of_mem _ (inlX9 w h)
def fX9_vramByte  (σ : zSt) (x1 : Int32) : Option (zSt × Int32) :=
  zck (zin (x1 &&& 16383) 16384) (
  some (σ, zgi σ 21 (x1 &&& 16383).toNatClampNeg))
set_option maxRecDepth 20000 in
set_option maxHeartbeats 4000000 in
theorem bX9_vramByte {st : Nat → Nat} {p : Program} {l : Launch} {e : Env} {s : State} {m : MethodId} {args : Array Value} {below : List Frame} {meth : Method} {c : Code} {D : va_G} {A : Nat → Prop} {ad : Nat → Nat} {cy : Nat → ClassId} (hC : zC p m c cX9_vramByte 2 s args wzX9_vramByte RX9 meth (some .int))  {res : zSt × Int32} {H : Heap} {locs : List Loc} {σ : zSt} {ls : Array Slot} {x1 : Int32} (hI : zI st D (tC cy) (wC ad cy σ) A s H locs) (hl : lv_has ls 2 [(0, .ref (ad 2)), (1, .int x1)]) (hf : fX9_vramByte  σ x1 = some res) : W p l e rmX9_vramByte s m args below meth c H locs 0 0 (zQi below args s D (tC cy) (wC ad cy) A res) (F0 m 0 ls []) := by
  have hx := hC.1
  have hb := hC.2.1
  unfold fX9_vramByte at hf
  refine lv_aload_n hx hb dX9_vramByte_0 rfl (lv_at hl 0 rfl) ?_
  refine z_get hC hI hinX9_vramByte_X90 2 (wC_e2 ad cy σ) rfl 2 (by decide) (List.mem_cons_of_mem _ zw4_6) rfl dX9_vramByte_1 ?_
  refine lv_iload_n hx hb dX9_vramByte_4 rfl (lv_at hl 1 rfl) ?_
  refine lv_sipush (v := 16383) hx hb dX9_vramByte_5 (by decide) ?_
  refine lv_iand hx hb dX9_vramByte_8 ?_
  obtain ⟨q, hf⟩ := zck_use hf
  refine z_iald hC hI 21 8 (wC_e21 ad cy σ) (tC_t21 cy) q dX9_vramByte_9 ?_
  exact z_ireturn hC hI hf dX9_vramByte_10
set_option maxRecDepth 20000 in
theorem cX9_vramByte_met (st : Nat → Nat) (l : Launch) (D : va_G) (ad : Nat → Nat) (cy : Nat → ClassId) (σ : zSt) (x1 : Int32) (res : zSt × Int32) (hf : fX9_vramByte σ x1 = some res) (sz : Nat) : zMi st l yX9_vramByte wzX9_vramByte rmX9_vramByte [.ref (ad 2), .int x1] D (tC cy) (wC ad cy) sz σ res :=
  zMi.of (cc := cX9_vramByte) (maxL := 2) (ret := (some .int)) (by decide) rfl (Nat.le_of_ble_eq_true rfl) (fun p e s m args below meth c hC A hI ls hl => bX9_vramByte hC hI hl hf)
theorem hdX9_vramByte : yX9_vramByte.cls = RX9 ∧ yX9_vramByte.cls ≠ "java/lang/invoke/MethodHandle" ∧ yX9_vramByte.cls ≠ "java/lang/invoke/VarHandle" ∧ (parseMethodDescriptor yX9_vramByte.desc).map (fun d => d.parameters.length) = some 1 := by decide +kernel
def rmX3_takePlanes : Room := { frames := 1, cells := 0, slots := 0, locals := 21 }
def wzX3_takePlanes : List Cond := .code yX3_takePlanes cX3_takePlanes 2 none :: wsL_law
theorem hinX3_takePlanes_X30 : ∀ w ∈ wsX30, w ∈ wzX3_takePlanes := fun w h => List.mem_cons_of_mem _ (inlX3 w h)
def fX3_takePlanes  (σ : zSt) (x1 : Int32) : Option (zSt) :=
  zbi (fX9_vramByte σ x1) (fun σ1 v2 =>
  zbi (fX9_vramByte σ1 (x1 + 1)) (fun σ3 v4 =>
  zbi (fX9_vramByte σ3 (x1 + 2)) (fun σ5 v6 =>
  zbi (fX9_vramByte σ5 (x1 + 3)) (fun σ7 v8 =>
  zbv (zsi σ7 3 7 (((v2 ||| (v4 <<< ((8 : Int32) &&& 31))) ||| (v6 <<< ((16 : Int32) &&& 31))) ||| (v8 <<< ((24 : Int32) &&& 31)))) (fun σ9 =>
  some σ9)))))
set_option maxRecDepth 20000 in
set_option maxHeartbeats 4000000 in
theorem bX3_takePlanes {st : Nat → Nat} {p : Program} {l : Launch} {e : Env} {s : State} {m : MethodId} {args : Array Value} {below : List Frame} {meth : Method} {c : Code} {D : va_G} {A : Nat → Prop} {ad : Nat → Nat} {cy : Nat → ClassId} (hC : zC p m c cX3_takePlanes 2 s args wzX3_takePlanes RX3 meth none)  {res : zSt} {H : Heap} {locs : List Loc} {σ : zSt} {ls : Array Slot} {x1 : Int32} (hI : zI st D (tC cy) (wC ad cy σ) A s H locs) (hl : lv_has ls 2 [(0, .ref (ad 3)), (1, .int x1)]) (hf : fX3_takePlanes  σ x1 = some res) : W p l e rmX3_takePlanes s m args below meth c H locs 0 0 (zQu below args s D (tC cy) (wC ad cy) A res) (F0 m 0 ls []) := by
  have hx := hC.1
  have hb := hC.2.1
  unfold fX3_takePlanes at hf
  refine lv_aload_n hx hb dX3_takePlanes_0 rfl (lv_at hl 0 rfl) ?_
  refine lv_aload_n hx hb dX3_takePlanes_1 rfl (lv_at hl 0 rfl) ?_
  refine z_get hC hI hinX3_takePlanes_X30 3 (wC_e3 ad cy σ) rfl 0 (by decide) (List.mem_cons_of_mem _ zw4_22) rfl dX3_takePlanes_2 ?_
  refine lv_iload_n hx hb dX3_takePlanes_5 rfl (lv_at hl 1 rfl) ?_
  obtain ⟨σ1, v2, g1, hf⟩ := zbi_use hf
  refine z_callVi (As := [.int x1]) (rest := [.ref (ad 3)]) hC hI (cX9_vramByte_met st l D ad cy σ x1 _ g1) (zgV zw36_14 zw36_15 zw36_16 zw2_1 zw36_17) rfl ⟨rfl, rfl⟩ 1 hdX9_vramByte ⟨Nat.le_of_ble_eq_true rfl, Nat.le_of_ble_eq_true rfl⟩ rfl rfl (wC_e2 ad cy σ) rfl hl rfl (Nat.le_of_ble_eq_true rfl) dX3_takePlanes_6 ⟨Nat.zero_le _, Nat.zero_le _⟩ (fun H locs hI => ?_)
  refine lv_aload_n hx hb dX3_takePlanes_9 rfl (lv_at hl 0 rfl) ?_
  refine z_get hC hI hinX3_takePlanes_X30 3 (wC_e3 ad cy σ1) rfl 0 (by decide) (List.mem_cons_of_mem _ zw4_22) rfl dX3_takePlanes_10 ?_
  refine lv_iload_n hx hb dX3_takePlanes_13 rfl (lv_at hl 1 rfl) ?_
  refine lv_iconst (v := 1) hx hb dX3_takePlanes_14 (by decide) ?_
  refine lv_iadd hx hb dX3_takePlanes_15 ?_
  obtain ⟨σ3, v4, g3, hf⟩ := zbi_use hf
  refine z_callVi (As := [.int (x1 + 1)]) (rest := [.int v2, .ref (ad 3)]) hC hI (cX9_vramByte_met st l D ad cy σ1 (x1 + 1) _ g3) (zgV zw36_14 zw36_15 zw36_16 zw2_1 zw36_17) rfl ⟨rfl, rfl⟩ 1 hdX9_vramByte ⟨Nat.le_of_ble_eq_true rfl, Nat.le_of_ble_eq_true rfl⟩ rfl rfl (wC_e2 ad cy σ1) rfl hl rfl (Nat.le_of_ble_eq_true rfl) dX3_takePlanes_16 ⟨Nat.zero_le _, Nat.zero_le _⟩ (fun H locs hI => ?_)
  refine lv_bipush (v := 8) hx hb dX3_takePlanes_19 (by decide) ?_
  refine lv_ishl hx hb dX3_takePlanes_21 ?_
  refine lv_ior hx hb dX3_takePlanes_22 ?_
  refine lv_aload_n hx hb dX3_takePlanes_23 rfl (lv_at hl 0 rfl) ?_
  refine z_get hC hI hinX3_takePlanes_X30 3 (wC_e3 ad cy σ3) rfl 0 (by decide) (List.mem_cons_of_mem _ zw4_22) rfl dX3_takePlanes_24 ?_
  refine lv_iload_n hx hb dX3_takePlanes_27 rfl (lv_at hl 1 rfl) ?_
  refine lv_iconst (v := 2) hx hb dX3_takePlanes_28 (by decide) ?_
  refine lv_iadd hx hb dX3_takePlanes_29 ?_
  obtain ⟨σ5, v6, g5, hf⟩ := zbi_use hf
  refine z_callVi (As := [.int (x1 + 2)]) (rest := [.int (v2 ||| (v4 <<< ((8 : Int32) &&& 31))), .ref (ad 3)]) hC hI (cX9_vramByte_met st l D ad cy σ3 (x1 + 2) _ g5) (zgV zw36_14 zw36_15 zw36_16 zw2_1 zw36_17) rfl ⟨rfl, rfl⟩ 1 hdX9_vramByte ⟨Nat.le_of_ble_eq_true rfl, Nat.le_of_ble_eq_true rfl⟩ rfl rfl (wC_e2 ad cy σ3) rfl hl rfl (Nat.le_of_ble_eq_true rfl) dX3_takePlanes_30 ⟨Nat.zero_le _, Nat.zero_le _⟩ (fun H locs hI => ?_)
  refine lv_bipush (v := 16) hx hb dX3_takePlanes_33 (by decide) ?_
  refine lv_ishl hx hb dX3_takePlanes_35 ?_
  refine lv_ior hx hb dX3_takePlanes_36 ?_
  refine lv_aload_n hx hb dX3_takePlanes_37 rfl (lv_at hl 0 rfl) ?_
  refine z_get hC hI hinX3_takePlanes_X30 3 (wC_e3 ad cy σ5) rfl 0 (by decide) (List.mem_cons_of_mem _ zw4_22) rfl dX3_takePlanes_38 ?_
  refine lv_iload_n hx hb dX3_takePlanes_41 rfl (lv_at hl 1 rfl) ?_
  refine lv_iconst (v := 3) hx hb dX3_takePlanes_42 (by decide) ?_
  refine lv_iadd hx hb dX3_takePlanes_43 ?_
  obtain ⟨σ7, v8, g7, hf⟩ := zbi_use hf
  refine z_callVi (As := [.int (x1 + 3)]) (rest := [.int ((v2 ||| (v4 <<< ((8 : Int32) &&& 31))) ||| (v6 <<< ((16 : Int32) &&& 31))), .ref (ad 3)]) hC hI (cX9_vramByte_met st l D ad cy σ5 (x1 + 3) _ g7) (zgV zw36_14 zw36_15 zw36_16 zw2_1 zw36_17) rfl ⟨rfl, rfl⟩ 1 hdX9_vramByte ⟨Nat.le_of_ble_eq_true rfl, Nat.le_of_ble_eq_true rfl⟩ rfl rfl (wC_e2 ad cy σ5) rfl hl rfl (Nat.le_of_ble_eq_true rfl) dX3_takePlanes_44 ⟨Nat.zero_le _, Nat.zero_le _⟩ (fun H locs hI => ?_)
  refine lv_bipush (v := 24) hx hb dX3_takePlanes_47 (by decide) ?_
  refine lv_ishl hx hb dX3_takePlanes_49 ?_
  refine lv_ior hx hb dX3_takePlanes_50 ?_
  obtain ⟨σ9, eσ9⟩ : ∃ z, z = zsi σ7 3 7 (((v2 ||| (v4 <<< ((8 : Int32) &&& 31))) ||| (v6 <<< ((16 : Int32) &&& 31))) ||| (v8 <<< ((24 : Int32) &&& 31))) := ⟨_, rfl⟩
  replace hf := zbv_use eσ9 hf
  refine z_put hC hI hinX3_takePlanes_X30 tyX3_ok nmX3 3 (wC_e3 ad cy σ7) rfl 7 (by decide) (List.mem_cons_of_mem _ zw36_8) rfl rfl rfl (Nat.le_of_ble_eq_true rfl) ((wC_s3_7 ad cy σ7 (((v2 ||| (v4 <<< ((8 : Int32) &&& 31))) ||| (v6 <<< ((16 : Int32) &&& 31))) ||| (v8 <<< ((24 : Int32) &&& 31)))).trans (congrArg (wC ad cy) eσ9.symm)) dX3_takePlanes_51 (fun H locs hI => ?_)
  exact z_return hC hI hf dX3_takePlanes_54
set_option maxRecDepth 20000 in
theorem cX3_takePlanes_met (st : Nat → Nat) (l : Launch) (D : va_G) (ad : Nat → Nat) (cy : Nat → ClassId) (σ : zSt) (x1 : Int32) (res : zSt) (hf : fX3_takePlanes σ x1 = some res) (sz : Nat) : zMu st l yX3_takePlanes wzX3_takePlanes rmX3_takePlanes [.ref (ad 3), .int x1] D (tC cy) (wC ad cy) sz σ res :=
  zMu.of (cc := cX3_takePlanes) (maxL := 2) (ret := none) (by decide) rfl (Nat.le_of_ble_eq_true rfl) (fun p e s m args below meth c hC A hI ls hl => bX3_takePlanes hC hI hl hf)
theorem hdX3_takePlanes : yX3_takePlanes.cls = RX3 ∧ yX3_takePlanes.cls ≠ "java/lang/invoke/MethodHandle" ∧ yX3_takePlanes.cls ≠ "java/lang/invoke/VarHandle" ∧ (parseMethodDescriptor yX3_takePlanes.desc).map (fun d => d.parameters.length) = some 1 := by decide +kernel
def rmX3_takeTile : Room := { frames := 2, cells := 0, slots := 0, locals := 42 }
def wzX3_takeTile : List Cond := .code yX3_takeTile cX3_takeTile 5 none :: wsL_law
theorem hinX3_takeTile_X30 : ∀ w ∈ wsX30, w ∈ wzX3_takeTile := fun w h => List.mem_cons_of_mem _ (inlX3 w h)
def fX3_takeTile_60  (σ : zSt) (s0 : Int32) : Option (zSt) :=
  zbu (fX3_takePlanes σ ((32 * ((zgi σ 3 8) &&& 511)) + (4 * s0))) (fun σ1 =>
  some σ1)
def fX3_takeTile  (σ : zSt) (x1 : Int32) (x2 : Int32) : Option (zSt) :=
  zbv (x1 + (64 * (x2 >>> ((3 : Int32) &&& 31)))) (fun v2 =>
  zbi (fX9_vramByte σ v2) (fun σ3 v4 =>
  zbi (fX9_vramByte σ3 (v2 + 1)) (fun σ5 v6 =>
  zbv (zsi σ5 3 8 (v4 ||| (v6 <<< ((8 : Int32) &&& 31)))) (fun σ7 =>
  if ((zgi σ7 3 8) &&& 1024) = 0 then fX3_takeTile_60 σ7 (x2 &&& 7) else
  fX3_takeTile_60 σ7 (7 - (x2 &&& 7))))))
set_option maxRecDepth 20000 in
set_option maxHeartbeats 4000000 in
theorem bX3_takeTile_60 {st : Nat → Nat} {p : Program} {l : Launch} {e : Env} {s : State} {m : MethodId} {args : Array Value} {below : List Frame} {meth : Method} {c : Code} {D : va_G} {A : Nat → Prop} {ad : Nat → Nat} {cy : Nat → ClassId} (hC : zC p m c cX3_takeTile 5 s args wzX3_takeTile RX3 meth none)  {res : zSt} {H : Heap} {locs : List Loc} {σ : zSt} {ls : Array Slot} {s0 : Int32} (hI : zI st D (tC cy) (wC ad cy σ) A s H locs) (hl : lv_has ls 5 [(0, .ref (ad 3))]) (hf : fX3_takeTile_60  σ s0 = some res) : W p l e rmX3_takeTile s m args below meth c H locs 0 0 (zQu below args s D (tC cy) (wC ad cy) A res) (F0 m 60 ls [.int s0]) := by
  have hx := hC.1
  have hb := hC.2.1
  unfold fX3_takeTile_60 at hf
  refine lv_istore (lv' := [(4, .int s0), (0, .ref (ad 3))]) hx hb dX3_takeTile_60 hl (by decide) rfl (fun ls hl => ?_)
  refine lv_aload_n hx hb dX3_takeTile_62 rfl (lv_at hl 1 rfl) ?_
  refine lv_bipush (v := 32) hx hb dX3_takeTile_63 (by decide) ?_
  refine lv_aload_n hx hb dX3_takeTile_65 rfl (lv_at hl 1 rfl) ?_
  refine z_get hC hI hinX3_takeTile_X30 3 (wC_e3 ad cy σ) rfl 8 (by decide) (List.mem_cons_of_mem _ zw36_7) rfl dX3_takeTile_66 ?_
  refine lv_sipush (v := 511) hx hb dX3_takeTile_69 (by decide) ?_
  refine lv_iand hx hb dX3_takeTile_72 ?_
  refine lv_imul hx hb dX3_takeTile_73 ?_
  refine lv_iconst (v := 4) hx hb dX3_takeTile_74 (by decide) ?_
  refine lv_iload hx hb dX3_takeTile_75 (lv_at hl 0 rfl) ?_
  refine lv_imul hx hb dX3_takeTile_77 ?_
  refine lv_iadd hx hb dX3_takeTile_78 ?_
  obtain ⟨σ1, g1, hf⟩ := zbu_use hf
  refine z_callVu (As := [.int ((32 * ((zgi σ 3 8) &&& 511)) + (4 * s0))]) (rest := []) hC hI (cX3_takePlanes_met st l D ad cy σ ((32 * ((zgi σ 3 8) &&& 511)) + (4 * s0)) _ g1) (zgV zw36_18 zw36_19 zw36_20 zw2_5 zw36_21) rfl ⟨rfl, rfl⟩ 1 hdX3_takePlanes ⟨Nat.le_of_ble_eq_true rfl, Nat.le_of_ble_eq_true rfl⟩ rfl rfl (wC_e3 ad cy σ) rfl hl rfl (Nat.le_of_ble_eq_true rfl) dX3_takeTile_79 ⟨Nat.zero_le _, Nat.zero_le _⟩ (fun H locs hI => ?_)
  exact z_return hC hI hf dX3_takeTile_82
set_option maxRecDepth 20000 in
set_option maxHeartbeats 4000000 in
theorem bX3_takeTile {st : Nat → Nat} {p : Program} {l : Launch} {e : Env} {s : State} {m : MethodId} {args : Array Value} {below : List Frame} {meth : Method} {c : Code} {D : va_G} {A : Nat → Prop} {ad : Nat → Nat} {cy : Nat → ClassId} (hC : zC p m c cX3_takeTile 5 s args wzX3_takeTile RX3 meth none)  {res : zSt} {H : Heap} {locs : List Loc} {σ : zSt} {ls : Array Slot} {x1 : Int32} {x2 : Int32} (hI : zI st D (tC cy) (wC ad cy σ) A s H locs) (hl : lv_has ls 5 [(0, .ref (ad 3)), (1, .int x1), (2, .int x2)]) (hf : fX3_takeTile  σ x1 x2 = some res) : W p l e rmX3_takeTile s m args below meth c H locs 0 0 (zQu below args s D (tC cy) (wC ad cy) A res) (F0 m 0 ls []) := by
  have hx := hC.1
  have hb := hC.2.1
  unfold fX3_takeTile at hf
  refine lv_iload_n hx hb dX3_takeTile_0 rfl (lv_at hl 1 rfl) ?_
  refine lv_bipush (v := 64) hx hb dX3_takeTile_1 (by decide) ?_
  refine lv_iload_n hx hb dX3_takeTile_3 rfl (lv_at hl 2 rfl) ?_
  refine lv_iconst (v := 3) hx hb dX3_takeTile_4 (by decide) ?_
  refine lv_ishr hx hb dX3_takeTile_5 ?_
  refine lv_imul hx hb dX3_takeTile_6 ?_
  refine lv_iadd hx hb dX3_takeTile_7 ?_
  refine lv_topi (fun v2 ev2 => ?_)
  replace hf := zbv_use ev2 hf
  refine lv_istore_n (lv' := [(3, .int v2), (0, .ref (ad 3)), (1, .int x1), (2, .int x2)]) hx hb dX3_takeTile_8 rfl hl (by decide) rfl (fun ls hl => ?_)
  refine lv_aload_n hx hb dX3_takeTile_9 rfl (lv_at hl 1 rfl) ?_
  refine lv_aload_n hx hb dX3_takeTile_10 rfl (lv_at hl 1 rfl) ?_
  refine z_get hC hI hinX3_takeTile_X30 3 (wC_e3 ad cy σ) rfl 0 (by decide) (List.mem_cons_of_mem _ zw4_22) rfl dX3_takeTile_11 ?_
  refine lv_iload_n hx hb dX3_takeTile_14 rfl (lv_at hl 0 rfl) ?_
  obtain ⟨σ3, v4, g3, hf⟩ := zbi_use hf
  refine z_callVi (As := [.int v2]) (rest := [.ref (ad 3)]) hC hI (cX9_vramByte_met st l D ad cy σ v2 _ g3) (zgV zw36_14 zw36_15 zw36_16 zw2_1 zw36_17) rfl ⟨rfl, rfl⟩ 1 hdX9_vramByte ⟨Nat.le_of_ble_eq_true rfl, Nat.le_of_ble_eq_true rfl⟩ rfl rfl (wC_e2 ad cy σ) rfl hl rfl (Nat.le_of_ble_eq_true rfl) dX3_takeTile_15 ⟨Nat.zero_le _, Nat.zero_le _⟩ (fun H locs hI => ?_)
  refine lv_aload_n hx hb dX3_takeTile_18 rfl (lv_at hl 1 rfl) ?_
  refine z_get hC hI hinX3_takeTile_X30 3 (wC_e3 ad cy σ3) rfl 0 (by decide) (List.mem_cons_of_mem _ zw4_22) rfl dX3_takeTile_19 ?_
  refine lv_iload_n hx hb dX3_takeTile_22 rfl (lv_at hl 0 rfl) ?_
  refine lv_iconst (v := 1) hx hb dX3_takeTile_23 (by decide) ?_
  refine lv_iadd hx hb dX3_takeTile_24 ?_
  obtain ⟨σ5, v6, g5, hf⟩ := zbi_use hf
  refine z_callVi (As := [.int (v2 + 1)]) (rest := [.int v4, .ref (ad 3)]) hC hI (cX9_vramByte_met st l D ad cy σ3 (v2 + 1) _ g5) (zgV zw36_14 zw36_15 zw36_16 zw2_1 zw36_17) rfl ⟨rfl, rfl⟩ 1 hdX9_vramByte ⟨Nat.le_of_ble_eq_true rfl, Nat.le_of_ble_eq_true rfl⟩ rfl rfl (wC_e2 ad cy σ3) rfl hl rfl (Nat.le_of_ble_eq_true rfl) dX3_takeTile_25 ⟨Nat.zero_le _, Nat.zero_le _⟩ (fun H locs hI => ?_)
  refine lv_bipush (v := 8) hx hb dX3_takeTile_28 (by decide) ?_
  refine lv_ishl hx hb dX3_takeTile_30 ?_
  refine lv_ior hx hb dX3_takeTile_31 ?_
  obtain ⟨σ7, eσ7⟩ : ∃ z, z = zsi σ5 3 8 (v4 ||| (v6 <<< ((8 : Int32) &&& 31))) := ⟨_, rfl⟩
  replace hf := zbv_use eσ7 hf
  refine z_put hC hI hinX3_takeTile_X30 tyX3_ok nmX3 3 (wC_e3 ad cy σ5) rfl 8 (by decide) (List.mem_cons_of_mem _ zw36_7) rfl rfl rfl (Nat.le_of_ble_eq_true rfl) ((wC_s3_8 ad cy σ5 (v4 ||| (v6 <<< ((8 : Int32) &&& 31)))).trans (congrArg (wC ad cy) eσ7.symm)) dX3_takeTile_32 (fun H locs hI => ?_)
  refine lv_aload_n hx hb dX3_takeTile_35 rfl (lv_at hl 1 rfl) ?_
  refine z_get hC hI hinX3_takeTile_X30 3 (wC_e3 ad cy σ7) rfl 8 (by decide) (List.mem_cons_of_mem _ zw36_7) rfl dX3_takeTile_36 ?_
  refine lv_sipush (v := 1024) hx hb dX3_takeTile_39 (by decide) ?_
  refine lv_iand hx hb dX3_takeTile_42 ?_
  refine lv_if_eq (tgt := 56) hx hb dX3_takeTile_43 (by decide) (fun q => ?_) (fun q => ?_)
  · replace hf := zif_t q hf
    refine lv_iload_n hx hb dX3_takeTile_56 rfl (lv_at hl 3 rfl) ?_
    refine lv_bipush (v := 7) hx hb dX3_takeTile_57 (by decide) ?_
    refine lv_iand hx hb dX3_takeTile_59 ?_
    exact bX3_takeTile_60 hC  hI (lv_sub hl [1] rfl) hf
  replace hf := zif_f q hf
  refine lv_bipush (v := 7) hx hb dX3_takeTile_46 (by decide) ?_
  refine lv_iload_n hx hb dX3_takeTile_48 rfl (lv_at hl 3 rfl) ?_
  refine lv_bipush (v := 7) hx hb dX3_takeTile_49 (by decide) ?_
  refine lv_iand hx hb dX3_takeTile_51 ?_
  refine lv_isub hx hb dX3_takeTile_52 ?_
  refine lv_goto (tgt := 60) hx hb dX3_takeTile_53 (by decide) ?_
  exact bX3_takeTile_60 hC  hI (lv_sub hl [1] rfl) hf
set_option maxRecDepth 20000 in
theorem cX3_takeTile_met (st : Nat → Nat) (l : Launch) (D : va_G) (ad : Nat → Nat) (cy : Nat → ClassId) (σ : zSt) (x1 : Int32) (x2 : Int32) (res : zSt) (hf : fX3_takeTile σ x1 x2 = some res) (sz : Nat) : zMu st l yX3_takeTile wzX3_takeTile rmX3_takeTile [.ref (ad 3), .int x1, .int x2] D (tC cy) (wC ad cy) sz σ res :=
  zMu.of (cc := cX3_takeTile) (maxL := 5) (ret := none) (by decide) rfl (Nat.le_of_ble_eq_true rfl) (fun p e s m args below meth c hC A hI ls hl => bX3_takeTile hC hI hl hf)
theorem hdX3_takeTile : yX3_takeTile.cls = RX3 ∧ yX3_takeTile.cls ≠ "java/lang/invoke/MethodHandle" ∧ yX3_takeTile.cls ≠ "java/lang/invoke/VarHandle" ∧ (parseMethodDescriptor yX3_takeTile.desc).map (fun d => d.parameters.length) = some 2 := by decide +kernel
def rmX3_numberIn : Room := { frames := 0, cells := 0, slots := 0, locals := 0 }
def wzX3_numberIn : List Cond := .code yX3_numberIn cX3_numberIn 3 (some .int) :: wsL_law
def fX3_numberIn  (σ : zSt) (x0 : Int32) (x1 : Int32) : Option (zSt × Int32) :=
  zbv ((zush x0 (7 - x1)) &&& 16843009) (fun v1 =>
  some (σ, (((v1 &&& 1) ||| ((v1 >>> ((7 : Int32) &&& 31)) &&& 2)) ||| ((v1 >>> ((14 : Int32) &&& 31)) &&& 4)) ||| ((v1 >>> ((21 : Int32) &&& 31)) &&& 8)))
set_option maxRecDepth 20000 in
set_option maxHeartbeats 4000000 in
theorem bX3_numberIn {st : Nat → Nat} {p : Program} {l : Launch} {e : Env} {s : State} {m : MethodId} {args : Array Value} {below : List Frame} {meth : Method} {c : Code} {D : va_G} {A : Nat → Prop} {ad : Nat → Nat} {cy : Nat → ClassId} (hC : zC p m c cX3_numberIn 3 s args wzX3_numberIn RX3 meth (some .int))  {res : zSt × Int32} {H : Heap} {locs : List Loc} {σ : zSt} {ls : Array Slot} {x0 : Int32} {x1 : Int32} (hI : zI st D (tC cy) (wC ad cy σ) A s H locs) (hl : lv_has ls 3 [(0, .int x0), (1, .int x1)]) (hf : fX3_numberIn  σ x0 x1 = some res) : W p l e rmX3_numberIn s m args below meth c H locs 0 0 (zQi below args s D (tC cy) (wC ad cy) A res) (F0 m 0 ls []) := by
  have hx := hC.1
  have hb := hC.2.1
  unfold fX3_numberIn at hf
  refine lv_iload_n hx hb dX3_numberIn_0 rfl (lv_at hl 0 rfl) ?_
  refine lv_bipush (v := 7) hx hb dX3_numberIn_1 (by decide) ?_
  refine lv_iload_n hx hb dX3_numberIn_3 rfl (lv_at hl 1 rfl) ?_
  refine lv_isub hx hb dX3_numberIn_4 ?_
  refine lv_iushr (v := zush x0 (7 - x1)) hx hb dX3_numberIn_5 rfl ?_
  refine lv_ldc (v := 16843009) hx hb hC.2.2.2.1 (hC.2.2.2.2.1 _ (List.mem_cons_of_mem _ zw37_1)) dX3_numberIn_6 ?_
  refine lv_iand hx hb dX3_numberIn_8 ?_
  refine lv_topi (fun v1 ev1 => ?_)
  replace hf := zbv_use ev1 hf
  refine lv_istore_n (lv' := [(2, .int v1), (0, .int x0), (1, .int x1)]) hx hb dX3_numberIn_9 rfl hl (by decide) rfl (fun ls hl => ?_)
  refine lv_iload_n hx hb dX3_numberIn_10 rfl (lv_at hl 0 rfl) ?_
  refine lv_iconst (v := 1) hx hb dX3_numberIn_11 (by decide) ?_
  refine lv_iand hx hb dX3_numberIn_12 ?_
  refine lv_iload_n hx hb dX3_numberIn_13 rfl (lv_at hl 0 rfl) ?_
  refine lv_bipush (v := 7) hx hb dX3_numberIn_14 (by decide) ?_
  refine lv_ishr hx hb dX3_numberIn_16 ?_
  refine lv_iconst (v := 2) hx hb dX3_numberIn_17 (by decide) ?_
  refine lv_iand hx hb dX3_numberIn_18 ?_
  refine lv_ior hx hb dX3_numberIn_19 ?_
  refine lv_iload_n hx hb dX3_numberIn_20 rfl (lv_at hl 0 rfl) ?_
  refine lv_bipush (v := 14) hx hb dX3_numberIn_21 (by decide) ?_
  refine lv_ishr hx hb dX3_numberIn_23 ?_
  refine lv_iconst (v := 4) hx hb dX3_numberIn_24 (by decide) ?_
  refine lv_iand hx hb dX3_numberIn_25 ?_
  refine lv_ior hx hb dX3_numberIn_26 ?_
  refine lv_iload_n hx hb dX3_numberIn_27 rfl (lv_at hl 0 rfl) ?_
  refine lv_bipush (v := 21) hx hb dX3_numberIn_28 (by decide) ?_
  refine lv_ishr hx hb dX3_numberIn_30 ?_
  refine lv_bipush (v := 8) hx hb dX3_numberIn_31 (by decide) ?_
  refine lv_iand hx hb dX3_numberIn_33 ?_
  refine lv_ior hx hb dX3_numberIn_34 ?_
  exact z_ireturn hC hI hf dX3_numberIn_35
set_option maxRecDepth 20000 in
theorem cX3_numberIn_met (st : Nat → Nat) (l : Launch) (D : va_G) (ad : Nat → Nat) (cy : Nat → ClassId) (σ : zSt) (x0 : Int32) (x1 : Int32) (res : zSt × Int32) (hf : fX3_numberIn σ x0 x1 = some res) (sz : Nat) : zMi st l yX3_numberIn wzX3_numberIn rmX3_numberIn [.int x0, .int x1] D (tC cy) (wC ad cy) sz σ res :=
  zMi.of (cc := cX3_numberIn) (maxL := 3) (ret := (some .int)) (by decide) rfl (Nat.le_of_ble_eq_true rfl) (fun p e s m args below meth c hC A hI ls hl => bX3_numberIn hC hI hl hf)
theorem hdX3_numberIn : yX3_numberIn.cls ≠ "java/lang/invoke/MethodHandle" ∧ yX3_numberIn.cls ≠ "java/lang/invoke/VarHandle" ∧ (parseMethodDescriptor yX3_numberIn.desc).map (fun d => d.parameters.length) = some 2 := by decide +kernel
def rmX3_drawTiles : Room := { frames := 3, cells := 0, slots := 0, locals := 66 }
def wzX3_drawTiles : List Cond := .code yX3_drawTiles cX3_drawTiles 14 none :: wsL_law
theorem hinX3_drawTiles_X30 : ∀ w ∈ wsX30, w ∈ wzX3_drawTiles := fun w h => List.mem_cons_of_mem _ (inlX3 w h)
def fX3_drawTiles_316 (k143 : zSt → Int32 → Int32 → Int32 → Int32 → Int32 → Int32 → Option (zSt)) (σ : zSt) (x1 : Int32) (x5 : Int32) (x6 : Int32) (x7 : Int32) (x8 : Int32) (x9 : Int32) (s0 : Int32) (s1 : Int32) (s2 : Int32) : Option (zSt) :=
  zck (zin s2 256) (zbv (zsi σ 27 (s2.toNatClampNeg) (s1 + s0)) (fun σ1 =>
  zbv (x9 + 1) (fun v2 =>
  k143 σ1 x1 x5 x6 x7 x8 v2)))
def fX3_drawTiles_303 (k143 : zSt → Int32 → Int32 → Int32 → Int32 → Int32 → Int32 → Option (zSt)) (σ : zSt) (x1 : Int32) (x5 : Int32) (x6 : Int32) (x7 : Int32) (x8 : Int32) (x9 : Int32) (x13 : Int32) (s0 : Int32) (s1 : Int32) (s2 : Int32) : Option (zSt) :=
  if x13 = 0 then fX3_drawTiles_316 k143 σ x1 x5 x6 x7 x8 x9 0 (s1 + s0) s2 else
  fX3_drawTiles_316 k143 σ x1 x5 x6 x7 x8 x9 256 (s1 + s0) s2
def fX3_drawTiles_276 (k143 : zSt → Int32 → Int32 → Int32 → Int32 → Int32 → Int32 → Option (zSt)) (σ : zSt) (x1 : Int32) (x5 : Int32) (x6 : Int32) (x7 : Int32) (x8 : Int32) (x9 : Int32) (x12 : Int32) (s0 : Int32) : Option (zSt) :=
  if ((zgi σ 3 8) &&& 2048) = 0 then fX3_drawTiles_303 k143 σ x1 x5 x6 x7 x8 x9 s0 0 x12 x9 else
  fX3_drawTiles_303 k143 σ x1 x5 x6 x7 x8 x9 s0 16 x12 x9
def fX3_drawTiles_275 (k143 : zSt → Int32 → Int32 → Int32 → Int32 → Int32 → Int32 → Option (zSt)) (σ : zSt) (x1 : Int32) (x5 : Int32) (x6 : Int32) (x7 : Int32) (x8 : Int32) (x9 : Int32) (x12 : Int32) : Option (zSt) :=
  fX3_drawTiles_276 k143 σ x1 x5 x6 x7 x8 x9 x12 0
def fX3_drawTiles_242 (k143 : zSt → Int32 → Int32 → Int32 → Int32 → Int32 → Int32 → Option (zSt)) (σ : zSt) (x1 : Int32) (x5 : Int32) (x6 : Int32) (x7 : Int32) (x8 : Int32) (x9 : Int32) (s0 : Int32) : Option (zSt) :=
  zbi (fX3_numberIn σ (zgi σ 3 7) s0) (fun σ3 v4 =>
  if v4 ≤ 0 then fX3_drawTiles_275 k143 σ3 x1 x5 x6 x7 x8 x9 v4 else
  if ((zgi σ3 3 8) &&& 4096) = 0 then fX3_drawTiles_275 k143 σ3 x1 x5 x6 x7 x8 x9 v4 else
  fX3_drawTiles_276 k143 σ3 x1 x5 x6 x7 x8 x9 v4 1)
def fX3_drawTiles_215 (k143 : zSt → Int32 → Int32 → Int32 → Int32 → Int32 → Int32 → Option (zSt)) (σ : zSt) (x1 : Int32) (x5 : Int32) (x6 : Int32) (x7 : Int32) (x8 : Int32) (x9 : Int32) (x10 : Int32) : Option (zSt) :=
  if ((zgi σ 3 8) &&& 512) = 0 then fX3_drawTiles_242 k143 σ x1 x5 x6 x7 x8 x9 (x10 &&& 7) else
  fX3_drawTiles_242 k143 σ x1 x5 x6 x7 x8 x9 (7 - (x10 &&& 7))
def fX3_drawTiles_212 (k143 : zSt → Int32 → Int32 → Int32 → Int32 → Int32 → Int32 → Option (zSt)) (σ : zSt) (x1 : Int32) (x5 : Int32) (x6 : Int32) (x7 : Int32) (x8 : Int32) (x9 : Int32) (x10 : Int32) (s0 : Int32) (s1 : Int32) : Option (zSt) :=
  zbu (fX3_takeTile σ s1 s0) (fun σ5 =>
  fX3_drawTiles_215 k143 σ5 x1 x5 x6 x7 x8 x9 x10)
def fX3_drawTiles_210 (k143 : zSt → Int32 → Int32 → Int32 → Int32 → Int32 → Int32 → Option (zSt)) (σ : zSt) (x1 : Int32) (x5 : Int32) (x6 : Int32) (x7 : Int32) (x8 : Int32) (x9 : Int32) (x10 : Int32) (s0 : Int32) : Option (zSt) :=
  fX3_drawTiles_212 k143 σ x1 x5 x6 x7 x8 x9 x10 x7 s0
def fX3_drawTiles_183 (k143 : zSt → Int32 → Int32 → Int32 → Int32 → Int32 → Int32 → Option (zSt)) (σ : zSt) (x1 : Int32) (x5 : Int32) (x6 : Int32) (x7 : Int32) (x8 : Int32) (x9 : Int32) (x10 : Int32) : Option (zSt) :=
  if x8 = 0 then fX3_drawTiles_210 k143 σ x1 x5 x6 x7 x8 x9 x10 (x5 + (2 * (x10 >>> ((3 : Int32) &&& 31)))) else
  if x9 < 192 then fX3_drawTiles_210 k143 σ x1 x5 x6 x7 x8 x9 x10 (x5 + (2 * (x10 >>> ((3 : Int32) &&& 31)))) else
  fX3_drawTiles_212 k143 σ x1 x5 x6 x7 x8 x9 x10 x1 (x5 + (2 * (x10 >>> ((3 : Int32) &&& 31))))
def fX3_drawTiles_143_body (k143 : zSt → Int32 → Int32 → Int32 → Int32 → Int32 → Int32 → Option (zSt)) (σ : zSt) (x1 : Int32) (x5 : Int32) (x6 : Int32) (x7 : Int32) (x8 : Int32) (x9 : Int32) : Option (zSt) :=
  if 256 ≤ x9 then some σ else
  zbv ((x9 - x6) &&& 255) (fun v6 =>
  if x9 = 0 then fX3_drawTiles_183 k143 σ x1 x5 x6 x7 x8 x9 v6 else
  if x9 = 192 then fX3_drawTiles_183 k143 σ x1 x5 x6 x7 x8 x9 v6 else
  if (v6 &&& 7) = 0 then fX3_drawTiles_183 k143 σ x1 x5 x6 x7 x8 x9 v6 else
  fX3_drawTiles_215 k143 σ x1 x5 x6 x7 x8 x9 v6)
def fX3_drawTiles_143  : Nat → zSt → Int32 → Int32 → Int32 → Int32 → Int32 → Int32 → Option (zSt)
  | 0, _, _, _, _, _, _, _ => none
  | n + 1, σ, x1, x5, x6, x7, x8, x9 => fX3_drawTiles_143_body (fX3_drawTiles_143  n) σ x1 x5 x6 x7 x8 x9
def fX3_drawTiles_138  (σ : zSt) (x1 : Int32) (x5 : Int32) (x6 : Int32) (x7 : Int32) (s0 : Int32) : Option (zSt) :=
  fX3_drawTiles_143 zfuel σ x1 x5 x6 x7 s0 0
def fX3_drawTiles_122  (σ : zSt) (x1 : Int32) (x3 : Int32) (x5 : Int32) (x6 : Int32) (s0 : Int32) (s1 : Int32) : Option (zSt) :=
  zck (decide (¬ s0 = 0)) (
  zbv (zrem s1 s0) (fun v7 =>
  if (x3 &&& 128) = 0 then fX3_drawTiles_138 σ x1 x5 x6 v7 0 else
  fX3_drawTiles_138 σ x1 x5 x6 v7 1))
def fX3_drawTiles_96  (σ : zSt) (x1 : Int32) (x2 : Int32) (x3 : Int32) (x5 : Int32) (s0 : Int32) : Option (zSt) :=
  zbi (fX9_held σ 19) (fun σ8 v9 =>
  if x2 = 0 then fX3_drawTiles_122 σ8 x1 x3 x5 s0 224 (x1 + v9) else
  fX3_drawTiles_122 σ8 x1 x3 x5 s0 256 (x1 + v9))
def fX3_drawTiles_87  (σ : zSt) (x1 : Int32) (x2 : Int32) (x3 : Int32) (x5 : Int32) : Option (zSt) :=
  zbi (fX9_held σ 8) (fun σ10 v11 =>
  fX3_drawTiles_96 σ10 x1 x2 x3 x5 v11)
def fX3_drawTiles_68  (σ : zSt) (x1 : Int32) (x2 : Int32) (x3 : Int32) (s0 : Int32) : Option (zSt) :=
  if 16 ≤ x1 then fX3_drawTiles_87 σ x1 x2 x3 s0 else
  if (x3 &&& 64) = 0 then fX3_drawTiles_87 σ x1 x2 x3 s0 else
  fX3_drawTiles_96 σ x1 x2 x3 s0 0
def fX3_drawTiles_18  (σ : zSt) (x1 : Int32) (s0 : Int32) : Option (zSt) :=
  zbi (fX9_held σ 0) (fun σ12 v13 =>
  zbi (fX9_held σ12 2) (fun σ14 v15 =>
  if s0 = 0 then fX3_drawTiles_68 σ14 x1 s0 v13 (1024 * (v15 &&& 14)) else
  fX3_drawTiles_68 σ14 x1 s0 v13 ((4096 * ((v15 >>> ((2 : Int32) &&& 31)) &&& 3)) + 1792)))
def fX3_drawTiles  (σ : zSt) (x1 : Int32) : Option (zSt) :=
  zbi (fX9_height σ ) (fun σ16 v17 =>
  if v17 = 192 then fX3_drawTiles_18 σ16 x1 0 else
  fX3_drawTiles_18 σ16 x1 1)
set_option maxRecDepth 20000 in
set_option maxHeartbeats 4000000 in
theorem bX3_drawTiles_316 {st : Nat → Nat} {p : Program} {l : Launch} {e : Env} {s : State} {m : MethodId} {args : Array Value} {below : List Frame} {meth : Method} {c : Code} {D : va_G} {A : Nat → Prop} {ad : Nat → Nat} {cy : Nat → ClassId} (hC : zC p m c cX3_drawTiles 14 s args wzX3_drawTiles RX3 meth none) {k143 : zSt → Int32 → Int32 → Int32 → Int32 → Int32 → Int32 → Option (zSt)} {res : zSt} (hk143 : ∀ (H : Heap) (locs : List Loc) (σ : zSt) (ls : Array Slot) (x1 : Int32) (x5 : Int32) (x6 : Int32) (x7 : Int32) (x8 : Int32) (x9 : Int32), zI st D (tC cy) (wC ad cy σ) A s H locs → lv_has ls 14 [(0, .ref (ad 3)), (1, .int x1), (5, .int x5), (6, .int x6), (7, .int x7), (8, .int x8), (9, .int x9)] → k143 σ x1 x5 x6 x7 x8 x9 = some res → W p l e rmX3_drawTiles s m args below meth c H locs 0 0 (zQu below args s D (tC cy) (wC ad cy) A res) (F0 m 143 ls [])) {H : Heap} {locs : List Loc} {σ : zSt} {ls : Array Slot} {x1 : Int32} {x5 : Int32} {x6 : Int32} {x7 : Int32} {x8 : Int32} {x9 : Int32} {s0 : Int32} {s1 : Int32} {s2 : Int32} (hI : zI st D (tC cy) (wC ad cy σ) A s H locs) (hl : lv_has ls 14 [(0, .ref (ad 3)), (1, .int x1), (5, .int x5), (6, .int x6), (7, .int x7), (8, .int x8), (9, .int x9)]) (hf : fX3_drawTiles_316 k143 σ x1 x5 x6 x7 x8 x9 s0 s1 s2 = some res) : W p l e rmX3_drawTiles s m args below meth c H locs 0 0 (zQu below args s D (tC cy) (wC ad cy) A res) (F0 m 316 ls [.int s0, .int s1, .int s2, .ref (ad 27)]) := by
  have hx := hC.1
  have hb := hC.2.1
  unfold fX3_drawTiles_316 at hf
  refine lv_iadd hx hb dX3_drawTiles_316 ?_
  obtain ⟨q, hf⟩ := zck_use hf
  obtain ⟨σ1, eσ1⟩ : ∃ z, z = zsi σ 27 (s2.toNatClampNeg) (s1 + s0) := ⟨_, rfl⟩
  replace hf := zbv_use eσ1 hf
  refine z_iast hC hI 27 14 (wC_e27 ad cy σ) (tC_t27 cy) q ((wC_s27 ad cy σ _ _).trans (congrArg (wC ad cy) eσ1.symm)) dX3_drawTiles_317 (fun H locs hI => ?_)
  obtain ⟨v2, ev2⟩ : ∃ z : Int32, z = x9 + 1 := ⟨_, rfl⟩
  replace hf := zbv_use ev2 hf
  refine lv_iinc (v := v2) (lv' := [(9, .int v2), (0, .ref (ad 3)), (1, .int x1), (5, .int x5), (6, .int x6), (7, .int x7), (8, .int x8)]) hx hb dX3_drawTiles_318 hl (k := 6) rfl (by rw [ev2]; rfl) (by decide) rfl (fun ls hl => ?_)
  refine lv_goto (tgt := 143) hx hb dX3_drawTiles_321 (by decide) ?_
  exact hk143 _ _ _ _ _ _ _ _ _ _ hI (lv_sub hl [1, 2, 3, 4, 5, 6, 0] rfl) hf
set_option maxRecDepth 20000 in
set_option maxHeartbeats 4000000 in
theorem bX3_drawTiles_303 {st : Nat → Nat} {p : Program} {l : Launch} {e : Env} {s : State} {m : MethodId} {args : Array Value} {below : List Frame} {meth : Method} {c : Code} {D : va_G} {A : Nat → Prop} {ad : Nat → Nat} {cy : Nat → ClassId} (hC : zC p m c cX3_drawTiles 14 s args wzX3_drawTiles RX3 meth none) {k143 : zSt → Int32 → Int32 → Int32 → Int32 → Int32 → Int32 → Option (zSt)} {res : zSt} (hk143 : ∀ (H : Heap) (locs : List Loc) (σ : zSt) (ls : Array Slot) (x1 : Int32) (x5 : Int32) (x6 : Int32) (x7 : Int32) (x8 : Int32) (x9 : Int32), zI st D (tC cy) (wC ad cy σ) A s H locs → lv_has ls 14 [(0, .ref (ad 3)), (1, .int x1), (5, .int x5), (6, .int x6), (7, .int x7), (8, .int x8), (9, .int x9)] → k143 σ x1 x5 x6 x7 x8 x9 = some res → W p l e rmX3_drawTiles s m args below meth c H locs 0 0 (zQu below args s D (tC cy) (wC ad cy) A res) (F0 m 143 ls [])) {H : Heap} {locs : List Loc} {σ : zSt} {ls : Array Slot} {x1 : Int32} {x5 : Int32} {x6 : Int32} {x7 : Int32} {x8 : Int32} {x9 : Int32} {x13 : Int32} {s0 : Int32} {s1 : Int32} {s2 : Int32} (hI : zI st D (tC cy) (wC ad cy σ) A s H locs) (hl : lv_has ls 14 [(0, .ref (ad 3)), (1, .int x1), (5, .int x5), (6, .int x6), (7, .int x7), (8, .int x8), (9, .int x9), (13, .int x13)]) (hf : fX3_drawTiles_303 k143 σ x1 x5 x6 x7 x8 x9 x13 s0 s1 s2 = some res) : W p l e rmX3_drawTiles s m args below meth c H locs 0 0 (zQu below args s D (tC cy) (wC ad cy) A res) (F0 m 303 ls [.int s0, .int s1, .int s2, .ref (ad 27)]) := by
  have hx := hC.1
  have hb := hC.2.1
  unfold fX3_drawTiles_303 at hf
  refine lv_iadd hx hb dX3_drawTiles_303 ?_
  refine lv_iload hx hb dX3_drawTiles_304 (lv_at hl 7 rfl) ?_
  refine lv_if_eq (tgt := 315) hx hb dX3_drawTiles_306 (by decide) (fun q => ?_) (fun q => ?_)
  · replace hf := zif_t q hf
    refine lv_iconst (v := 0) hx hb dX3_drawTiles_315 (by decide) ?_
    exact bX3_drawTiles_316 hC hk143 hI (lv_sub hl [0, 1, 2, 3, 4, 5, 6] rfl) hf
  replace hf := zif_f q hf
  refine lv_sipush (v := 256) hx hb dX3_drawTiles_309 (by decide) ?_
  refine lv_goto (tgt := 316) hx hb dX3_drawTiles_312 (by decide) ?_
  exact bX3_drawTiles_316 hC hk143 hI (lv_sub hl [0, 1, 2, 3, 4, 5, 6] rfl) hf
set_option maxRecDepth 20000 in
set_option maxHeartbeats 4000000 in
theorem bX3_drawTiles_276 {st : Nat → Nat} {p : Program} {l : Launch} {e : Env} {s : State} {m : MethodId} {args : Array Value} {below : List Frame} {meth : Method} {c : Code} {D : va_G} {A : Nat → Prop} {ad : Nat → Nat} {cy : Nat → ClassId} (hC : zC p m c cX3_drawTiles 14 s args wzX3_drawTiles RX3 meth none) {k143 : zSt → Int32 → Int32 → Int32 → Int32 → Int32 → Int32 → Option (zSt)} {res : zSt} (hk143 : ∀ (H : Heap) (locs : List Loc) (σ : zSt) (ls : Array Slot) (x1 : Int32) (x5 : Int32) (x6 : Int32) (x7 : Int32) (x8 : Int32) (x9 : Int32), zI st D (tC cy) (wC ad cy σ) A s H locs → lv_has ls 14 [(0, .ref (ad 3)), (1, .int x1), (5, .int x5), (6, .int x6), (7, .int x7), (8, .int x8), (9, .int x9)] → k143 σ x1 x5 x6 x7 x8 x9 = some res → W p l e rmX3_drawTiles s m args below meth c H locs 0 0 (zQu below args s D (tC cy) (wC ad cy) A res) (F0 m 143 ls [])) {H : Heap} {locs : List Loc} {σ : zSt} {ls : Array Slot} {x1 : Int32} {x5 : Int32} {x6 : Int32} {x7 : Int32} {x8 : Int32} {x9 : Int32} {x12 : Int32} {s0 : Int32} (hI : zI st D (tC cy) (wC ad cy σ) A s H locs) (hl : lv_has ls 14 [(0, .ref (ad 3)), (1, .int x1), (5, .int x5), (6, .int x6), (7, .int x7), (8, .int x8), (9, .int x9), (12, .int x12)]) (hf : fX3_drawTiles_276 k143 σ x1 x5 x6 x7 x8 x9 x12 s0 = some res) : W p l e rmX3_drawTiles s m args below meth c H locs 0 0 (zQu below args s D (tC cy) (wC ad cy) A res) (F0 m 276 ls [.int s0]) := by
  have hx := hC.1
  have hb := hC.2.1
  unfold fX3_drawTiles_276 at hf
  refine lv_istore (lv' := [(13, .int s0), (0, .ref (ad 3)), (1, .int x1), (5, .int x5), (6, .int x6), (7, .int x7), (8, .int x8), (9, .int x9), (12, .int x12)]) hx hb dX3_drawTiles_276 hl (by decide) rfl (fun ls hl => ?_)
  refine lv_aload_n hx hb dX3_drawTiles_278 rfl (lv_at hl 1 rfl) ?_
  refine z_get hC hI hinX3_drawTiles_X30 3 (wC_e3 ad cy σ) rfl 4 (by decide) (List.mem_cons_of_mem _ zw4_19) rfl dX3_drawTiles_279 ?_
  refine lv_iload hx hb dX3_drawTiles_282 (lv_at hl 7 rfl) ?_
  refine lv_iload hx hb dX3_drawTiles_284 (lv_at hl 8 rfl) ?_
  refine lv_aload_n hx hb dX3_drawTiles_286 rfl (lv_at hl 1 rfl) ?_
  refine z_get hC hI hinX3_drawTiles_X30 3 (wC_e3 ad cy σ) rfl 8 (by decide) (List.mem_cons_of_mem _ zw36_7) rfl dX3_drawTiles_287 ?_
  refine lv_sipush (v := 2048) hx hb dX3_drawTiles_290 (by decide) ?_
  refine lv_iand hx hb dX3_drawTiles_293 ?_
  refine lv_if_eq (tgt := 302) hx hb dX3_drawTiles_294 (by decide) (fun q => ?_) (fun q => ?_)
  · replace hf := zif_t q hf
    refine lv_iconst (v := 0) hx hb dX3_drawTiles_302 (by decide) ?_
    exact bX3_drawTiles_303 hC hk143 hI (lv_sub hl [1, 2, 3, 4, 5, 6, 7, 0] rfl) hf
  replace hf := zif_f q hf
  refine lv_bipush (v := 16) hx hb dX3_drawTiles_297 (by decide) ?_
  refine lv_goto (tgt := 303) hx hb dX3_drawTiles_299 (by decide) ?_
  exact bX3_drawTiles_303 hC hk143 hI (lv_sub hl [1, 2, 3, 4, 5, 6, 7, 0] rfl) hf
set_option maxRecDepth 20000 in
set_option maxHeartbeats 4000000 in
theorem bX3_drawTiles_275 {st : Nat → Nat} {p : Program} {l : Launch} {e : Env} {s : State} {m : MethodId} {args : Array Value} {below : List Frame} {meth : Method} {c : Code} {D : va_G} {A : Nat → Prop} {ad : Nat → Nat} {cy : Nat → ClassId} (hC : zC p m c cX3_drawTiles 14 s args wzX3_drawTiles RX3 meth none) {k143 : zSt → Int32 → Int32 → Int32 → Int32 → Int32 → Int32 → Option (zSt)} {res : zSt} (hk143 : ∀ (H : Heap) (locs : List Loc) (σ : zSt) (ls : Array Slot) (x1 : Int32) (x5 : Int32) (x6 : Int32) (x7 : Int32) (x8 : Int32) (x9 : Int32), zI st D (tC cy) (wC ad cy σ) A s H locs → lv_has ls 14 [(0, .ref (ad 3)), (1, .int x1), (5, .int x5), (6, .int x6), (7, .int x7), (8, .int x8), (9, .int x9)] → k143 σ x1 x5 x6 x7 x8 x9 = some res → W p l e rmX3_drawTiles s m args below meth c H locs 0 0 (zQu below args s D (tC cy) (wC ad cy) A res) (F0 m 143 ls [])) {H : Heap} {locs : List Loc} {σ : zSt} {ls : Array Slot} {x1 : Int32} {x5 : Int32} {x6 : Int32} {x7 : Int32} {x8 : Int32} {x9 : Int32} {x12 : Int32} (hI : zI st D (tC cy) (wC ad cy σ) A s H locs) (hl : lv_has ls 14 [(0, .ref (ad 3)), (1, .int x1), (5, .int x5), (6, .int x6), (7, .int x7), (8, .int x8), (9, .int x9), (12, .int x12)]) (hf : fX3_drawTiles_275 k143 σ x1 x5 x6 x7 x8 x9 x12 = some res) : W p l e rmX3_drawTiles s m args below meth c H locs 0 0 (zQu below args s D (tC cy) (wC ad cy) A res) (F0 m 275 ls []) := by
  have hx := hC.1
  have hb := hC.2.1
  unfold fX3_drawTiles_275 at hf
  refine lv_iconst (v := 0) hx hb dX3_drawTiles_275 (by decide) ?_
  exact bX3_drawTiles_276 hC hk143 hI hl hf
set_option maxRecDepth 20000 in
set_option maxHeartbeats 4000000 in
theorem bX3_drawTiles_242 {st : Nat → Nat} {p : Program} {l : Launch} {e : Env} {s : State} {m : MethodId} {args : Array Value} {below : List Frame} {meth : Method} {c : Code} {D : va_G} {A : Nat → Prop} {ad : Nat → Nat} {cy : Nat → ClassId} (hC : zC p m c cX3_drawTiles 14 s args wzX3_drawTiles RX3 meth none) {k143 : zSt → Int32 → Int32 → Int32 → Int32 → Int32 → Int32 → Option (zSt)} {res : zSt} (hk143 : ∀ (H : Heap) (locs : List Loc) (σ : zSt) (ls : Array Slot) (x1 : Int32) (x5 : Int32) (x6 : Int32) (x7 : Int32) (x8 : Int32) (x9 : Int32), zI st D (tC cy) (wC ad cy σ) A s H locs → lv_has ls 14 [(0, .ref (ad 3)), (1, .int x1), (5, .int x5), (6, .int x6), (7, .int x7), (8, .int x8), (9, .int x9)] → k143 σ x1 x5 x6 x7 x8 x9 = some res → W p l e rmX3_drawTiles s m args below meth c H locs 0 0 (zQu below args s D (tC cy) (wC ad cy) A res) (F0 m 143 ls [])) {H : Heap} {locs : List Loc} {σ : zSt} {ls : Array Slot} {x1 : Int32} {x5 : Int32} {x6 : Int32} {x7 : Int32} {x8 : Int32} {x9 : Int32} {s0 : Int32} (hI : zI st D (tC cy) (wC ad cy σ) A s H locs) (hl : lv_has ls 14 [(0, .ref (ad 3)), (1, .int x1), (5, .int x5), (6, .int x6), (7, .int x7), (8, .int x8), (9, .int x9)]) (hf : fX3_drawTiles_242 k143 σ x1 x5 x6 x7 x8 x9 s0 = some res) : W p l e rmX3_drawTiles s m args below meth c H locs 0 0 (zQu below args s D (tC cy) (wC ad cy) A res) (F0 m 242 ls [.int s0]) := by
  have hx := hC.1
  have hb := hC.2.1
  unfold fX3_drawTiles_242 at hf
  refine lv_istore (lv' := [(11, .int s0), (0, .ref (ad 3)), (1, .int x1), (5, .int x5), (6, .int x6), (7, .int x7), (8, .int x8), (9, .int x9)]) hx hb dX3_drawTiles_242 hl (by decide) rfl (fun ls hl => ?_)
  refine lv_aload_n hx hb dX3_drawTiles_244 rfl (lv_at hl 1 rfl) ?_
  refine z_get hC hI hinX3_drawTiles_X30 3 (wC_e3 ad cy σ) rfl 7 (by decide) (List.mem_cons_of_mem _ zw36_8) rfl dX3_drawTiles_245 ?_
  refine lv_iload hx hb dX3_drawTiles_248 (lv_at hl 0 rfl) ?_
  obtain ⟨σ3, v4, g3, hf⟩ := zbi_use hf
  refine z_callSi (As := [.int (zgi σ 3 7), .int s0]) (rest := []) hC hI (cX3_numberIn_met st l D ad cy σ (zgi σ 3 7) s0 _ g3) (zgS zw36_22 zw36_23 zw2_5 zw37_0) rfl ⟨rfl, rfl⟩ 2 hdX3_numberIn ⟨Nat.le_of_ble_eq_true rfl, Nat.le_of_ble_eq_true rfl⟩ rfl hl rfl (Nat.le_of_ble_eq_true rfl) dX3_drawTiles_250 ⟨Nat.zero_le _, Nat.zero_le _⟩ (fun H locs hI => ?_)
  refine lv_istore (lv' := [(12, .int v4), (11, .int s0), (0, .ref (ad 3)), (1, .int x1), (5, .int x5), (6, .int x6), (7, .int x7), (8, .int x8), (9, .int x9)]) hx hb dX3_drawTiles_253 hl (by decide) rfl (fun ls hl => ?_)
  refine lv_iload hx hb dX3_drawTiles_255 (lv_at hl 0 rfl) ?_
  refine lv_if_le (tgt := 275) hx hb dX3_drawTiles_257 (by decide) (fun q => ?_) (fun q => ?_)
  · replace hf := zif_t q hf
    exact bX3_drawTiles_275 hC hk143 hI (lv_sub hl [2, 3, 4, 5, 6, 7, 8, 0] rfl) hf
  replace hf := zif_f q hf
  refine lv_aload_n hx hb dX3_drawTiles_260 rfl (lv_at hl 2 rfl) ?_
  refine z_get hC hI hinX3_drawTiles_X30 3 (wC_e3 ad cy σ3) rfl 8 (by decide) (List.mem_cons_of_mem _ zw36_7) rfl dX3_drawTiles_261 ?_
  refine lv_sipush (v := 4096) hx hb dX3_drawTiles_264 (by decide) ?_
  refine lv_iand hx hb dX3_drawTiles_267 ?_
  refine lv_if_eq (tgt := 275) hx hb dX3_drawTiles_268 (by decide) (fun q => ?_) (fun q => ?_)
  · replace hf := zif_t q hf
    exact bX3_drawTiles_275 hC hk143 hI (lv_sub hl [2, 3, 4, 5, 6, 7, 8, 0] rfl) hf
  replace hf := zif_f q hf
  refine lv_iconst (v := 1) hx hb dX3_drawTiles_271 (by decide) ?_
  refine lv_goto (tgt := 276) hx hb dX3_drawTiles_272 (by decide) ?_
  exact bX3_drawTiles_276 hC hk143 hI (lv_sub hl [2, 3, 4, 5, 6, 7, 8, 0] rfl) hf
set_option maxRecDepth 20000 in
set_option maxHeartbeats 4000000 in
theorem bX3_drawTiles_215 {st : Nat → Nat} {p : Program} {l : Launch} {e : Env} {s : State} {m : MethodId} {args : Array Value} {below : List Frame} {meth : Method} {c : Code} {D : va_G} {A : Nat → Prop} {ad : Nat → Nat} {cy : Nat → ClassId} (hC : zC p m c cX3_drawTiles 14 s args wzX3_drawTiles RX3 meth none) {k143 : zSt → Int32 → Int32 → Int32 → Int32 → Int32 → Int32 → Option (zSt)} {res : zSt} (hk143 : ∀ (H : Heap) (locs : List Loc) (σ : zSt) (ls : Array Slot) (x1 : Int32) (x5 : Int32) (x6 : Int32) (x7 : Int32) (x8 : Int32) (x9 : Int32), zI st D (tC cy) (wC ad cy σ) A s H locs → lv_has ls 14 [(0, .ref (ad 3)), (1, .int x1), (5, .int x5), (6, .int x6), (7, .int x7), (8, .int x8), (9, .int x9)] → k143 σ x1 x5 x6 x7 x8 x9 = some res → W p l e rmX3_drawTiles s m args below meth c H locs 0 0 (zQu below args s D (tC cy) (wC ad cy) A res) (F0 m 143 ls [])) {H : Heap} {locs : List Loc} {σ : zSt} {ls : Array Slot} {x1 : Int32} {x5 : Int32} {x6 : Int32} {x7 : Int32} {x8 : Int32} {x9 : Int32} {x10 : Int32} (hI : zI st D (tC cy) (wC ad cy σ) A s H locs) (hl : lv_has ls 14 [(0, .ref (ad 3)), (1, .int x1), (5, .int x5), (6, .int x6), (7, .int x7), (8, .int x8), (9, .int x9), (10, .int x10)]) (hf : fX3_drawTiles_215 k143 σ x1 x5 x6 x7 x8 x9 x10 = some res) : W p l e rmX3_drawTiles s m args below meth c H locs 0 0 (zQu below args s D (tC cy) (wC ad cy) A res) (F0 m 215 ls []) := by
  have hx := hC.1
  have hb := hC.2.1
  unfold fX3_drawTiles_215 at hf
  refine lv_aload_n hx hb dX3_drawTiles_215 rfl (lv_at hl 0 rfl) ?_
  refine z_get hC hI hinX3_drawTiles_X30 3 (wC_e3 ad cy σ) rfl 8 (by decide) (List.mem_cons_of_mem _ zw36_7) rfl dX3_drawTiles_216 ?_
  refine lv_sipush (v := 512) hx hb dX3_drawTiles_219 (by decide) ?_
  refine lv_iand hx hb dX3_drawTiles_222 ?_
  refine lv_if_eq (tgt := 237) hx hb dX3_drawTiles_223 (by decide) (fun q => ?_) (fun q => ?_)
  · replace hf := zif_t q hf
    refine lv_iload hx hb dX3_drawTiles_237 (lv_at hl 7 rfl) ?_
    refine lv_bipush (v := 7) hx hb dX3_drawTiles_239 (by decide) ?_
    refine lv_iand hx hb dX3_drawTiles_241 ?_
    exact bX3_drawTiles_242 hC hk143 hI (lv_sub hl [0, 1, 2, 3, 4, 5, 6] rfl) hf
  replace hf := zif_f q hf
  refine lv_bipush (v := 7) hx hb dX3_drawTiles_226 (by decide) ?_
  refine lv_iload hx hb dX3_drawTiles_228 (lv_at hl 7 rfl) ?_
  refine lv_bipush (v := 7) hx hb dX3_drawTiles_230 (by decide) ?_
  refine lv_iand hx hb dX3_drawTiles_232 ?_
  refine lv_isub hx hb dX3_drawTiles_233 ?_
  refine lv_goto (tgt := 242) hx hb dX3_drawTiles_234 (by decide) ?_
  exact bX3_drawTiles_242 hC hk143 hI (lv_sub hl [0, 1, 2, 3, 4, 5, 6] rfl) hf
set_option maxRecDepth 20000 in
set_option maxHeartbeats 4000000 in
theorem bX3_drawTiles_212 {st : Nat → Nat} {p : Program} {l : Launch} {e : Env} {s : State} {m : MethodId} {args : Array Value} {below : List Frame} {meth : Method} {c : Code} {D : va_G} {A : Nat → Prop} {ad : Nat → Nat} {cy : Nat → ClassId} (hC : zC p m c cX3_drawTiles 14 s args wzX3_drawTiles RX3 meth none) {k143 : zSt → Int32 → Int32 → Int32 → Int32 → Int32 → Int32 → Option (zSt)} {res : zSt} (hk143 : ∀ (H : Heap) (locs : List Loc) (σ : zSt) (ls : Array Slot) (x1 : Int32) (x5 : Int32) (x6 : Int32) (x7 : Int32) (x8 : Int32) (x9 : Int32), zI st D (tC cy) (wC ad cy σ) A s H locs → lv_has ls 14 [(0, .ref (ad 3)), (1, .int x1), (5, .int x5), (6, .int x6), (7, .int x7), (8, .int x8), (9, .int x9)] → k143 σ x1 x5 x6 x7 x8 x9 = some res → W p l e rmX3_drawTiles s m args below meth c H locs 0 0 (zQu below args s D (tC cy) (wC ad cy) A res) (F0 m 143 ls [])) {H : Heap} {locs : List Loc} {σ : zSt} {ls : Array Slot} {x1 : Int32} {x5 : Int32} {x6 : Int32} {x7 : Int32} {x8 : Int32} {x9 : Int32} {x10 : Int32} {s0 : Int32} {s1 : Int32} (hI : zI st D (tC cy) (wC ad cy σ) A s H locs) (hl : lv_has ls 14 [(0, .ref (ad 3)), (1, .int x1), (5, .int x5), (6, .int x6), (7, .int x7), (8, .int x8), (9, .int x9), (10, .int x10)]) (hf : fX3_drawTiles_212 k143 σ x1 x5 x6 x7 x8 x9 x10 s0 s1 = some res) : W p l e rmX3_drawTiles s m args below meth c H locs 0 0 (zQu below args s D (tC cy) (wC ad cy) A res) (F0 m 212 ls [.int s0, .int s1, .ref (ad 3)]) := by
  have hx := hC.1
  have hb := hC.2.1
  unfold fX3_drawTiles_212 at hf
  obtain ⟨σ5, g5, hf⟩ := zbu_use hf
  refine z_callVu (As := [.int s1, .int s0]) (rest := []) hC hI (cX3_takeTile_met st l D ad cy σ s1 s0 _ g5) (zgV zw36_10 zw36_11 zw36_12 zw2_5 zw36_13) rfl ⟨rfl, rfl⟩ 2 hdX3_takeTile ⟨Nat.le_of_ble_eq_true rfl, Nat.le_of_ble_eq_true rfl⟩ rfl rfl (wC_e3 ad cy σ) rfl hl rfl (Nat.le_of_ble_eq_true rfl) dX3_drawTiles_212 ⟨Nat.zero_le _, Nat.zero_le _⟩ (fun H locs hI => ?_)
  exact bX3_drawTiles_215 hC hk143 hI hl hf
set_option maxRecDepth 20000 in
set_option maxHeartbeats 4000000 in
theorem bX3_drawTiles_210 {st : Nat → Nat} {p : Program} {l : Launch} {e : Env} {s : State} {m : MethodId} {args : Array Value} {below : List Frame} {meth : Method} {c : Code} {D : va_G} {A : Nat → Prop} {ad : Nat → Nat} {cy : Nat → ClassId} (hC : zC p m c cX3_drawTiles 14 s args wzX3_drawTiles RX3 meth none) {k143 : zSt → Int32 → Int32 → Int32 → Int32 → Int32 → Int32 → Option (zSt)} {res : zSt} (hk143 : ∀ (H : Heap) (locs : List Loc) (σ : zSt) (ls : Array Slot) (x1 : Int32) (x5 : Int32) (x6 : Int32) (x7 : Int32) (x8 : Int32) (x9 : Int32), zI st D (tC cy) (wC ad cy σ) A s H locs → lv_has ls 14 [(0, .ref (ad 3)), (1, .int x1), (5, .int x5), (6, .int x6), (7, .int x7), (8, .int x8), (9, .int x9)] → k143 σ x1 x5 x6 x7 x8 x9 = some res → W p l e rmX3_drawTiles s m args below meth c H locs 0 0 (zQu below args s D (tC cy) (wC ad cy) A res) (F0 m 143 ls [])) {H : Heap} {locs : List Loc} {σ : zSt} {ls : Array Slot} {x1 : Int32} {x5 : Int32} {x6 : Int32} {x7 : Int32} {x8 : Int32} {x9 : Int32} {x10 : Int32} {s0 : Int32} (hI : zI st D (tC cy) (wC ad cy σ) A s H locs) (hl : lv_has ls 14 [(0, .ref (ad 3)), (1, .int x1), (5, .int x5), (6, .int x6), (7, .int x7), (8, .int x8), (9, .int x9), (10, .int x10)]) (hf : fX3_drawTiles_210 k143 σ x1 x5 x6 x7 x8 x9 x10 s0 = some res) : W p l e rmX3_drawTiles s m args below meth c H locs 0 0 (zQu below args s D (tC cy) (wC ad cy) A res) (F0 m 210 ls [.int s0, .ref (ad 3)]) := by
  have hx := hC.1
  have hb := hC.2.1
  unfold fX3_drawTiles_210 at hf
  refine lv_iload hx hb dX3_drawTiles_210 (lv_at hl 4 rfl) ?_
  exact bX3_drawTiles_212 hC hk143 hI hl hf
set_option maxRecDepth 20000 in
set_option maxHeartbeats 4000000 in
theorem bX3_drawTiles_183 {st : Nat → Nat} {p : Program} {l : Launch} {e : Env} {s : State} {m : MethodId} {args : Array Value} {below : List Frame} {meth : Method} {c : Code} {D : va_G} {A : Nat → Prop} {ad : Nat → Nat} {cy : Nat → ClassId} (hC : zC p m c cX3_drawTiles 14 s args wzX3_drawTiles RX3 meth none) {k143 : zSt → Int32 → Int32 → Int32 → Int32 → Int32 → Int32 → Option (zSt)} {res : zSt} (hk143 : ∀ (H : Heap) (locs : List Loc) (σ : zSt) (ls : Array Slot) (x1 : Int32) (x5 : Int32) (x6 : Int32) (x7 : Int32) (x8 : Int32) (x9 : Int32), zI st D (tC cy) (wC ad cy σ) A s H locs → lv_has ls 14 [(0, .ref (ad 3)), (1, .int x1), (5, .int x5), (6, .int x6), (7, .int x7), (8, .int x8), (9, .int x9)] → k143 σ x1 x5 x6 x7 x8 x9 = some res → W p l e rmX3_drawTiles s m args below meth c H locs 0 0 (zQu below args s D (tC cy) (wC ad cy) A res) (F0 m 143 ls [])) {H : Heap} {locs : List Loc} {σ : zSt} {ls : Array Slot} {x1 : Int32} {x5 : Int32} {x6 : Int32} {x7 : Int32} {x8 : Int32} {x9 : Int32} {x10 : Int32} (hI : zI st D (tC cy) (wC ad cy σ) A s H locs) (hl : lv_has ls 14 [(0, .ref (ad 3)), (1, .int x1), (5, .int x5), (6, .int x6), (7, .int x7), (8, .int x8), (9, .int x9), (10, .int x10)]) (hf : fX3_drawTiles_183 k143 σ x1 x5 x6 x7 x8 x9 x10 = some res) : W p l e rmX3_drawTiles s m args below meth c H locs 0 0 (zQu below args s D (tC cy) (wC ad cy) A res) (F0 m 183 ls []) := by
  have hx := hC.1
  have hb := hC.2.1
  unfold fX3_drawTiles_183 at hf
  refine lv_aload_n hx hb dX3_drawTiles_183 rfl (lv_at hl 0 rfl) ?_
  refine lv_iload hx hb dX3_drawTiles_184 (lv_at hl 2 rfl) ?_
  refine lv_iconst (v := 2) hx hb dX3_drawTiles_186 (by decide) ?_
  refine lv_iload hx hb dX3_drawTiles_187 (lv_at hl 7 rfl) ?_
  refine lv_iconst (v := 3) hx hb dX3_drawTiles_189 (by decide) ?_
  refine lv_ishr hx hb dX3_drawTiles_190 ?_
  refine lv_imul hx hb dX3_drawTiles_191 ?_
  refine lv_iadd hx hb dX3_drawTiles_192 ?_
  refine lv_iload hx hb dX3_drawTiles_193 (lv_at hl 5 rfl) ?_
  refine lv_if_eq (tgt := 210) hx hb dX3_drawTiles_195 (by decide) (fun q => ?_) (fun q => ?_)
  · replace hf := zif_t q hf
    exact bX3_drawTiles_210 hC hk143 hI hl hf
  replace hf := zif_f q hf
  refine lv_iload hx hb dX3_drawTiles_198 (lv_at hl 6 rfl) ?_
  refine lv_sipush (v := 192) hx hb dX3_drawTiles_200 (by decide) ?_
  refine lv_icmp_lt (tgt := 210) hx hb dX3_drawTiles_203 (by decide) (fun q => ?_) (fun q => ?_)
  · replace hf := zif_t q hf
    exact bX3_drawTiles_210 hC hk143 hI hl hf
  replace hf := zif_f q hf
  refine lv_iload_n hx hb dX3_drawTiles_206 rfl (lv_at hl 1 rfl) ?_
  refine lv_goto (tgt := 212) hx hb dX3_drawTiles_207 (by decide) ?_
  exact bX3_drawTiles_212 hC hk143 hI hl hf
set_option maxRecDepth 20000 in
set_option maxHeartbeats 4000000 in
theorem bX3_drawTiles_143_body {st : Nat → Nat} {p : Program} {l : Launch} {e : Env} {s : State} {m : MethodId} {args : Array Value} {below : List Frame} {meth : Method} {c : Code} {D : va_G} {A : Nat → Prop} {ad : Nat → Nat} {cy : Nat → ClassId} (hC : zC p m c cX3_drawTiles 14 s args wzX3_drawTiles RX3 meth none) {k143 : zSt → Int32 → Int32 → Int32 → Int32 → Int32 → Int32 → Option (zSt)} {res : zSt} (hk143 : ∀ (H : Heap) (locs : List Loc) (σ : zSt) (ls : Array Slot) (x1 : Int32) (x5 : Int32) (x6 : Int32) (x7 : Int32) (x8 : Int32) (x9 : Int32), zI st D (tC cy) (wC ad cy σ) A s H locs → lv_has ls 14 [(0, .ref (ad 3)), (1, .int x1), (5, .int x5), (6, .int x6), (7, .int x7), (8, .int x8), (9, .int x9)] → k143 σ x1 x5 x6 x7 x8 x9 = some res → W p l e rmX3_drawTiles s m args below meth c H locs 0 0 (zQu below args s D (tC cy) (wC ad cy) A res) (F0 m 143 ls [])) {H : Heap} {locs : List Loc} {σ : zSt} {ls : Array Slot} {x1 : Int32} {x5 : Int32} {x6 : Int32} {x7 : Int32} {x8 : Int32} {x9 : Int32} (hI : zI st D (tC cy) (wC ad cy σ) A s H locs) (hl : lv_has ls 14 [(0, .ref (ad 3)), (1, .int x1), (5, .int x5), (6, .int x6), (7, .int x7), (8, .int x8), (9, .int x9)]) (hf : fX3_drawTiles_143_body k143 σ x1 x5 x6 x7 x8 x9 = some res) : W p l e rmX3_drawTiles s m args below meth c H locs 0 0 (zQu below args s D (tC cy) (wC ad cy) A res) (F0 m 143 ls []) := by
  have hx := hC.1
  have hb := hC.2.1
  unfold fX3_drawTiles_143_body at hf
  refine lv_iload hx hb dX3_drawTiles_143 (lv_at hl 6 rfl) ?_
  refine lv_sipush (v := 256) hx hb dX3_drawTiles_145 (by decide) ?_
  refine lv_icmp_ge (tgt := 324) hx hb dX3_drawTiles_148 (by decide) (fun q => ?_) (fun q => ?_)
  · replace hf := zif_t q hf
    exact z_return hC hI hf dX3_drawTiles_324
  replace hf := zif_f q hf
  refine lv_iload hx hb dX3_drawTiles_151 (lv_at hl 6 rfl) ?_
  refine lv_iload hx hb dX3_drawTiles_153 (lv_at hl 3 rfl) ?_
  refine lv_isub hx hb dX3_drawTiles_155 ?_
  refine lv_sipush (v := 255) hx hb dX3_drawTiles_156 (by decide) ?_
  refine lv_iand hx hb dX3_drawTiles_159 ?_
  refine lv_topi (fun v6 ev6 => ?_)
  replace hf := zbv_use ev6 hf
  refine lv_istore (lv' := [(10, .int v6), (0, .ref (ad 3)), (1, .int x1), (5, .int x5), (6, .int x6), (7, .int x7), (8, .int x8), (9, .int x9)]) hx hb dX3_drawTiles_160 hl (by decide) rfl (fun ls hl => ?_)
  refine lv_iload hx hb dX3_drawTiles_162 (lv_at hl 7 rfl) ?_
  refine lv_if_eq (tgt := 183) hx hb dX3_drawTiles_164 (by decide) (fun q => ?_) (fun q => ?_)
  · replace hf := zif_t q hf
    exact bX3_drawTiles_183 hC hk143 hI (lv_sub hl [1, 2, 3, 4, 5, 6, 7, 0] rfl) hf
  replace hf := zif_f q hf
  refine lv_iload hx hb dX3_drawTiles_167 (lv_at hl 7 rfl) ?_
  refine lv_sipush (v := 192) hx hb dX3_drawTiles_169 (by decide) ?_
  refine lv_icmp_eq (tgt := 183) hx hb dX3_drawTiles_172 (by decide) (fun q => ?_) (fun q => ?_)
  · replace hf := zif_t q hf
    exact bX3_drawTiles_183 hC hk143 hI (lv_sub hl [1, 2, 3, 4, 5, 6, 7, 0] rfl) hf
  replace hf := zif_f q hf
  refine lv_iload hx hb dX3_drawTiles_175 (lv_at hl 0 rfl) ?_
  refine lv_bipush (v := 7) hx hb dX3_drawTiles_177 (by decide) ?_
  refine lv_iand hx hb dX3_drawTiles_179 ?_
  refine lv_if_ne (tgt := 215) hx hb dX3_drawTiles_180 (by decide) (fun q => ?_) (fun q => ?_)
  · replace hf := zif_f q hf
    exact bX3_drawTiles_215 hC hk143 hI (lv_sub hl [1, 2, 3, 4, 5, 6, 7, 0] rfl) hf
  replace hf := zif_t q hf
  exact bX3_drawTiles_183 hC hk143 hI (lv_sub hl [1, 2, 3, 4, 5, 6, 7, 0] rfl) hf
theorem blX3_drawTiles_143 {st : Nat → Nat} {p : Program} {l : Launch} {e : Env} {s : State} {m : MethodId} {args : Array Value} {below : List Frame} {meth : Method} {c : Code} {D : va_G} {A : Nat → Prop} {ad : Nat → Nat} {cy : Nat → ClassId} (hC : zC p m c cX3_drawTiles 14 s args wzX3_drawTiles RX3 meth none)  {res : zSt} : ∀ (n : Nat) (H : Heap) (locs : List Loc) (σ : zSt) (ls : Array Slot) (x1 : Int32) (x5 : Int32) (x6 : Int32) (x7 : Int32) (x8 : Int32) (x9 : Int32), zI st D (tC cy) (wC ad cy σ) A s H locs → lv_has ls 14 [(0, .ref (ad 3)), (1, .int x1), (5, .int x5), (6, .int x6), (7, .int x7), (8, .int x8), (9, .int x9)] → fX3_drawTiles_143  n σ x1 x5 x6 x7 x8 x9 = some res → W p l e rmX3_drawTiles s m args below meth c H locs 0 0 (zQu below args s D (tC cy) (wC ad cy) A res) (F0 m 143 ls []) := by
  intro n
  induction n with
  | zero => intro H locs σ ls x1 x5 x6 x7 x8 x9 hI hl hf; cases hf
  | succ n ih => intro H locs σ ls x1 x5 x6 x7 x8 x9 hI hl hf; exact bX3_drawTiles_143_body hC ih hI hl hf
set_option maxRecDepth 20000 in
set_option maxHeartbeats 4000000 in
theorem bX3_drawTiles_138 {st : Nat → Nat} {p : Program} {l : Launch} {e : Env} {s : State} {m : MethodId} {args : Array Value} {below : List Frame} {meth : Method} {c : Code} {D : va_G} {A : Nat → Prop} {ad : Nat → Nat} {cy : Nat → ClassId} (hC : zC p m c cX3_drawTiles 14 s args wzX3_drawTiles RX3 meth none)  {res : zSt} {H : Heap} {locs : List Loc} {σ : zSt} {ls : Array Slot} {x1 : Int32} {x5 : Int32} {x6 : Int32} {x7 : Int32} {s0 : Int32} (hI : zI st D (tC cy) (wC ad cy σ) A s H locs) (hl : lv_has ls 14 [(0, .ref (ad 3)), (1, .int x1), (5, .int x5), (6, .int x6), (7, .int x7)]) (hf : fX3_drawTiles_138  σ x1 x5 x6 x7 s0 = some res) : W p l e rmX3_drawTiles s m args below meth c H locs 0 0 (zQu below args s D (tC cy) (wC ad cy) A res) (F0 m 138 ls [.int s0]) := by
  have hx := hC.1
  have hb := hC.2.1
  unfold fX3_drawTiles_138 at hf
  refine lv_istore (lv' := [(8, .int s0), (0, .ref (ad 3)), (1, .int x1), (5, .int x5), (6, .int x6), (7, .int x7)]) hx hb dX3_drawTiles_138 hl (by decide) rfl (fun ls hl => ?_)
  refine lv_iconst (v := 0) hx hb dX3_drawTiles_140 (by decide) ?_
  refine lv_istore (lv' := [(9, .int 0), (8, .int s0), (0, .ref (ad 3)), (1, .int x1), (5, .int x5), (6, .int x6), (7, .int x7)]) hx hb dX3_drawTiles_141 hl (by decide) rfl (fun ls hl => ?_)
  exact blX3_drawTiles_143 hC  zfuel _ _ _ _ _ _ _ _ _ _ hI (lv_sub hl [2, 3, 4, 5, 6, 1, 0] rfl) hf
set_option maxRecDepth 20000 in
set_option maxHeartbeats 4000000 in
theorem bX3_drawTiles_122 {st : Nat → Nat} {p : Program} {l : Launch} {e : Env} {s : State} {m : MethodId} {args : Array Value} {below : List Frame} {meth : Method} {c : Code} {D : va_G} {A : Nat → Prop} {ad : Nat → Nat} {cy : Nat → ClassId} (hC : zC p m c cX3_drawTiles 14 s args wzX3_drawTiles RX3 meth none)  {res : zSt} {H : Heap} {locs : List Loc} {σ : zSt} {ls : Array Slot} {x1 : Int32} {x3 : Int32} {x5 : Int32} {x6 : Int32} {s0 : Int32} {s1 : Int32} (hI : zI st D (tC cy) (wC ad cy σ) A s H locs) (hl : lv_has ls 14 [(0, .ref (ad 3)), (1, .int x1), (3, .int x3), (5, .int x5), (6, .int x6)]) (hf : fX3_drawTiles_122  σ x1 x3 x5 x6 s0 s1 = some res) : W p l e rmX3_drawTiles s m args below meth c H locs 0 0 (zQu below args s D (tC cy) (wC ad cy) A res) (F0 m 122 ls [.int s0, .int s1]) := by
  have hx := hC.1
  have hb := hC.2.1
  unfold fX3_drawTiles_122 at hf
  obtain ⟨q, hf⟩ := zck_use hf
  refine z_irem hx hb dX3_drawTiles_122 (of_decide_eq_true q) ?_
  refine lv_topi (fun v7 ev7 => ?_)
  replace hf := zbv_use ev7 hf
  refine lv_istore (lv' := [(7, .int v7), (0, .ref (ad 3)), (1, .int x1), (3, .int x3), (5, .int x5), (6, .int x6)]) hx hb dX3_drawTiles_123 hl (by decide) rfl (fun ls hl => ?_)
  refine lv_iload_n hx hb dX3_drawTiles_125 rfl (lv_at hl 3 rfl) ?_
  refine lv_sipush (v := 128) hx hb dX3_drawTiles_126 (by decide) ?_
  refine lv_iand hx hb dX3_drawTiles_129 ?_
  refine lv_if_eq (tgt := 137) hx hb dX3_drawTiles_130 (by decide) (fun q => ?_) (fun q => ?_)
  · replace hf := zif_t q hf
    refine lv_iconst (v := 0) hx hb dX3_drawTiles_137 (by decide) ?_
    exact bX3_drawTiles_138 hC  hI (lv_sub hl [1, 2, 4, 5, 0] rfl) hf
  replace hf := zif_f q hf
  refine lv_iconst (v := 1) hx hb dX3_drawTiles_133 (by decide) ?_
  refine lv_goto (tgt := 138) hx hb dX3_drawTiles_134 (by decide) ?_
  exact bX3_drawTiles_138 hC  hI (lv_sub hl [1, 2, 4, 5, 0] rfl) hf
set_option maxRecDepth 20000 in
set_option maxHeartbeats 4000000 in
theorem bX3_drawTiles_96 {st : Nat → Nat} {p : Program} {l : Launch} {e : Env} {s : State} {m : MethodId} {args : Array Value} {below : List Frame} {meth : Method} {c : Code} {D : va_G} {A : Nat → Prop} {ad : Nat → Nat} {cy : Nat → ClassId} (hC : zC p m c cX3_drawTiles 14 s args wzX3_drawTiles RX3 meth none)  {res : zSt} {H : Heap} {locs : List Loc} {σ : zSt} {ls : Array Slot} {x1 : Int32} {x2 : Int32} {x3 : Int32} {x5 : Int32} {s0 : Int32} (hI : zI st D (tC cy) (wC ad cy σ) A s H locs) (hl : lv_has ls 14 [(0, .ref (ad 3)), (1, .int x1), (2, .int x2), (3, .int x3), (5, .int x5)]) (hf : fX3_drawTiles_96  σ x1 x2 x3 x5 s0 = some res) : W p l e rmX3_drawTiles s m args below meth c H locs 0 0 (zQu below args s D (tC cy) (wC ad cy) A res) (F0 m 96 ls [.int s0]) := by
  have hx := hC.1
  have hb := hC.2.1
  unfold fX3_drawTiles_96 at hf
  refine lv_istore (lv' := [(6, .int s0), (0, .ref (ad 3)), (1, .int x1), (2, .int x2), (3, .int x3), (5, .int x5)]) hx hb dX3_drawTiles_96 hl (by decide) rfl (fun ls hl => ?_)
  refine lv_iload_n hx hb dX3_drawTiles_98 rfl (lv_at hl 2 rfl) ?_
  refine lv_aload_n hx hb dX3_drawTiles_99 rfl (lv_at hl 1 rfl) ?_
  refine z_get hC hI hinX3_drawTiles_X30 3 (wC_e3 ad cy σ) rfl 0 (by decide) (List.mem_cons_of_mem _ zw4_22) rfl dX3_drawTiles_100 ?_
  refine lv_bipush (v := 19) hx hb dX3_drawTiles_103 (by decide) ?_
  obtain ⟨σ8, v9, g8, hf⟩ := zbi_use hf
  refine z_callVi (As := [.int 19]) (rest := [.int x1]) hC hI (cX9_held_met st l D ad cy σ 19 _ g8) (zgV zw35_21 zw35_13 zw35_14 zw2_1 zw35_15) rfl ⟨rfl, rfl⟩ 1 hdX9_held ⟨Nat.le_of_ble_eq_true rfl, Nat.le_of_ble_eq_true rfl⟩ rfl rfl (wC_e2 ad cy σ) rfl hl rfl (Nat.le_of_ble_eq_true rfl) dX3_drawTiles_105 ⟨Nat.zero_le _, Nat.zero_le _⟩ (fun H locs hI => ?_)
  refine lv_iadd hx hb dX3_drawTiles_108 ?_
  refine lv_iload_n hx hb dX3_drawTiles_109 rfl (lv_at hl 3 rfl) ?_
  refine lv_if_eq (tgt := 119) hx hb dX3_drawTiles_110 (by decide) (fun q => ?_) (fun q => ?_)
  · replace hf := zif_t q hf
    refine lv_sipush (v := 224) hx hb dX3_drawTiles_119 (by decide) ?_
    exact bX3_drawTiles_122 hC  hI (lv_sub hl [1, 2, 4, 5, 0] rfl) hf
  replace hf := zif_f q hf
  refine lv_sipush (v := 256) hx hb dX3_drawTiles_113 (by decide) ?_
  refine lv_goto (tgt := 122) hx hb dX3_drawTiles_116 (by decide) ?_
  exact bX3_drawTiles_122 hC  hI (lv_sub hl [1, 2, 4, 5, 0] rfl) hf
set_option maxRecDepth 20000 in
set_option maxHeartbeats 4000000 in
theorem bX3_drawTiles_87 {st : Nat → Nat} {p : Program} {l : Launch} {e : Env} {s : State} {m : MethodId} {args : Array Value} {below : List Frame} {meth : Method} {c : Code} {D : va_G} {A : Nat → Prop} {ad : Nat → Nat} {cy : Nat → ClassId} (hC : zC p m c cX3_drawTiles 14 s args wzX3_drawTiles RX3 meth none)  {res : zSt} {H : Heap} {locs : List Loc} {σ : zSt} {ls : Array Slot} {x1 : Int32} {x2 : Int32} {x3 : Int32} {x5 : Int32} (hI : zI st D (tC cy) (wC ad cy σ) A s H locs) (hl : lv_has ls 14 [(0, .ref (ad 3)), (1, .int x1), (2, .int x2), (3, .int x3), (5, .int x5)]) (hf : fX3_drawTiles_87  σ x1 x2 x3 x5 = some res) : W p l e rmX3_drawTiles s m args below meth c H locs 0 0 (zQu below args s D (tC cy) (wC ad cy) A res) (F0 m 87 ls []) := by
  have hx := hC.1
  have hb := hC.2.1
  unfold fX3_drawTiles_87 at hf
  refine lv_aload_n hx hb dX3_drawTiles_87 rfl (lv_at hl 0 rfl) ?_
  refine z_get hC hI hinX3_drawTiles_X30 3 (wC_e3 ad cy σ) rfl 0 (by decide) (List.mem_cons_of_mem _ zw4_22) rfl dX3_drawTiles_88 ?_
  refine lv_bipush (v := 8) hx hb dX3_drawTiles_91 (by decide) ?_
  obtain ⟨σ10, v11, g10, hf⟩ := zbi_use hf
  refine z_callVi (As := [.int 8]) (rest := []) hC hI (cX9_held_met st l D ad cy σ 8 _ g10) (zgV zw35_21 zw35_13 zw35_14 zw2_1 zw35_15) rfl ⟨rfl, rfl⟩ 1 hdX9_held ⟨Nat.le_of_ble_eq_true rfl, Nat.le_of_ble_eq_true rfl⟩ rfl rfl (wC_e2 ad cy σ) rfl hl rfl (Nat.le_of_ble_eq_true rfl) dX3_drawTiles_93 ⟨Nat.zero_le _, Nat.zero_le _⟩ (fun H locs hI => ?_)
  exact bX3_drawTiles_96 hC  hI hl hf
set_option maxRecDepth 20000 in
set_option maxHeartbeats 4000000 in
theorem bX3_drawTiles_68 {st : Nat → Nat} {p : Program} {l : Launch} {e : Env} {s : State} {m : MethodId} {args : Array Value} {below : List Frame} {meth : Method} {c : Code} {D : va_G} {A : Nat → Prop} {ad : Nat → Nat} {cy : Nat → ClassId} (hC : zC p m c cX3_drawTiles 14 s args wzX3_drawTiles RX3 meth none)  {res : zSt} {H : Heap} {locs : List Loc} {σ : zSt} {ls : Array Slot} {x1 : Int32} {x2 : Int32} {x3 : Int32} {s0 : Int32} (hI : zI st D (tC cy) (wC ad cy σ) A s H locs) (hl : lv_has ls 14 [(0, .ref (ad 3)), (1, .int x1), (2, .int x2), (3, .int x3)]) (hf : fX3_drawTiles_68  σ x1 x2 x3 s0 = some res) : W p l e rmX3_drawTiles s m args below meth c H locs 0 0 (zQu below args s D (tC cy) (wC ad cy) A res) (F0 m 68 ls [.int s0]) := by
  have hx := hC.1
  have hb := hC.2.1
  unfold fX3_drawTiles_68 at hf
  refine lv_istore (lv' := [(5, .int s0), (0, .ref (ad 3)), (1, .int x1), (2, .int x2), (3, .int x3)]) hx hb dX3_drawTiles_68 hl (by decide) rfl (fun ls hl => ?_)
  refine lv_iload_n hx hb dX3_drawTiles_70 rfl (lv_at hl 2 rfl) ?_
  refine lv_bipush (v := 16) hx hb dX3_drawTiles_71 (by decide) ?_
  refine lv_icmp_ge (tgt := 87) hx hb dX3_drawTiles_73 (by decide) (fun q => ?_) (fun q => ?_)
  · replace hf := zif_t q hf
    exact bX3_drawTiles_87 hC  hI (lv_sub hl [1, 2, 3, 4, 0] rfl) hf
  replace hf := zif_f q hf
  refine lv_iload_n hx hb dX3_drawTiles_76 rfl (lv_at hl 4 rfl) ?_
  refine lv_bipush (v := 64) hx hb dX3_drawTiles_77 (by decide) ?_
  refine lv_iand hx hb dX3_drawTiles_79 ?_
  refine lv_if_eq (tgt := 87) hx hb dX3_drawTiles_80 (by decide) (fun q => ?_) (fun q => ?_)
  · replace hf := zif_t q hf
    exact bX3_drawTiles_87 hC  hI (lv_sub hl [1, 2, 3, 4, 0] rfl) hf
  replace hf := zif_f q hf
  refine lv_iconst (v := 0) hx hb dX3_drawTiles_83 (by decide) ?_
  refine lv_goto (tgt := 96) hx hb dX3_drawTiles_84 (by decide) ?_
  exact bX3_drawTiles_96 hC  hI (lv_sub hl [1, 2, 3, 4, 0] rfl) hf
set_option maxRecDepth 20000 in
set_option maxHeartbeats 4000000 in
theorem bX3_drawTiles_18 {st : Nat → Nat} {p : Program} {l : Launch} {e : Env} {s : State} {m : MethodId} {args : Array Value} {below : List Frame} {meth : Method} {c : Code} {D : va_G} {A : Nat → Prop} {ad : Nat → Nat} {cy : Nat → ClassId} (hC : zC p m c cX3_drawTiles 14 s args wzX3_drawTiles RX3 meth none)  {res : zSt} {H : Heap} {locs : List Loc} {σ : zSt} {ls : Array Slot} {x1 : Int32} {s0 : Int32} (hI : zI st D (tC cy) (wC ad cy σ) A s H locs) (hl : lv_has ls 14 [(0, .ref (ad 3)), (1, .int x1)]) (hf : fX3_drawTiles_18  σ x1 s0 = some res) : W p l e rmX3_drawTiles s m args below meth c H locs 0 0 (zQu below args s D (tC cy) (wC ad cy) A res) (F0 m 18 ls [.int s0]) := by
  have hx := hC.1
  have hb := hC.2.1
  unfold fX3_drawTiles_18 at hf
  refine lv_istore_n (lv' := [(2, .int s0), (0, .ref (ad 3)), (1, .int x1)]) hx hb dX3_drawTiles_18 rfl hl (by decide) rfl (fun ls hl => ?_)
  refine lv_aload_n hx hb dX3_drawTiles_19 rfl (lv_at hl 1 rfl) ?_
  refine z_get hC hI hinX3_drawTiles_X30 3 (wC_e3 ad cy σ) rfl 0 (by decide) (List.mem_cons_of_mem _ zw4_22) rfl dX3_drawTiles_20 ?_
  refine lv_iconst (v := 0) hx hb dX3_drawTiles_23 (by decide) ?_
  obtain ⟨σ12, v13, g12, hf⟩ := zbi_use hf
  refine z_callVi (As := [.int 0]) (rest := []) hC hI (cX9_held_met st l D ad cy σ 0 _ g12) (zgV zw35_21 zw35_13 zw35_14 zw2_1 zw35_15) rfl ⟨rfl, rfl⟩ 1 hdX9_held ⟨Nat.le_of_ble_eq_true rfl, Nat.le_of_ble_eq_true rfl⟩ rfl rfl (wC_e2 ad cy σ) rfl hl rfl (Nat.le_of_ble_eq_true rfl) dX3_drawTiles_24 ⟨Nat.zero_le _, Nat.zero_le _⟩ (fun H locs hI => ?_)
  refine lv_istore_n (lv' := [(3, .int v13), (2, .int s0), (0, .ref (ad 3)), (1, .int x1)]) hx hb dX3_drawTiles_27 rfl hl (by decide) rfl (fun ls hl => ?_)
  refine lv_aload_n hx hb dX3_drawTiles_28 rfl (lv_at hl 2 rfl) ?_
  refine z_get hC hI hinX3_drawTiles_X30 3 (wC_e3 ad cy σ12) rfl 0 (by decide) (List.mem_cons_of_mem _ zw4_22) rfl dX3_drawTiles_29 ?_
  refine lv_iconst (v := 2) hx hb dX3_drawTiles_32 (by decide) ?_
  obtain ⟨σ14, v15, g14, hf⟩ := zbi_use hf
  refine z_callVi (As := [.int 2]) (rest := []) hC hI (cX9_held_met st l D ad cy σ12 2 _ g14) (zgV zw35_21 zw35_13 zw35_14 zw2_1 zw35_15) rfl ⟨rfl, rfl⟩ 1 hdX9_held ⟨Nat.le_of_ble_eq_true rfl, Nat.le_of_ble_eq_true rfl⟩ rfl rfl (wC_e2 ad cy σ12) rfl hl rfl (Nat.le_of_ble_eq_true rfl) dX3_drawTiles_33 ⟨Nat.zero_le _, Nat.zero_le _⟩ (fun H locs hI => ?_)
  refine lv_istore (lv' := [(4, .int v15), (3, .int v13), (2, .int s0), (0, .ref (ad 3)), (1, .int x1)]) hx hb dX3_drawTiles_36 hl (by decide) rfl (fun ls hl => ?_)
  refine lv_iload_n hx hb dX3_drawTiles_38 rfl (lv_at hl 2 rfl) ?_
  refine lv_if_eq (tgt := 59) hx hb dX3_drawTiles_39 (by decide) (fun q => ?_) (fun q => ?_)
  · replace hf := zif_t q hf
    refine lv_sipush (v := 1024) hx hb dX3_drawTiles_59 (by decide) ?_
    refine lv_iload hx hb dX3_drawTiles_62 (lv_at hl 0 rfl) ?_
    refine lv_bipush (v := 14) hx hb dX3_drawTiles_64 (by decide) ?_
    refine lv_iand hx hb dX3_drawTiles_66 ?_
    refine lv_imul hx hb dX3_drawTiles_67 ?_
    exact bX3_drawTiles_68 hC  hI (lv_sub hl [3, 4, 2, 1] rfl) hf
  replace hf := zif_f q hf
  refine lv_sipush (v := 4096) hx hb dX3_drawTiles_42 (by decide) ?_
  refine lv_iload hx hb dX3_drawTiles_45 (lv_at hl 0 rfl) ?_
  refine lv_iconst (v := 2) hx hb dX3_drawTiles_47 (by decide) ?_
  refine lv_ishr hx hb dX3_drawTiles_48 ?_
  refine lv_iconst (v := 3) hx hb dX3_drawTiles_49 (by decide) ?_
  refine lv_iand hx hb dX3_drawTiles_50 ?_
  refine lv_imul hx hb dX3_drawTiles_51 ?_
  refine lv_sipush (v := 1792) hx hb dX3_drawTiles_52 (by decide) ?_
  refine lv_iadd hx hb dX3_drawTiles_55 ?_
  refine lv_goto (tgt := 68) hx hb dX3_drawTiles_56 (by decide) ?_
  exact bX3_drawTiles_68 hC  hI (lv_sub hl [3, 4, 2, 1] rfl) hf
set_option maxRecDepth 20000 in
set_option maxHeartbeats 4000000 in
theorem bX3_drawTiles {st : Nat → Nat} {p : Program} {l : Launch} {e : Env} {s : State} {m : MethodId} {args : Array Value} {below : List Frame} {meth : Method} {c : Code} {D : va_G} {A : Nat → Prop} {ad : Nat → Nat} {cy : Nat → ClassId} (hC : zC p m c cX3_drawTiles 14 s args wzX3_drawTiles RX3 meth none)  {res : zSt} {H : Heap} {locs : List Loc} {σ : zSt} {ls : Array Slot} {x1 : Int32} (hI : zI st D (tC cy) (wC ad cy σ) A s H locs) (hl : lv_has ls 14 [(0, .ref (ad 3)), (1, .int x1)]) (hf : fX3_drawTiles  σ x1 = some res) : W p l e rmX3_drawTiles s m args below meth c H locs 0 0 (zQu below args s D (tC cy) (wC ad cy) A res) (F0 m 0 ls []) := by
  have hx := hC.1
  have hb := hC.2.1
  unfold fX3_drawTiles at hf
  refine lv_aload_n hx hb dX3_drawTiles_0 rfl (lv_at hl 0 rfl) ?_
  refine z_get hC hI hinX3_drawTiles_X30 3 (wC_e3 ad cy σ) rfl 0 (by decide) (List.mem_cons_of_mem _ zw4_22) rfl dX3_drawTiles_1 ?_
  obtain ⟨σ16, v17, g16, hf⟩ := zbi_use hf
  refine z_callVi (As := []) (rest := []) hC hI (cX9_height_met st l D ad cy σ  _ g16) (zgV zw36_9 zw25_17 zw25_18 zw2_1 zw25_19) rfl ⟨rfl, rfl⟩ 0 hdX9_height ⟨Nat.le_of_ble_eq_true rfl, Nat.le_of_ble_eq_true rfl⟩ rfl rfl (wC_e2 ad cy σ) rfl hl rfl (Nat.le_of_ble_eq_true rfl) dX3_drawTiles_4 ⟨Nat.zero_le _, Nat.zero_le _⟩ (fun H locs hI => ?_)
  refine lv_sipush (v := 192) hx hb dX3_drawTiles_7 (by decide) ?_
  refine lv_icmp_eq (tgt := 17) hx hb dX3_drawTiles_10 (by decide) (fun q => ?_) (fun q => ?_)
  · replace hf := zif_t q hf
    refine lv_iconst (v := 0) hx hb dX3_drawTiles_17 (by decide) ?_
    exact bX3_drawTiles_18 hC  hI hl hf
  replace hf := zif_f q hf
  refine lv_iconst (v := 1) hx hb dX3_drawTiles_13 (by decide) ?_
  refine lv_goto (tgt := 18) hx hb dX3_drawTiles_14 (by decide) ?_
  exact bX3_drawTiles_18 hC  hI hl hf
set_option maxRecDepth 20000 in
theorem cX3_drawTiles_met (st : Nat → Nat) (l : Launch) (D : va_G) (ad : Nat → Nat) (cy : Nat → ClassId) (σ : zSt) (x1 : Int32) (res : zSt) (hf : fX3_drawTiles σ x1 = some res) (sz : Nat) : zMu st l yX3_drawTiles wzX3_drawTiles rmX3_drawTiles [.ref (ad 3), .int x1] D (tC cy) (wC ad cy) sz σ res :=
  zMu.of (cc := cX3_drawTiles) (maxL := 14) (ret := none) (by decide) rfl (Nat.le_of_ble_eq_true rfl) (fun p e s m args below meth c hC A hI ls hl => bX3_drawTiles hC hI hl hf)
theorem hdX3_drawTiles : yX3_drawTiles.cls = RX3 ∧ yX3_drawTiles.cls ≠ "java/lang/invoke/MethodHandle" ∧ yX3_drawTiles.cls ≠ "java/lang/invoke/VarHandle" ∧ (parseMethodDescriptor yX3_drawTiles.desc).map (fun d => d.parameters.length) = some 1 := by decide +kernel
def rmJ7_fill_53178_k28 : Room := { frames := 0, cells := 0, slots := 0, locals := 0 }
def fJ7_fill_53178_k28_5_body (k5 : zSt → Int32 → Int32 → Int32 → Option (zSt)) (σ : zSt) (x1 : Int32) (x2 : Int32) (x3 : Int32) : Option (zSt) :=
  if x3 ≤ x2 then some σ else
  zck (zin x2 256) (zbv (zsi σ 28 (x2.toNatClampNeg) x1) (fun σ1 =>
  zbv (x2 + 1) (fun v2 =>
  k5 σ1 x1 v2 x3)))
def fJ7_fill_53178_k28_5  : Nat → zSt → Int32 → Int32 → Int32 → Option (zSt)
  | 0, _, _, _, _ => none
  | n + 1, σ, x1, x2, x3 => fJ7_fill_53178_k28_5_body (fJ7_fill_53178_k28_5  n) σ x1 x2 x3
def fJ7_fill_53178_k28  (σ : zSt) (x1 : Int32) : Option (zSt) :=
  fJ7_fill_53178_k28_5 zfuel σ x1 0 256
set_option maxRecDepth 20000 in
set_option maxHeartbeats 4000000 in
theorem bJ7_fill_53178_k28_5_body {st : Nat → Nat} {p : Program} {l : Launch} {e : Env} {s : State} {m : MethodId} {args : Array Value} {below : List Frame} {meth : Method} {c : Code} {D : va_G} {A : Nat → Prop} {ad : Nat → Nat} {cy : Nat → ClassId} (hC : zC p m c cJ7_fill_53178 4 s args wzJ7_fill_53178 RJ7 meth none) {k5 : zSt → Int32 → Int32 → Int32 → Option (zSt)} {res : zSt} (hk5 : ∀ (H : Heap) (locs : List Loc) (σ : zSt) (ls : Array Slot) (x1 : Int32) (x2 : Int32) (x3 : Int32), zI st D (tC cy) (wC ad cy σ) A s H locs → lv_has ls 4 [(0, .ref (ad 28)), (1, .int x1), (2, .int x2), (3, .int x3)] → k5 σ x1 x2 x3 = some res → W p l e rmJ7_fill_53178_k28 s m args below meth c H locs 0 0 (zQu below args s D (tC cy) (wC ad cy) A res) (F0 m 5 ls [])) {H : Heap} {locs : List Loc} {σ : zSt} {ls : Array Slot} {x1 : Int32} {x2 : Int32} {x3 : Int32} (hI : zI st D (tC cy) (wC ad cy σ) A s H locs) (hl : lv_has ls 4 [(0, .ref (ad 28)), (1, .int x1), (2, .int x2), (3, .int x3)]) (hf : fJ7_fill_53178_k28_5_body k5 σ x1 x2 x3 = some res) : W p l e rmJ7_fill_53178_k28 s m args below meth c H locs 0 0 (zQu below args s D (tC cy) (wC ad cy) A res) (F0 m 5 ls []) := by
  have hx := hC.1
  have hb := hC.2.1
  unfold fJ7_fill_53178_k28_5_body at hf
  refine lv_iload_n hx hb dJ7_fill_53178_5 rfl (lv_at hl 2 rfl) ?_
  refine lv_iload_n hx hb dJ7_fill_53178_6 rfl (lv_at hl 3 rfl) ?_
  refine lv_icmp_ge (tgt := 20) hx hb dJ7_fill_53178_7 (by decide) (fun q => ?_) (fun q => ?_)
  · replace hf := zif_t q hf
    exact z_return hC hI hf dJ7_fill_53178_20
  replace hf := zif_f q hf
  refine lv_aload_n hx hb dJ7_fill_53178_10 rfl (lv_at hl 0 rfl) ?_
  refine lv_iload_n hx hb dJ7_fill_53178_11 rfl (lv_at hl 2 rfl) ?_
  refine lv_iload_n hx hb dJ7_fill_53178_12 rfl (lv_at hl 1 rfl) ?_
  obtain ⟨q, hf⟩ := zck_use hf
  obtain ⟨σ1, eσ1⟩ : ∃ z, z = zsi σ 28 (x2.toNatClampNeg) x1 := ⟨_, rfl⟩
  replace hf := zbv_use eσ1 hf
  refine z_iast hC hI 28 15 (wC_e28 ad cy σ) (tC_t28 cy) q ((wC_s28 ad cy σ _ _).trans (congrArg (wC ad cy) eσ1.symm)) dJ7_fill_53178_13 (fun H locs hI => ?_)
  obtain ⟨v2, ev2⟩ : ∃ z : Int32, z = x2 + 1 := ⟨_, rfl⟩
  replace hf := zbv_use ev2 hf
  refine lv_iinc (v := v2) (lv' := [(2, .int v2), (0, .ref (ad 28)), (1, .int x1), (3, .int x3)]) hx hb dJ7_fill_53178_14 hl (k := 2) rfl (by rw [ev2]; rfl) (by decide) rfl (fun ls hl => ?_)
  refine lv_goto (tgt := 5) hx hb dJ7_fill_53178_17 (by decide) ?_
  exact hk5 _ _ _ _ _ _ _ hI (lv_sub hl [1, 2, 0, 3] rfl) hf
theorem blJ7_fill_53178_k28_5 {st : Nat → Nat} {p : Program} {l : Launch} {e : Env} {s : State} {m : MethodId} {args : Array Value} {below : List Frame} {meth : Method} {c : Code} {D : va_G} {A : Nat → Prop} {ad : Nat → Nat} {cy : Nat → ClassId} (hC : zC p m c cJ7_fill_53178 4 s args wzJ7_fill_53178 RJ7 meth none)  {res : zSt} : ∀ (n : Nat) (H : Heap) (locs : List Loc) (σ : zSt) (ls : Array Slot) (x1 : Int32) (x2 : Int32) (x3 : Int32), zI st D (tC cy) (wC ad cy σ) A s H locs → lv_has ls 4 [(0, .ref (ad 28)), (1, .int x1), (2, .int x2), (3, .int x3)] → fJ7_fill_53178_k28_5  n σ x1 x2 x3 = some res → W p l e rmJ7_fill_53178_k28 s m args below meth c H locs 0 0 (zQu below args s D (tC cy) (wC ad cy) A res) (F0 m 5 ls []) := by
  intro n
  induction n with
  | zero => intro H locs σ ls x1 x2 x3 hI hl hf; cases hf
  | succ n ih => intro H locs σ ls x1 x2 x3 hI hl hf; exact bJ7_fill_53178_k28_5_body hC ih hI hl hf
set_option maxRecDepth 20000 in
set_option maxHeartbeats 4000000 in
theorem bJ7_fill_53178_k28 {st : Nat → Nat} {p : Program} {l : Launch} {e : Env} {s : State} {m : MethodId} {args : Array Value} {below : List Frame} {meth : Method} {c : Code} {D : va_G} {A : Nat → Prop} {ad : Nat → Nat} {cy : Nat → ClassId} (hC : zC p m c cJ7_fill_53178 4 s args wzJ7_fill_53178 RJ7 meth none)  {res : zSt} {H : Heap} {locs : List Loc} {σ : zSt} {ls : Array Slot} {x1 : Int32} (hI : zI st D (tC cy) (wC ad cy σ) A s H locs) (hl : lv_has ls 4 [(0, .ref (ad 28)), (1, .int x1)]) (hf : fJ7_fill_53178_k28  σ x1 = some res) : W p l e rmJ7_fill_53178_k28 s m args below meth c H locs 0 0 (zQu below args s D (tC cy) (wC ad cy) A res) (F0 m 0 ls []) := by
  have hx := hC.1
  have hb := hC.2.1
  unfold fJ7_fill_53178_k28 at hf
  refine lv_iconst (v := 0) hx hb dJ7_fill_53178_0 (by decide) ?_
  refine lv_istore_n (lv' := [(2, .int 0), (0, .ref (ad 28)), (1, .int x1)]) hx hb dJ7_fill_53178_1 rfl hl (by decide) rfl (fun ls hl => ?_)
  refine lv_aload_n hx hb dJ7_fill_53178_2 rfl (lv_at hl 1 rfl) ?_
  refine z_alen (v := 256) hC hI 28 15 (wC_e28 ad cy σ) (tC_t28 cy) rfl dJ7_fill_53178_3 ?_
  refine lv_istore_n (lv' := [(3, .int 256), (2, .int 0), (0, .ref (ad 28)), (1, .int x1)]) hx hb dJ7_fill_53178_4 rfl hl (by decide) rfl (fun ls hl => ?_)
  exact blJ7_fill_53178_k28_5 hC  zfuel _ _ _ _ _ _ _ hI (lv_sub hl [2, 3, 1, 0] rfl) hf
set_option maxRecDepth 20000 in
theorem cJ7_fill_53178_k28_met (st : Nat → Nat) (l : Launch) (D : va_G) (ad : Nat → Nat) (cy : Nat → ClassId) (σ : zSt) (x1 : Int32) (res : zSt) (hf : fJ7_fill_53178_k28 σ x1 = some res) (sz : Nat) : zMu st l yJ7_fill_53178 wzJ7_fill_53178 rmJ7_fill_53178_k28 [.ref (ad 28), .int x1] D (tC cy) (wC ad cy) sz σ res :=
  zMu.of (cc := cJ7_fill_53178) (maxL := 4) (ret := none) (by decide) rfl (Nat.le_of_ble_eq_true rfl) (fun p e s m args below meth c hC A hI ls hl => bJ7_fill_53178_k28 hC hI hl hf)
theorem hdJ7_fill_53178_k28 : yJ7_fill_53178.cls ≠ "java/lang/invoke/MethodHandle" ∧ yJ7_fill_53178.cls ≠ "java/lang/invoke/VarHandle" ∧ (parseMethodDescriptor yJ7_fill_53178.desc).map (fun d => d.parameters.length) = some 2 := by decide +kernel
def rmX3_rowOfSprite : Room := { frames := 1, cells := 0, slots := 0, locals := 21 }
def wzX3_rowOfSprite : List Cond := .code yX3_rowOfSprite cX3_rowOfSprite 5 (some .int) :: wsL_law
theorem hinX3_rowOfSprite_X30 : ∀ w ∈ wsX30, w ∈ wzX3_rowOfSprite := fun w h => List.mem_cons_of_mem _ (inlX3 w h)
def fX3_rowOfSprite_56  (σ : zSt) (s0 : Int32) : Option (zSt × Int32) :=
  some (σ, s0)
def fX3_rowOfSprite_47  (σ : zSt) (x4 : Int32) (s0 : Int32) (s1 : Int32) : Option (zSt × Int32) :=
  if s0 ≤ s1 then fX3_rowOfSprite_56 σ (-1) else
  fX3_rowOfSprite_56 σ x4
def fX3_rowOfSprite_32  (σ : zSt) (x3 : Int32) (x4 : Int32) : Option (zSt × Int32) :=
  if (x3 &&& 2) = 0 then fX3_rowOfSprite_47 σ x4 8 x4 else
  fX3_rowOfSprite_47 σ x4 16 x4
def fX3_rowOfSprite  (σ : zSt) (x1 : Int32) (x2 : Int32) : Option (zSt × Int32) :=
  zbi (fX9_held σ 1) (fun σ1 v2 =>
  zbv (((x1 - x2) - 1) &&& 255) (fun v3 =>
  if (v2 &&& 1) = 0 then fX3_rowOfSprite_32 σ1 v2 v3 else
  zbv (v3 >>> ((1 : Int32) &&& 31)) (fun v4 =>
  fX3_rowOfSprite_32 σ1 v2 v4)))
set_option maxRecDepth 20000 in
set_option maxHeartbeats 4000000 in
theorem bX3_rowOfSprite_56 {st : Nat → Nat} {p : Program} {l : Launch} {e : Env} {s : State} {m : MethodId} {args : Array Value} {below : List Frame} {meth : Method} {c : Code} {D : va_G} {A : Nat → Prop} {ad : Nat → Nat} {cy : Nat → ClassId} (hC : zC p m c cX3_rowOfSprite 5 s args wzX3_rowOfSprite RX3 meth (some .int))  {res : zSt × Int32} {H : Heap} {locs : List Loc} {σ : zSt} {ls : Array Slot} {s0 : Int32} (hI : zI st D (tC cy) (wC ad cy σ) A s H locs) (hl : lv_has ls 5 []) (hf : fX3_rowOfSprite_56  σ s0 = some res) : W p l e rmX3_rowOfSprite s m args below meth c H locs 0 0 (zQi below args s D (tC cy) (wC ad cy) A res) (F0 m 56 ls [.int s0]) := by
  have hx := hC.1
  have hb := hC.2.1
  unfold fX3_rowOfSprite_56 at hf
  exact z_ireturn hC hI hf dX3_rowOfSprite_56
set_option maxRecDepth 20000 in
set_option maxHeartbeats 4000000 in
theorem bX3_rowOfSprite_47 {st : Nat → Nat} {p : Program} {l : Launch} {e : Env} {s : State} {m : MethodId} {args : Array Value} {below : List Frame} {meth : Method} {c : Code} {D : va_G} {A : Nat → Prop} {ad : Nat → Nat} {cy : Nat → ClassId} (hC : zC p m c cX3_rowOfSprite 5 s args wzX3_rowOfSprite RX3 meth (some .int))  {res : zSt × Int32} {H : Heap} {locs : List Loc} {σ : zSt} {ls : Array Slot} {x4 : Int32} {s0 : Int32} {s1 : Int32} (hI : zI st D (tC cy) (wC ad cy σ) A s H locs) (hl : lv_has ls 5 [(4, .int x4)]) (hf : fX3_rowOfSprite_47  σ x4 s0 s1 = some res) : W p l e rmX3_rowOfSprite s m args below meth c H locs 0 0 (zQi below args s D (tC cy) (wC ad cy) A res) (F0 m 47 ls [.int s0, .int s1]) := by
  have hx := hC.1
  have hb := hC.2.1
  unfold fX3_rowOfSprite_47 at hf
  refine lv_icmp_ge (tgt := 55) hx hb dX3_rowOfSprite_47 (by decide) (fun q => ?_) (fun q => ?_)
  · replace hf := zif_t q hf
    refine lv_iconst (v := (-1)) hx hb dX3_rowOfSprite_55 (by decide) ?_
    exact bX3_rowOfSprite_56 hC  hI (lv_sub hl [] rfl) hf
  replace hf := zif_f q hf
  refine lv_iload hx hb dX3_rowOfSprite_50 (lv_at hl 0 rfl) ?_
  refine lv_goto (tgt := 56) hx hb dX3_rowOfSprite_52 (by decide) ?_
  exact bX3_rowOfSprite_56 hC  hI (lv_sub hl [] rfl) hf
set_option maxRecDepth 20000 in
set_option maxHeartbeats 4000000 in
theorem bX3_rowOfSprite_32 {st : Nat → Nat} {p : Program} {l : Launch} {e : Env} {s : State} {m : MethodId} {args : Array Value} {below : List Frame} {meth : Method} {c : Code} {D : va_G} {A : Nat → Prop} {ad : Nat → Nat} {cy : Nat → ClassId} (hC : zC p m c cX3_rowOfSprite 5 s args wzX3_rowOfSprite RX3 meth (some .int))  {res : zSt × Int32} {H : Heap} {locs : List Loc} {σ : zSt} {ls : Array Slot} {x3 : Int32} {x4 : Int32} (hI : zI st D (tC cy) (wC ad cy σ) A s H locs) (hl : lv_has ls 5 [(3, .int x3), (4, .int x4)]) (hf : fX3_rowOfSprite_32  σ x3 x4 = some res) : W p l e rmX3_rowOfSprite s m args below meth c H locs 0 0 (zQi below args s D (tC cy) (wC ad cy) A res) (F0 m 32 ls []) := by
  have hx := hC.1
  have hb := hC.2.1
  unfold fX3_rowOfSprite_32 at hf
  refine lv_iload hx hb dX3_rowOfSprite_32 (lv_at hl 1 rfl) ?_
  refine lv_iload_n hx hb dX3_rowOfSprite_34 rfl (lv_at hl 0 rfl) ?_
  refine lv_iconst (v := 2) hx hb dX3_rowOfSprite_35 (by decide) ?_
  refine lv_iand hx hb dX3_rowOfSprite_36 ?_
  refine lv_if_eq (tgt := 45) hx hb dX3_rowOfSprite_37 (by decide) (fun q => ?_) (fun q => ?_)
  · replace hf := zif_t q hf
    refine lv_bipush (v := 8) hx hb dX3_rowOfSprite_45 (by decide) ?_
    exact bX3_rowOfSprite_47 hC  hI (lv_sub hl [1] rfl) hf
  replace hf := zif_f q hf
  refine lv_bipush (v := 16) hx hb dX3_rowOfSprite_40 (by decide) ?_
  refine lv_goto (tgt := 47) hx hb dX3_rowOfSprite_42 (by decide) ?_
  exact bX3_rowOfSprite_47 hC  hI (lv_sub hl [1] rfl) hf
set_option maxRecDepth 20000 in
set_option maxHeartbeats 4000000 in
theorem bX3_rowOfSprite {st : Nat → Nat} {p : Program} {l : Launch} {e : Env} {s : State} {m : MethodId} {args : Array Value} {below : List Frame} {meth : Method} {c : Code} {D : va_G} {A : Nat → Prop} {ad : Nat → Nat} {cy : Nat → ClassId} (hC : zC p m c cX3_rowOfSprite 5 s args wzX3_rowOfSprite RX3 meth (some .int))  {res : zSt × Int32} {H : Heap} {locs : List Loc} {σ : zSt} {ls : Array Slot} {x1 : Int32} {x2 : Int32} (hI : zI st D (tC cy) (wC ad cy σ) A s H locs) (hl : lv_has ls 5 [(0, .ref (ad 3)), (1, .int x1), (2, .int x2)]) (hf : fX3_rowOfSprite  σ x1 x2 = some res) : W p l e rmX3_rowOfSprite s m args below meth c H locs 0 0 (zQi below args s D (tC cy) (wC ad cy) A res) (F0 m 0 ls []) := by
  have hx := hC.1
  have hb := hC.2.1
  unfold fX3_rowOfSprite at hf
  refine lv_aload_n hx hb dX3_rowOfSprite_0 rfl (lv_at hl 0 rfl) ?_
  refine z_get hC hI hinX3_rowOfSprite_X30 3 (wC_e3 ad cy σ) rfl 0 (by decide) (List.mem_cons_of_mem _ zw4_22) rfl dX3_rowOfSprite_1 ?_
  refine lv_iconst (v := 1) hx hb dX3_rowOfSprite_4 (by decide) ?_
  obtain ⟨σ1, v2, g1, hf⟩ := zbi_use hf
  refine z_callVi (As := [.int 1]) (rest := []) hC hI (cX9_held_met st l D ad cy σ 1 _ g1) (zgV zw35_21 zw35_13 zw35_14 zw2_1 zw35_15) rfl ⟨rfl, rfl⟩ 1 hdX9_held ⟨Nat.le_of_ble_eq_true rfl, Nat.le_of_ble_eq_true rfl⟩ rfl rfl (wC_e2 ad cy σ) rfl hl rfl (Nat.le_of_ble_eq_true rfl) dX3_rowOfSprite_5 ⟨Nat.zero_le _, Nat.zero_le _⟩ (fun H locs hI => ?_)
  refine lv_istore_n (lv' := [(3, .int v2), (0, .ref (ad 3)), (1, .int x1), (2, .int x2)]) hx hb dX3_rowOfSprite_8 rfl hl (by decide) rfl (fun ls hl => ?_)
  refine lv_iload_n hx hb dX3_rowOfSprite_9 rfl (lv_at hl 2 rfl) ?_
  refine lv_iload_n hx hb dX3_rowOfSprite_10 rfl (lv_at hl 3 rfl) ?_
  refine lv_isub hx hb dX3_rowOfSprite_11 ?_
  refine lv_iconst (v := 1) hx hb dX3_rowOfSprite_12 (by decide) ?_
  refine lv_isub hx hb dX3_rowOfSprite_13 ?_
  refine lv_sipush (v := 255) hx hb dX3_rowOfSprite_14 (by decide) ?_
  refine lv_iand hx hb dX3_rowOfSprite_17 ?_
  refine lv_topi (fun v3 ev3 => ?_)
  replace hf := zbv_use ev3 hf
  refine lv_istore (lv' := [(4, .int v3), (3, .int v2), (0, .ref (ad 3)), (1, .int x1), (2, .int x2)]) hx hb dX3_rowOfSprite_18 hl (by decide) rfl (fun ls hl => ?_)
  refine lv_iload_n hx hb dX3_rowOfSprite_20 rfl (lv_at hl 1 rfl) ?_
  refine lv_iconst (v := 1) hx hb dX3_rowOfSprite_21 (by decide) ?_
  refine lv_iand hx hb dX3_rowOfSprite_22 ?_
  refine lv_if_eq (tgt := 32) hx hb dX3_rowOfSprite_23 (by decide) (fun q => ?_) (fun q => ?_)
  · replace hf := zif_t q hf
    exact bX3_rowOfSprite_32 hC  hI (lv_sub hl [1, 0] rfl) hf
  replace hf := zif_f q hf
  refine lv_iload hx hb dX3_rowOfSprite_26 (lv_at hl 0 rfl) ?_
  refine lv_iconst (v := 1) hx hb dX3_rowOfSprite_28 (by decide) ?_
  refine lv_ishr hx hb dX3_rowOfSprite_29 ?_
  refine lv_topi (fun v4 ev4 => ?_)
  replace hf := zbv_use ev4 hf
  refine lv_istore (lv' := [(4, .int v4), (3, .int v2), (0, .ref (ad 3)), (1, .int x1), (2, .int x2)]) hx hb dX3_rowOfSprite_30 hl (by decide) rfl (fun ls hl => ?_)
  exact bX3_rowOfSprite_32 hC  hI (lv_sub hl [1, 0] rfl) hf
set_option maxRecDepth 20000 in
theorem cX3_rowOfSprite_met (st : Nat → Nat) (l : Launch) (D : va_G) (ad : Nat → Nat) (cy : Nat → ClassId) (σ : zSt) (x1 : Int32) (x2 : Int32) (res : zSt × Int32) (hf : fX3_rowOfSprite σ x1 x2 = some res) (sz : Nat) : zMi st l yX3_rowOfSprite wzX3_rowOfSprite rmX3_rowOfSprite [.ref (ad 3), .int x1, .int x2] D (tC cy) (wC ad cy) sz σ res :=
  zMi.of (cc := cX3_rowOfSprite) (maxL := 5) (ret := (some .int)) (by decide) rfl (Nat.le_of_ble_eq_true rfl) (fun p e s m args below meth c hC A hI ls hl => bX3_rowOfSprite hC hI hl hf)
theorem hdX3_rowOfSprite : yX3_rowOfSprite.cls = RX3 ∧ yX3_rowOfSprite.cls ≠ "java/lang/invoke/MethodHandle" ∧ yX3_rowOfSprite.cls ≠ "java/lang/invoke/VarHandle" ∧ (parseMethodDescriptor yX3_rowOfSprite.desc).map (fun d => d.parameters.length) = some 2 := by decide +kernel
def rmX9_mark : Room := { frames := 0, cells := 0, slots := 0, locals := 0 }
def wzX9_mark : List Cond := .code yX9_mark cX9_mark 2 none :: wsL_law
theorem hinX9_mark_X90 : ∀ w ∈ wsX90, w ∈ wzX9_mark := fun w h => List.mem_cons_of_mem _ (inlX9 w h)
def fX9_mark  (σ : zSt) (x1 : Int32) : Option (zSt) :=
  zck (zin 15 96) (
  zck (zin 15 96) (zbv (zsi σ 23 ((15 : Int32).toNatClampNeg) ((zgi σ 23 (15 : Int32).toNatClampNeg) ||| x1)) (fun σ1 =>
  some σ1)))
set_option maxRecDepth 20000 in
set_option maxHeartbeats 4000000 in
theorem bX9_mark {st : Nat → Nat} {p : Program} {l : Launch} {e : Env} {s : State} {m : MethodId} {args : Array Value} {below : List Frame} {meth : Method} {c : Code} {D : va_G} {A : Nat → Prop} {ad : Nat → Nat} {cy : Nat → ClassId} (hC : zC p m c cX9_mark 2 s args wzX9_mark RX9 meth none)  {res : zSt} {H : Heap} {locs : List Loc} {σ : zSt} {ls : Array Slot} {x1 : Int32} (hI : zI st D (tC cy) (wC ad cy σ) A s H locs) (hl : lv_has ls 2 [(0, .ref (ad 2)), (1, .int x1)]) (hf : fX9_mark  σ x1 = some res) : W p l e rmX9_mark s m args below meth c H locs 0 0 (zQu below args s D (tC cy) (wC ad cy) A res) (F0 m 0 ls []) := by
  have hx := hC.1
  have hb := hC.2.1
  unfold fX9_mark at hf
  refine lv_aload_n hx hb dX9_mark_0 rfl (lv_at hl 0 rfl) ?_
  refine z_get hC hI hinX9_mark_X90 2 (wC_e2 ad cy σ) rfl 4 (by decide) (List.mem_cons_of_mem _ zw4_8) rfl dX9_mark_1 ?_
  refine lv_bipush (v := 15) hx hb dX9_mark_4 (by decide) ?_
  refine lv_dup2_11 hx hb dX9_mark_6 rfl rfl ?_
  obtain ⟨q, hf⟩ := zck_use hf
  refine z_iald hC hI 23 10 (wC_e23 ad cy σ) (tC_t23 cy) q dX9_mark_7 ?_
  refine lv_iload_n hx hb dX9_mark_8 rfl (lv_at hl 1 rfl) ?_
  refine lv_ior hx hb dX9_mark_9 ?_
  obtain ⟨q, hf⟩ := zck_use hf
  obtain ⟨σ1, eσ1⟩ : ∃ z, z = zsi σ 23 ((15 : Int32).toNatClampNeg) ((zgi σ 23 (15 : Int32).toNatClampNeg) ||| x1) := ⟨_, rfl⟩
  replace hf := zbv_use eσ1 hf
  refine z_iast hC hI 23 10 (wC_e23 ad cy σ) (tC_t23 cy) q ((wC_s23 ad cy σ _ _).trans (congrArg (wC ad cy) eσ1.symm)) dX9_mark_10 (fun H locs hI => ?_)
  exact z_return hC hI hf dX9_mark_11
set_option maxRecDepth 20000 in
theorem cX9_mark_met (st : Nat → Nat) (l : Launch) (D : va_G) (ad : Nat → Nat) (cy : Nat → ClassId) (σ : zSt) (x1 : Int32) (res : zSt) (hf : fX9_mark σ x1 = some res) (sz : Nat) : zMu st l yX9_mark wzX9_mark rmX9_mark [.ref (ad 2), .int x1] D (tC cy) (wC ad cy) sz σ res :=
  zMu.of (cc := cX9_mark) (maxL := 2) (ret := none) (by decide) rfl (Nat.le_of_ble_eq_true rfl) (fun p e s m args below meth c hC A hI ls hl => bX9_mark hC hI hl hf)
theorem hdX9_mark : yX9_mark.cls = RX9 ∧ yX9_mark.cls ≠ "java/lang/invoke/MethodHandle" ∧ yX9_mark.cls ≠ "java/lang/invoke/VarHandle" ∧ (parseMethodDescriptor yX9_mark.desc).map (fun d => d.parameters.length) = some 1 := by decide +kernel
