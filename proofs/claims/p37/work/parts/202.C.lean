section ZJN0
noncomputable def kn_cX2_aboutCard : Nat := 0xac5900b62aac5200b6600a101100b42a2aac7e0f104a00b6600f101100b42a2aac7a074a00b6600f101100b42a2aac60687a074a00b6600e101100b42a2a10271160685600b60d102a64105600b60c102aac1100b42aac3a00b42aac4400b42a78000000690000005b00000038000000330000002e00000029000000060000000000000084000000aa1bac0305009c1100b42a0c00a1061b
theorem zk_cX2_aboutCard : zkd cX2_aboutCard.data.toList kn_cX2_aboutCard = true := by decide +kernel
theorem zn_cX2_aboutCard : cX2_aboutCard.data.toList.length = 152 := by decide +kernel
theorem dX2_aboutCard_0 : decode cX2_aboutCard 0 = .ok (.iload_n 1, 1) := zo_27 (zkb zk_cX2_aboutCard zn_cX2_aboutCard rfl)
theorem dX2_aboutCard_1 : decode cX2_aboutCard 1 = .ok (.iconst 3, 1) := zo_6 (zkb zk_cX2_aboutCard zn_cX2_aboutCard rfl)
theorem dX2_aboutCard_2 : decode cX2_aboutCard 2 = .ok (.if_icmp .lt 12, 3) := zo_161 (b1 := 0) (b2 := 12) (zkb3 zk_cX2_aboutCard zn_cX2_aboutCard rfl) rfl
theorem dX2_aboutCard_5 : decode cX2_aboutCard 5 = .ok (.aload_n 0, 1) := zo_42 (zkb zk_cX2_aboutCard zn_cX2_aboutCard rfl)
theorem dX2_aboutCard_6 : decode cX2_aboutCard 6 = .ok (.getfield 17, 3) := zo_180 (b1 := 0) (b2 := 17) (zkb3 zk_cX2_aboutCard zn_cX2_aboutCard rfl) rfl
theorem dX2_aboutCard_9 : decode cX2_aboutCard 9 = .ok (.ifCond .ge 5, 3) := zo_156 (b1 := 0) (b2 := 5) (zkb3 zk_cX2_aboutCard zn_cX2_aboutCard rfl) rfl
theorem dX2_aboutCard_12 : decode cX2_aboutCard 12 = .ok (.iconst 0, 1) := zo_3 (zkb zk_cX2_aboutCard zn_cX2_aboutCard rfl)
theorem dX2_aboutCard_13 : decode cX2_aboutCard 13 = .ok (.ireturn, 1) := zo_172 (zkb zk_cX2_aboutCard zn_cX2_aboutCard rfl)
theorem dX2_aboutCard_14 : decode cX2_aboutCard 14 = .ok (.iload_n 1, 1) := zo_27 (zkb zk_cX2_aboutCard zn_cX2_aboutCard rfl)
theorem dX2_aboutCard_15 : decode cX2_aboutCard 15 = .ok (.tableswitch 132 0 6 #[41, 46, 51, 56, 91, 105, 120], 41) := by decide +kernel
theorem dX2_aboutCard_56 : decode cX2_aboutCard 56 = .ok (.aload_n 0, 1) := zo_42 (zkb zk_cX2_aboutCard zn_cX2_aboutCard rfl)
theorem dX2_aboutCard_57 : decode cX2_aboutCard 57 = .ok (.getfield 68, 3) := zo_180 (b1 := 0) (b2 := 68) (zkb3 zk_cX2_aboutCard zn_cX2_aboutCard rfl) rfl
theorem dX2_aboutCard_60 : decode cX2_aboutCard 60 = .ok (.ireturn, 1) := zo_172 (zkb zk_cX2_aboutCard zn_cX2_aboutCard rfl)
theorem dX2_aboutCard_61 : decode cX2_aboutCard 61 = .ok (.aload_n 0, 1) := zo_42 (zkb zk_cX2_aboutCard zn_cX2_aboutCard rfl)
theorem dX2_aboutCard_62 : decode cX2_aboutCard 62 = .ok (.getfield 58, 3) := zo_180 (b1 := 0) (b2 := 58) (zkb3 zk_cX2_aboutCard zn_cX2_aboutCard rfl) rfl
theorem dX2_aboutCard_65 : decode cX2_aboutCard 65 = .ok (.ireturn, 1) := zo_172 (zkb zk_cX2_aboutCard zn_cX2_aboutCard rfl)
theorem dX2_aboutCard_66 : decode cX2_aboutCard 66 = .ok (.aload_n 0, 1) := zo_42 (zkb zk_cX2_aboutCard zn_cX2_aboutCard rfl)
theorem dX2_aboutCard_67 : decode cX2_aboutCard 67 = .ok (.getfield 17, 3) := zo_180 (b1 := 0) (b2 := 17) (zkb3 zk_cX2_aboutCard zn_cX2_aboutCard rfl) rfl
theorem dX2_aboutCard_70 : decode cX2_aboutCard 70 = .ok (.ireturn, 1) := zo_172 (zkb zk_cX2_aboutCard zn_cX2_aboutCard rfl)
theorem dX2_aboutCard_71 : decode cX2_aboutCard 71 = .ok (.aload_n 0, 1) := zo_42 (zkb zk_cX2_aboutCard zn_cX2_aboutCard rfl)
theorem dX2_aboutCard_72 : decode cX2_aboutCard 72 = .ok (.bipush 12, 2) := zo_16 (b1 := 12) (zkb2 zk_cX2_aboutCard zn_cX2_aboutCard rfl) rfl
theorem dX2_aboutCard_74 : decode cX2_aboutCard 74 = .ok (.invokevirtual 86, 3) := zo_182 (b1 := 0) (b2 := 86) (zkb3 zk_cX2_aboutCard zn_cX2_aboutCard rfl) rfl
theorem dX2_aboutCard_77 : decode cX2_aboutCard 77 = .ok (.bipush 100, 2) := zo_16 (b1 := 100) (zkb2 zk_cX2_aboutCard zn_cX2_aboutCard rfl) rfl
theorem dX2_aboutCard_79 : decode cX2_aboutCard 79 = .ok (.aload_n 0, 1) := zo_42 (zkb zk_cX2_aboutCard zn_cX2_aboutCard rfl)
theorem dX2_aboutCard_80 : decode cX2_aboutCard 80 = .ok (.bipush 13, 2) := zo_16 (b1 := 13) (zkb2 zk_cX2_aboutCard zn_cX2_aboutCard rfl) rfl
theorem dX2_aboutCard_82 : decode cX2_aboutCard 82 = .ok (.invokevirtual 86, 3) := zo_182 (b1 := 0) (b2 := 86) (zkb3 zk_cX2_aboutCard zn_cX2_aboutCard rfl) rfl
theorem dX2_aboutCard_85 : decode cX2_aboutCard 85 = .ok (.imul, 1) := zo_104 (zkb zk_cX2_aboutCard zn_cX2_aboutCard rfl)
theorem dX2_aboutCard_86 : decode cX2_aboutCard 86 = .ok (.iadd, 1) := zo_96 (zkb zk_cX2_aboutCard zn_cX2_aboutCard rfl)
theorem dX2_aboutCard_87 : decode cX2_aboutCard 87 = .ok (.sipush 10000, 3) := zo_17 (b1 := 39) (b2 := 16) (zkb3 zk_cX2_aboutCard zn_cX2_aboutCard rfl) rfl
theorem dX2_aboutCard_90 : decode cX2_aboutCard 90 = .ok (.aload_n 0, 1) := zo_42 (zkb zk_cX2_aboutCard zn_cX2_aboutCard rfl)
theorem dX2_aboutCard_91 : decode cX2_aboutCard 91 = .ok (.aload_n 0, 1) := zo_42 (zkb zk_cX2_aboutCard zn_cX2_aboutCard rfl)
theorem dX2_aboutCard_92 : decode cX2_aboutCard 92 = .ok (.getfield 17, 3) := zo_180 (b1 := 0) (b2 := 17) (zkb3 zk_cX2_aboutCard zn_cX2_aboutCard rfl) rfl
theorem dX2_aboutCard_95 : decode cX2_aboutCard 95 = .ok (.bipush 14, 2) := zo_16 (b1 := 14) (zkb2 zk_cX2_aboutCard zn_cX2_aboutCard rfl) rfl
theorem dX2_aboutCard_97 : decode cX2_aboutCard 97 = .ok (.iadd, 1) := zo_96 (zkb zk_cX2_aboutCard zn_cX2_aboutCard rfl)
theorem dX2_aboutCard_98 : decode cX2_aboutCard 98 = .ok (.invokevirtual 74, 3) := zo_182 (b1 := 0) (b2 := 74) (zkb3 zk_cX2_aboutCard zn_cX2_aboutCard rfl) rfl
theorem dX2_aboutCard_101 : decode cX2_aboutCard 101 = .ok (.iconst 4, 1) := zo_7 (zkb zk_cX2_aboutCard zn_cX2_aboutCard rfl)
theorem dX2_aboutCard_102 : decode cX2_aboutCard 102 = .ok (.ishr, 1) := zo_122 (zkb zk_cX2_aboutCard zn_cX2_aboutCard rfl)
theorem dX2_aboutCard_103 : decode cX2_aboutCard 103 = .ok (.imul, 1) := zo_104 (zkb zk_cX2_aboutCard zn_cX2_aboutCard rfl)
theorem dX2_aboutCard_104 : decode cX2_aboutCard 104 = .ok (.iadd, 1) := zo_96 (zkb zk_cX2_aboutCard zn_cX2_aboutCard rfl)
theorem dX2_aboutCard_105 : decode cX2_aboutCard 105 = .ok (.ireturn, 1) := zo_172 (zkb zk_cX2_aboutCard zn_cX2_aboutCard rfl)
theorem dX2_aboutCard_106 : decode cX2_aboutCard 106 = .ok (.aload_n 0, 1) := zo_42 (zkb zk_cX2_aboutCard zn_cX2_aboutCard rfl)
theorem dX2_aboutCard_107 : decode cX2_aboutCard 107 = .ok (.aload_n 0, 1) := zo_42 (zkb zk_cX2_aboutCard zn_cX2_aboutCard rfl)
theorem dX2_aboutCard_108 : decode cX2_aboutCard 108 = .ok (.getfield 17, 3) := zo_180 (b1 := 0) (b2 := 17) (zkb3 zk_cX2_aboutCard zn_cX2_aboutCard rfl) rfl
theorem dX2_aboutCard_111 : decode cX2_aboutCard 111 = .ok (.bipush 15, 2) := zo_16 (b1 := 15) (zkb2 zk_cX2_aboutCard zn_cX2_aboutCard rfl) rfl
theorem dX2_aboutCard_113 : decode cX2_aboutCard 113 = .ok (.iadd, 1) := zo_96 (zkb zk_cX2_aboutCard zn_cX2_aboutCard rfl)
theorem dX2_aboutCard_114 : decode cX2_aboutCard 114 = .ok (.invokevirtual 74, 3) := zo_182 (b1 := 0) (b2 := 74) (zkb3 zk_cX2_aboutCard zn_cX2_aboutCard rfl) rfl
theorem dX2_aboutCard_117 : decode cX2_aboutCard 117 = .ok (.iconst 4, 1) := zo_7 (zkb zk_cX2_aboutCard zn_cX2_aboutCard rfl)
theorem dX2_aboutCard_118 : decode cX2_aboutCard 118 = .ok (.ishr, 1) := zo_122 (zkb zk_cX2_aboutCard zn_cX2_aboutCard rfl)
theorem dX2_aboutCard_119 : decode cX2_aboutCard 119 = .ok (.ireturn, 1) := zo_172 (zkb zk_cX2_aboutCard zn_cX2_aboutCard rfl)
theorem dX2_aboutCard_120 : decode cX2_aboutCard 120 = .ok (.aload_n 0, 1) := zo_42 (zkb zk_cX2_aboutCard zn_cX2_aboutCard rfl)
theorem dX2_aboutCard_121 : decode cX2_aboutCard 121 = .ok (.aload_n 0, 1) := zo_42 (zkb zk_cX2_aboutCard zn_cX2_aboutCard rfl)
theorem dX2_aboutCard_122 : decode cX2_aboutCard 122 = .ok (.getfield 17, 3) := zo_180 (b1 := 0) (b2 := 17) (zkb3 zk_cX2_aboutCard zn_cX2_aboutCard rfl) rfl
theorem dX2_aboutCard_125 : decode cX2_aboutCard 125 = .ok (.bipush 15, 2) := zo_16 (b1 := 15) (zkb2 zk_cX2_aboutCard zn_cX2_aboutCard rfl) rfl
theorem dX2_aboutCard_127 : decode cX2_aboutCard 127 = .ok (.iadd, 1) := zo_96 (zkb zk_cX2_aboutCard zn_cX2_aboutCard rfl)
theorem dX2_aboutCard_128 : decode cX2_aboutCard 128 = .ok (.invokevirtual 74, 3) := zo_182 (b1 := 0) (b2 := 74) (zkb3 zk_cX2_aboutCard zn_cX2_aboutCard rfl) rfl
theorem dX2_aboutCard_131 : decode cX2_aboutCard 131 = .ok (.bipush 15, 2) := zo_16 (b1 := 15) (zkb2 zk_cX2_aboutCard zn_cX2_aboutCard rfl) rfl
theorem dX2_aboutCard_133 : decode cX2_aboutCard 133 = .ok (.iand, 1) := zo_126 (zkb zk_cX2_aboutCard zn_cX2_aboutCard rfl)
theorem dX2_aboutCard_134 : decode cX2_aboutCard 134 = .ok (.ireturn, 1) := zo_172 (zkb zk_cX2_aboutCard zn_cX2_aboutCard rfl)
theorem dX2_aboutCard_135 : decode cX2_aboutCard 135 = .ok (.aload_n 0, 1) := zo_42 (zkb zk_cX2_aboutCard zn_cX2_aboutCard rfl)
theorem dX2_aboutCard_136 : decode cX2_aboutCard 136 = .ok (.aload_n 0, 1) := zo_42 (zkb zk_cX2_aboutCard zn_cX2_aboutCard rfl)
theorem dX2_aboutCard_137 : decode cX2_aboutCard 137 = .ok (.getfield 17, 3) := zo_180 (b1 := 0) (b2 := 17) (zkb3 zk_cX2_aboutCard zn_cX2_aboutCard rfl) rfl
theorem dX2_aboutCard_140 : decode cX2_aboutCard 140 = .ok (.bipush 10, 2) := zo_16 (b1 := 10) (zkb2 zk_cX2_aboutCard zn_cX2_aboutCard rfl) rfl
theorem dX2_aboutCard_142 : decode cX2_aboutCard 142 = .ok (.iadd, 1) := zo_96 (zkb zk_cX2_aboutCard zn_cX2_aboutCard rfl)
theorem dX2_aboutCard_143 : decode cX2_aboutCard 143 = .ok (.invokevirtual 82, 3) := zo_182 (b1 := 0) (b2 := 82) (zkb3 zk_cX2_aboutCard zn_cX2_aboutCard rfl) rfl
theorem dX2_aboutCard_146 : decode cX2_aboutCard 146 = .ok (.ireturn, 1) := zo_172 (zkb zk_cX2_aboutCard zn_cX2_aboutCard rfl)
theorem dX2_aboutCard_147 : decode cX2_aboutCard 147 = .ok (.aload_n 0, 1) := zo_42 (zkb zk_cX2_aboutCard zn_cX2_aboutCard rfl)
theorem dX2_aboutCard_148 : decode cX2_aboutCard 148 = .ok (.invokevirtual 89, 3) := zo_182 (b1 := 0) (b2 := 89) (zkb3 zk_cX2_aboutCard zn_cX2_aboutCard rfl) rfl
theorem dX2_aboutCard_151 : decode cX2_aboutCard 151 = .ok (.ireturn, 1) := zo_172 (zkb zk_cX2_aboutCard zn_cX2_aboutCard rfl)
noncomputable def kn_cX2_decimal : Nat := 0xac607e0f101c687a071c0a103d4a00b6601b1100b42a2a
theorem zk_cX2_decimal : zkd cX2_decimal.data.toList kn_cX2_decimal = true := by decide +kernel
theorem zn_cX2_decimal : cX2_decimal.data.toList.length = 23 := by decide +kernel
theorem dX2_decimal_0 : decode cX2_decimal 0 = .ok (.aload_n 0, 1) := zo_42 (zkb zk_cX2_decimal zn_cX2_decimal rfl)
theorem dX2_decimal_1 : decode cX2_decimal 1 = .ok (.aload_n 0, 1) := zo_42 (zkb zk_cX2_decimal zn_cX2_decimal rfl)
theorem dX2_decimal_2 : decode cX2_decimal 2 = .ok (.getfield 17, 3) := zo_180 (b1 := 0) (b2 := 17) (zkb3 zk_cX2_decimal zn_cX2_decimal rfl) rfl
theorem dX2_decimal_5 : decode cX2_decimal 5 = .ok (.iload_n 1, 1) := zo_27 (zkb zk_cX2_decimal zn_cX2_decimal rfl)
theorem dX2_decimal_6 : decode cX2_decimal 6 = .ok (.iadd, 1) := zo_96 (zkb zk_cX2_decimal zn_cX2_decimal rfl)
theorem dX2_decimal_7 : decode cX2_decimal 7 = .ok (.invokevirtual 74, 3) := zo_182 (b1 := 0) (b2 := 74) (zkb3 zk_cX2_decimal zn_cX2_decimal rfl) rfl
theorem dX2_decimal_10 : decode cX2_decimal 10 = .ok (.istore_n 2, 1) := zo_61 (zkb zk_cX2_decimal zn_cX2_decimal rfl)
theorem dX2_decimal_11 : decode cX2_decimal 11 = .ok (.bipush 10, 2) := zo_16 (b1 := 10) (zkb2 zk_cX2_decimal zn_cX2_decimal rfl) rfl
theorem dX2_decimal_13 : decode cX2_decimal 13 = .ok (.iload_n 2, 1) := zo_28 (zkb zk_cX2_decimal zn_cX2_decimal rfl)
theorem dX2_decimal_14 : decode cX2_decimal 14 = .ok (.iconst 4, 1) := zo_7 (zkb zk_cX2_decimal zn_cX2_decimal rfl)
theorem dX2_decimal_15 : decode cX2_decimal 15 = .ok (.ishr, 1) := zo_122 (zkb zk_cX2_decimal zn_cX2_decimal rfl)
theorem dX2_decimal_16 : decode cX2_decimal 16 = .ok (.imul, 1) := zo_104 (zkb zk_cX2_decimal zn_cX2_decimal rfl)
theorem dX2_decimal_17 : decode cX2_decimal 17 = .ok (.iload_n 2, 1) := zo_28 (zkb zk_cX2_decimal zn_cX2_decimal rfl)
theorem dX2_decimal_18 : decode cX2_decimal 18 = .ok (.bipush 15, 2) := zo_16 (b1 := 15) (zkb2 zk_cX2_decimal zn_cX2_decimal rfl) rfl
theorem dX2_decimal_20 : decode cX2_decimal 20 = .ok (.iand, 1) := zo_126 (zkb zk_cX2_decimal zn_cX2_decimal rfl)
theorem dX2_decimal_21 : decode cX2_decimal 21 = .ok (.iadd, 1) := zo_96 (zkb zk_cX2_decimal zn_cX2_decimal rfl)
theorem dX2_decimal_22 : decode cX2_decimal 22 = .ok (.ireturn, 1) := zo_172 (zkb zk_cX2_decimal zn_cX2_decimal rfl)
noncomputable def kn_cX2_sumOfCard : Nat := 0xac7e5c121cedffa70103843d604a00b61d2a1c1100a23700b42a1d3e1b121c00a3051b0800a20e101bedffa70103843d604a00b61d2a1c1100a21100b42a1d3e033d033c7e0f104a00b6600f101100b42a2a
theorem zk_cX2_sumOfCard : zkd cX2_sumOfCard.data.toList kn_cX2_sumOfCard = true := by decide +kernel
theorem zn_cX2_sumOfCard : cX2_sumOfCard.data.toList.length = 82 := by decide +kernel
theorem dX2_sumOfCard_0 : decode cX2_sumOfCard 0 = .ok (.aload_n 0, 1) := zo_42 (zkb zk_cX2_sumOfCard zn_cX2_sumOfCard rfl)
theorem dX2_sumOfCard_1 : decode cX2_sumOfCard 1 = .ok (.aload_n 0, 1) := zo_42 (zkb zk_cX2_sumOfCard zn_cX2_sumOfCard rfl)
theorem dX2_sumOfCard_2 : decode cX2_sumOfCard 2 = .ok (.getfield 17, 3) := zo_180 (b1 := 0) (b2 := 17) (zkb3 zk_cX2_sumOfCard zn_cX2_sumOfCard rfl) rfl
theorem dX2_sumOfCard_5 : decode cX2_sumOfCard 5 = .ok (.bipush 15, 2) := zo_16 (b1 := 15) (zkb2 zk_cX2_sumOfCard zn_cX2_sumOfCard rfl) rfl
theorem dX2_sumOfCard_7 : decode cX2_sumOfCard 7 = .ok (.iadd, 1) := zo_96 (zkb zk_cX2_sumOfCard zn_cX2_sumOfCard rfl)
theorem dX2_sumOfCard_8 : decode cX2_sumOfCard 8 = .ok (.invokevirtual 74, 3) := zo_182 (b1 := 0) (b2 := 74) (zkb3 zk_cX2_sumOfCard zn_cX2_sumOfCard rfl) rfl
theorem dX2_sumOfCard_11 : decode cX2_sumOfCard 11 = .ok (.bipush 15, 2) := zo_16 (b1 := 15) (zkb2 zk_cX2_sumOfCard zn_cX2_sumOfCard rfl) rfl
theorem dX2_sumOfCard_13 : decode cX2_sumOfCard 13 = .ok (.iand, 1) := zo_126 (zkb zk_cX2_sumOfCard zn_cX2_sumOfCard rfl)
theorem dX2_sumOfCard_14 : decode cX2_sumOfCard 14 = .ok (.istore_n 1, 1) := zo_60 (zkb zk_cX2_sumOfCard zn_cX2_sumOfCard rfl)
theorem dX2_sumOfCard_15 : decode cX2_sumOfCard 15 = .ok (.iconst 0, 1) := zo_3 (zkb zk_cX2_sumOfCard zn_cX2_sumOfCard rfl)
theorem dX2_sumOfCard_16 : decode cX2_sumOfCard 16 = .ok (.istore_n 2, 1) := zo_61 (zkb zk_cX2_sumOfCard zn_cX2_sumOfCard rfl)
theorem dX2_sumOfCard_17 : decode cX2_sumOfCard 17 = .ok (.iconst 0, 1) := zo_3 (zkb zk_cX2_sumOfCard zn_cX2_sumOfCard rfl)
theorem dX2_sumOfCard_18 : decode cX2_sumOfCard 18 = .ok (.istore_n 3, 1) := zo_62 (zkb zk_cX2_sumOfCard zn_cX2_sumOfCard rfl)
theorem dX2_sumOfCard_19 : decode cX2_sumOfCard 19 = .ok (.iload_n 3, 1) := zo_29 (zkb zk_cX2_sumOfCard zn_cX2_sumOfCard rfl)
theorem dX2_sumOfCard_20 : decode cX2_sumOfCard 20 = .ok (.aload_n 0, 1) := zo_42 (zkb zk_cX2_sumOfCard zn_cX2_sumOfCard rfl)
theorem dX2_sumOfCard_21 : decode cX2_sumOfCard 21 = .ok (.getfield 17, 3) := zo_180 (b1 := 0) (b2 := 17) (zkb3 zk_cX2_sumOfCard zn_cX2_sumOfCard rfl) rfl
theorem dX2_sumOfCard_24 : decode cX2_sumOfCard 24 = .ok (.if_icmp .ge 17, 3) := zo_162 (b1 := 0) (b2 := 17) (zkb3 zk_cX2_sumOfCard zn_cX2_sumOfCard rfl) rfl
theorem dX2_sumOfCard_27 : decode cX2_sumOfCard 27 = .ok (.iload_n 2, 1) := zo_28 (zkb zk_cX2_sumOfCard zn_cX2_sumOfCard rfl)
theorem dX2_sumOfCard_28 : decode cX2_sumOfCard 28 = .ok (.aload_n 0, 1) := zo_42 (zkb zk_cX2_sumOfCard zn_cX2_sumOfCard rfl)
theorem dX2_sumOfCard_29 : decode cX2_sumOfCard 29 = .ok (.iload_n 3, 1) := zo_29 (zkb zk_cX2_sumOfCard zn_cX2_sumOfCard rfl)
theorem dX2_sumOfCard_30 : decode cX2_sumOfCard 30 = .ok (.invokevirtual 74, 3) := zo_182 (b1 := 0) (b2 := 74) (zkb3 zk_cX2_sumOfCard zn_cX2_sumOfCard rfl) rfl
theorem dX2_sumOfCard_33 : decode cX2_sumOfCard 33 = .ok (.iadd, 1) := zo_96 (zkb zk_cX2_sumOfCard zn_cX2_sumOfCard rfl)
theorem dX2_sumOfCard_34 : decode cX2_sumOfCard 34 = .ok (.istore_n 2, 1) := zo_61 (zkb zk_cX2_sumOfCard zn_cX2_sumOfCard rfl)
theorem dX2_sumOfCard_35 : decode cX2_sumOfCard 35 = .ok (.iinc 3 1, 3) := zo_132 (b1 := 3) (b2 := 1) (zkb3 zk_cX2_sumOfCard zn_cX2_sumOfCard rfl) rfl
theorem dX2_sumOfCard_38 : decode cX2_sumOfCard 38 = .ok (.goto (-19), 3) := zo_167 (b1 := 255) (b2 := 237) (zkb3 zk_cX2_sumOfCard zn_cX2_sumOfCard rfl) rfl
theorem dX2_sumOfCard_41 : decode cX2_sumOfCard 41 = .ok (.iload_n 1, 1) := zo_27 (zkb zk_cX2_sumOfCard zn_cX2_sumOfCard rfl)
theorem dX2_sumOfCard_42 : decode cX2_sumOfCard 42 = .ok (.bipush 14, 2) := zo_16 (b1 := 14) (zkb2 zk_cX2_sumOfCard zn_cX2_sumOfCard rfl) rfl
theorem dX2_sumOfCard_44 : decode cX2_sumOfCard 44 = .ok (.if_icmp .ge 8, 3) := zo_162 (b1 := 0) (b2 := 8) (zkb3 zk_cX2_sumOfCard zn_cX2_sumOfCard rfl) rfl
theorem dX2_sumOfCard_47 : decode cX2_sumOfCard 47 = .ok (.iload_n 1, 1) := zo_27 (zkb zk_cX2_sumOfCard zn_cX2_sumOfCard rfl)
theorem dX2_sumOfCard_48 : decode cX2_sumOfCard 48 = .ok (.iconst 2, 1) := zo_5 (zkb zk_cX2_sumOfCard zn_cX2_sumOfCard rfl)
theorem dX2_sumOfCard_49 : decode cX2_sumOfCard 49 = .ok (.if_icmp .gt 28, 3) := zo_163 (b1 := 0) (b2 := 28) (zkb3 zk_cX2_sumOfCard zn_cX2_sumOfCard rfl) rfl
theorem dX2_sumOfCard_52 : decode cX2_sumOfCard 52 = .ok (.ldc 27, 2) := zo_18 (b1 := 27) (zkb2 zk_cX2_sumOfCard zn_cX2_sumOfCard rfl)
theorem dX2_sumOfCard_54 : decode cX2_sumOfCard 54 = .ok (.istore_n 3, 1) := zo_62 (zkb zk_cX2_sumOfCard zn_cX2_sumOfCard rfl)
theorem dX2_sumOfCard_55 : decode cX2_sumOfCard 55 = .ok (.iload_n 3, 1) := zo_29 (zkb zk_cX2_sumOfCard zn_cX2_sumOfCard rfl)
theorem dX2_sumOfCard_56 : decode cX2_sumOfCard 56 = .ok (.aload_n 0, 1) := zo_42 (zkb zk_cX2_sumOfCard zn_cX2_sumOfCard rfl)
theorem dX2_sumOfCard_57 : decode cX2_sumOfCard 57 = .ok (.getfield 55, 3) := zo_180 (b1 := 0) (b2 := 55) (zkb3 zk_cX2_sumOfCard zn_cX2_sumOfCard rfl) rfl
theorem dX2_sumOfCard_60 : decode cX2_sumOfCard 60 = .ok (.if_icmp .ge 17, 3) := zo_162 (b1 := 0) (b2 := 17) (zkb3 zk_cX2_sumOfCard zn_cX2_sumOfCard rfl) rfl
theorem dX2_sumOfCard_63 : decode cX2_sumOfCard 63 = .ok (.iload_n 2, 1) := zo_28 (zkb zk_cX2_sumOfCard zn_cX2_sumOfCard rfl)
theorem dX2_sumOfCard_64 : decode cX2_sumOfCard 64 = .ok (.aload_n 0, 1) := zo_42 (zkb zk_cX2_sumOfCard zn_cX2_sumOfCard rfl)
theorem dX2_sumOfCard_65 : decode cX2_sumOfCard 65 = .ok (.iload_n 3, 1) := zo_29 (zkb zk_cX2_sumOfCard zn_cX2_sumOfCard rfl)
theorem dX2_sumOfCard_66 : decode cX2_sumOfCard 66 = .ok (.invokevirtual 74, 3) := zo_182 (b1 := 0) (b2 := 74) (zkb3 zk_cX2_sumOfCard zn_cX2_sumOfCard rfl) rfl
theorem dX2_sumOfCard_69 : decode cX2_sumOfCard 69 = .ok (.iadd, 1) := zo_96 (zkb zk_cX2_sumOfCard zn_cX2_sumOfCard rfl)
theorem dX2_sumOfCard_70 : decode cX2_sumOfCard 70 = .ok (.istore_n 2, 1) := zo_61 (zkb zk_cX2_sumOfCard zn_cX2_sumOfCard rfl)
theorem dX2_sumOfCard_71 : decode cX2_sumOfCard 71 = .ok (.iinc 3 1, 3) := zo_132 (b1 := 3) (b2 := 1) (zkb3 zk_cX2_sumOfCard zn_cX2_sumOfCard rfl) rfl
theorem dX2_sumOfCard_74 : decode cX2_sumOfCard 74 = .ok (.goto (-19), 3) := zo_167 (b1 := 255) (b2 := 237) (zkb3 zk_cX2_sumOfCard zn_cX2_sumOfCard rfl) rfl
theorem dX2_sumOfCard_77 : decode cX2_sumOfCard 77 = .ok (.iload_n 2, 1) := zo_28 (zkb zk_cX2_sumOfCard zn_cX2_sumOfCard rfl)
theorem dX2_sumOfCard_78 : decode cX2_sumOfCard 78 = .ok (.ldc 92, 2) := zo_18 (b1 := 92) (zkb2 zk_cX2_sumOfCard zn_cX2_sumOfCard rfl)
theorem dX2_sumOfCard_80 : decode cX2_sumOfCard 80 = .ok (.iand, 1) := zo_126 (zkb zk_cX2_sumOfCard zn_cX2_sumOfCard rfl)
theorem dX2_sumOfCard_81 : decode cX2_sumOfCard 81 = .ok (.ireturn, 1) := zo_172 (zkb zk_cX2_sumOfCard zn_cX2_sumOfCard rfl)
noncomputable def kn_cX2_cardSize : Nat := 0xac3700b42a
theorem zk_cX2_cardSize : zkd cX2_cardSize.data.toList kn_cX2_cardSize = true := by decide +kernel
theorem zn_cX2_cardSize : cX2_cardSize.data.toList.length = 5 := by decide +kernel
theorem dX2_cardSize_0 : decode cX2_cardSize 0 = .ok (.aload_n 0, 1) := zo_42 (zkb zk_cX2_cardSize zn_cX2_cardSize rfl)
theorem dX2_cardSize_1 : decode cX2_cardSize 1 = .ok (.getfield 55, 3) := zo_180 (b1 := 0) (b2 := 55) (zkb3 zk_cX2_cardSize zn_cX2_cardSize rfl) rfl
theorem dX2_cardSize_4 : decode cX2_cardSize 4 = .ok (.ireturn, 1) := zo_172 (zkb zk_cX2_cardSize zn_cX2_cardSize rfl)
noncomputable def kn_cX2_page : Nat := 0xac2e7e061b2200b42a
theorem zk_cX2_page : zkd cX2_page.data.toList kn_cX2_page = true := by decide +kernel
theorem zn_cX2_page : cX2_page.data.toList.length = 9 := by decide +kernel
theorem dX2_page_0 : decode cX2_page 0 = .ok (.aload_n 0, 1) := zo_42 (zkb zk_cX2_page zn_cX2_page rfl)
theorem dX2_page_1 : decode cX2_page 1 = .ok (.getfield 34, 3) := zo_180 (b1 := 0) (b2 := 34) (zkb3 zk_cX2_page zn_cX2_page rfl) rfl
theorem dX2_page_4 : decode cX2_page 4 = .ok (.iload_n 1, 1) := zo_27 (zkb zk_cX2_page zn_cX2_page rfl)
theorem dX2_page_5 : decode cX2_page 5 = .ok (.iconst 3, 1) := zo_6 (zkb zk_cX2_page zn_cX2_page rfl)
theorem dX2_page_6 : decode cX2_page 6 = .ok (.iand, 1) := zo_126 (zkb zk_cX2_page zn_cX2_page rfl)
theorem dX2_page_7 : decode cX2_page 7 = .ok (.iaload, 1) := zo_46 (zkb zk_cX2_page zn_cX2_page rfl)
theorem dX2_page_8 : decode cX2_page 8 = .ok (.ireturn, 1) := zo_172 (zkb zk_cX2_page zn_cX2_page rfl)
noncomputable def kn_cX2_read : Nat := 0xacff00110600a72e601d3400b42a0e00b42a1100a23700b42a1d3e607eff3f111c68004011703a00b42a06150636030600a20004111c0d00a0044400b42a06362e04152200b42a0a00a7041508009905150536030400a7040700a20504150d00a0064400b42a04367a0e101cac2e6100b61c2a1c00b42a0e00995d00b62a1500a11b121c6d009e3a00b42a7400994400b42a3e1cac2e7eff1f111c1500b42a0e00a151121c3d7e5c121b
theorem zk_cX2_read : zkd cX2_read.data.toList kn_cX2_read = true := by decide +kernel
theorem zn_cX2_read : cX2_read.data.toList.length = 170 := by decide +kernel
theorem dX2_read_0 : decode cX2_read 0 = .ok (.iload_n 1, 1) := zo_27 (zkb zk_cX2_read zn_cX2_read rfl)
theorem dX2_read_1 : decode cX2_read 1 = .ok (.ldc 92, 2) := zo_18 (b1 := 92) (zkb2 zk_cX2_read zn_cX2_read rfl)
theorem dX2_read_3 : decode cX2_read 3 = .ok (.iand, 1) := zo_126 (zkb zk_cX2_read zn_cX2_read rfl)
theorem dX2_read_4 : decode cX2_read 4 = .ok (.istore_n 2, 1) := zo_61 (zkb zk_cX2_read zn_cX2_read rfl)
theorem dX2_read_5 : decode cX2_read 5 = .ok (.iload_n 2, 1) := zo_28 (zkb zk_cX2_read zn_cX2_read rfl)
theorem dX2_read_6 : decode cX2_read 6 = .ok (.ldc 81, 2) := zo_18 (b1 := 81) (zkb2 zk_cX2_read zn_cX2_read rfl)
theorem dX2_read_8 : decode cX2_read 8 = .ok (.if_icmp .lt 14, 3) := zo_161 (b1 := 0) (b2 := 14) (zkb3 zk_cX2_read zn_cX2_read rfl) rfl
theorem dX2_read_11 : decode cX2_read 11 = .ok (.aload_n 0, 1) := zo_42 (zkb zk_cX2_read zn_cX2_read rfl)
theorem dX2_read_12 : decode cX2_read 12 = .ok (.getfield 21, 3) := zo_180 (b1 := 0) (b2 := 21) (zkb3 zk_cX2_read zn_cX2_read rfl) rfl
theorem dX2_read_15 : decode cX2_read 15 = .ok (.iload_n 2, 1) := zo_28 (zkb zk_cX2_read zn_cX2_read rfl)
theorem dX2_read_16 : decode cX2_read 16 = .ok (.sipush 8191, 3) := zo_17 (b1 := 31) (b2 := 255) (zkb3 zk_cX2_read zn_cX2_read rfl) rfl
theorem dX2_read_19 : decode cX2_read 19 = .ok (.iand, 1) := zo_126 (zkb zk_cX2_read zn_cX2_read rfl)
theorem dX2_read_20 : decode cX2_read 20 = .ok (.iaload, 1) := zo_46 (zkb zk_cX2_read zn_cX2_read rfl)
theorem dX2_read_21 : decode cX2_read 21 = .ok (.ireturn, 1) := zo_172 (zkb zk_cX2_read zn_cX2_read rfl)
theorem dX2_read_22 : decode cX2_read 22 = .ok (.iload_n 2, 1) := zo_28 (zkb zk_cX2_read zn_cX2_read rfl)
theorem dX2_read_23 : decode cX2_read 23 = .ok (.istore_n 3, 1) := zo_62 (zkb zk_cX2_read zn_cX2_read rfl)
theorem dX2_read_24 : decode cX2_read 24 = .ok (.aload_n 0, 1) := zo_42 (zkb zk_cX2_read zn_cX2_read rfl)
theorem dX2_read_25 : decode cX2_read 25 = .ok (.getfield 68, 3) := zo_180 (b1 := 0) (b2 := 68) (zkb3 zk_cX2_read zn_cX2_read rfl) rfl
theorem dX2_read_28 : decode cX2_read 28 = .ok (.ifCond .eq 116, 3) := zo_153 (b1 := 0) (b2 := 116) (zkb3 zk_cX2_read zn_cX2_read rfl) rfl
theorem dX2_read_31 : decode cX2_read 31 = .ok (.aload_n 0, 1) := zo_42 (zkb zk_cX2_read zn_cX2_read rfl)
theorem dX2_read_32 : decode cX2_read 32 = .ok (.getfield 58, 3) := zo_180 (b1 := 0) (b2 := 58) (zkb3 zk_cX2_read zn_cX2_read rfl) rfl
theorem dX2_read_35 : decode cX2_read 35 = .ok (.ifCond .le 109, 3) := zo_158 (b1 := 0) (b2 := 109) (zkb3 zk_cX2_read zn_cX2_read rfl) rfl
theorem dX2_read_38 : decode cX2_read 38 = .ok (.iload_n 2, 1) := zo_28 (zkb zk_cX2_read zn_cX2_read rfl)
theorem dX2_read_39 : decode cX2_read 39 = .ok (.ldc 27, 2) := zo_18 (b1 := 27) (zkb2 zk_cX2_read zn_cX2_read rfl)
theorem dX2_read_41 : decode cX2_read 41 = .ok (.if_icmp .lt 21, 3) := zo_161 (b1 := 0) (b2 := 21) (zkb3 zk_cX2_read zn_cX2_read rfl) rfl
theorem dX2_read_44 : decode cX2_read 44 = .ok (.aload_n 0, 1) := zo_42 (zkb zk_cX2_read zn_cX2_read rfl)
theorem dX2_read_45 : decode cX2_read 45 = .ok (.invokevirtual 93, 3) := zo_182 (b1 := 0) (b2 := 93) (zkb3 zk_cX2_read zn_cX2_read rfl) rfl
theorem dX2_read_48 : decode cX2_read 48 = .ok (.ifCond .eq 14, 3) := zo_153 (b1 := 0) (b2 := 14) (zkb3 zk_cX2_read zn_cX2_read rfl) rfl
theorem dX2_read_51 : decode cX2_read 51 = .ok (.aload_n 0, 1) := zo_42 (zkb zk_cX2_read zn_cX2_read rfl)
theorem dX2_read_52 : decode cX2_read 52 = .ok (.getfield 28, 3) := zo_180 (b1 := 0) (b2 := 28) (zkb3 zk_cX2_read zn_cX2_read rfl) rfl
theorem dX2_read_55 : decode cX2_read 55 = .ok (.aload_n 0, 1) := zo_42 (zkb zk_cX2_read zn_cX2_read rfl)
theorem dX2_read_56 : decode cX2_read 56 = .ok (.iload_n 2, 1) := zo_28 (zkb zk_cX2_read zn_cX2_read rfl)
theorem dX2_read_57 : decode cX2_read 57 = .ok (.invokevirtual 97, 3) := zo_182 (b1 := 0) (b2 := 97) (zkb3 zk_cX2_read zn_cX2_read rfl) rfl
theorem dX2_read_60 : decode cX2_read 60 = .ok (.iaload, 1) := zo_46 (zkb zk_cX2_read zn_cX2_read rfl)
theorem dX2_read_61 : decode cX2_read 61 = .ok (.ireturn, 1) := zo_172 (zkb zk_cX2_read zn_cX2_read rfl)
theorem dX2_read_62 : decode cX2_read 62 = .ok (.iload_n 2, 1) := zo_28 (zkb zk_cX2_read zn_cX2_read rfl)
theorem dX2_read_63 : decode cX2_read 63 = .ok (.bipush 14, 2) := zo_16 (b1 := 14) (zkb2 zk_cX2_read zn_cX2_read rfl) rfl
theorem dX2_read_65 : decode cX2_read 65 = .ok (.ishr, 1) := zo_122 (zkb zk_cX2_read zn_cX2_read rfl)
theorem dX2_read_66 : decode cX2_read 66 = .ok (.istore 4, 2) := zo_54 (b1 := 4) (zkb2 zk_cX2_read zn_cX2_read rfl)
theorem dX2_read_68 : decode cX2_read 68 = .ok (.aload_n 0, 1) := zo_42 (zkb zk_cX2_read zn_cX2_read rfl)
theorem dX2_read_69 : decode cX2_read 69 = .ok (.getfield 68, 3) := zo_180 (b1 := 0) (b2 := 68) (zkb3 zk_cX2_read zn_cX2_read rfl) rfl
theorem dX2_read_72 : decode cX2_read 72 = .ok (.iconst 3, 1) := zo_6 (zkb zk_cX2_read zn_cX2_read rfl)
theorem dX2_read_73 : decode cX2_read 73 = .ok (.if_icmp .ne 13, 3) := zo_160 (b1 := 0) (b2 := 13) (zkb3 zk_cX2_read zn_cX2_read rfl) rfl
theorem dX2_read_76 : decode cX2_read 76 = .ok (.iload 4, 2) := zo_21 (b1 := 4) (zkb2 zk_cX2_read zn_cX2_read rfl)
theorem dX2_read_78 : decode cX2_read 78 = .ok (.iconst 2, 1) := zo_5 (zkb zk_cX2_read zn_cX2_read rfl)
theorem dX2_read_79 : decode cX2_read 79 = .ok (.if_icmp .ge 7, 3) := zo_162 (b1 := 0) (b2 := 7) (zkb3 zk_cX2_read zn_cX2_read rfl) rfl
theorem dX2_read_82 : decode cX2_read 82 = .ok (.iconst 1, 1) := zo_4 (zkb zk_cX2_read zn_cX2_read rfl)
theorem dX2_read_83 : decode cX2_read 83 = .ok (.goto 4, 3) := zo_167 (b1 := 0) (b2 := 4) (zkb3 zk_cX2_read zn_cX2_read rfl) rfl
theorem dX2_read_86 : decode cX2_read 86 = .ok (.iconst 0, 1) := zo_3 (zkb zk_cX2_read zn_cX2_read rfl)
theorem dX2_read_87 : decode cX2_read 87 = .ok (.istore 5, 2) := zo_54 (b1 := 5) (zkb2 zk_cX2_read zn_cX2_read rfl)
theorem dX2_read_89 : decode cX2_read 89 = .ok (.iload 5, 2) := zo_21 (b1 := 5) (zkb2 zk_cX2_read zn_cX2_read rfl)
theorem dX2_read_91 : decode cX2_read 91 = .ok (.ifCond .eq 8, 3) := zo_153 (b1 := 0) (b2 := 8) (zkb3 zk_cX2_read zn_cX2_read rfl) rfl
theorem dX2_read_94 : decode cX2_read 94 = .ok (.iload 4, 2) := zo_21 (b1 := 4) (zkb2 zk_cX2_read zn_cX2_read rfl)
theorem dX2_read_96 : decode cX2_read 96 = .ok (.goto 10, 3) := zo_167 (b1 := 0) (b2 := 10) (zkb3 zk_cX2_read zn_cX2_read rfl) rfl
theorem dX2_read_99 : decode cX2_read 99 = .ok (.aload_n 0, 1) := zo_42 (zkb zk_cX2_read zn_cX2_read rfl)
theorem dX2_read_100 : decode cX2_read 100 = .ok (.getfield 34, 3) := zo_180 (b1 := 0) (b2 := 34) (zkb3 zk_cX2_read zn_cX2_read rfl) rfl
theorem dX2_read_103 : decode cX2_read 103 = .ok (.iload 4, 2) := zo_21 (b1 := 4) (zkb2 zk_cX2_read zn_cX2_read rfl)
theorem dX2_read_105 : decode cX2_read 105 = .ok (.iaload, 1) := zo_46 (zkb zk_cX2_read zn_cX2_read rfl)
theorem dX2_read_106 : decode cX2_read 106 = .ok (.istore 6, 2) := zo_54 (b1 := 6) (zkb2 zk_cX2_read zn_cX2_read rfl)
theorem dX2_read_108 : decode cX2_read 108 = .ok (.aload_n 0, 1) := zo_42 (zkb zk_cX2_read zn_cX2_read rfl)
theorem dX2_read_109 : decode cX2_read 109 = .ok (.getfield 68, 3) := zo_180 (b1 := 0) (b2 := 68) (zkb3 zk_cX2_read zn_cX2_read rfl) rfl
theorem dX2_read_112 : decode cX2_read 112 = .ok (.iconst 1, 1) := zo_4 (zkb zk_cX2_read zn_cX2_read rfl)
theorem dX2_read_113 : decode cX2_read 113 = .ok (.if_icmp .ne 13, 3) := zo_160 (b1 := 0) (b2 := 13) (zkb3 zk_cX2_read zn_cX2_read rfl) rfl
theorem dX2_read_116 : decode cX2_read 116 = .ok (.iload_n 2, 1) := zo_28 (zkb zk_cX2_read zn_cX2_read rfl)
theorem dX2_read_117 : decode cX2_read 117 = .ok (.sipush 1024, 3) := zo_17 (b1 := 4) (b2 := 0) (zkb3 zk_cX2_read zn_cX2_read rfl) rfl
theorem dX2_read_120 : decode cX2_read 120 = .ok (.if_icmp .ge 6, 3) := zo_162 (b1 := 0) (b2 := 6) (zkb3 zk_cX2_read zn_cX2_read rfl) rfl
theorem dX2_read_123 : decode cX2_read 123 = .ok (.iconst 0, 1) := zo_3 (zkb zk_cX2_read zn_cX2_read rfl)
theorem dX2_read_124 : decode cX2_read 124 = .ok (.istore 6, 2) := zo_54 (b1 := 6) (zkb2 zk_cX2_read zn_cX2_read rfl)
theorem dX2_read_126 : decode cX2_read 126 = .ok (.iload 6, 2) := zo_21 (b1 := 6) (zkb2 zk_cX2_read zn_cX2_read rfl)
theorem dX2_read_128 : decode cX2_read 128 = .ok (.aload_n 0, 1) := zo_42 (zkb zk_cX2_read zn_cX2_read rfl)
theorem dX2_read_129 : decode cX2_read 129 = .ok (.getfield 58, 3) := zo_180 (b1 := 0) (b2 := 58) (zkb3 zk_cX2_read zn_cX2_read rfl) rfl
theorem dX2_read_132 : decode cX2_read 132 = .ok (.irem, 1) := zo_112 (zkb zk_cX2_read zn_cX2_read rfl)
theorem dX2_read_133 : decode cX2_read 133 = .ok (.sipush 16384, 3) := zo_17 (b1 := 64) (b2 := 0) (zkb3 zk_cX2_read zn_cX2_read rfl) rfl
theorem dX2_read_136 : decode cX2_read 136 = .ok (.imul, 1) := zo_104 (zkb zk_cX2_read zn_cX2_read rfl)
theorem dX2_read_137 : decode cX2_read 137 = .ok (.iload_n 2, 1) := zo_28 (zkb zk_cX2_read zn_cX2_read rfl)
theorem dX2_read_138 : decode cX2_read 138 = .ok (.sipush 16383, 3) := zo_17 (b1 := 63) (b2 := 255) (zkb3 zk_cX2_read zn_cX2_read rfl) rfl
theorem dX2_read_141 : decode cX2_read 141 = .ok (.iand, 1) := zo_126 (zkb zk_cX2_read zn_cX2_read rfl)
theorem dX2_read_142 : decode cX2_read 142 = .ok (.iadd, 1) := zo_96 (zkb zk_cX2_read zn_cX2_read rfl)
theorem dX2_read_143 : decode cX2_read 143 = .ok (.istore_n 3, 1) := zo_62 (zkb zk_cX2_read zn_cX2_read rfl)
theorem dX2_read_144 : decode cX2_read 144 = .ok (.iload_n 3, 1) := zo_29 (zkb zk_cX2_read zn_cX2_read rfl)
theorem dX2_read_145 : decode cX2_read 145 = .ok (.aload_n 0, 1) := zo_42 (zkb zk_cX2_read zn_cX2_read rfl)
theorem dX2_read_146 : decode cX2_read 146 = .ok (.getfield 55, 3) := zo_180 (b1 := 0) (b2 := 55) (zkb3 zk_cX2_read zn_cX2_read rfl) rfl
theorem dX2_read_149 : decode cX2_read 149 = .ok (.if_icmp .ge 17, 3) := zo_162 (b1 := 0) (b2 := 17) (zkb3 zk_cX2_read zn_cX2_read rfl) rfl
theorem dX2_read_152 : decode cX2_read 152 = .ok (.aload_n 0, 1) := zo_42 (zkb zk_cX2_read zn_cX2_read rfl)
theorem dX2_read_153 : decode cX2_read 153 = .ok (.getfield 14, 3) := zo_180 (b1 := 0) (b2 := 14) (zkb3 zk_cX2_read zn_cX2_read rfl) rfl
theorem dX2_read_156 : decode cX2_read 156 = .ok (.aload_n 0, 1) := zo_42 (zkb zk_cX2_read zn_cX2_read rfl)
theorem dX2_read_157 : decode cX2_read 157 = .ok (.getfield 52, 3) := zo_180 (b1 := 0) (b2 := 52) (zkb3 zk_cX2_read zn_cX2_read rfl) rfl
theorem dX2_read_160 : decode cX2_read 160 = .ok (.iload_n 3, 1) := zo_29 (zkb zk_cX2_read zn_cX2_read rfl)
theorem dX2_read_161 : decode cX2_read 161 = .ok (.iadd, 1) := zo_96 (zkb zk_cX2_read zn_cX2_read rfl)
theorem dX2_read_162 : decode cX2_read 162 = .ok (.iaload, 1) := zo_46 (zkb zk_cX2_read zn_cX2_read rfl)
theorem dX2_read_163 : decode cX2_read 163 = .ok (.goto 6, 3) := zo_167 (b1 := 0) (b2 := 6) (zkb3 zk_cX2_read zn_cX2_read rfl) rfl
theorem dX2_read_166 : decode cX2_read 166 = .ok (.sipush 255, 3) := zo_17 (b1 := 0) (b2 := 255) (zkb3 zk_cX2_read zn_cX2_read rfl) rfl
theorem dX2_read_169 : decode cX2_read 169 = .ok (.ireturn, 1) := zo_172 (zkb zk_cX2_read zn_cX2_read rfl)
noncomputable def kn_cX2_write : Nat := 0xb14f1c052200b42a0a00a066121d1000a0064400b42a1800a74f1c7a0e101d2200b42a1000a01b121d09009f0040111d1000991d2100a0054400b42a3e00a74f1c6100b61d2a1c00b42a4c00995d00b62a5300a251121d5900a11b121d5f00a74f1c6465121d0700a7060700a064121d2200b42a1a00a164121d4100a0044400b42a4f1c7eff1f111d1500b42a0e00a151121d3e7e5c121b
theorem zk_cX2_write : zkd cX2_write.data.toList kn_cX2_write = true := by decide +kernel
theorem zn_cX2_write : cX2_write.data.toList.length = 152 := by decide +kernel
theorem dX2_write_0 : decode cX2_write 0 = .ok (.iload_n 1, 1) := zo_27 (zkb zk_cX2_write zn_cX2_write rfl)
theorem dX2_write_1 : decode cX2_write 1 = .ok (.ldc 92, 2) := zo_18 (b1 := 92) (zkb2 zk_cX2_write zn_cX2_write rfl)
theorem dX2_write_3 : decode cX2_write 3 = .ok (.iand, 1) := zo_126 (zkb zk_cX2_write zn_cX2_write rfl)
theorem dX2_write_4 : decode cX2_write 4 = .ok (.istore_n 3, 1) := zo_62 (zkb zk_cX2_write zn_cX2_write rfl)
theorem dX2_write_5 : decode cX2_write 5 = .ok (.iload_n 3, 1) := zo_29 (zkb zk_cX2_write zn_cX2_write rfl)
theorem dX2_write_6 : decode cX2_write 6 = .ok (.ldc 81, 2) := zo_18 (b1 := 81) (zkb2 zk_cX2_write zn_cX2_write rfl)
theorem dX2_write_8 : decode cX2_write 8 = .ok (.if_icmp .lt 14, 3) := zo_161 (b1 := 0) (b2 := 14) (zkb3 zk_cX2_write zn_cX2_write rfl) rfl
theorem dX2_write_11 : decode cX2_write 11 = .ok (.aload_n 0, 1) := zo_42 (zkb zk_cX2_write zn_cX2_write rfl)
theorem dX2_write_12 : decode cX2_write 12 = .ok (.getfield 21, 3) := zo_180 (b1 := 0) (b2 := 21) (zkb3 zk_cX2_write zn_cX2_write rfl) rfl
theorem dX2_write_15 : decode cX2_write 15 = .ok (.iload_n 3, 1) := zo_29 (zkb zk_cX2_write zn_cX2_write rfl)
theorem dX2_write_16 : decode cX2_write 16 = .ok (.sipush 8191, 3) := zo_17 (b1 := 31) (b2 := 255) (zkb3 zk_cX2_write zn_cX2_write rfl) rfl
theorem dX2_write_19 : decode cX2_write 19 = .ok (.iand, 1) := zo_126 (zkb zk_cX2_write zn_cX2_write rfl)
theorem dX2_write_20 : decode cX2_write 20 = .ok (.iload_n 2, 1) := zo_28 (zkb zk_cX2_write zn_cX2_write rfl)
theorem dX2_write_21 : decode cX2_write 21 = .ok (.iastore, 1) := zo_79 (zkb zk_cX2_write zn_cX2_write rfl)
theorem dX2_write_22 : decode cX2_write 22 = .ok (.aload_n 0, 1) := zo_42 (zkb zk_cX2_write zn_cX2_write rfl)
theorem dX2_write_23 : decode cX2_write 23 = .ok (.getfield 68, 3) := zo_180 (b1 := 0) (b2 := 68) (zkb3 zk_cX2_write zn_cX2_write rfl) rfl
theorem dX2_write_26 : decode cX2_write 26 = .ok (.iconst 1, 1) := zo_4 (zkb zk_cX2_write zn_cX2_write rfl)
theorem dX2_write_27 : decode cX2_write 27 = .ok (.if_icmp .ne 65, 3) := zo_160 (b1 := 0) (b2 := 65) (zkb3 zk_cX2_write zn_cX2_write rfl) rfl
theorem dX2_write_30 : decode cX2_write 30 = .ok (.iload_n 3, 1) := zo_29 (zkb zk_cX2_write zn_cX2_write rfl)
theorem dX2_write_31 : decode cX2_write 31 = .ok (.ldc 100, 2) := zo_18 (b1 := 100) (zkb2 zk_cX2_write zn_cX2_write rfl)
theorem dX2_write_33 : decode cX2_write 33 = .ok (.if_icmp .lt 26, 3) := zo_161 (b1 := 0) (b2 := 26) (zkb3 zk_cX2_write zn_cX2_write rfl) rfl
theorem dX2_write_36 : decode cX2_write 36 = .ok (.aload_n 0, 1) := zo_42 (zkb zk_cX2_write zn_cX2_write rfl)
theorem dX2_write_37 : decode cX2_write 37 = .ok (.getfield 34, 3) := zo_180 (b1 := 0) (b2 := 34) (zkb3 zk_cX2_write zn_cX2_write rfl) rfl
theorem dX2_write_40 : decode cX2_write 40 = .ok (.iload_n 3, 1) := zo_29 (zkb zk_cX2_write zn_cX2_write rfl)
theorem dX2_write_41 : decode cX2_write 41 = .ok (.ldc 100, 2) := zo_18 (b1 := 100) (zkb2 zk_cX2_write zn_cX2_write rfl)
theorem dX2_write_43 : decode cX2_write 43 = .ok (.if_icmp .ne 7, 3) := zo_160 (b1 := 0) (b2 := 7) (zkb3 zk_cX2_write zn_cX2_write rfl) rfl
theorem dX2_write_46 : decode cX2_write 46 = .ok (.iconst 3, 1) := zo_6 (zkb zk_cX2_write zn_cX2_write rfl)
theorem dX2_write_47 : decode cX2_write 47 = .ok (.goto 7, 3) := zo_167 (b1 := 0) (b2 := 7) (zkb3 zk_cX2_write zn_cX2_write rfl) rfl
theorem dX2_write_50 : decode cX2_write 50 = .ok (.iload_n 3, 1) := zo_29 (zkb zk_cX2_write zn_cX2_write rfl)
theorem dX2_write_51 : decode cX2_write 51 = .ok (.ldc 101, 2) := zo_18 (b1 := 101) (zkb2 zk_cX2_write zn_cX2_write rfl)
theorem dX2_write_53 : decode cX2_write 53 = .ok (.isub, 1) := zo_100 (zkb zk_cX2_write zn_cX2_write rfl)
theorem dX2_write_54 : decode cX2_write 54 = .ok (.iload_n 2, 1) := zo_28 (zkb zk_cX2_write zn_cX2_write rfl)
theorem dX2_write_55 : decode cX2_write 55 = .ok (.iastore, 1) := zo_79 (zkb zk_cX2_write zn_cX2_write rfl)
theorem dX2_write_56 : decode cX2_write 56 = .ok (.goto 95, 3) := zo_167 (b1 := 0) (b2 := 95) (zkb3 zk_cX2_write zn_cX2_write rfl) rfl
theorem dX2_write_59 : decode cX2_write 59 = .ok (.iload_n 3, 1) := zo_29 (zkb zk_cX2_write zn_cX2_write rfl)
theorem dX2_write_60 : decode cX2_write 60 = .ok (.ldc 27, 2) := zo_18 (b1 := 27) (zkb2 zk_cX2_write zn_cX2_write rfl)
theorem dX2_write_62 : decode cX2_write 62 = .ok (.if_icmp .lt 89, 3) := zo_161 (b1 := 0) (b2 := 89) (zkb3 zk_cX2_write zn_cX2_write rfl) rfl
theorem dX2_write_65 : decode cX2_write 65 = .ok (.iload_n 3, 1) := zo_29 (zkb zk_cX2_write zn_cX2_write rfl)
theorem dX2_write_66 : decode cX2_write 66 = .ok (.ldc 81, 2) := zo_18 (b1 := 81) (zkb2 zk_cX2_write zn_cX2_write rfl)
theorem dX2_write_68 : decode cX2_write 68 = .ok (.if_icmp .ge 83, 3) := zo_162 (b1 := 0) (b2 := 83) (zkb3 zk_cX2_write zn_cX2_write rfl) rfl
theorem dX2_write_71 : decode cX2_write 71 = .ok (.aload_n 0, 1) := zo_42 (zkb zk_cX2_write zn_cX2_write rfl)
theorem dX2_write_72 : decode cX2_write 72 = .ok (.invokevirtual 93, 3) := zo_182 (b1 := 0) (b2 := 93) (zkb3 zk_cX2_write zn_cX2_write rfl) rfl
theorem dX2_write_75 : decode cX2_write 75 = .ok (.ifCond .eq 76, 3) := zo_153 (b1 := 0) (b2 := 76) (zkb3 zk_cX2_write zn_cX2_write rfl) rfl
theorem dX2_write_78 : decode cX2_write 78 = .ok (.aload_n 0, 1) := zo_42 (zkb zk_cX2_write zn_cX2_write rfl)
theorem dX2_write_79 : decode cX2_write 79 = .ok (.getfield 28, 3) := zo_180 (b1 := 0) (b2 := 28) (zkb3 zk_cX2_write zn_cX2_write rfl) rfl
theorem dX2_write_82 : decode cX2_write 82 = .ok (.aload_n 0, 1) := zo_42 (zkb zk_cX2_write zn_cX2_write rfl)
theorem dX2_write_83 : decode cX2_write 83 = .ok (.iload_n 3, 1) := zo_29 (zkb zk_cX2_write zn_cX2_write rfl)
theorem dX2_write_84 : decode cX2_write 84 = .ok (.invokevirtual 97, 3) := zo_182 (b1 := 0) (b2 := 97) (zkb3 zk_cX2_write zn_cX2_write rfl) rfl
theorem dX2_write_87 : decode cX2_write 87 = .ok (.iload_n 2, 1) := zo_28 (zkb zk_cX2_write zn_cX2_write rfl)
theorem dX2_write_88 : decode cX2_write 88 = .ok (.iastore, 1) := zo_79 (zkb zk_cX2_write zn_cX2_write rfl)
theorem dX2_write_89 : decode cX2_write 89 = .ok (.goto 62, 3) := zo_167 (b1 := 0) (b2 := 62) (zkb3 zk_cX2_write zn_cX2_write rfl) rfl
theorem dX2_write_92 : decode cX2_write 92 = .ok (.aload_n 0, 1) := zo_42 (zkb zk_cX2_write zn_cX2_write rfl)
theorem dX2_write_93 : decode cX2_write 93 = .ok (.getfield 68, 3) := zo_180 (b1 := 0) (b2 := 68) (zkb3 zk_cX2_write zn_cX2_write rfl) rfl
theorem dX2_write_96 : decode cX2_write 96 = .ok (.iconst 2, 1) := zo_5 (zkb zk_cX2_write zn_cX2_write rfl)
theorem dX2_write_97 : decode cX2_write 97 = .ok (.if_icmp .ne 33, 3) := zo_160 (b1 := 0) (b2 := 33) (zkb3 zk_cX2_write zn_cX2_write rfl) rfl
theorem dX2_write_100 : decode cX2_write 100 = .ok (.iload_n 3, 1) := zo_29 (zkb zk_cX2_write zn_cX2_write rfl)
theorem dX2_write_101 : decode cX2_write 101 = .ok (.ifCond .eq 16, 3) := zo_153 (b1 := 0) (b2 := 16) (zkb3 zk_cX2_write zn_cX2_write rfl) rfl
theorem dX2_write_104 : decode cX2_write 104 = .ok (.iload_n 3, 1) := zo_29 (zkb zk_cX2_write zn_cX2_write rfl)
theorem dX2_write_105 : decode cX2_write 105 = .ok (.sipush 16384, 3) := zo_17 (b1 := 64) (b2 := 0) (zkb3 zk_cX2_write zn_cX2_write rfl) rfl
theorem dX2_write_108 : decode cX2_write 108 = .ok (.if_icmp .eq 9, 3) := zo_159 (b1 := 0) (b2 := 9) (zkb3 zk_cX2_write zn_cX2_write rfl) rfl
theorem dX2_write_111 : decode cX2_write 111 = .ok (.iload_n 3, 1) := zo_29 (zkb zk_cX2_write zn_cX2_write rfl)
theorem dX2_write_112 : decode cX2_write 112 = .ok (.ldc 27, 2) := zo_18 (b1 := 27) (zkb2 zk_cX2_write zn_cX2_write rfl)
theorem dX2_write_114 : decode cX2_write 114 = .ok (.if_icmp .ne 16, 3) := zo_160 (b1 := 0) (b2 := 16) (zkb3 zk_cX2_write zn_cX2_write rfl) rfl
theorem dX2_write_117 : decode cX2_write 117 = .ok (.aload_n 0, 1) := zo_42 (zkb zk_cX2_write zn_cX2_write rfl)
theorem dX2_write_118 : decode cX2_write 118 = .ok (.getfield 34, 3) := zo_180 (b1 := 0) (b2 := 34) (zkb3 zk_cX2_write zn_cX2_write rfl) rfl
theorem dX2_write_121 : decode cX2_write 121 = .ok (.iload_n 3, 1) := zo_29 (zkb zk_cX2_write zn_cX2_write rfl)
theorem dX2_write_122 : decode cX2_write 122 = .ok (.bipush 14, 2) := zo_16 (b1 := 14) (zkb2 zk_cX2_write zn_cX2_write rfl) rfl
theorem dX2_write_124 : decode cX2_write 124 = .ok (.ishr, 1) := zo_122 (zkb zk_cX2_write zn_cX2_write rfl)
theorem dX2_write_125 : decode cX2_write 125 = .ok (.iload_n 2, 1) := zo_28 (zkb zk_cX2_write zn_cX2_write rfl)
theorem dX2_write_126 : decode cX2_write 126 = .ok (.iastore, 1) := zo_79 (zkb zk_cX2_write zn_cX2_write rfl)
theorem dX2_write_127 : decode cX2_write 127 = .ok (.goto 24, 3) := zo_167 (b1 := 0) (b2 := 24) (zkb3 zk_cX2_write zn_cX2_write rfl) rfl
theorem dX2_write_130 : decode cX2_write 130 = .ok (.aload_n 0, 1) := zo_42 (zkb zk_cX2_write zn_cX2_write rfl)
theorem dX2_write_131 : decode cX2_write 131 = .ok (.getfield 68, 3) := zo_180 (b1 := 0) (b2 := 68) (zkb3 zk_cX2_write zn_cX2_write rfl) rfl
theorem dX2_write_134 : decode cX2_write 134 = .ok (.iconst 3, 1) := zo_6 (zkb zk_cX2_write zn_cX2_write rfl)
theorem dX2_write_135 : decode cX2_write 135 = .ok (.if_icmp .ne 16, 3) := zo_160 (b1 := 0) (b2 := 16) (zkb3 zk_cX2_write zn_cX2_write rfl) rfl
theorem dX2_write_138 : decode cX2_write 138 = .ok (.iload_n 3, 1) := zo_29 (zkb zk_cX2_write zn_cX2_write rfl)
theorem dX2_write_139 : decode cX2_write 139 = .ok (.ldc 102, 2) := zo_18 (b1 := 102) (zkb2 zk_cX2_write zn_cX2_write rfl)
theorem dX2_write_141 : decode cX2_write 141 = .ok (.if_icmp .ne 10, 3) := zo_160 (b1 := 0) (b2 := 10) (zkb3 zk_cX2_write zn_cX2_write rfl) rfl
theorem dX2_write_144 : decode cX2_write 144 = .ok (.aload_n 0, 1) := zo_42 (zkb zk_cX2_write zn_cX2_write rfl)
theorem dX2_write_145 : decode cX2_write 145 = .ok (.getfield 34, 3) := zo_180 (b1 := 0) (b2 := 34) (zkb3 zk_cX2_write zn_cX2_write rfl) rfl
theorem dX2_write_148 : decode cX2_write 148 = .ok (.iconst 2, 1) := zo_5 (zkb zk_cX2_write zn_cX2_write rfl)
theorem dX2_write_149 : decode cX2_write 149 = .ok (.iload_n 2, 1) := zo_28 (zkb zk_cX2_write zn_cX2_write rfl)
theorem dX2_write_150 : decode cX2_write 150 = .ok (.iastore, 1) := zo_79 (zkb zk_cX2_write zn_cX2_write rfl)
theorem dX2_write_151 : decode cX2_write 151 = .ok (.return_, 1) := zo_177 (zkb zk_cX2_write zn_cX2_write rfl)
noncomputable def kn_cX2_batteryIsIn : Nat := 0xac030400a7040700997e08102e062200b42a1300a0044400b42a
theorem zk_cX2_batteryIsIn : zkd cX2_batteryIsIn.data.toList kn_cX2_batteryIsIn = true := by decide +kernel
theorem zn_cX2_batteryIsIn : cX2_batteryIsIn.data.toList.length = 26 := by decide +kernel
theorem dX2_batteryIsIn_0 : decode cX2_batteryIsIn 0 = .ok (.aload_n 0, 1) := zo_42 (zkb zk_cX2_batteryIsIn zn_cX2_batteryIsIn rfl)
theorem dX2_batteryIsIn_1 : decode cX2_batteryIsIn 1 = .ok (.getfield 68, 3) := zo_180 (b1 := 0) (b2 := 68) (zkb3 zk_cX2_batteryIsIn zn_cX2_batteryIsIn rfl) rfl
theorem dX2_batteryIsIn_4 : decode cX2_batteryIsIn 4 = .ok (.iconst 1, 1) := zo_4 (zkb zk_cX2_batteryIsIn zn_cX2_batteryIsIn rfl)
theorem dX2_batteryIsIn_5 : decode cX2_batteryIsIn 5 = .ok (.if_icmp .ne 19, 3) := zo_160 (b1 := 0) (b2 := 19) (zkb3 zk_cX2_batteryIsIn zn_cX2_batteryIsIn rfl) rfl
theorem dX2_batteryIsIn_8 : decode cX2_batteryIsIn 8 = .ok (.aload_n 0, 1) := zo_42 (zkb zk_cX2_batteryIsIn zn_cX2_batteryIsIn rfl)
theorem dX2_batteryIsIn_9 : decode cX2_batteryIsIn 9 = .ok (.getfield 34, 3) := zo_180 (b1 := 0) (b2 := 34) (zkb3 zk_cX2_batteryIsIn zn_cX2_batteryIsIn rfl) rfl
theorem dX2_batteryIsIn_12 : decode cX2_batteryIsIn 12 = .ok (.iconst 3, 1) := zo_6 (zkb zk_cX2_batteryIsIn zn_cX2_batteryIsIn rfl)
theorem dX2_batteryIsIn_13 : decode cX2_batteryIsIn 13 = .ok (.iaload, 1) := zo_46 (zkb zk_cX2_batteryIsIn zn_cX2_batteryIsIn rfl)
theorem dX2_batteryIsIn_14 : decode cX2_batteryIsIn 14 = .ok (.bipush 8, 2) := zo_16 (b1 := 8) (zkb2 zk_cX2_batteryIsIn zn_cX2_batteryIsIn rfl) rfl
theorem dX2_batteryIsIn_16 : decode cX2_batteryIsIn 16 = .ok (.iand, 1) := zo_126 (zkb zk_cX2_batteryIsIn zn_cX2_batteryIsIn rfl)
theorem dX2_batteryIsIn_17 : decode cX2_batteryIsIn 17 = .ok (.ifCond .eq 7, 3) := zo_153 (b1 := 0) (b2 := 7) (zkb3 zk_cX2_batteryIsIn zn_cX2_batteryIsIn rfl) rfl
theorem dX2_batteryIsIn_20 : decode cX2_batteryIsIn 20 = .ok (.iconst 1, 1) := zo_4 (zkb zk_cX2_batteryIsIn zn_cX2_batteryIsIn rfl)
theorem dX2_batteryIsIn_21 : decode cX2_batteryIsIn 21 = .ok (.goto 4, 3) := zo_167 (b1 := 0) (b2 := 4) (zkb3 zk_cX2_batteryIsIn zn_cX2_batteryIsIn rfl) rfl
theorem dX2_batteryIsIn_24 : decode cX2_batteryIsIn 24 = .ok (.iconst 0, 1) := zo_3 (zkb zk_cX2_batteryIsIn zn_cX2_batteryIsIn rfl)
theorem dX2_batteryIsIn_25 : decode cX2_batteryIsIn 25 = .ok (.ireturn, 1) := zo_172 (zkb zk_cX2_batteryIsIn zn_cX2_batteryIsIn rfl)
noncomputable def kn_cX2_batteryPlace : Nat := 0xac60687e047a052e062200b42a0040117eff3f111b
theorem zk_cX2_batteryPlace : zkd cX2_batteryPlace.data.toList kn_cX2_batteryPlace = true := by decide +kernel
theorem zn_cX2_batteryPlace : cX2_batteryPlace.data.toList.length = 21 := by decide +kernel
theorem dX2_batteryPlace_0 : decode cX2_batteryPlace 0 = .ok (.iload_n 1, 1) := zo_27 (zkb zk_cX2_batteryPlace zn_cX2_batteryPlace rfl)
theorem dX2_batteryPlace_1 : decode cX2_batteryPlace 1 = .ok (.sipush 16383, 3) := zo_17 (b1 := 63) (b2 := 255) (zkb3 zk_cX2_batteryPlace zn_cX2_batteryPlace rfl) rfl
theorem dX2_batteryPlace_4 : decode cX2_batteryPlace 4 = .ok (.iand, 1) := zo_126 (zkb zk_cX2_batteryPlace zn_cX2_batteryPlace rfl)
theorem dX2_batteryPlace_5 : decode cX2_batteryPlace 5 = .ok (.sipush 16384, 3) := zo_17 (b1 := 64) (b2 := 0) (zkb3 zk_cX2_batteryPlace zn_cX2_batteryPlace rfl) rfl
theorem dX2_batteryPlace_8 : decode cX2_batteryPlace 8 = .ok (.aload_n 0, 1) := zo_42 (zkb zk_cX2_batteryPlace zn_cX2_batteryPlace rfl)
theorem dX2_batteryPlace_9 : decode cX2_batteryPlace 9 = .ok (.getfield 34, 3) := zo_180 (b1 := 0) (b2 := 34) (zkb3 zk_cX2_batteryPlace zn_cX2_batteryPlace rfl) rfl
theorem dX2_batteryPlace_12 : decode cX2_batteryPlace 12 = .ok (.iconst 3, 1) := zo_6 (zkb zk_cX2_batteryPlace zn_cX2_batteryPlace rfl)
theorem dX2_batteryPlace_13 : decode cX2_batteryPlace 13 = .ok (.iaload, 1) := zo_46 (zkb zk_cX2_batteryPlace zn_cX2_batteryPlace rfl)
theorem dX2_batteryPlace_14 : decode cX2_batteryPlace 14 = .ok (.iconst 2, 1) := zo_5 (zkb zk_cX2_batteryPlace zn_cX2_batteryPlace rfl)
theorem dX2_batteryPlace_15 : decode cX2_batteryPlace 15 = .ok (.ishr, 1) := zo_122 (zkb zk_cX2_batteryPlace zn_cX2_batteryPlace rfl)
theorem dX2_batteryPlace_16 : decode cX2_batteryPlace 16 = .ok (.iconst 1, 1) := zo_4 (zkb zk_cX2_batteryPlace zn_cX2_batteryPlace rfl)
theorem dX2_batteryPlace_17 : decode cX2_batteryPlace 17 = .ok (.iand, 1) := zo_126 (zkb zk_cX2_batteryPlace zn_cX2_batteryPlace rfl)
theorem dX2_batteryPlace_18 : decode cX2_batteryPlace 18 = .ok (.imul, 1) := zo_104 (zkb zk_cX2_batteryPlace zn_cX2_batteryPlace rfl)
theorem dX2_batteryPlace_19 : decode cX2_batteryPlace 19 = .ok (.iadd, 1) := zo_96 (zkb zk_cX2_batteryPlace zn_cX2_batteryPlace rfl)
theorem dX2_batteryPlace_20 : decode cX2_batteryPlace 20 = .ok (.ireturn, 1) := zo_172 (zkb zk_cX2_batteryPlace zn_cX2_batteryPlace rfl)
noncomputable def kn_cX2_batteryByte : Nat := 0xac2e7eff7f111b1c00b42a
theorem zk_cX2_batteryByte : zkd cX2_batteryByte.data.toList kn_cX2_batteryByte = true := by decide +kernel
theorem zn_cX2_batteryByte : cX2_batteryByte.data.toList.length = 11 := by decide +kernel
theorem dX2_batteryByte_0 : decode cX2_batteryByte 0 = .ok (.aload_n 0, 1) := zo_42 (zkb zk_cX2_batteryByte zn_cX2_batteryByte rfl)
theorem dX2_batteryByte_1 : decode cX2_batteryByte 1 = .ok (.getfield 28, 3) := zo_180 (b1 := 0) (b2 := 28) (zkb3 zk_cX2_batteryByte zn_cX2_batteryByte rfl) rfl
theorem dX2_batteryByte_4 : decode cX2_batteryByte 4 = .ok (.iload_n 1, 1) := zo_27 (zkb zk_cX2_batteryByte zn_cX2_batteryByte rfl)
theorem dX2_batteryByte_5 : decode cX2_batteryByte 5 = .ok (.sipush 32767, 3) := zo_17 (b1 := 127) (b2 := 255) (zkb3 zk_cX2_batteryByte zn_cX2_batteryByte rfl) rfl
theorem dX2_batteryByte_8 : decode cX2_batteryByte 8 = .ok (.iand, 1) := zo_126 (zkb zk_cX2_batteryByte zn_cX2_batteryByte rfl)
theorem dX2_batteryByte_9 : decode cX2_batteryByte 9 = .ok (.iaload, 1) := zo_46 (zkb zk_cX2_batteryByte zn_cX2_batteryByte rfl)
theorem dX2_batteryByte_10 : decode cX2_batteryByte 10 = .ok (.ireturn, 1) := zo_172 (zkb zk_cX2_batteryByte zn_cX2_batteryByte rfl)
noncomputable def kn_cX2_clearBattery : Nat := 0xb16700b8031c00b42a
theorem zk_cX2_clearBattery : zkd cX2_clearBattery.data.toList kn_cX2_clearBattery = true := by decide +kernel
theorem zn_cX2_clearBattery : cX2_clearBattery.data.toList.length = 9 := by decide +kernel
theorem dX2_clearBattery_0 : decode cX2_clearBattery 0 = .ok (.aload_n 0, 1) := zo_42 (zkb zk_cX2_clearBattery zn_cX2_clearBattery rfl)
theorem dX2_clearBattery_1 : decode cX2_clearBattery 1 = .ok (.getfield 28, 3) := zo_180 (b1 := 0) (b2 := 28) (zkb3 zk_cX2_clearBattery zn_cX2_clearBattery rfl) rfl
theorem dX2_clearBattery_4 : decode cX2_clearBattery 4 = .ok (.iconst 0, 1) := zo_3 (zkb zk_cX2_clearBattery zn_cX2_clearBattery rfl)
theorem dX2_clearBattery_5 : decode cX2_clearBattery 5 = .ok (.invokestatic 103, 3) := zo_184 (b1 := 0) (b2 := 103) (zkb3 zk_cX2_clearBattery zn_cX2_clearBattery rfl) rfl
theorem dX2_clearBattery_8 : decode cX2_clearBattery 8 = .ok (.return_, 1) := zo_177 (zkb zk_cX2_clearBattery zn_cX2_clearBattery rfl)
noncomputable def kn_cX2_clearRam : Nat := 0xb16700b8031500b42a
theorem zk_cX2_clearRam : zkd cX2_clearRam.data.toList kn_cX2_clearRam = true := by decide +kernel
theorem zn_cX2_clearRam : cX2_clearRam.data.toList.length = 9 := by decide +kernel
theorem dX2_clearRam_0 : decode cX2_clearRam 0 = .ok (.aload_n 0, 1) := zo_42 (zkb zk_cX2_clearRam zn_cX2_clearRam rfl)
theorem dX2_clearRam_1 : decode cX2_clearRam 1 = .ok (.getfield 21, 3) := zo_180 (b1 := 0) (b2 := 21) (zkb3 zk_cX2_clearRam zn_cX2_clearRam rfl) rfl
theorem dX2_clearRam_4 : decode cX2_clearRam 4 = .ok (.iconst 0, 1) := zo_3 (zkb zk_cX2_clearRam zn_cX2_clearRam rfl)
theorem dX2_clearRam_5 : decode cX2_clearRam 5 = .ok (.invokestatic 103, 3) := zo_184 (b1 := 0) (b2 := 103) (zkb3 zk_cX2_clearRam zn_cX2_clearRam rfl) rfl
theorem dX2_clearRam_8 : decode cX2_clearRam 8 = .ok (.return_, 1) := zo_177 (zkb zk_cX2_clearRam zn_cX2_clearRam rfl)
noncomputable def kn_cX2_clearPages : Nat := 0xb14f03062200b42a4f050400a7030700a0054400b42a052200b42a4f04042200b42a4f03032200b42a
theorem zk_cX2_clearPages : zkd cX2_clearPages.data.toList kn_cX2_clearPages = true := by decide +kernel
theorem zn_cX2_clearPages : cX2_clearPages.data.toList.length = 41 := by decide +kernel
theorem dX2_clearPages_0 : decode cX2_clearPages 0 = .ok (.aload_n 0, 1) := zo_42 (zkb zk_cX2_clearPages zn_cX2_clearPages rfl)
theorem dX2_clearPages_1 : decode cX2_clearPages 1 = .ok (.getfield 34, 3) := zo_180 (b1 := 0) (b2 := 34) (zkb3 zk_cX2_clearPages zn_cX2_clearPages rfl) rfl
theorem dX2_clearPages_4 : decode cX2_clearPages 4 = .ok (.iconst 0, 1) := zo_3 (zkb zk_cX2_clearPages zn_cX2_clearPages rfl)
theorem dX2_clearPages_5 : decode cX2_clearPages 5 = .ok (.iconst 0, 1) := zo_3 (zkb zk_cX2_clearPages zn_cX2_clearPages rfl)
theorem dX2_clearPages_6 : decode cX2_clearPages 6 = .ok (.iastore, 1) := zo_79 (zkb zk_cX2_clearPages zn_cX2_clearPages rfl)
theorem dX2_clearPages_7 : decode cX2_clearPages 7 = .ok (.aload_n 0, 1) := zo_42 (zkb zk_cX2_clearPages zn_cX2_clearPages rfl)
theorem dX2_clearPages_8 : decode cX2_clearPages 8 = .ok (.getfield 34, 3) := zo_180 (b1 := 0) (b2 := 34) (zkb3 zk_cX2_clearPages zn_cX2_clearPages rfl) rfl
theorem dX2_clearPages_11 : decode cX2_clearPages 11 = .ok (.iconst 1, 1) := zo_4 (zkb zk_cX2_clearPages zn_cX2_clearPages rfl)
theorem dX2_clearPages_12 : decode cX2_clearPages 12 = .ok (.iconst 1, 1) := zo_4 (zkb zk_cX2_clearPages zn_cX2_clearPages rfl)
theorem dX2_clearPages_13 : decode cX2_clearPages 13 = .ok (.iastore, 1) := zo_79 (zkb zk_cX2_clearPages zn_cX2_clearPages rfl)
theorem dX2_clearPages_14 : decode cX2_clearPages 14 = .ok (.aload_n 0, 1) := zo_42 (zkb zk_cX2_clearPages zn_cX2_clearPages rfl)
theorem dX2_clearPages_15 : decode cX2_clearPages 15 = .ok (.getfield 34, 3) := zo_180 (b1 := 0) (b2 := 34) (zkb3 zk_cX2_clearPages zn_cX2_clearPages rfl) rfl
theorem dX2_clearPages_18 : decode cX2_clearPages 18 = .ok (.iconst 2, 1) := zo_5 (zkb zk_cX2_clearPages zn_cX2_clearPages rfl)
theorem dX2_clearPages_19 : decode cX2_clearPages 19 = .ok (.aload_n 0, 1) := zo_42 (zkb zk_cX2_clearPages zn_cX2_clearPages rfl)
theorem dX2_clearPages_20 : decode cX2_clearPages 20 = .ok (.getfield 68, 3) := zo_180 (b1 := 0) (b2 := 68) (zkb3 zk_cX2_clearPages zn_cX2_clearPages rfl) rfl
theorem dX2_clearPages_23 : decode cX2_clearPages 23 = .ok (.iconst 2, 1) := zo_5 (zkb zk_cX2_clearPages zn_cX2_clearPages rfl)
theorem dX2_clearPages_24 : decode cX2_clearPages 24 = .ok (.if_icmp .ne 7, 3) := zo_160 (b1 := 0) (b2 := 7) (zkb3 zk_cX2_clearPages zn_cX2_clearPages rfl) rfl
theorem dX2_clearPages_27 : decode cX2_clearPages 27 = .ok (.iconst 0, 1) := zo_3 (zkb zk_cX2_clearPages zn_cX2_clearPages rfl)
theorem dX2_clearPages_28 : decode cX2_clearPages 28 = .ok (.goto 4, 3) := zo_167 (b1 := 0) (b2 := 4) (zkb3 zk_cX2_clearPages zn_cX2_clearPages rfl) rfl
theorem dX2_clearPages_31 : decode cX2_clearPages 31 = .ok (.iconst 2, 1) := zo_5 (zkb zk_cX2_clearPages zn_cX2_clearPages rfl)
theorem dX2_clearPages_32 : decode cX2_clearPages 32 = .ok (.iastore, 1) := zo_79 (zkb zk_cX2_clearPages zn_cX2_clearPages rfl)
theorem dX2_clearPages_33 : decode cX2_clearPages 33 = .ok (.aload_n 0, 1) := zo_42 (zkb zk_cX2_clearPages zn_cX2_clearPages rfl)
theorem dX2_clearPages_34 : decode cX2_clearPages 34 = .ok (.getfield 34, 3) := zo_180 (b1 := 0) (b2 := 34) (zkb3 zk_cX2_clearPages zn_cX2_clearPages rfl) rfl
theorem dX2_clearPages_37 : decode cX2_clearPages 37 = .ok (.iconst 3, 1) := zo_6 (zkb zk_cX2_clearPages zn_cX2_clearPages rfl)
theorem dX2_clearPages_38 : decode cX2_clearPages 38 = .ok (.iconst 0, 1) := zo_3 (zkb zk_cX2_clearPages zn_cX2_clearPages rfl)
theorem dX2_clearPages_39 : decode cX2_clearPages 39 = .ok (.iastore, 1) := zo_79 (zkb zk_cX2_clearPages zn_cX2_clearPages rfl)
theorem dX2_clearPages_40 : decode cX2_clearPages 40 = .ok (.return_, 1) := zo_177 (zkb zk_cX2_clearPages zn_cX2_clearPages rfl)
noncomputable def kn_cX2_keep : Nat := 0xb16d00b807032500b42a032200b42a6d00b81b12031f00b42a031c00b42a6d00b8002011031800b42a031500b42a
theorem zk_cX2_keep : zkd cX2_keep.data.toList kn_cX2_keep = true := by decide +kernel
theorem zn_cX2_keep : cX2_keep.data.toList.length = 46 := by decide +kernel
theorem dX2_keep_0 : decode cX2_keep 0 = .ok (.aload_n 0, 1) := zo_42 (zkb zk_cX2_keep zn_cX2_keep rfl)
theorem dX2_keep_1 : decode cX2_keep 1 = .ok (.getfield 21, 3) := zo_180 (b1 := 0) (b2 := 21) (zkb3 zk_cX2_keep zn_cX2_keep rfl) rfl
theorem dX2_keep_4 : decode cX2_keep 4 = .ok (.iconst 0, 1) := zo_3 (zkb zk_cX2_keep zn_cX2_keep rfl)
theorem dX2_keep_5 : decode cX2_keep 5 = .ok (.aload_n 0, 1) := zo_42 (zkb zk_cX2_keep zn_cX2_keep rfl)
theorem dX2_keep_6 : decode cX2_keep 6 = .ok (.getfield 24, 3) := zo_180 (b1 := 0) (b2 := 24) (zkb3 zk_cX2_keep zn_cX2_keep rfl) rfl
theorem dX2_keep_9 : decode cX2_keep 9 = .ok (.iconst 0, 1) := zo_3 (zkb zk_cX2_keep zn_cX2_keep rfl)
theorem dX2_keep_10 : decode cX2_keep 10 = .ok (.sipush 8192, 3) := zo_17 (b1 := 32) (b2 := 0) (zkb3 zk_cX2_keep zn_cX2_keep rfl) rfl
theorem dX2_keep_13 : decode cX2_keep 13 = .ok (.invokestatic 109, 3) := zo_184 (b1 := 0) (b2 := 109) (zkb3 zk_cX2_keep zn_cX2_keep rfl) rfl
theorem dX2_keep_16 : decode cX2_keep 16 = .ok (.aload_n 0, 1) := zo_42 (zkb zk_cX2_keep zn_cX2_keep rfl)
theorem dX2_keep_17 : decode cX2_keep 17 = .ok (.getfield 28, 3) := zo_180 (b1 := 0) (b2 := 28) (zkb3 zk_cX2_keep zn_cX2_keep rfl) rfl
theorem dX2_keep_20 : decode cX2_keep 20 = .ok (.iconst 0, 1) := zo_3 (zkb zk_cX2_keep zn_cX2_keep rfl)
theorem dX2_keep_21 : decode cX2_keep 21 = .ok (.aload_n 0, 1) := zo_42 (zkb zk_cX2_keep zn_cX2_keep rfl)
theorem dX2_keep_22 : decode cX2_keep 22 = .ok (.getfield 31, 3) := zo_180 (b1 := 0) (b2 := 31) (zkb3 zk_cX2_keep zn_cX2_keep rfl) rfl
theorem dX2_keep_25 : decode cX2_keep 25 = .ok (.iconst 0, 1) := zo_3 (zkb zk_cX2_keep zn_cX2_keep rfl)
theorem dX2_keep_26 : decode cX2_keep 26 = .ok (.ldc 27, 2) := zo_18 (b1 := 27) (zkb2 zk_cX2_keep zn_cX2_keep rfl)
theorem dX2_keep_28 : decode cX2_keep 28 = .ok (.invokestatic 109, 3) := zo_184 (b1 := 0) (b2 := 109) (zkb3 zk_cX2_keep zn_cX2_keep rfl) rfl
theorem dX2_keep_31 : decode cX2_keep 31 = .ok (.aload_n 0, 1) := zo_42 (zkb zk_cX2_keep zn_cX2_keep rfl)
theorem dX2_keep_32 : decode cX2_keep 32 = .ok (.getfield 34, 3) := zo_180 (b1 := 0) (b2 := 34) (zkb3 zk_cX2_keep zn_cX2_keep rfl) rfl
theorem dX2_keep_35 : decode cX2_keep 35 = .ok (.iconst 0, 1) := zo_3 (zkb zk_cX2_keep zn_cX2_keep rfl)
theorem dX2_keep_36 : decode cX2_keep 36 = .ok (.aload_n 0, 1) := zo_42 (zkb zk_cX2_keep zn_cX2_keep rfl)
theorem dX2_keep_37 : decode cX2_keep 37 = .ok (.getfield 37, 3) := zo_180 (b1 := 0) (b2 := 37) (zkb3 zk_cX2_keep zn_cX2_keep rfl) rfl
theorem dX2_keep_40 : decode cX2_keep 40 = .ok (.iconst 0, 1) := zo_3 (zkb zk_cX2_keep zn_cX2_keep rfl)
theorem dX2_keep_41 : decode cX2_keep 41 = .ok (.iconst 4, 1) := zo_7 (zkb zk_cX2_keep zn_cX2_keep rfl)
theorem dX2_keep_42 : decode cX2_keep 42 = .ok (.invokestatic 109, 3) := zo_184 (b1 := 0) (b2 := 109) (zkb3 zk_cX2_keep zn_cX2_keep rfl) rfl
theorem dX2_keep_45 : decode cX2_keep 45 = .ok (.return_, 1) := zo_177 (zkb zk_cX2_keep zn_cX2_keep rfl)
noncomputable def kn_cX2_bringBack : Nat := 0xb16d00b807032200b42a032500b42a6d00b81b12031c00b42a031f00b42a6d00b8002011031500b42a031800b42a
theorem zk_cX2_bringBack : zkd cX2_bringBack.data.toList kn_cX2_bringBack = true := by decide +kernel
theorem zn_cX2_bringBack : cX2_bringBack.data.toList.length = 46 := by decide +kernel
theorem dX2_bringBack_0 : decode cX2_bringBack 0 = .ok (.aload_n 0, 1) := zo_42 (zkb zk_cX2_bringBack zn_cX2_bringBack rfl)
theorem dX2_bringBack_1 : decode cX2_bringBack 1 = .ok (.getfield 24, 3) := zo_180 (b1 := 0) (b2 := 24) (zkb3 zk_cX2_bringBack zn_cX2_bringBack rfl) rfl
theorem dX2_bringBack_4 : decode cX2_bringBack 4 = .ok (.iconst 0, 1) := zo_3 (zkb zk_cX2_bringBack zn_cX2_bringBack rfl)
theorem dX2_bringBack_5 : decode cX2_bringBack 5 = .ok (.aload_n 0, 1) := zo_42 (zkb zk_cX2_bringBack zn_cX2_bringBack rfl)
theorem dX2_bringBack_6 : decode cX2_bringBack 6 = .ok (.getfield 21, 3) := zo_180 (b1 := 0) (b2 := 21) (zkb3 zk_cX2_bringBack zn_cX2_bringBack rfl) rfl
theorem dX2_bringBack_9 : decode cX2_bringBack 9 = .ok (.iconst 0, 1) := zo_3 (zkb zk_cX2_bringBack zn_cX2_bringBack rfl)
theorem dX2_bringBack_10 : decode cX2_bringBack 10 = .ok (.sipush 8192, 3) := zo_17 (b1 := 32) (b2 := 0) (zkb3 zk_cX2_bringBack zn_cX2_bringBack rfl) rfl
theorem dX2_bringBack_13 : decode cX2_bringBack 13 = .ok (.invokestatic 109, 3) := zo_184 (b1 := 0) (b2 := 109) (zkb3 zk_cX2_bringBack zn_cX2_bringBack rfl) rfl
theorem dX2_bringBack_16 : decode cX2_bringBack 16 = .ok (.aload_n 0, 1) := zo_42 (zkb zk_cX2_bringBack zn_cX2_bringBack rfl)
theorem dX2_bringBack_17 : decode cX2_bringBack 17 = .ok (.getfield 31, 3) := zo_180 (b1 := 0) (b2 := 31) (zkb3 zk_cX2_bringBack zn_cX2_bringBack rfl) rfl
theorem dX2_bringBack_20 : decode cX2_bringBack 20 = .ok (.iconst 0, 1) := zo_3 (zkb zk_cX2_bringBack zn_cX2_bringBack rfl)
theorem dX2_bringBack_21 : decode cX2_bringBack 21 = .ok (.aload_n 0, 1) := zo_42 (zkb zk_cX2_bringBack zn_cX2_bringBack rfl)
theorem dX2_bringBack_22 : decode cX2_bringBack 22 = .ok (.getfield 28, 3) := zo_180 (b1 := 0) (b2 := 28) (zkb3 zk_cX2_bringBack zn_cX2_bringBack rfl) rfl
theorem dX2_bringBack_25 : decode cX2_bringBack 25 = .ok (.iconst 0, 1) := zo_3 (zkb zk_cX2_bringBack zn_cX2_bringBack rfl)
theorem dX2_bringBack_26 : decode cX2_bringBack 26 = .ok (.ldc 27, 2) := zo_18 (b1 := 27) (zkb2 zk_cX2_bringBack zn_cX2_bringBack rfl)
theorem dX2_bringBack_28 : decode cX2_bringBack 28 = .ok (.invokestatic 109, 3) := zo_184 (b1 := 0) (b2 := 109) (zkb3 zk_cX2_bringBack zn_cX2_bringBack rfl) rfl
theorem dX2_bringBack_31 : decode cX2_bringBack 31 = .ok (.aload_n 0, 1) := zo_42 (zkb zk_cX2_bringBack zn_cX2_bringBack rfl)
theorem dX2_bringBack_32 : decode cX2_bringBack 32 = .ok (.getfield 37, 3) := zo_180 (b1 := 0) (b2 := 37) (zkb3 zk_cX2_bringBack zn_cX2_bringBack rfl) rfl
theorem dX2_bringBack_35 : decode cX2_bringBack 35 = .ok (.iconst 0, 1) := zo_3 (zkb zk_cX2_bringBack zn_cX2_bringBack rfl)
theorem dX2_bringBack_36 : decode cX2_bringBack 36 = .ok (.aload_n 0, 1) := zo_42 (zkb zk_cX2_bringBack zn_cX2_bringBack rfl)
theorem dX2_bringBack_37 : decode cX2_bringBack 37 = .ok (.getfield 34, 3) := zo_180 (b1 := 0) (b2 := 34) (zkb3 zk_cX2_bringBack zn_cX2_bringBack rfl) rfl
theorem dX2_bringBack_40 : decode cX2_bringBack 40 = .ok (.iconst 0, 1) := zo_3 (zkb zk_cX2_bringBack zn_cX2_bringBack rfl)
theorem dX2_bringBack_41 : decode cX2_bringBack 41 = .ok (.iconst 4, 1) := zo_7 (zkb zk_cX2_bringBack zn_cX2_bringBack rfl)
theorem dX2_bringBack_42 : decode cX2_bringBack 42 = .ok (.invokestatic 109, 3) := zo_184 (b1 := 0) (b2 := 109) (zkb3 zk_cX2_bringBack zn_cX2_bringBack rfl) rfl
theorem dX2_bringBack_45 : decode cX2_bringBack 45 = .ok (.return_, 1) := zo_177 (zkb zk_cX2_bringBack zn_cX2_bringBack rfl)
noncomputable def kn_cX3_keep : Nat := 0xb12200b8be0a00b42a030e00b42a030a00b42a
theorem zk_cX3_keep : zkd cX3_keep.data.toList kn_cX3_keep = true := by decide +kernel
theorem zn_cX3_keep : cX3_keep.data.toList.length = 19 := by decide +kernel
theorem dX3_keep_0 : decode cX3_keep 0 = .ok (.aload_n 0, 1) := zo_42 (zkb zk_cX3_keep zn_cX3_keep rfl)
theorem dX3_keep_1 : decode cX3_keep 1 = .ok (.getfield 10, 3) := zo_180 (b1 := 0) (b2 := 10) (zkb3 zk_cX3_keep zn_cX3_keep rfl) rfl
theorem dX3_keep_4 : decode cX3_keep 4 = .ok (.iconst 0, 1) := zo_3 (zkb zk_cX3_keep zn_cX3_keep rfl)
theorem dX3_keep_5 : decode cX3_keep 5 = .ok (.aload_n 0, 1) := zo_42 (zkb zk_cX3_keep zn_cX3_keep rfl)
theorem dX3_keep_6 : decode cX3_keep 6 = .ok (.getfield 14, 3) := zo_180 (b1 := 0) (b2 := 14) (zkb3 zk_cX3_keep zn_cX3_keep rfl) rfl
theorem dX3_keep_9 : decode cX3_keep 9 = .ok (.iconst 0, 1) := zo_3 (zkb zk_cX3_keep zn_cX3_keep rfl)
theorem dX3_keep_10 : decode cX3_keep 10 = .ok (.aload_n 0, 1) := zo_42 (zkb zk_cX3_keep zn_cX3_keep rfl)
theorem dX3_keep_11 : decode cX3_keep 11 = .ok (.getfield 10, 3) := zo_180 (b1 := 0) (b2 := 10) (zkb3 zk_cX3_keep zn_cX3_keep rfl) rfl
theorem dX3_keep_14 : decode cX3_keep 14 = .ok (.arraylength, 1) := zo_190 (zkb zk_cX3_keep zn_cX3_keep rfl)
theorem dX3_keep_15 : decode cX3_keep 15 = .ok (.invokestatic 34, 3) := zo_184 (b1 := 0) (b2 := 34) (zkb3 zk_cX3_keep zn_cX3_keep rfl) rfl
theorem dX3_keep_18 : decode cX3_keep 18 = .ok (.return_, 1) := zo_177 (zkb zk_cX3_keep zn_cX3_keep rfl)
noncomputable def kn_cX3_bringBack : Nat := 0xb12200b8be0a00b42a030a00b42a030e00b42a
theorem zk_cX3_bringBack : zkd cX3_bringBack.data.toList kn_cX3_bringBack = true := by decide +kernel
theorem zn_cX3_bringBack : cX3_bringBack.data.toList.length = 19 := by decide +kernel
theorem dX3_bringBack_0 : decode cX3_bringBack 0 = .ok (.aload_n 0, 1) := zo_42 (zkb zk_cX3_bringBack zn_cX3_bringBack rfl)
theorem dX3_bringBack_1 : decode cX3_bringBack 1 = .ok (.getfield 14, 3) := zo_180 (b1 := 0) (b2 := 14) (zkb3 zk_cX3_bringBack zn_cX3_bringBack rfl) rfl
theorem dX3_bringBack_4 : decode cX3_bringBack 4 = .ok (.iconst 0, 1) := zo_3 (zkb zk_cX3_bringBack zn_cX3_bringBack rfl)
theorem dX3_bringBack_5 : decode cX3_bringBack 5 = .ok (.aload_n 0, 1) := zo_42 (zkb zk_cX3_bringBack zn_cX3_bringBack rfl)
theorem dX3_bringBack_6 : decode cX3_bringBack 6 = .ok (.getfield 10, 3) := zo_180 (b1 := 0) (b2 := 10) (zkb3 zk_cX3_bringBack zn_cX3_bringBack rfl) rfl
theorem dX3_bringBack_9 : decode cX3_bringBack 9 = .ok (.iconst 0, 1) := zo_3 (zkb zk_cX3_bringBack zn_cX3_bringBack rfl)
theorem dX3_bringBack_10 : decode cX3_bringBack 10 = .ok (.aload_n 0, 1) := zo_42 (zkb zk_cX3_bringBack zn_cX3_bringBack rfl)
theorem dX3_bringBack_11 : decode cX3_bringBack 11 = .ok (.getfield 10, 3) := zo_180 (b1 := 0) (b2 := 10) (zkb3 zk_cX3_bringBack zn_cX3_bringBack rfl) rfl
theorem dX3_bringBack_14 : decode cX3_bringBack 14 = .ok (.arraylength, 1) := zo_190 (zkb zk_cX3_bringBack zn_cX3_bringBack rfl)
theorem dX3_bringBack_15 : decode cX3_bringBack 15 = .ok (.invokestatic 34, 3) := zo_184 (b1 := 0) (b2 := 34) (zkb3 zk_cX3_bringBack zn_cX3_bringBack rfl) rfl
theorem dX3_bringBack_18 : decode cX3_bringBack 18 = .ok (.return_, 1) := zo_177 (zkb zk_cX3_bringBack zn_cX3_bringBack rfl)
noncomputable def kn_cX3_width : Nat := 0xac0001110600a7a000110900991e00b42a
theorem zk_cX3_width : zkd cX3_width.data.toList kn_cX3_width = true := by decide +kernel
theorem zn_cX3_width : cX3_width.data.toList.length = 17 := by decide +kernel
theorem dX3_width_0 : decode cX3_width 0 = .ok (.aload_n 0, 1) := zo_42 (zkb zk_cX3_width zn_cX3_width rfl)
theorem dX3_width_1 : decode cX3_width 1 = .ok (.getfield 30, 3) := zo_180 (b1 := 0) (b2 := 30) (zkb3 zk_cX3_width zn_cX3_width rfl) rfl
theorem dX3_width_4 : decode cX3_width 4 = .ok (.ifCond .eq 9, 3) := zo_153 (b1 := 0) (b2 := 9) (zkb3 zk_cX3_width zn_cX3_width rfl) rfl
theorem dX3_width_7 : decode cX3_width 7 = .ok (.sipush 160, 3) := zo_17 (b1 := 0) (b2 := 160) (zkb3 zk_cX3_width zn_cX3_width rfl) rfl
theorem dX3_width_10 : decode cX3_width 10 = .ok (.goto 6, 3) := zo_167 (b1 := 0) (b2 := 6) (zkb3 zk_cX3_width zn_cX3_width rfl) rfl
theorem dX3_width_13 : decode cX3_width 13 = .ok (.sipush 256, 3) := zo_17 (b1 := 1) (b2 := 0) (zkb3 zk_cX3_width zn_cX3_width rfl) rfl
theorem dX3_width_16 : decode cX3_width 16 = .ok (.ireturn, 1) := zo_172 (zkb zk_cX3_width zn_cX3_width rfl)
noncomputable def kn_cX3_height : Nat := 0xac2800b61a00b42a0a00a79000110900991e00b42a
theorem zk_cX3_height : zkd cX3_height.data.toList kn_cX3_height = true := by decide +kernel
theorem zn_cX3_height : cX3_height.data.toList.length = 21 := by decide +kernel
theorem dX3_height_0 : decode cX3_height 0 = .ok (.aload_n 0, 1) := zo_42 (zkb zk_cX3_height zn_cX3_height rfl)
theorem dX3_height_1 : decode cX3_height 1 = .ok (.getfield 30, 3) := zo_180 (b1 := 0) (b2 := 30) (zkb3 zk_cX3_height zn_cX3_height rfl) rfl
theorem dX3_height_4 : decode cX3_height 4 = .ok (.ifCond .eq 9, 3) := zo_153 (b1 := 0) (b2 := 9) (zkb3 zk_cX3_height zn_cX3_height rfl) rfl
theorem dX3_height_7 : decode cX3_height 7 = .ok (.sipush 144, 3) := zo_17 (b1 := 0) (b2 := 144) (zkb3 zk_cX3_height zn_cX3_height rfl) rfl
theorem dX3_height_10 : decode cX3_height 10 = .ok (.goto 10, 3) := zo_167 (b1 := 0) (b2 := 10) (zkb3 zk_cX3_height zn_cX3_height rfl) rfl
theorem dX3_height_13 : decode cX3_height 13 = .ok (.aload_n 0, 1) := zo_42 (zkb zk_cX3_height zn_cX3_height rfl)
theorem dX3_height_14 : decode cX3_height 14 = .ok (.getfield 26, 3) := zo_180 (b1 := 0) (b2 := 26) (zkb3 zk_cX3_height zn_cX3_height rfl) rfl
theorem dX3_height_17 : decode cX3_height 17 = .ok (.invokevirtual 40, 3) := zo_182 (b1 := 0) (b2 := 40) (zkb3 zk_cX3_height zn_cX3_height rfl) rfl
theorem dX3_height_20 : decode cX3_height 20 = .ok (.ireturn, 1) := zo_172 (zkb zk_cX3_height zn_cX3_height rfl)
noncomputable def kn_cX3_dotAt : Nat := 0xac030400a72e1d0a00b42a0c00a2be0a00b42a1d15009b1d3e601b2e00b61c2a
theorem zk_cX3_dotAt : zkd cX3_dotAt.data.toList kn_cX3_dotAt = true := by decide +kernel
theorem zn_cX3_dotAt : cX3_dotAt.data.toList.length = 32 := by decide +kernel
theorem dX3_dotAt_0 : decode cX3_dotAt 0 = .ok (.aload_n 0, 1) := zo_42 (zkb zk_cX3_dotAt zn_cX3_dotAt rfl)
theorem dX3_dotAt_1 : decode cX3_dotAt 1 = .ok (.iload_n 2, 1) := zo_28 (zkb zk_cX3_dotAt zn_cX3_dotAt rfl)
theorem dX3_dotAt_2 : decode cX3_dotAt 2 = .ok (.invokevirtual 46, 3) := zo_182 (b1 := 0) (b2 := 46) (zkb3 zk_cX3_dotAt zn_cX3_dotAt rfl) rfl
theorem dX3_dotAt_5 : decode cX3_dotAt 5 = .ok (.iload_n 1, 1) := zo_27 (zkb zk_cX3_dotAt zn_cX3_dotAt rfl)
theorem dX3_dotAt_6 : decode cX3_dotAt 6 = .ok (.iadd, 1) := zo_96 (zkb zk_cX3_dotAt zn_cX3_dotAt rfl)
theorem dX3_dotAt_7 : decode cX3_dotAt 7 = .ok (.istore_n 3, 1) := zo_62 (zkb zk_cX3_dotAt zn_cX3_dotAt rfl)
theorem dX3_dotAt_8 : decode cX3_dotAt 8 = .ok (.iload_n 3, 1) := zo_29 (zkb zk_cX3_dotAt zn_cX3_dotAt rfl)
theorem dX3_dotAt_9 : decode cX3_dotAt 9 = .ok (.ifCond .lt 21, 3) := zo_155 (b1 := 0) (b2 := 21) (zkb3 zk_cX3_dotAt zn_cX3_dotAt rfl) rfl
theorem dX3_dotAt_12 : decode cX3_dotAt 12 = .ok (.iload_n 3, 1) := zo_29 (zkb zk_cX3_dotAt zn_cX3_dotAt rfl)
theorem dX3_dotAt_13 : decode cX3_dotAt 13 = .ok (.aload_n 0, 1) := zo_42 (zkb zk_cX3_dotAt zn_cX3_dotAt rfl)
theorem dX3_dotAt_14 : decode cX3_dotAt 14 = .ok (.getfield 10, 3) := zo_180 (b1 := 0) (b2 := 10) (zkb3 zk_cX3_dotAt zn_cX3_dotAt rfl) rfl
theorem dX3_dotAt_17 : decode cX3_dotAt 17 = .ok (.arraylength, 1) := zo_190 (zkb zk_cX3_dotAt zn_cX3_dotAt rfl)
theorem dX3_dotAt_18 : decode cX3_dotAt 18 = .ok (.if_icmp .ge 12, 3) := zo_162 (b1 := 0) (b2 := 12) (zkb3 zk_cX3_dotAt zn_cX3_dotAt rfl) rfl
theorem dX3_dotAt_21 : decode cX3_dotAt 21 = .ok (.aload_n 0, 1) := zo_42 (zkb zk_cX3_dotAt zn_cX3_dotAt rfl)
theorem dX3_dotAt_22 : decode cX3_dotAt 22 = .ok (.getfield 10, 3) := zo_180 (b1 := 0) (b2 := 10) (zkb3 zk_cX3_dotAt zn_cX3_dotAt rfl) rfl
theorem dX3_dotAt_25 : decode cX3_dotAt 25 = .ok (.iload_n 3, 1) := zo_29 (zkb zk_cX3_dotAt zn_cX3_dotAt rfl)
theorem dX3_dotAt_26 : decode cX3_dotAt 26 = .ok (.iaload, 1) := zo_46 (zkb zk_cX3_dotAt zn_cX3_dotAt rfl)
theorem dX3_dotAt_27 : decode cX3_dotAt 27 = .ok (.goto 4, 3) := zo_167 (b1 := 0) (b2 := 4) (zkb3 zk_cX3_dotAt zn_cX3_dotAt rfl) rfl
theorem dX3_dotAt_30 : decode cX3_dotAt 30 = .ok (.iconst 0, 1) := zo_3 (zkb zk_cX3_dotAt zn_cX3_dotAt rfl)
theorem dX3_dotAt_31 : decode cX3_dotAt 31 = .ok (.ireturn, 1) := zo_172 (zkb zk_cX3_dotAt zn_cX3_dotAt rfl)
noncomputable def kn_cX3_placeOf : Nat := 0xac680001111b0800a7603010680001116018101b1100991e00b42a
theorem zk_cX3_placeOf : zkd cX3_placeOf.data.toList kn_cX3_placeOf = true := by decide +kernel
theorem zn_cX3_placeOf : cX3_placeOf.data.toList.length = 27 := by decide +kernel
theorem dX3_placeOf_0 : decode cX3_placeOf 0 = .ok (.aload_n 0, 1) := zo_42 (zkb zk_cX3_placeOf zn_cX3_placeOf rfl)
theorem dX3_placeOf_1 : decode cX3_placeOf 1 = .ok (.getfield 30, 3) := zo_180 (b1 := 0) (b2 := 30) (zkb3 zk_cX3_placeOf zn_cX3_placeOf rfl) rfl
theorem dX3_placeOf_4 : decode cX3_placeOf 4 = .ok (.ifCond .eq 17, 3) := zo_153 (b1 := 0) (b2 := 17) (zkb3 zk_cX3_placeOf zn_cX3_placeOf rfl) rfl
theorem dX3_placeOf_7 : decode cX3_placeOf 7 = .ok (.iload_n 1, 1) := zo_27 (zkb zk_cX3_placeOf zn_cX3_placeOf rfl)
theorem dX3_placeOf_8 : decode cX3_placeOf 8 = .ok (.bipush 24, 2) := zo_16 (b1 := 24) (zkb2 zk_cX3_placeOf zn_cX3_placeOf rfl) rfl
theorem dX3_placeOf_10 : decode cX3_placeOf 10 = .ok (.iadd, 1) := zo_96 (zkb zk_cX3_placeOf zn_cX3_placeOf rfl)
theorem dX3_placeOf_11 : decode cX3_placeOf 11 = .ok (.sipush 256, 3) := zo_17 (b1 := 1) (b2 := 0) (zkb3 zk_cX3_placeOf zn_cX3_placeOf rfl) rfl
theorem dX3_placeOf_14 : decode cX3_placeOf 14 = .ok (.imul, 1) := zo_104 (zkb zk_cX3_placeOf zn_cX3_placeOf rfl)
theorem dX3_placeOf_15 : decode cX3_placeOf 15 = .ok (.bipush 48, 2) := zo_16 (b1 := 48) (zkb2 zk_cX3_placeOf zn_cX3_placeOf rfl) rfl
theorem dX3_placeOf_17 : decode cX3_placeOf 17 = .ok (.iadd, 1) := zo_96 (zkb zk_cX3_placeOf zn_cX3_placeOf rfl)
theorem dX3_placeOf_18 : decode cX3_placeOf 18 = .ok (.goto 8, 3) := zo_167 (b1 := 0) (b2 := 8) (zkb3 zk_cX3_placeOf zn_cX3_placeOf rfl) rfl
theorem dX3_placeOf_21 : decode cX3_placeOf 21 = .ok (.iload_n 1, 1) := zo_27 (zkb zk_cX3_placeOf zn_cX3_placeOf rfl)
theorem dX3_placeOf_22 : decode cX3_placeOf 22 = .ok (.sipush 256, 3) := zo_17 (b1 := 1) (b2 := 0) (zkb3 zk_cX3_placeOf zn_cX3_placeOf rfl) rfl
theorem dX3_placeOf_25 : decode cX3_placeOf 25 = .ok (.imul, 1) := zo_104 (zkb zk_cX3_placeOf zn_cX3_placeOf rfl)
theorem dX3_placeOf_26 : decode cX3_placeOf 26 = .ok (.ireturn, 1) := zo_172 (zkb zk_cX3_placeOf zn_cX3_placeOf rfl)
noncomputable def kn_cX3_sumOfLine : Nat := 0xac1ce9ffa70105843d602e05150a00b42a681c1f101600a20415051505363b00b81d0304363500b8be0a00b42a603200b62a1d3e2e00b61b2a3d03
theorem zk_cX3_sumOfLine : zkd cX3_sumOfLine.data.toList kn_cX3_sumOfLine = true := by decide +kernel
theorem zn_cX3_sumOfLine : cX3_sumOfLine.data.toList.length = 59 := by decide +kernel
theorem dX3_sumOfLine_0 : decode cX3_sumOfLine 0 = .ok (.iconst 0, 1) := zo_3 (zkb zk_cX3_sumOfLine zn_cX3_sumOfLine rfl)
theorem dX3_sumOfLine_1 : decode cX3_sumOfLine 1 = .ok (.istore_n 2, 1) := zo_61 (zkb zk_cX3_sumOfLine zn_cX3_sumOfLine rfl)
theorem dX3_sumOfLine_2 : decode cX3_sumOfLine 2 = .ok (.aload_n 0, 1) := zo_42 (zkb zk_cX3_sumOfLine zn_cX3_sumOfLine rfl)
theorem dX3_sumOfLine_3 : decode cX3_sumOfLine 3 = .ok (.iload_n 1, 1) := zo_27 (zkb zk_cX3_sumOfLine zn_cX3_sumOfLine rfl)
theorem dX3_sumOfLine_4 : decode cX3_sumOfLine 4 = .ok (.invokevirtual 46, 3) := zo_182 (b1 := 0) (b2 := 46) (zkb3 zk_cX3_sumOfLine zn_cX3_sumOfLine rfl) rfl
theorem dX3_sumOfLine_7 : decode cX3_sumOfLine 7 = .ok (.istore_n 3, 1) := zo_62 (zkb zk_cX3_sumOfLine zn_cX3_sumOfLine rfl)
theorem dX3_sumOfLine_8 : decode cX3_sumOfLine 8 = .ok (.iload_n 3, 1) := zo_29 (zkb zk_cX3_sumOfLine zn_cX3_sumOfLine rfl)
theorem dX3_sumOfLine_9 : decode cX3_sumOfLine 9 = .ok (.aload_n 0, 1) := zo_42 (zkb zk_cX3_sumOfLine zn_cX3_sumOfLine rfl)
theorem dX3_sumOfLine_10 : decode cX3_sumOfLine 10 = .ok (.invokevirtual 50, 3) := zo_182 (b1 := 0) (b2 := 50) (zkb3 zk_cX3_sumOfLine zn_cX3_sumOfLine rfl) rfl
theorem dX3_sumOfLine_13 : decode cX3_sumOfLine 13 = .ok (.iadd, 1) := zo_96 (zkb zk_cX3_sumOfLine zn_cX3_sumOfLine rfl)
theorem dX3_sumOfLine_14 : decode cX3_sumOfLine 14 = .ok (.aload_n 0, 1) := zo_42 (zkb zk_cX3_sumOfLine zn_cX3_sumOfLine rfl)
theorem dX3_sumOfLine_15 : decode cX3_sumOfLine 15 = .ok (.getfield 10, 3) := zo_180 (b1 := 0) (b2 := 10) (zkb3 zk_cX3_sumOfLine zn_cX3_sumOfLine rfl) rfl
theorem dX3_sumOfLine_18 : decode cX3_sumOfLine 18 = .ok (.arraylength, 1) := zo_190 (zkb zk_cX3_sumOfLine zn_cX3_sumOfLine rfl)
theorem dX3_sumOfLine_19 : decode cX3_sumOfLine 19 = .ok (.invokestatic 53, 3) := zo_184 (b1 := 0) (b2 := 53) (zkb3 zk_cX3_sumOfLine zn_cX3_sumOfLine rfl) rfl
theorem dX3_sumOfLine_22 : decode cX3_sumOfLine 22 = .ok (.istore 4, 2) := zo_54 (b1 := 4) (zkb2 zk_cX3_sumOfLine zn_cX3_sumOfLine rfl)
theorem dX3_sumOfLine_24 : decode cX3_sumOfLine 24 = .ok (.iconst 0, 1) := zo_3 (zkb zk_cX3_sumOfLine zn_cX3_sumOfLine rfl)
theorem dX3_sumOfLine_25 : decode cX3_sumOfLine 25 = .ok (.iload_n 3, 1) := zo_29 (zkb zk_cX3_sumOfLine zn_cX3_sumOfLine rfl)
theorem dX3_sumOfLine_26 : decode cX3_sumOfLine 26 = .ok (.invokestatic 59, 3) := zo_184 (b1 := 0) (b2 := 59) (zkb3 zk_cX3_sumOfLine zn_cX3_sumOfLine rfl) rfl
theorem dX3_sumOfLine_29 : decode cX3_sumOfLine 29 = .ok (.istore 5, 2) := zo_54 (b1 := 5) (zkb2 zk_cX3_sumOfLine zn_cX3_sumOfLine rfl)
theorem dX3_sumOfLine_31 : decode cX3_sumOfLine 31 = .ok (.iload 5, 2) := zo_21 (b1 := 5) (zkb2 zk_cX3_sumOfLine zn_cX3_sumOfLine rfl)
theorem dX3_sumOfLine_33 : decode cX3_sumOfLine 33 = .ok (.iload 4, 2) := zo_21 (b1 := 4) (zkb2 zk_cX3_sumOfLine zn_cX3_sumOfLine rfl)
theorem dX3_sumOfLine_35 : decode cX3_sumOfLine 35 = .ok (.if_icmp .ge 22, 3) := zo_162 (b1 := 0) (b2 := 22) (zkb3 zk_cX3_sumOfLine zn_cX3_sumOfLine rfl) rfl
theorem dX3_sumOfLine_38 : decode cX3_sumOfLine 38 = .ok (.bipush 31, 2) := zo_16 (b1 := 31) (zkb2 zk_cX3_sumOfLine zn_cX3_sumOfLine rfl) rfl
theorem dX3_sumOfLine_40 : decode cX3_sumOfLine 40 = .ok (.iload_n 2, 1) := zo_28 (zkb zk_cX3_sumOfLine zn_cX3_sumOfLine rfl)
theorem dX3_sumOfLine_41 : decode cX3_sumOfLine 41 = .ok (.imul, 1) := zo_104 (zkb zk_cX3_sumOfLine zn_cX3_sumOfLine rfl)
theorem dX3_sumOfLine_42 : decode cX3_sumOfLine 42 = .ok (.aload_n 0, 1) := zo_42 (zkb zk_cX3_sumOfLine zn_cX3_sumOfLine rfl)
theorem dX3_sumOfLine_43 : decode cX3_sumOfLine 43 = .ok (.getfield 10, 3) := zo_180 (b1 := 0) (b2 := 10) (zkb3 zk_cX3_sumOfLine zn_cX3_sumOfLine rfl) rfl
theorem dX3_sumOfLine_46 : decode cX3_sumOfLine 46 = .ok (.iload 5, 2) := zo_21 (b1 := 5) (zkb2 zk_cX3_sumOfLine zn_cX3_sumOfLine rfl)
theorem dX3_sumOfLine_48 : decode cX3_sumOfLine 48 = .ok (.iaload, 1) := zo_46 (zkb zk_cX3_sumOfLine zn_cX3_sumOfLine rfl)
theorem dX3_sumOfLine_49 : decode cX3_sumOfLine 49 = .ok (.iadd, 1) := zo_96 (zkb zk_cX3_sumOfLine zn_cX3_sumOfLine rfl)
theorem dX3_sumOfLine_50 : decode cX3_sumOfLine 50 = .ok (.istore_n 2, 1) := zo_61 (zkb zk_cX3_sumOfLine zn_cX3_sumOfLine rfl)
theorem dX3_sumOfLine_51 : decode cX3_sumOfLine 51 = .ok (.iinc 5 1, 3) := zo_132 (b1 := 5) (b2 := 1) (zkb3 zk_cX3_sumOfLine zn_cX3_sumOfLine rfl) rfl
theorem dX3_sumOfLine_54 : decode cX3_sumOfLine 54 = .ok (.goto (-23), 3) := zo_167 (b1 := 255) (b2 := 233) (zkb3 zk_cX3_sumOfLine zn_cX3_sumOfLine rfl) rfl
theorem dX3_sumOfLine_57 : decode cX3_sumOfLine 57 = .ok (.iload_n 2, 1) := zo_28 (zkb zk_cX3_sumOfLine zn_cX3_sumOfLine rfl)
theorem dX3_sumOfLine_58 : decode cX3_sumOfLine 58 = .ok (.ireturn, 1) := zo_172 (zkb zk_cX3_sumOfLine zn_cX3_sumOfLine rfl)
noncomputable def kn_cX3_mixColours : Nat := 0xb17dffa70102844f1d0400a760687a071d00051160687e067a051d5010687e061d081c00991e00b42a1c1700b42a3e2e7e0f101c6100b23300a74f7e3f103e00b6601c20101a00b42a1100a77eff0f11807808103e00b6600460681c0520101a00b42a3e00b660681c0520101a00b42a2a00991e00b42a1c1700b42a4800a0071b8300a220101c3d03
theorem zk_cX3_mixColours : zkd cX3_mixColours.data.toList kn_cX3_mixColours = true := by decide +kernel
theorem zn_cX3_mixColours : cX3_mixColours.data.toList.length = 137 := by decide +kernel
theorem dX3_mixColours_0 : decode cX3_mixColours 0 = .ok (.iconst 0, 1) := zo_3 (zkb zk_cX3_mixColours zn_cX3_mixColours rfl)
theorem dX3_mixColours_1 : decode cX3_mixColours 1 = .ok (.istore_n 2, 1) := zo_61 (zkb zk_cX3_mixColours zn_cX3_mixColours rfl)
theorem dX3_mixColours_2 : decode cX3_mixColours 2 = .ok (.iload_n 2, 1) := zo_28 (zkb zk_cX3_mixColours zn_cX3_mixColours rfl)
theorem dX3_mixColours_3 : decode cX3_mixColours 3 = .ok (.bipush 32, 2) := zo_16 (b1 := 32) (zkb2 zk_cX3_mixColours zn_cX3_mixColours rfl) rfl
theorem dX3_mixColours_5 : decode cX3_mixColours 5 = .ok (.if_icmp .ge 131, 3) := zo_162 (b1 := 0) (b2 := 131) (zkb3 zk_cX3_mixColours zn_cX3_mixColours rfl) rfl
theorem dX3_mixColours_8 : decode cX3_mixColours 8 = .ok (.iload_n 1, 1) := zo_27 (zkb zk_cX3_mixColours zn_cX3_mixColours rfl)
theorem dX3_mixColours_9 : decode cX3_mixColours 9 = .ok (.iconst 4, 1) := zo_7 (zkb zk_cX3_mixColours zn_cX3_mixColours rfl)
theorem dX3_mixColours_10 : decode cX3_mixColours 10 = .ok (.if_icmp .ne 72, 3) := zo_160 (b1 := 0) (b2 := 72) (zkb3 zk_cX3_mixColours zn_cX3_mixColours rfl) rfl
theorem dX3_mixColours_13 : decode cX3_mixColours 13 = .ok (.aload_n 0, 1) := zo_42 (zkb zk_cX3_mixColours zn_cX3_mixColours rfl)
theorem dX3_mixColours_14 : decode cX3_mixColours 14 = .ok (.getfield 23, 3) := zo_180 (b1 := 0) (b2 := 23) (zkb3 zk_cX3_mixColours zn_cX3_mixColours rfl) rfl
theorem dX3_mixColours_17 : decode cX3_mixColours 17 = .ok (.iload_n 2, 1) := zo_28 (zkb zk_cX3_mixColours zn_cX3_mixColours rfl)
theorem dX3_mixColours_18 : decode cX3_mixColours 18 = .ok (.aload_n 0, 1) := zo_42 (zkb zk_cX3_mixColours zn_cX3_mixColours rfl)
theorem dX3_mixColours_19 : decode cX3_mixColours 19 = .ok (.getfield 30, 3) := zo_180 (b1 := 0) (b2 := 30) (zkb3 zk_cX3_mixColours zn_cX3_mixColours rfl) rfl
theorem dX3_mixColours_22 : decode cX3_mixColours 22 = .ok (.ifCond .eq 42, 3) := zo_153 (b1 := 0) (b2 := 42) (zkb3 zk_cX3_mixColours zn_cX3_mixColours rfl) rfl
theorem dX3_mixColours_25 : decode cX3_mixColours 25 = .ok (.aload_n 0, 1) := zo_42 (zkb zk_cX3_mixColours zn_cX3_mixColours rfl)
theorem dX3_mixColours_26 : decode cX3_mixColours 26 = .ok (.getfield 26, 3) := zo_180 (b1 := 0) (b2 := 26) (zkb3 zk_cX3_mixColours zn_cX3_mixColours rfl) rfl
theorem dX3_mixColours_29 : decode cX3_mixColours 29 = .ok (.bipush 32, 2) := zo_16 (b1 := 32) (zkb2 zk_cX3_mixColours zn_cX3_mixColours rfl) rfl
theorem dX3_mixColours_31 : decode cX3_mixColours 31 = .ok (.iconst 2, 1) := zo_5 (zkb zk_cX3_mixColours zn_cX3_mixColours rfl)
theorem dX3_mixColours_32 : decode cX3_mixColours 32 = .ok (.iload_n 2, 1) := zo_28 (zkb zk_cX3_mixColours zn_cX3_mixColours rfl)
theorem dX3_mixColours_33 : decode cX3_mixColours 33 = .ok (.imul, 1) := zo_104 (zkb zk_cX3_mixColours zn_cX3_mixColours rfl)
theorem dX3_mixColours_34 : decode cX3_mixColours 34 = .ok (.iadd, 1) := zo_96 (zkb zk_cX3_mixColours zn_cX3_mixColours rfl)
theorem dX3_mixColours_35 : decode cX3_mixColours 35 = .ok (.invokevirtual 62, 3) := zo_182 (b1 := 0) (b2 := 62) (zkb3 zk_cX3_mixColours zn_cX3_mixColours rfl) rfl
theorem dX3_mixColours_38 : decode cX3_mixColours 38 = .ok (.aload_n 0, 1) := zo_42 (zkb zk_cX3_mixColours zn_cX3_mixColours rfl)
theorem dX3_mixColours_39 : decode cX3_mixColours 39 = .ok (.getfield 26, 3) := zo_180 (b1 := 0) (b2 := 26) (zkb3 zk_cX3_mixColours zn_cX3_mixColours rfl) rfl
theorem dX3_mixColours_42 : decode cX3_mixColours 42 = .ok (.bipush 32, 2) := zo_16 (b1 := 32) (zkb2 zk_cX3_mixColours zn_cX3_mixColours rfl) rfl
theorem dX3_mixColours_44 : decode cX3_mixColours 44 = .ok (.iconst 2, 1) := zo_5 (zkb zk_cX3_mixColours zn_cX3_mixColours rfl)
theorem dX3_mixColours_45 : decode cX3_mixColours 45 = .ok (.iload_n 2, 1) := zo_28 (zkb zk_cX3_mixColours zn_cX3_mixColours rfl)
theorem dX3_mixColours_46 : decode cX3_mixColours 46 = .ok (.imul, 1) := zo_104 (zkb zk_cX3_mixColours zn_cX3_mixColours rfl)
theorem dX3_mixColours_47 : decode cX3_mixColours 47 = .ok (.iadd, 1) := zo_96 (zkb zk_cX3_mixColours zn_cX3_mixColours rfl)
theorem dX3_mixColours_48 : decode cX3_mixColours 48 = .ok (.iconst 1, 1) := zo_4 (zkb zk_cX3_mixColours zn_cX3_mixColours rfl)
theorem dX3_mixColours_49 : decode cX3_mixColours 49 = .ok (.iadd, 1) := zo_96 (zkb zk_cX3_mixColours zn_cX3_mixColours rfl)
theorem dX3_mixColours_50 : decode cX3_mixColours 50 = .ok (.invokevirtual 62, 3) := zo_182 (b1 := 0) (b2 := 62) (zkb3 zk_cX3_mixColours zn_cX3_mixColours rfl) rfl
theorem dX3_mixColours_53 : decode cX3_mixColours 53 = .ok (.bipush 8, 2) := zo_16 (b1 := 8) (zkb2 zk_cX3_mixColours zn_cX3_mixColours rfl) rfl
theorem dX3_mixColours_55 : decode cX3_mixColours 55 = .ok (.ishl, 1) := zo_120 (zkb zk_cX3_mixColours zn_cX3_mixColours rfl)
theorem dX3_mixColours_56 : decode cX3_mixColours 56 = .ok (.ior, 1) := zo_128 (zkb zk_cX3_mixColours zn_cX3_mixColours rfl)
theorem dX3_mixColours_57 : decode cX3_mixColours 57 = .ok (.sipush 4095, 3) := zo_17 (b1 := 15) (b2 := 255) (zkb3 zk_cX3_mixColours zn_cX3_mixColours rfl) rfl
theorem dX3_mixColours_60 : decode cX3_mixColours 60 = .ok (.iand, 1) := zo_126 (zkb zk_cX3_mixColours zn_cX3_mixColours rfl)
theorem dX3_mixColours_61 : decode cX3_mixColours 61 = .ok (.goto 17, 3) := zo_167 (b1 := 0) (b2 := 17) (zkb3 zk_cX3_mixColours zn_cX3_mixColours rfl) rfl
theorem dX3_mixColours_64 : decode cX3_mixColours 64 = .ok (.aload_n 0, 1) := zo_42 (zkb zk_cX3_mixColours zn_cX3_mixColours rfl)
theorem dX3_mixColours_65 : decode cX3_mixColours 65 = .ok (.getfield 26, 3) := zo_180 (b1 := 0) (b2 := 26) (zkb3 zk_cX3_mixColours zn_cX3_mixColours rfl) rfl
theorem dX3_mixColours_68 : decode cX3_mixColours 68 = .ok (.bipush 32, 2) := zo_16 (b1 := 32) (zkb2 zk_cX3_mixColours zn_cX3_mixColours rfl) rfl
theorem dX3_mixColours_70 : decode cX3_mixColours 70 = .ok (.iload_n 2, 1) := zo_28 (zkb zk_cX3_mixColours zn_cX3_mixColours rfl)
theorem dX3_mixColours_71 : decode cX3_mixColours 71 = .ok (.iadd, 1) := zo_96 (zkb zk_cX3_mixColours zn_cX3_mixColours rfl)
theorem dX3_mixColours_72 : decode cX3_mixColours 72 = .ok (.invokevirtual 62, 3) := zo_182 (b1 := 0) (b2 := 62) (zkb3 zk_cX3_mixColours zn_cX3_mixColours rfl) rfl
theorem dX3_mixColours_75 : decode cX3_mixColours 75 = .ok (.bipush 63, 2) := zo_16 (b1 := 63) (zkb2 zk_cX3_mixColours zn_cX3_mixColours rfl) rfl
theorem dX3_mixColours_77 : decode cX3_mixColours 77 = .ok (.iand, 1) := zo_126 (zkb zk_cX3_mixColours zn_cX3_mixColours rfl)
theorem dX3_mixColours_78 : decode cX3_mixColours 78 = .ok (.iastore, 1) := zo_79 (zkb zk_cX3_mixColours zn_cX3_mixColours rfl)
theorem dX3_mixColours_79 : decode cX3_mixColours 79 = .ok (.goto 51, 3) := zo_167 (b1 := 0) (b2 := 51) (zkb3 zk_cX3_mixColours zn_cX3_mixColours rfl) rfl
theorem dX3_mixColours_82 : decode cX3_mixColours 82 = .ok (.getstatic 97, 3) := zo_178 (b1 := 0) (b2 := 97) (zkb3 zk_cX3_mixColours zn_cX3_mixColours rfl) rfl
theorem dX3_mixColours_85 : decode cX3_mixColours 85 = .ok (.iload_n 2, 1) := zo_28 (zkb zk_cX3_mixColours zn_cX3_mixColours rfl)
theorem dX3_mixColours_86 : decode cX3_mixColours 86 = .ok (.bipush 15, 2) := zo_16 (b1 := 15) (zkb2 zk_cX3_mixColours zn_cX3_mixColours rfl) rfl
theorem dX3_mixColours_88 : decode cX3_mixColours 88 = .ok (.iand, 1) := zo_126 (zkb zk_cX3_mixColours zn_cX3_mixColours rfl)
theorem dX3_mixColours_89 : decode cX3_mixColours 89 = .ok (.iaload, 1) := zo_46 (zkb zk_cX3_mixColours zn_cX3_mixColours rfl)
theorem dX3_mixColours_90 : decode cX3_mixColours 90 = .ok (.istore_n 3, 1) := zo_62 (zkb zk_cX3_mixColours zn_cX3_mixColours rfl)
theorem dX3_mixColours_91 : decode cX3_mixColours 91 = .ok (.aload_n 0, 1) := zo_42 (zkb zk_cX3_mixColours zn_cX3_mixColours rfl)
theorem dX3_mixColours_92 : decode cX3_mixColours 92 = .ok (.getfield 23, 3) := zo_180 (b1 := 0) (b2 := 23) (zkb3 zk_cX3_mixColours zn_cX3_mixColours rfl) rfl
theorem dX3_mixColours_95 : decode cX3_mixColours 95 = .ok (.iload_n 2, 1) := zo_28 (zkb zk_cX3_mixColours zn_cX3_mixColours rfl)
theorem dX3_mixColours_96 : decode cX3_mixColours 96 = .ok (.aload_n 0, 1) := zo_42 (zkb zk_cX3_mixColours zn_cX3_mixColours rfl)
theorem dX3_mixColours_97 : decode cX3_mixColours 97 = .ok (.getfield 30, 3) := zo_180 (b1 := 0) (b2 := 30) (zkb3 zk_cX3_mixColours zn_cX3_mixColours rfl) rfl
theorem dX3_mixColours_100 : decode cX3_mixColours 100 = .ok (.ifCond .eq 28, 3) := zo_153 (b1 := 0) (b2 := 28) (zkb3 zk_cX3_mixColours zn_cX3_mixColours rfl) rfl
theorem dX3_mixColours_103 : decode cX3_mixColours 103 = .ok (.iconst 5, 1) := zo_8 (zkb zk_cX3_mixColours zn_cX3_mixColours rfl)
theorem dX3_mixColours_104 : decode cX3_mixColours 104 = .ok (.iload_n 3, 1) := zo_29 (zkb zk_cX3_mixColours zn_cX3_mixColours rfl)
theorem dX3_mixColours_105 : decode cX3_mixColours 105 = .ok (.iconst 3, 1) := zo_6 (zkb zk_cX3_mixColours zn_cX3_mixColours rfl)
theorem dX3_mixColours_106 : decode cX3_mixColours 106 = .ok (.iand, 1) := zo_126 (zkb zk_cX3_mixColours zn_cX3_mixColours rfl)
theorem dX3_mixColours_107 : decode cX3_mixColours 107 = .ok (.imul, 1) := zo_104 (zkb zk_cX3_mixColours zn_cX3_mixColours rfl)
theorem dX3_mixColours_108 : decode cX3_mixColours 108 = .ok (.bipush 80, 2) := zo_16 (b1 := 80) (zkb2 zk_cX3_mixColours zn_cX3_mixColours rfl) rfl
theorem dX3_mixColours_110 : decode cX3_mixColours 110 = .ok (.iload_n 3, 1) := zo_29 (zkb zk_cX3_mixColours zn_cX3_mixColours rfl)
theorem dX3_mixColours_111 : decode cX3_mixColours 111 = .ok (.iconst 2, 1) := zo_5 (zkb zk_cX3_mixColours zn_cX3_mixColours rfl)
theorem dX3_mixColours_112 : decode cX3_mixColours 112 = .ok (.ishr, 1) := zo_122 (zkb zk_cX3_mixColours zn_cX3_mixColours rfl)
theorem dX3_mixColours_113 : decode cX3_mixColours 113 = .ok (.iconst 3, 1) := zo_6 (zkb zk_cX3_mixColours zn_cX3_mixColours rfl)
theorem dX3_mixColours_114 : decode cX3_mixColours 114 = .ok (.iand, 1) := zo_126 (zkb zk_cX3_mixColours zn_cX3_mixColours rfl)
theorem dX3_mixColours_115 : decode cX3_mixColours 115 = .ok (.imul, 1) := zo_104 (zkb zk_cX3_mixColours zn_cX3_mixColours rfl)
theorem dX3_mixColours_116 : decode cX3_mixColours 116 = .ok (.iadd, 1) := zo_96 (zkb zk_cX3_mixColours zn_cX3_mixColours rfl)
theorem dX3_mixColours_117 : decode cX3_mixColours 117 = .ok (.sipush 1280, 3) := zo_17 (b1 := 5) (b2 := 0) (zkb3 zk_cX3_mixColours zn_cX3_mixColours rfl) rfl
theorem dX3_mixColours_120 : decode cX3_mixColours 120 = .ok (.iload_n 3, 1) := zo_29 (zkb zk_cX3_mixColours zn_cX3_mixColours rfl)
theorem dX3_mixColours_121 : decode cX3_mixColours 121 = .ok (.iconst 4, 1) := zo_7 (zkb zk_cX3_mixColours zn_cX3_mixColours rfl)
theorem dX3_mixColours_122 : decode cX3_mixColours 122 = .ok (.ishr, 1) := zo_122 (zkb zk_cX3_mixColours zn_cX3_mixColours rfl)
theorem dX3_mixColours_123 : decode cX3_mixColours 123 = .ok (.imul, 1) := zo_104 (zkb zk_cX3_mixColours zn_cX3_mixColours rfl)
theorem dX3_mixColours_124 : decode cX3_mixColours 124 = .ok (.iadd, 1) := zo_96 (zkb zk_cX3_mixColours zn_cX3_mixColours rfl)
theorem dX3_mixColours_125 : decode cX3_mixColours 125 = .ok (.goto 4, 3) := zo_167 (b1 := 0) (b2 := 4) (zkb3 zk_cX3_mixColours zn_cX3_mixColours rfl) rfl
theorem dX3_mixColours_128 : decode cX3_mixColours 128 = .ok (.iload_n 3, 1) := zo_29 (zkb zk_cX3_mixColours zn_cX3_mixColours rfl)
theorem dX3_mixColours_129 : decode cX3_mixColours 129 = .ok (.iastore, 1) := zo_79 (zkb zk_cX3_mixColours zn_cX3_mixColours rfl)
theorem dX3_mixColours_130 : decode cX3_mixColours 130 = .ok (.iinc 2 1, 3) := zo_132 (b1 := 2) (b2 := 1) (zkb3 zk_cX3_mixColours zn_cX3_mixColours rfl) rfl
theorem dX3_mixColours_133 : decode cX3_mixColours 133 = .ok (.goto (-131), 3) := zo_167 (b1 := 255) (b2 := 125) (zkb3 zk_cX3_mixColours zn_cX3_mixColours rfl) rfl
theorem dX3_mixColours_136 : decode cX3_mixColours 136 = .ok (.return_, 1) := zo_177 (zkb zk_cX3_mixColours zn_cX3_mixColours rfl)
noncomputable def kn_cX3_drawTiles : Nat := 0xb14effa70109844f60030400a70001110900990d1560030400a710100800997e0008116700b42a0c1509151100b42a0d36030400a7040700997e0010116700b42a12009e0c150c366e00b80b156b00b42a0b367e07100a150800a7647e07100a1507100e00997e0002116700b42a6400b607150500a71b0700a1c0001109150f0099081560687a060a150505152a23009a7e07100a150b009fc00011091513009909150a367eff00116406150915b000a200011109150936030836030400a7040700997e8000111d073670e000110600a70001110900991c603e00b613101a00b42a1b06363e00b608101a00b42a0c00a7030700997e40101d0e00a210101b0536687e0e1004150004110c00a760000711687e067a0504150010111400991c04363e00b6051a00b42a3e3e00b6031a00b42a3d030400a70407009fc000112800b61a00b42a
theorem zk_cX3_drawTiles : zkd cX3_drawTiles.data.toList kn_cX3_drawTiles = true := by decide +kernel
theorem zn_cX3_drawTiles : cX3_drawTiles.data.toList.length = 325 := by decide +kernel
theorem dX3_drawTiles_0 : decode cX3_drawTiles 0 = .ok (.aload_n 0, 1) := zo_42 (zkb zk_cX3_drawTiles zn_cX3_drawTiles rfl)
theorem dX3_drawTiles_1 : decode cX3_drawTiles 1 = .ok (.getfield 26, 3) := zo_180 (b1 := 0) (b2 := 26) (zkb3 zk_cX3_drawTiles zn_cX3_drawTiles rfl) rfl
theorem dX3_drawTiles_4 : decode cX3_drawTiles 4 = .ok (.invokevirtual 40, 3) := zo_182 (b1 := 0) (b2 := 40) (zkb3 zk_cX3_drawTiles zn_cX3_drawTiles rfl) rfl
theorem dX3_drawTiles_7 : decode cX3_drawTiles 7 = .ok (.sipush 192, 3) := zo_17 (b1 := 0) (b2 := 192) (zkb3 zk_cX3_drawTiles zn_cX3_drawTiles rfl) rfl
theorem dX3_drawTiles_10 : decode cX3_drawTiles 10 = .ok (.if_icmp .eq 7, 3) := zo_159 (b1 := 0) (b2 := 7) (zkb3 zk_cX3_drawTiles zn_cX3_drawTiles rfl) rfl
theorem dX3_drawTiles_13 : decode cX3_drawTiles 13 = .ok (.iconst 1, 1) := zo_4 (zkb zk_cX3_drawTiles zn_cX3_drawTiles rfl)
theorem dX3_drawTiles_14 : decode cX3_drawTiles 14 = .ok (.goto 4, 3) := zo_167 (b1 := 0) (b2 := 4) (zkb3 zk_cX3_drawTiles zn_cX3_drawTiles rfl) rfl
theorem dX3_drawTiles_17 : decode cX3_drawTiles 17 = .ok (.iconst 0, 1) := zo_3 (zkb zk_cX3_drawTiles zn_cX3_drawTiles rfl)
theorem dX3_drawTiles_18 : decode cX3_drawTiles 18 = .ok (.istore_n 2, 1) := zo_61 (zkb zk_cX3_drawTiles zn_cX3_drawTiles rfl)
theorem dX3_drawTiles_19 : decode cX3_drawTiles 19 = .ok (.aload_n 0, 1) := zo_42 (zkb zk_cX3_drawTiles zn_cX3_drawTiles rfl)
theorem dX3_drawTiles_20 : decode cX3_drawTiles 20 = .ok (.getfield 26, 3) := zo_180 (b1 := 0) (b2 := 26) (zkb3 zk_cX3_drawTiles zn_cX3_drawTiles rfl) rfl
theorem dX3_drawTiles_23 : decode cX3_drawTiles 23 = .ok (.iconst 0, 1) := zo_3 (zkb zk_cX3_drawTiles zn_cX3_drawTiles rfl)
theorem dX3_drawTiles_24 : decode cX3_drawTiles 24 = .ok (.invokevirtual 62, 3) := zo_182 (b1 := 0) (b2 := 62) (zkb3 zk_cX3_drawTiles zn_cX3_drawTiles rfl) rfl
theorem dX3_drawTiles_27 : decode cX3_drawTiles 27 = .ok (.istore_n 3, 1) := zo_62 (zkb zk_cX3_drawTiles zn_cX3_drawTiles rfl)
theorem dX3_drawTiles_28 : decode cX3_drawTiles 28 = .ok (.aload_n 0, 1) := zo_42 (zkb zk_cX3_drawTiles zn_cX3_drawTiles rfl)
theorem dX3_drawTiles_29 : decode cX3_drawTiles 29 = .ok (.getfield 26, 3) := zo_180 (b1 := 0) (b2 := 26) (zkb3 zk_cX3_drawTiles zn_cX3_drawTiles rfl) rfl
theorem dX3_drawTiles_32 : decode cX3_drawTiles 32 = .ok (.iconst 2, 1) := zo_5 (zkb zk_cX3_drawTiles zn_cX3_drawTiles rfl)
theorem dX3_drawTiles_33 : decode cX3_drawTiles 33 = .ok (.invokevirtual 62, 3) := zo_182 (b1 := 0) (b2 := 62) (zkb3 zk_cX3_drawTiles zn_cX3_drawTiles rfl) rfl
theorem dX3_drawTiles_36 : decode cX3_drawTiles 36 = .ok (.istore 4, 2) := zo_54 (b1 := 4) (zkb2 zk_cX3_drawTiles zn_cX3_drawTiles rfl)
theorem dX3_drawTiles_38 : decode cX3_drawTiles 38 = .ok (.iload_n 2, 1) := zo_28 (zkb zk_cX3_drawTiles zn_cX3_drawTiles rfl)
theorem dX3_drawTiles_39 : decode cX3_drawTiles 39 = .ok (.ifCond .eq 20, 3) := zo_153 (b1 := 0) (b2 := 20) (zkb3 zk_cX3_drawTiles zn_cX3_drawTiles rfl) rfl
theorem dX3_drawTiles_42 : decode cX3_drawTiles 42 = .ok (.sipush 4096, 3) := zo_17 (b1 := 16) (b2 := 0) (zkb3 zk_cX3_drawTiles zn_cX3_drawTiles rfl) rfl
theorem dX3_drawTiles_45 : decode cX3_drawTiles 45 = .ok (.iload 4, 2) := zo_21 (b1 := 4) (zkb2 zk_cX3_drawTiles zn_cX3_drawTiles rfl)
theorem dX3_drawTiles_47 : decode cX3_drawTiles 47 = .ok (.iconst 2, 1) := zo_5 (zkb zk_cX3_drawTiles zn_cX3_drawTiles rfl)
theorem dX3_drawTiles_48 : decode cX3_drawTiles 48 = .ok (.ishr, 1) := zo_122 (zkb zk_cX3_drawTiles zn_cX3_drawTiles rfl)
theorem dX3_drawTiles_49 : decode cX3_drawTiles 49 = .ok (.iconst 3, 1) := zo_6 (zkb zk_cX3_drawTiles zn_cX3_drawTiles rfl)
theorem dX3_drawTiles_50 : decode cX3_drawTiles 50 = .ok (.iand, 1) := zo_126 (zkb zk_cX3_drawTiles zn_cX3_drawTiles rfl)
theorem dX3_drawTiles_51 : decode cX3_drawTiles 51 = .ok (.imul, 1) := zo_104 (zkb zk_cX3_drawTiles zn_cX3_drawTiles rfl)
theorem dX3_drawTiles_52 : decode cX3_drawTiles 52 = .ok (.sipush 1792, 3) := zo_17 (b1 := 7) (b2 := 0) (zkb3 zk_cX3_drawTiles zn_cX3_drawTiles rfl) rfl
theorem dX3_drawTiles_55 : decode cX3_drawTiles 55 = .ok (.iadd, 1) := zo_96 (zkb zk_cX3_drawTiles zn_cX3_drawTiles rfl)
theorem dX3_drawTiles_56 : decode cX3_drawTiles 56 = .ok (.goto 12, 3) := zo_167 (b1 := 0) (b2 := 12) (zkb3 zk_cX3_drawTiles zn_cX3_drawTiles rfl) rfl
theorem dX3_drawTiles_59 : decode cX3_drawTiles 59 = .ok (.sipush 1024, 3) := zo_17 (b1 := 4) (b2 := 0) (zkb3 zk_cX3_drawTiles zn_cX3_drawTiles rfl) rfl
theorem dX3_drawTiles_62 : decode cX3_drawTiles 62 = .ok (.iload 4, 2) := zo_21 (b1 := 4) (zkb2 zk_cX3_drawTiles zn_cX3_drawTiles rfl)
theorem dX3_drawTiles_64 : decode cX3_drawTiles 64 = .ok (.bipush 14, 2) := zo_16 (b1 := 14) (zkb2 zk_cX3_drawTiles zn_cX3_drawTiles rfl) rfl
theorem dX3_drawTiles_66 : decode cX3_drawTiles 66 = .ok (.iand, 1) := zo_126 (zkb zk_cX3_drawTiles zn_cX3_drawTiles rfl)
theorem dX3_drawTiles_67 : decode cX3_drawTiles 67 = .ok (.imul, 1) := zo_104 (zkb zk_cX3_drawTiles zn_cX3_drawTiles rfl)
theorem dX3_drawTiles_68 : decode cX3_drawTiles 68 = .ok (.istore 5, 2) := zo_54 (b1 := 5) (zkb2 zk_cX3_drawTiles zn_cX3_drawTiles rfl)
theorem dX3_drawTiles_70 : decode cX3_drawTiles 70 = .ok (.iload_n 1, 1) := zo_27 (zkb zk_cX3_drawTiles zn_cX3_drawTiles rfl)
theorem dX3_drawTiles_71 : decode cX3_drawTiles 71 = .ok (.bipush 16, 2) := zo_16 (b1 := 16) (zkb2 zk_cX3_drawTiles zn_cX3_drawTiles rfl) rfl
theorem dX3_drawTiles_73 : decode cX3_drawTiles 73 = .ok (.if_icmp .ge 14, 3) := zo_162 (b1 := 0) (b2 := 14) (zkb3 zk_cX3_drawTiles zn_cX3_drawTiles rfl) rfl
theorem dX3_drawTiles_76 : decode cX3_drawTiles 76 = .ok (.iload_n 3, 1) := zo_29 (zkb zk_cX3_drawTiles zn_cX3_drawTiles rfl)
theorem dX3_drawTiles_77 : decode cX3_drawTiles 77 = .ok (.bipush 64, 2) := zo_16 (b1 := 64) (zkb2 zk_cX3_drawTiles zn_cX3_drawTiles rfl) rfl
theorem dX3_drawTiles_79 : decode cX3_drawTiles 79 = .ok (.iand, 1) := zo_126 (zkb zk_cX3_drawTiles zn_cX3_drawTiles rfl)
theorem dX3_drawTiles_80 : decode cX3_drawTiles 80 = .ok (.ifCond .eq 7, 3) := zo_153 (b1 := 0) (b2 := 7) (zkb3 zk_cX3_drawTiles zn_cX3_drawTiles rfl) rfl
theorem dX3_drawTiles_83 : decode cX3_drawTiles 83 = .ok (.iconst 0, 1) := zo_3 (zkb zk_cX3_drawTiles zn_cX3_drawTiles rfl)
theorem dX3_drawTiles_84 : decode cX3_drawTiles 84 = .ok (.goto 12, 3) := zo_167 (b1 := 0) (b2 := 12) (zkb3 zk_cX3_drawTiles zn_cX3_drawTiles rfl) rfl
theorem dX3_drawTiles_87 : decode cX3_drawTiles 87 = .ok (.aload_n 0, 1) := zo_42 (zkb zk_cX3_drawTiles zn_cX3_drawTiles rfl)
theorem dX3_drawTiles_88 : decode cX3_drawTiles 88 = .ok (.getfield 26, 3) := zo_180 (b1 := 0) (b2 := 26) (zkb3 zk_cX3_drawTiles zn_cX3_drawTiles rfl) rfl
theorem dX3_drawTiles_91 : decode cX3_drawTiles 91 = .ok (.bipush 8, 2) := zo_16 (b1 := 8) (zkb2 zk_cX3_drawTiles zn_cX3_drawTiles rfl) rfl
theorem dX3_drawTiles_93 : decode cX3_drawTiles 93 = .ok (.invokevirtual 62, 3) := zo_182 (b1 := 0) (b2 := 62) (zkb3 zk_cX3_drawTiles zn_cX3_drawTiles rfl) rfl
theorem dX3_drawTiles_96 : decode cX3_drawTiles 96 = .ok (.istore 6, 2) := zo_54 (b1 := 6) (zkb2 zk_cX3_drawTiles zn_cX3_drawTiles rfl)
theorem dX3_drawTiles_98 : decode cX3_drawTiles 98 = .ok (.iload_n 1, 1) := zo_27 (zkb zk_cX3_drawTiles zn_cX3_drawTiles rfl)
theorem dX3_drawTiles_99 : decode cX3_drawTiles 99 = .ok (.aload_n 0, 1) := zo_42 (zkb zk_cX3_drawTiles zn_cX3_drawTiles rfl)
theorem dX3_drawTiles_100 : decode cX3_drawTiles 100 = .ok (.getfield 26, 3) := zo_180 (b1 := 0) (b2 := 26) (zkb3 zk_cX3_drawTiles zn_cX3_drawTiles rfl) rfl
theorem dX3_drawTiles_103 : decode cX3_drawTiles 103 = .ok (.bipush 19, 2) := zo_16 (b1 := 19) (zkb2 zk_cX3_drawTiles zn_cX3_drawTiles rfl) rfl
theorem dX3_drawTiles_105 : decode cX3_drawTiles 105 = .ok (.invokevirtual 62, 3) := zo_182 (b1 := 0) (b2 := 62) (zkb3 zk_cX3_drawTiles zn_cX3_drawTiles rfl) rfl
theorem dX3_drawTiles_108 : decode cX3_drawTiles 108 = .ok (.iadd, 1) := zo_96 (zkb zk_cX3_drawTiles zn_cX3_drawTiles rfl)
theorem dX3_drawTiles_109 : decode cX3_drawTiles 109 = .ok (.iload_n 2, 1) := zo_28 (zkb zk_cX3_drawTiles zn_cX3_drawTiles rfl)
theorem dX3_drawTiles_110 : decode cX3_drawTiles 110 = .ok (.ifCond .eq 9, 3) := zo_153 (b1 := 0) (b2 := 9) (zkb3 zk_cX3_drawTiles zn_cX3_drawTiles rfl) rfl
theorem dX3_drawTiles_113 : decode cX3_drawTiles 113 = .ok (.sipush 256, 3) := zo_17 (b1 := 1) (b2 := 0) (zkb3 zk_cX3_drawTiles zn_cX3_drawTiles rfl) rfl
theorem dX3_drawTiles_116 : decode cX3_drawTiles 116 = .ok (.goto 6, 3) := zo_167 (b1 := 0) (b2 := 6) (zkb3 zk_cX3_drawTiles zn_cX3_drawTiles rfl) rfl
theorem dX3_drawTiles_119 : decode cX3_drawTiles 119 = .ok (.sipush 224, 3) := zo_17 (b1 := 0) (b2 := 224) (zkb3 zk_cX3_drawTiles zn_cX3_drawTiles rfl) rfl
theorem dX3_drawTiles_122 : decode cX3_drawTiles 122 = .ok (.irem, 1) := zo_112 (zkb zk_cX3_drawTiles zn_cX3_drawTiles rfl)
theorem dX3_drawTiles_123 : decode cX3_drawTiles 123 = .ok (.istore 7, 2) := zo_54 (b1 := 7) (zkb2 zk_cX3_drawTiles zn_cX3_drawTiles rfl)
theorem dX3_drawTiles_125 : decode cX3_drawTiles 125 = .ok (.iload_n 3, 1) := zo_29 (zkb zk_cX3_drawTiles zn_cX3_drawTiles rfl)
theorem dX3_drawTiles_126 : decode cX3_drawTiles 126 = .ok (.sipush 128, 3) := zo_17 (b1 := 0) (b2 := 128) (zkb3 zk_cX3_drawTiles zn_cX3_drawTiles rfl) rfl
theorem dX3_drawTiles_129 : decode cX3_drawTiles 129 = .ok (.iand, 1) := zo_126 (zkb zk_cX3_drawTiles zn_cX3_drawTiles rfl)
theorem dX3_drawTiles_130 : decode cX3_drawTiles 130 = .ok (.ifCond .eq 7, 3) := zo_153 (b1 := 0) (b2 := 7) (zkb3 zk_cX3_drawTiles zn_cX3_drawTiles rfl) rfl
theorem dX3_drawTiles_133 : decode cX3_drawTiles 133 = .ok (.iconst 1, 1) := zo_4 (zkb zk_cX3_drawTiles zn_cX3_drawTiles rfl)
theorem dX3_drawTiles_134 : decode cX3_drawTiles 134 = .ok (.goto 4, 3) := zo_167 (b1 := 0) (b2 := 4) (zkb3 zk_cX3_drawTiles zn_cX3_drawTiles rfl) rfl
theorem dX3_drawTiles_137 : decode cX3_drawTiles 137 = .ok (.iconst 0, 1) := zo_3 (zkb zk_cX3_drawTiles zn_cX3_drawTiles rfl)
theorem dX3_drawTiles_138 : decode cX3_drawTiles 138 = .ok (.istore 8, 2) := zo_54 (b1 := 8) (zkb2 zk_cX3_drawTiles zn_cX3_drawTiles rfl)
theorem dX3_drawTiles_140 : decode cX3_drawTiles 140 = .ok (.iconst 0, 1) := zo_3 (zkb zk_cX3_drawTiles zn_cX3_drawTiles rfl)
theorem dX3_drawTiles_141 : decode cX3_drawTiles 141 = .ok (.istore 9, 2) := zo_54 (b1 := 9) (zkb2 zk_cX3_drawTiles zn_cX3_drawTiles rfl)
theorem dX3_drawTiles_143 : decode cX3_drawTiles 143 = .ok (.iload 9, 2) := zo_21 (b1 := 9) (zkb2 zk_cX3_drawTiles zn_cX3_drawTiles rfl)
theorem dX3_drawTiles_145 : decode cX3_drawTiles 145 = .ok (.sipush 256, 3) := zo_17 (b1 := 1) (b2 := 0) (zkb3 zk_cX3_drawTiles zn_cX3_drawTiles rfl) rfl
theorem dX3_drawTiles_148 : decode cX3_drawTiles 148 = .ok (.if_icmp .ge 176, 3) := zo_162 (b1 := 0) (b2 := 176) (zkb3 zk_cX3_drawTiles zn_cX3_drawTiles rfl) rfl
theorem dX3_drawTiles_151 : decode cX3_drawTiles 151 = .ok (.iload 9, 2) := zo_21 (b1 := 9) (zkb2 zk_cX3_drawTiles zn_cX3_drawTiles rfl)
theorem dX3_drawTiles_153 : decode cX3_drawTiles 153 = .ok (.iload 6, 2) := zo_21 (b1 := 6) (zkb2 zk_cX3_drawTiles zn_cX3_drawTiles rfl)
theorem dX3_drawTiles_155 : decode cX3_drawTiles 155 = .ok (.isub, 1) := zo_100 (zkb zk_cX3_drawTiles zn_cX3_drawTiles rfl)
theorem dX3_drawTiles_156 : decode cX3_drawTiles 156 = .ok (.sipush 255, 3) := zo_17 (b1 := 0) (b2 := 255) (zkb3 zk_cX3_drawTiles zn_cX3_drawTiles rfl) rfl
theorem dX3_drawTiles_159 : decode cX3_drawTiles 159 = .ok (.iand, 1) := zo_126 (zkb zk_cX3_drawTiles zn_cX3_drawTiles rfl)
theorem dX3_drawTiles_160 : decode cX3_drawTiles 160 = .ok (.istore 10, 2) := zo_54 (b1 := 10) (zkb2 zk_cX3_drawTiles zn_cX3_drawTiles rfl)
theorem dX3_drawTiles_162 : decode cX3_drawTiles 162 = .ok (.iload 9, 2) := zo_21 (b1 := 9) (zkb2 zk_cX3_drawTiles zn_cX3_drawTiles rfl)
theorem dX3_drawTiles_164 : decode cX3_drawTiles 164 = .ok (.ifCond .eq 19, 3) := zo_153 (b1 := 0) (b2 := 19) (zkb3 zk_cX3_drawTiles zn_cX3_drawTiles rfl) rfl
theorem dX3_drawTiles_167 : decode cX3_drawTiles 167 = .ok (.iload 9, 2) := zo_21 (b1 := 9) (zkb2 zk_cX3_drawTiles zn_cX3_drawTiles rfl)
theorem dX3_drawTiles_169 : decode cX3_drawTiles 169 = .ok (.sipush 192, 3) := zo_17 (b1 := 0) (b2 := 192) (zkb3 zk_cX3_drawTiles zn_cX3_drawTiles rfl) rfl
theorem dX3_drawTiles_172 : decode cX3_drawTiles 172 = .ok (.if_icmp .eq 11, 3) := zo_159 (b1 := 0) (b2 := 11) (zkb3 zk_cX3_drawTiles zn_cX3_drawTiles rfl) rfl
theorem dX3_drawTiles_175 : decode cX3_drawTiles 175 = .ok (.iload 10, 2) := zo_21 (b1 := 10) (zkb2 zk_cX3_drawTiles zn_cX3_drawTiles rfl)
theorem dX3_drawTiles_177 : decode cX3_drawTiles 177 = .ok (.bipush 7, 2) := zo_16 (b1 := 7) (zkb2 zk_cX3_drawTiles zn_cX3_drawTiles rfl) rfl
theorem dX3_drawTiles_179 : decode cX3_drawTiles 179 = .ok (.iand, 1) := zo_126 (zkb zk_cX3_drawTiles zn_cX3_drawTiles rfl)
theorem dX3_drawTiles_180 : decode cX3_drawTiles 180 = .ok (.ifCond .ne 35, 3) := zo_154 (b1 := 0) (b2 := 35) (zkb3 zk_cX3_drawTiles zn_cX3_drawTiles rfl) rfl
theorem dX3_drawTiles_183 : decode cX3_drawTiles 183 = .ok (.aload_n 0, 1) := zo_42 (zkb zk_cX3_drawTiles zn_cX3_drawTiles rfl)
theorem dX3_drawTiles_184 : decode cX3_drawTiles 184 = .ok (.iload 5, 2) := zo_21 (b1 := 5) (zkb2 zk_cX3_drawTiles zn_cX3_drawTiles rfl)
theorem dX3_drawTiles_186 : decode cX3_drawTiles 186 = .ok (.iconst 2, 1) := zo_5 (zkb zk_cX3_drawTiles zn_cX3_drawTiles rfl)
theorem dX3_drawTiles_187 : decode cX3_drawTiles 187 = .ok (.iload 10, 2) := zo_21 (b1 := 10) (zkb2 zk_cX3_drawTiles zn_cX3_drawTiles rfl)
theorem dX3_drawTiles_189 : decode cX3_drawTiles 189 = .ok (.iconst 3, 1) := zo_6 (zkb zk_cX3_drawTiles zn_cX3_drawTiles rfl)
theorem dX3_drawTiles_190 : decode cX3_drawTiles 190 = .ok (.ishr, 1) := zo_122 (zkb zk_cX3_drawTiles zn_cX3_drawTiles rfl)
theorem dX3_drawTiles_191 : decode cX3_drawTiles 191 = .ok (.imul, 1) := zo_104 (zkb zk_cX3_drawTiles zn_cX3_drawTiles rfl)
theorem dX3_drawTiles_192 : decode cX3_drawTiles 192 = .ok (.iadd, 1) := zo_96 (zkb zk_cX3_drawTiles zn_cX3_drawTiles rfl)
theorem dX3_drawTiles_193 : decode cX3_drawTiles 193 = .ok (.iload 8, 2) := zo_21 (b1 := 8) (zkb2 zk_cX3_drawTiles zn_cX3_drawTiles rfl)
theorem dX3_drawTiles_195 : decode cX3_drawTiles 195 = .ok (.ifCond .eq 15, 3) := zo_153 (b1 := 0) (b2 := 15) (zkb3 zk_cX3_drawTiles zn_cX3_drawTiles rfl) rfl
theorem dX3_drawTiles_198 : decode cX3_drawTiles 198 = .ok (.iload 9, 2) := zo_21 (b1 := 9) (zkb2 zk_cX3_drawTiles zn_cX3_drawTiles rfl)
theorem dX3_drawTiles_200 : decode cX3_drawTiles 200 = .ok (.sipush 192, 3) := zo_17 (b1 := 0) (b2 := 192) (zkb3 zk_cX3_drawTiles zn_cX3_drawTiles rfl) rfl
theorem dX3_drawTiles_203 : decode cX3_drawTiles 203 = .ok (.if_icmp .lt 7, 3) := zo_161 (b1 := 0) (b2 := 7) (zkb3 zk_cX3_drawTiles zn_cX3_drawTiles rfl) rfl
theorem dX3_drawTiles_206 : decode cX3_drawTiles 206 = .ok (.iload_n 1, 1) := zo_27 (zkb zk_cX3_drawTiles zn_cX3_drawTiles rfl)
theorem dX3_drawTiles_207 : decode cX3_drawTiles 207 = .ok (.goto 5, 3) := zo_167 (b1 := 0) (b2 := 5) (zkb3 zk_cX3_drawTiles zn_cX3_drawTiles rfl) rfl
theorem dX3_drawTiles_210 : decode cX3_drawTiles 210 = .ok (.iload 7, 2) := zo_21 (b1 := 7) (zkb2 zk_cX3_drawTiles zn_cX3_drawTiles rfl)
theorem dX3_drawTiles_212 : decode cX3_drawTiles 212 = .ok (.invokevirtual 100, 3) := zo_182 (b1 := 0) (b2 := 100) (zkb3 zk_cX3_drawTiles zn_cX3_drawTiles rfl) rfl
theorem dX3_drawTiles_215 : decode cX3_drawTiles 215 = .ok (.aload_n 0, 1) := zo_42 (zkb zk_cX3_drawTiles zn_cX3_drawTiles rfl)
theorem dX3_drawTiles_216 : decode cX3_drawTiles 216 = .ok (.getfield 103, 3) := zo_180 (b1 := 0) (b2 := 103) (zkb3 zk_cX3_drawTiles zn_cX3_drawTiles rfl) rfl
theorem dX3_drawTiles_219 : decode cX3_drawTiles 219 = .ok (.sipush 512, 3) := zo_17 (b1 := 2) (b2 := 0) (zkb3 zk_cX3_drawTiles zn_cX3_drawTiles rfl) rfl
theorem dX3_drawTiles_222 : decode cX3_drawTiles 222 = .ok (.iand, 1) := zo_126 (zkb zk_cX3_drawTiles zn_cX3_drawTiles rfl)
theorem dX3_drawTiles_223 : decode cX3_drawTiles 223 = .ok (.ifCond .eq 14, 3) := zo_153 (b1 := 0) (b2 := 14) (zkb3 zk_cX3_drawTiles zn_cX3_drawTiles rfl) rfl
theorem dX3_drawTiles_226 : decode cX3_drawTiles 226 = .ok (.bipush 7, 2) := zo_16 (b1 := 7) (zkb2 zk_cX3_drawTiles zn_cX3_drawTiles rfl) rfl
theorem dX3_drawTiles_228 : decode cX3_drawTiles 228 = .ok (.iload 10, 2) := zo_21 (b1 := 10) (zkb2 zk_cX3_drawTiles zn_cX3_drawTiles rfl)
theorem dX3_drawTiles_230 : decode cX3_drawTiles 230 = .ok (.bipush 7, 2) := zo_16 (b1 := 7) (zkb2 zk_cX3_drawTiles zn_cX3_drawTiles rfl) rfl
theorem dX3_drawTiles_232 : decode cX3_drawTiles 232 = .ok (.iand, 1) := zo_126 (zkb zk_cX3_drawTiles zn_cX3_drawTiles rfl)
theorem dX3_drawTiles_233 : decode cX3_drawTiles 233 = .ok (.isub, 1) := zo_100 (zkb zk_cX3_drawTiles zn_cX3_drawTiles rfl)
theorem dX3_drawTiles_234 : decode cX3_drawTiles 234 = .ok (.goto 8, 3) := zo_167 (b1 := 0) (b2 := 8) (zkb3 zk_cX3_drawTiles zn_cX3_drawTiles rfl) rfl
theorem dX3_drawTiles_237 : decode cX3_drawTiles 237 = .ok (.iload 10, 2) := zo_21 (b1 := 10) (zkb2 zk_cX3_drawTiles zn_cX3_drawTiles rfl)
theorem dX3_drawTiles_239 : decode cX3_drawTiles 239 = .ok (.bipush 7, 2) := zo_16 (b1 := 7) (zkb2 zk_cX3_drawTiles zn_cX3_drawTiles rfl) rfl
theorem dX3_drawTiles_241 : decode cX3_drawTiles 241 = .ok (.iand, 1) := zo_126 (zkb zk_cX3_drawTiles zn_cX3_drawTiles rfl)
theorem dX3_drawTiles_242 : decode cX3_drawTiles 242 = .ok (.istore 11, 2) := zo_54 (b1 := 11) (zkb2 zk_cX3_drawTiles zn_cX3_drawTiles rfl)
theorem dX3_drawTiles_244 : decode cX3_drawTiles 244 = .ok (.aload_n 0, 1) := zo_42 (zkb zk_cX3_drawTiles zn_cX3_drawTiles rfl)
theorem dX3_drawTiles_245 : decode cX3_drawTiles 245 = .ok (.getfield 107, 3) := zo_180 (b1 := 0) (b2 := 107) (zkb3 zk_cX3_drawTiles zn_cX3_drawTiles rfl) rfl
theorem dX3_drawTiles_248 : decode cX3_drawTiles 248 = .ok (.iload 11, 2) := zo_21 (b1 := 11) (zkb2 zk_cX3_drawTiles zn_cX3_drawTiles rfl)
theorem dX3_drawTiles_250 : decode cX3_drawTiles 250 = .ok (.invokestatic 110, 3) := zo_184 (b1 := 0) (b2 := 110) (zkb3 zk_cX3_drawTiles zn_cX3_drawTiles rfl) rfl
theorem dX3_drawTiles_253 : decode cX3_drawTiles 253 = .ok (.istore 12, 2) := zo_54 (b1 := 12) (zkb2 zk_cX3_drawTiles zn_cX3_drawTiles rfl)
theorem dX3_drawTiles_255 : decode cX3_drawTiles 255 = .ok (.iload 12, 2) := zo_21 (b1 := 12) (zkb2 zk_cX3_drawTiles zn_cX3_drawTiles rfl)
theorem dX3_drawTiles_257 : decode cX3_drawTiles 257 = .ok (.ifCond .le 18, 3) := zo_158 (b1 := 0) (b2 := 18) (zkb3 zk_cX3_drawTiles zn_cX3_drawTiles rfl) rfl
theorem dX3_drawTiles_260 : decode cX3_drawTiles 260 = .ok (.aload_n 0, 1) := zo_42 (zkb zk_cX3_drawTiles zn_cX3_drawTiles rfl)
theorem dX3_drawTiles_261 : decode cX3_drawTiles 261 = .ok (.getfield 103, 3) := zo_180 (b1 := 0) (b2 := 103) (zkb3 zk_cX3_drawTiles zn_cX3_drawTiles rfl) rfl
theorem dX3_drawTiles_264 : decode cX3_drawTiles 264 = .ok (.sipush 4096, 3) := zo_17 (b1 := 16) (b2 := 0) (zkb3 zk_cX3_drawTiles zn_cX3_drawTiles rfl) rfl
theorem dX3_drawTiles_267 : decode cX3_drawTiles 267 = .ok (.iand, 1) := zo_126 (zkb zk_cX3_drawTiles zn_cX3_drawTiles rfl)
theorem dX3_drawTiles_268 : decode cX3_drawTiles 268 = .ok (.ifCond .eq 7, 3) := zo_153 (b1 := 0) (b2 := 7) (zkb3 zk_cX3_drawTiles zn_cX3_drawTiles rfl) rfl
theorem dX3_drawTiles_271 : decode cX3_drawTiles 271 = .ok (.iconst 1, 1) := zo_4 (zkb zk_cX3_drawTiles zn_cX3_drawTiles rfl)
theorem dX3_drawTiles_272 : decode cX3_drawTiles 272 = .ok (.goto 4, 3) := zo_167 (b1 := 0) (b2 := 4) (zkb3 zk_cX3_drawTiles zn_cX3_drawTiles rfl) rfl
theorem dX3_drawTiles_275 : decode cX3_drawTiles 275 = .ok (.iconst 0, 1) := zo_3 (zkb zk_cX3_drawTiles zn_cX3_drawTiles rfl)
theorem dX3_drawTiles_276 : decode cX3_drawTiles 276 = .ok (.istore 13, 2) := zo_54 (b1 := 13) (zkb2 zk_cX3_drawTiles zn_cX3_drawTiles rfl)
theorem dX3_drawTiles_278 : decode cX3_drawTiles 278 = .ok (.aload_n 0, 1) := zo_42 (zkb zk_cX3_drawTiles zn_cX3_drawTiles rfl)
theorem dX3_drawTiles_279 : decode cX3_drawTiles 279 = .ok (.getfield 17, 3) := zo_180 (b1 := 0) (b2 := 17) (zkb3 zk_cX3_drawTiles zn_cX3_drawTiles rfl) rfl
theorem dX3_drawTiles_282 : decode cX3_drawTiles 282 = .ok (.iload 9, 2) := zo_21 (b1 := 9) (zkb2 zk_cX3_drawTiles zn_cX3_drawTiles rfl)
theorem dX3_drawTiles_284 : decode cX3_drawTiles 284 = .ok (.iload 12, 2) := zo_21 (b1 := 12) (zkb2 zk_cX3_drawTiles zn_cX3_drawTiles rfl)
theorem dX3_drawTiles_286 : decode cX3_drawTiles 286 = .ok (.aload_n 0, 1) := zo_42 (zkb zk_cX3_drawTiles zn_cX3_drawTiles rfl)
theorem dX3_drawTiles_287 : decode cX3_drawTiles 287 = .ok (.getfield 103, 3) := zo_180 (b1 := 0) (b2 := 103) (zkb3 zk_cX3_drawTiles zn_cX3_drawTiles rfl) rfl
theorem dX3_drawTiles_290 : decode cX3_drawTiles 290 = .ok (.sipush 2048, 3) := zo_17 (b1 := 8) (b2 := 0) (zkb3 zk_cX3_drawTiles zn_cX3_drawTiles rfl) rfl
theorem dX3_drawTiles_293 : decode cX3_drawTiles 293 = .ok (.iand, 1) := zo_126 (zkb zk_cX3_drawTiles zn_cX3_drawTiles rfl)
theorem dX3_drawTiles_294 : decode cX3_drawTiles 294 = .ok (.ifCond .eq 8, 3) := zo_153 (b1 := 0) (b2 := 8) (zkb3 zk_cX3_drawTiles zn_cX3_drawTiles rfl) rfl
theorem dX3_drawTiles_297 : decode cX3_drawTiles 297 = .ok (.bipush 16, 2) := zo_16 (b1 := 16) (zkb2 zk_cX3_drawTiles zn_cX3_drawTiles rfl) rfl
theorem dX3_drawTiles_299 : decode cX3_drawTiles 299 = .ok (.goto 4, 3) := zo_167 (b1 := 0) (b2 := 4) (zkb3 zk_cX3_drawTiles zn_cX3_drawTiles rfl) rfl
theorem dX3_drawTiles_302 : decode cX3_drawTiles 302 = .ok (.iconst 0, 1) := zo_3 (zkb zk_cX3_drawTiles zn_cX3_drawTiles rfl)
theorem dX3_drawTiles_303 : decode cX3_drawTiles 303 = .ok (.iadd, 1) := zo_96 (zkb zk_cX3_drawTiles zn_cX3_drawTiles rfl)
theorem dX3_drawTiles_304 : decode cX3_drawTiles 304 = .ok (.iload 13, 2) := zo_21 (b1 := 13) (zkb2 zk_cX3_drawTiles zn_cX3_drawTiles rfl)
theorem dX3_drawTiles_306 : decode cX3_drawTiles 306 = .ok (.ifCond .eq 9, 3) := zo_153 (b1 := 0) (b2 := 9) (zkb3 zk_cX3_drawTiles zn_cX3_drawTiles rfl) rfl
theorem dX3_drawTiles_309 : decode cX3_drawTiles 309 = .ok (.sipush 256, 3) := zo_17 (b1 := 1) (b2 := 0) (zkb3 zk_cX3_drawTiles zn_cX3_drawTiles rfl) rfl
theorem dX3_drawTiles_312 : decode cX3_drawTiles 312 = .ok (.goto 4, 3) := zo_167 (b1 := 0) (b2 := 4) (zkb3 zk_cX3_drawTiles zn_cX3_drawTiles rfl) rfl
theorem dX3_drawTiles_315 : decode cX3_drawTiles 315 = .ok (.iconst 0, 1) := zo_3 (zkb zk_cX3_drawTiles zn_cX3_drawTiles rfl)
theorem dX3_drawTiles_316 : decode cX3_drawTiles 316 = .ok (.iadd, 1) := zo_96 (zkb zk_cX3_drawTiles zn_cX3_drawTiles rfl)
theorem dX3_drawTiles_317 : decode cX3_drawTiles 317 = .ok (.iastore, 1) := zo_79 (zkb zk_cX3_drawTiles zn_cX3_drawTiles rfl)
theorem dX3_drawTiles_318 : decode cX3_drawTiles 318 = .ok (.iinc 9 1, 3) := zo_132 (b1 := 9) (b2 := 1) (zkb3 zk_cX3_drawTiles zn_cX3_drawTiles rfl) rfl
theorem dX3_drawTiles_321 : decode cX3_drawTiles 321 = .ok (.goto (-178), 3) := zo_167 (b1 := 255) (b2 := 78) (zkb3 zk_cX3_drawTiles zn_cX3_drawTiles rfl) rfl
theorem dX3_drawTiles_324 : decode cX3_drawTiles 324 = .ok (.return_, 1) := zo_177 (zkb zk_cX3_drawTiles zn_cX3_drawTiles rfl)
noncomputable def kn_cX3_takeTile : Nat := 0xb17400b66068041507687eff01116700b42a20102a04367e07101c0700a7647e07101c07100d00997e0004116700b42a6700b5807808107100b660041d1a00b42a7100b61d1a00b42a2a3e60687a061c40101b
theorem zk_cX3_takeTile : zkd cX3_takeTile.data.toList kn_cX3_takeTile = true := by decide +kernel
theorem zn_cX3_takeTile : cX3_takeTile.data.toList.length = 83 := by decide +kernel
theorem dX3_takeTile_0 : decode cX3_takeTile 0 = .ok (.iload_n 1, 1) := zo_27 (zkb zk_cX3_takeTile zn_cX3_takeTile rfl)
theorem dX3_takeTile_1 : decode cX3_takeTile 1 = .ok (.bipush 64, 2) := zo_16 (b1 := 64) (zkb2 zk_cX3_takeTile zn_cX3_takeTile rfl) rfl
theorem dX3_takeTile_3 : decode cX3_takeTile 3 = .ok (.iload_n 2, 1) := zo_28 (zkb zk_cX3_takeTile zn_cX3_takeTile rfl)
theorem dX3_takeTile_4 : decode cX3_takeTile 4 = .ok (.iconst 3, 1) := zo_6 (zkb zk_cX3_takeTile zn_cX3_takeTile rfl)
theorem dX3_takeTile_5 : decode cX3_takeTile 5 = .ok (.ishr, 1) := zo_122 (zkb zk_cX3_takeTile zn_cX3_takeTile rfl)
theorem dX3_takeTile_6 : decode cX3_takeTile 6 = .ok (.imul, 1) := zo_104 (zkb zk_cX3_takeTile zn_cX3_takeTile rfl)
theorem dX3_takeTile_7 : decode cX3_takeTile 7 = .ok (.iadd, 1) := zo_96 (zkb zk_cX3_takeTile zn_cX3_takeTile rfl)
theorem dX3_takeTile_8 : decode cX3_takeTile 8 = .ok (.istore_n 3, 1) := zo_62 (zkb zk_cX3_takeTile zn_cX3_takeTile rfl)
theorem dX3_takeTile_9 : decode cX3_takeTile 9 = .ok (.aload_n 0, 1) := zo_42 (zkb zk_cX3_takeTile zn_cX3_takeTile rfl)
theorem dX3_takeTile_10 : decode cX3_takeTile 10 = .ok (.aload_n 0, 1) := zo_42 (zkb zk_cX3_takeTile zn_cX3_takeTile rfl)
theorem dX3_takeTile_11 : decode cX3_takeTile 11 = .ok (.getfield 26, 3) := zo_180 (b1 := 0) (b2 := 26) (zkb3 zk_cX3_takeTile zn_cX3_takeTile rfl) rfl
theorem dX3_takeTile_14 : decode cX3_takeTile 14 = .ok (.iload_n 3, 1) := zo_29 (zkb zk_cX3_takeTile zn_cX3_takeTile rfl)
theorem dX3_takeTile_15 : decode cX3_takeTile 15 = .ok (.invokevirtual 113, 3) := zo_182 (b1 := 0) (b2 := 113) (zkb3 zk_cX3_takeTile zn_cX3_takeTile rfl) rfl
theorem dX3_takeTile_18 : decode cX3_takeTile 18 = .ok (.aload_n 0, 1) := zo_42 (zkb zk_cX3_takeTile zn_cX3_takeTile rfl)
theorem dX3_takeTile_19 : decode cX3_takeTile 19 = .ok (.getfield 26, 3) := zo_180 (b1 := 0) (b2 := 26) (zkb3 zk_cX3_takeTile zn_cX3_takeTile rfl) rfl
theorem dX3_takeTile_22 : decode cX3_takeTile 22 = .ok (.iload_n 3, 1) := zo_29 (zkb zk_cX3_takeTile zn_cX3_takeTile rfl)
theorem dX3_takeTile_23 : decode cX3_takeTile 23 = .ok (.iconst 1, 1) := zo_4 (zkb zk_cX3_takeTile zn_cX3_takeTile rfl)
theorem dX3_takeTile_24 : decode cX3_takeTile 24 = .ok (.iadd, 1) := zo_96 (zkb zk_cX3_takeTile zn_cX3_takeTile rfl)
theorem dX3_takeTile_25 : decode cX3_takeTile 25 = .ok (.invokevirtual 113, 3) := zo_182 (b1 := 0) (b2 := 113) (zkb3 zk_cX3_takeTile zn_cX3_takeTile rfl) rfl
theorem dX3_takeTile_28 : decode cX3_takeTile 28 = .ok (.bipush 8, 2) := zo_16 (b1 := 8) (zkb2 zk_cX3_takeTile zn_cX3_takeTile rfl) rfl
theorem dX3_takeTile_30 : decode cX3_takeTile 30 = .ok (.ishl, 1) := zo_120 (zkb zk_cX3_takeTile zn_cX3_takeTile rfl)
theorem dX3_takeTile_31 : decode cX3_takeTile 31 = .ok (.ior, 1) := zo_128 (zkb zk_cX3_takeTile zn_cX3_takeTile rfl)
theorem dX3_takeTile_32 : decode cX3_takeTile 32 = .ok (.putfield 103, 3) := zo_181 (b1 := 0) (b2 := 103) (zkb3 zk_cX3_takeTile zn_cX3_takeTile rfl) rfl
theorem dX3_takeTile_35 : decode cX3_takeTile 35 = .ok (.aload_n 0, 1) := zo_42 (zkb zk_cX3_takeTile zn_cX3_takeTile rfl)
theorem dX3_takeTile_36 : decode cX3_takeTile 36 = .ok (.getfield 103, 3) := zo_180 (b1 := 0) (b2 := 103) (zkb3 zk_cX3_takeTile zn_cX3_takeTile rfl) rfl
theorem dX3_takeTile_39 : decode cX3_takeTile 39 = .ok (.sipush 1024, 3) := zo_17 (b1 := 4) (b2 := 0) (zkb3 zk_cX3_takeTile zn_cX3_takeTile rfl) rfl
theorem dX3_takeTile_42 : decode cX3_takeTile 42 = .ok (.iand, 1) := zo_126 (zkb zk_cX3_takeTile zn_cX3_takeTile rfl)
theorem dX3_takeTile_43 : decode cX3_takeTile 43 = .ok (.ifCond .eq 13, 3) := zo_153 (b1 := 0) (b2 := 13) (zkb3 zk_cX3_takeTile zn_cX3_takeTile rfl) rfl
theorem dX3_takeTile_46 : decode cX3_takeTile 46 = .ok (.bipush 7, 2) := zo_16 (b1 := 7) (zkb2 zk_cX3_takeTile zn_cX3_takeTile rfl) rfl
theorem dX3_takeTile_48 : decode cX3_takeTile 48 = .ok (.iload_n 2, 1) := zo_28 (zkb zk_cX3_takeTile zn_cX3_takeTile rfl)
theorem dX3_takeTile_49 : decode cX3_takeTile 49 = .ok (.bipush 7, 2) := zo_16 (b1 := 7) (zkb2 zk_cX3_takeTile zn_cX3_takeTile rfl) rfl
theorem dX3_takeTile_51 : decode cX3_takeTile 51 = .ok (.iand, 1) := zo_126 (zkb zk_cX3_takeTile zn_cX3_takeTile rfl)
theorem dX3_takeTile_52 : decode cX3_takeTile 52 = .ok (.isub, 1) := zo_100 (zkb zk_cX3_takeTile zn_cX3_takeTile rfl)
theorem dX3_takeTile_53 : decode cX3_takeTile 53 = .ok (.goto 7, 3) := zo_167 (b1 := 0) (b2 := 7) (zkb3 zk_cX3_takeTile zn_cX3_takeTile rfl) rfl
theorem dX3_takeTile_56 : decode cX3_takeTile 56 = .ok (.iload_n 2, 1) := zo_28 (zkb zk_cX3_takeTile zn_cX3_takeTile rfl)
theorem dX3_takeTile_57 : decode cX3_takeTile 57 = .ok (.bipush 7, 2) := zo_16 (b1 := 7) (zkb2 zk_cX3_takeTile zn_cX3_takeTile rfl) rfl
theorem dX3_takeTile_59 : decode cX3_takeTile 59 = .ok (.iand, 1) := zo_126 (zkb zk_cX3_takeTile zn_cX3_takeTile rfl)
theorem dX3_takeTile_60 : decode cX3_takeTile 60 = .ok (.istore 4, 2) := zo_54 (b1 := 4) (zkb2 zk_cX3_takeTile zn_cX3_takeTile rfl)
theorem dX3_takeTile_62 : decode cX3_takeTile 62 = .ok (.aload_n 0, 1) := zo_42 (zkb zk_cX3_takeTile zn_cX3_takeTile rfl)
theorem dX3_takeTile_63 : decode cX3_takeTile 63 = .ok (.bipush 32, 2) := zo_16 (b1 := 32) (zkb2 zk_cX3_takeTile zn_cX3_takeTile rfl) rfl
theorem dX3_takeTile_65 : decode cX3_takeTile 65 = .ok (.aload_n 0, 1) := zo_42 (zkb zk_cX3_takeTile zn_cX3_takeTile rfl)
theorem dX3_takeTile_66 : decode cX3_takeTile 66 = .ok (.getfield 103, 3) := zo_180 (b1 := 0) (b2 := 103) (zkb3 zk_cX3_takeTile zn_cX3_takeTile rfl) rfl
theorem dX3_takeTile_69 : decode cX3_takeTile 69 = .ok (.sipush 511, 3) := zo_17 (b1 := 1) (b2 := 255) (zkb3 zk_cX3_takeTile zn_cX3_takeTile rfl) rfl
theorem dX3_takeTile_72 : decode cX3_takeTile 72 = .ok (.iand, 1) := zo_126 (zkb zk_cX3_takeTile zn_cX3_takeTile rfl)
theorem dX3_takeTile_73 : decode cX3_takeTile 73 = .ok (.imul, 1) := zo_104 (zkb zk_cX3_takeTile zn_cX3_takeTile rfl)
theorem dX3_takeTile_74 : decode cX3_takeTile 74 = .ok (.iconst 4, 1) := zo_7 (zkb zk_cX3_takeTile zn_cX3_takeTile rfl)
theorem dX3_takeTile_75 : decode cX3_takeTile 75 = .ok (.iload 4, 2) := zo_21 (b1 := 4) (zkb2 zk_cX3_takeTile zn_cX3_takeTile rfl)
theorem dX3_takeTile_77 : decode cX3_takeTile 77 = .ok (.imul, 1) := zo_104 (zkb zk_cX3_takeTile zn_cX3_takeTile rfl)
theorem dX3_takeTile_78 : decode cX3_takeTile 78 = .ok (.iadd, 1) := zo_96 (zkb zk_cX3_takeTile zn_cX3_takeTile rfl)
theorem dX3_takeTile_79 : decode cX3_takeTile 79 = .ok (.invokevirtual 116, 3) := zo_182 (b1 := 0) (b2 := 116) (zkb3 zk_cX3_takeTile zn_cX3_takeTile rfl) rfl
theorem dX3_takeTile_82 : decode cX3_takeTile 82 = .ok (.return_, 1) := zo_177 (zkb zk_cX3_takeTile zn_cX3_takeTile rfl)
noncomputable def kn_cX3_takePlanes : Nat := 0xb16b00b5807818107100b660061b1a00b42a807810107100b660051b1a00b42a807808107100b660041b1a00b42a7100b61b1a00b42a2a
theorem zk_cX3_takePlanes : zkd cX3_takePlanes.data.toList kn_cX3_takePlanes = true := by decide +kernel
theorem zn_cX3_takePlanes : cX3_takePlanes.data.toList.length = 55 := by decide +kernel
theorem dX3_takePlanes_0 : decode cX3_takePlanes 0 = .ok (.aload_n 0, 1) := zo_42 (zkb zk_cX3_takePlanes zn_cX3_takePlanes rfl)
theorem dX3_takePlanes_1 : decode cX3_takePlanes 1 = .ok (.aload_n 0, 1) := zo_42 (zkb zk_cX3_takePlanes zn_cX3_takePlanes rfl)
theorem dX3_takePlanes_2 : decode cX3_takePlanes 2 = .ok (.getfield 26, 3) := zo_180 (b1 := 0) (b2 := 26) (zkb3 zk_cX3_takePlanes zn_cX3_takePlanes rfl) rfl
theorem dX3_takePlanes_5 : decode cX3_takePlanes 5 = .ok (.iload_n 1, 1) := zo_27 (zkb zk_cX3_takePlanes zn_cX3_takePlanes rfl)
theorem dX3_takePlanes_6 : decode cX3_takePlanes 6 = .ok (.invokevirtual 113, 3) := zo_182 (b1 := 0) (b2 := 113) (zkb3 zk_cX3_takePlanes zn_cX3_takePlanes rfl) rfl
theorem dX3_takePlanes_9 : decode cX3_takePlanes 9 = .ok (.aload_n 0, 1) := zo_42 (zkb zk_cX3_takePlanes zn_cX3_takePlanes rfl)
theorem dX3_takePlanes_10 : decode cX3_takePlanes 10 = .ok (.getfield 26, 3) := zo_180 (b1 := 0) (b2 := 26) (zkb3 zk_cX3_takePlanes zn_cX3_takePlanes rfl) rfl
theorem dX3_takePlanes_13 : decode cX3_takePlanes 13 = .ok (.iload_n 1, 1) := zo_27 (zkb zk_cX3_takePlanes zn_cX3_takePlanes rfl)
theorem dX3_takePlanes_14 : decode cX3_takePlanes 14 = .ok (.iconst 1, 1) := zo_4 (zkb zk_cX3_takePlanes zn_cX3_takePlanes rfl)
theorem dX3_takePlanes_15 : decode cX3_takePlanes 15 = .ok (.iadd, 1) := zo_96 (zkb zk_cX3_takePlanes zn_cX3_takePlanes rfl)
theorem dX3_takePlanes_16 : decode cX3_takePlanes 16 = .ok (.invokevirtual 113, 3) := zo_182 (b1 := 0) (b2 := 113) (zkb3 zk_cX3_takePlanes zn_cX3_takePlanes rfl) rfl
theorem dX3_takePlanes_19 : decode cX3_takePlanes 19 = .ok (.bipush 8, 2) := zo_16 (b1 := 8) (zkb2 zk_cX3_takePlanes zn_cX3_takePlanes rfl) rfl
theorem dX3_takePlanes_21 : decode cX3_takePlanes 21 = .ok (.ishl, 1) := zo_120 (zkb zk_cX3_takePlanes zn_cX3_takePlanes rfl)
theorem dX3_takePlanes_22 : decode cX3_takePlanes 22 = .ok (.ior, 1) := zo_128 (zkb zk_cX3_takePlanes zn_cX3_takePlanes rfl)
theorem dX3_takePlanes_23 : decode cX3_takePlanes 23 = .ok (.aload_n 0, 1) := zo_42 (zkb zk_cX3_takePlanes zn_cX3_takePlanes rfl)
theorem dX3_takePlanes_24 : decode cX3_takePlanes 24 = .ok (.getfield 26, 3) := zo_180 (b1 := 0) (b2 := 26) (zkb3 zk_cX3_takePlanes zn_cX3_takePlanes rfl) rfl
theorem dX3_takePlanes_27 : decode cX3_takePlanes 27 = .ok (.iload_n 1, 1) := zo_27 (zkb zk_cX3_takePlanes zn_cX3_takePlanes rfl)
theorem dX3_takePlanes_28 : decode cX3_takePlanes 28 = .ok (.iconst 2, 1) := zo_5 (zkb zk_cX3_takePlanes zn_cX3_takePlanes rfl)
theorem dX3_takePlanes_29 : decode cX3_takePlanes 29 = .ok (.iadd, 1) := zo_96 (zkb zk_cX3_takePlanes zn_cX3_takePlanes rfl)
theorem dX3_takePlanes_30 : decode cX3_takePlanes 30 = .ok (.invokevirtual 113, 3) := zo_182 (b1 := 0) (b2 := 113) (zkb3 zk_cX3_takePlanes zn_cX3_takePlanes rfl) rfl
theorem dX3_takePlanes_33 : decode cX3_takePlanes 33 = .ok (.bipush 16, 2) := zo_16 (b1 := 16) (zkb2 zk_cX3_takePlanes zn_cX3_takePlanes rfl) rfl
theorem dX3_takePlanes_35 : decode cX3_takePlanes 35 = .ok (.ishl, 1) := zo_120 (zkb zk_cX3_takePlanes zn_cX3_takePlanes rfl)
theorem dX3_takePlanes_36 : decode cX3_takePlanes 36 = .ok (.ior, 1) := zo_128 (zkb zk_cX3_takePlanes zn_cX3_takePlanes rfl)
theorem dX3_takePlanes_37 : decode cX3_takePlanes 37 = .ok (.aload_n 0, 1) := zo_42 (zkb zk_cX3_takePlanes zn_cX3_takePlanes rfl)
theorem dX3_takePlanes_38 : decode cX3_takePlanes 38 = .ok (.getfield 26, 3) := zo_180 (b1 := 0) (b2 := 26) (zkb3 zk_cX3_takePlanes zn_cX3_takePlanes rfl) rfl
theorem dX3_takePlanes_41 : decode cX3_takePlanes 41 = .ok (.iload_n 1, 1) := zo_27 (zkb zk_cX3_takePlanes zn_cX3_takePlanes rfl)
theorem dX3_takePlanes_42 : decode cX3_takePlanes 42 = .ok (.iconst 3, 1) := zo_6 (zkb zk_cX3_takePlanes zn_cX3_takePlanes rfl)
theorem dX3_takePlanes_43 : decode cX3_takePlanes 43 = .ok (.iadd, 1) := zo_96 (zkb zk_cX3_takePlanes zn_cX3_takePlanes rfl)
theorem dX3_takePlanes_44 : decode cX3_takePlanes 44 = .ok (.invokevirtual 113, 3) := zo_182 (b1 := 0) (b2 := 113) (zkb3 zk_cX3_takePlanes zn_cX3_takePlanes rfl) rfl
theorem dX3_takePlanes_47 : decode cX3_takePlanes 47 = .ok (.bipush 24, 2) := zo_16 (b1 := 24) (zkb2 zk_cX3_takePlanes zn_cX3_takePlanes rfl) rfl
theorem dX3_takePlanes_49 : decode cX3_takePlanes 49 = .ok (.ishl, 1) := zo_120 (zkb zk_cX3_takePlanes zn_cX3_takePlanes rfl)
theorem dX3_takePlanes_50 : decode cX3_takePlanes 50 = .ok (.ior, 1) := zo_128 (zkb zk_cX3_takePlanes zn_cX3_takePlanes rfl)
theorem dX3_takePlanes_51 : decode cX3_takePlanes 51 = .ok (.putfield 107, 3) := zo_181 (b1 := 0) (b2 := 107) (zkb3 zk_cX3_takePlanes zn_cX3_takePlanes rfl) rfl
theorem dX3_takePlanes_54 : decode cX3_takePlanes 54 = .ok (.return_, 1) := zo_177 (zkb zk_cX3_takePlanes zn_cX3_takePlanes rfl)
noncomputable def kn_cX3_numberIn : Nat := 0xac807e08107a15101c807e077a0e101c807e057a07101c7e041c3d7e77127c641b07101a
theorem zk_cX3_numberIn : zkd cX3_numberIn.data.toList kn_cX3_numberIn = true := by decide +kernel
theorem zn_cX3_numberIn : cX3_numberIn.data.toList.length = 36 := by decide +kernel
theorem dX3_numberIn_0 : decode cX3_numberIn 0 = .ok (.iload_n 0, 1) := zo_26 (zkb zk_cX3_numberIn zn_cX3_numberIn rfl)
theorem dX3_numberIn_1 : decode cX3_numberIn 1 = .ok (.bipush 7, 2) := zo_16 (b1 := 7) (zkb2 zk_cX3_numberIn zn_cX3_numberIn rfl) rfl
theorem dX3_numberIn_3 : decode cX3_numberIn 3 = .ok (.iload_n 1, 1) := zo_27 (zkb zk_cX3_numberIn zn_cX3_numberIn rfl)
theorem dX3_numberIn_4 : decode cX3_numberIn 4 = .ok (.isub, 1) := zo_100 (zkb zk_cX3_numberIn zn_cX3_numberIn rfl)
theorem dX3_numberIn_5 : decode cX3_numberIn 5 = .ok (.iushr, 1) := zo_124 (zkb zk_cX3_numberIn zn_cX3_numberIn rfl)
theorem dX3_numberIn_6 : decode cX3_numberIn 6 = .ok (.ldc 119, 2) := zo_18 (b1 := 119) (zkb2 zk_cX3_numberIn zn_cX3_numberIn rfl)
theorem dX3_numberIn_8 : decode cX3_numberIn 8 = .ok (.iand, 1) := zo_126 (zkb zk_cX3_numberIn zn_cX3_numberIn rfl)
theorem dX3_numberIn_9 : decode cX3_numberIn 9 = .ok (.istore_n 2, 1) := zo_61 (zkb zk_cX3_numberIn zn_cX3_numberIn rfl)
theorem dX3_numberIn_10 : decode cX3_numberIn 10 = .ok (.iload_n 2, 1) := zo_28 (zkb zk_cX3_numberIn zn_cX3_numberIn rfl)
theorem dX3_numberIn_11 : decode cX3_numberIn 11 = .ok (.iconst 1, 1) := zo_4 (zkb zk_cX3_numberIn zn_cX3_numberIn rfl)
theorem dX3_numberIn_12 : decode cX3_numberIn 12 = .ok (.iand, 1) := zo_126 (zkb zk_cX3_numberIn zn_cX3_numberIn rfl)
theorem dX3_numberIn_13 : decode cX3_numberIn 13 = .ok (.iload_n 2, 1) := zo_28 (zkb zk_cX3_numberIn zn_cX3_numberIn rfl)
theorem dX3_numberIn_14 : decode cX3_numberIn 14 = .ok (.bipush 7, 2) := zo_16 (b1 := 7) (zkb2 zk_cX3_numberIn zn_cX3_numberIn rfl) rfl
theorem dX3_numberIn_16 : decode cX3_numberIn 16 = .ok (.ishr, 1) := zo_122 (zkb zk_cX3_numberIn zn_cX3_numberIn rfl)
theorem dX3_numberIn_17 : decode cX3_numberIn 17 = .ok (.iconst 2, 1) := zo_5 (zkb zk_cX3_numberIn zn_cX3_numberIn rfl)
theorem dX3_numberIn_18 : decode cX3_numberIn 18 = .ok (.iand, 1) := zo_126 (zkb zk_cX3_numberIn zn_cX3_numberIn rfl)
theorem dX3_numberIn_19 : decode cX3_numberIn 19 = .ok (.ior, 1) := zo_128 (zkb zk_cX3_numberIn zn_cX3_numberIn rfl)
theorem dX3_numberIn_20 : decode cX3_numberIn 20 = .ok (.iload_n 2, 1) := zo_28 (zkb zk_cX3_numberIn zn_cX3_numberIn rfl)
theorem dX3_numberIn_21 : decode cX3_numberIn 21 = .ok (.bipush 14, 2) := zo_16 (b1 := 14) (zkb2 zk_cX3_numberIn zn_cX3_numberIn rfl) rfl
theorem dX3_numberIn_23 : decode cX3_numberIn 23 = .ok (.ishr, 1) := zo_122 (zkb zk_cX3_numberIn zn_cX3_numberIn rfl)
theorem dX3_numberIn_24 : decode cX3_numberIn 24 = .ok (.iconst 4, 1) := zo_7 (zkb zk_cX3_numberIn zn_cX3_numberIn rfl)
theorem dX3_numberIn_25 : decode cX3_numberIn 25 = .ok (.iand, 1) := zo_126 (zkb zk_cX3_numberIn zn_cX3_numberIn rfl)
theorem dX3_numberIn_26 : decode cX3_numberIn 26 = .ok (.ior, 1) := zo_128 (zkb zk_cX3_numberIn zn_cX3_numberIn rfl)
theorem dX3_numberIn_27 : decode cX3_numberIn 27 = .ok (.iload_n 2, 1) := zo_28 (zkb zk_cX3_numberIn zn_cX3_numberIn rfl)
theorem dX3_numberIn_28 : decode cX3_numberIn 28 = .ok (.bipush 21, 2) := zo_16 (b1 := 21) (zkb2 zk_cX3_numberIn zn_cX3_numberIn rfl) rfl
theorem dX3_numberIn_30 : decode cX3_numberIn 30 = .ok (.ishr, 1) := zo_122 (zkb zk_cX3_numberIn zn_cX3_numberIn rfl)
theorem dX3_numberIn_31 : decode cX3_numberIn 31 = .ok (.bipush 8, 2) := zo_16 (b1 := 8) (zkb2 zk_cX3_numberIn zn_cX3_numberIn rfl) rfl
theorem dX3_numberIn_33 : decode cX3_numberIn 33 = .ok (.iand, 1) := zo_126 (zkb zk_cX3_numberIn zn_cX3_numberIn rfl)
theorem dX3_numberIn_34 : decode cX3_numberIn 34 = .ok (.ior, 1) := zo_128 (zkb zk_cX3_numberIn zn_cX3_numberIn rfl)
theorem dX3_numberIn_35 : decode cX3_numberIn 35 = .ok (.ireturn, 1) := zo_172 (zkb zk_cX3_numberIn zn_cX3_numberIn rfl)
noncomputable def kn_cX3_rowOfSprite : Nat := 0xac020400a704150800a208100500a710100800997e051d041504367a0404150900997e041d04367eff00116404641c1b3e3e00b6041a00b42a
theorem zk_cX3_rowOfSprite : zkd cX3_rowOfSprite.data.toList kn_cX3_rowOfSprite = true := by decide +kernel
theorem zn_cX3_rowOfSprite : cX3_rowOfSprite.data.toList.length = 57 := by decide +kernel
theorem dX3_rowOfSprite_0 : decode cX3_rowOfSprite 0 = .ok (.aload_n 0, 1) := zo_42 (zkb zk_cX3_rowOfSprite zn_cX3_rowOfSprite rfl)
theorem dX3_rowOfSprite_1 : decode cX3_rowOfSprite 1 = .ok (.getfield 26, 3) := zo_180 (b1 := 0) (b2 := 26) (zkb3 zk_cX3_rowOfSprite zn_cX3_rowOfSprite rfl) rfl
theorem dX3_rowOfSprite_4 : decode cX3_rowOfSprite 4 = .ok (.iconst 1, 1) := zo_4 (zkb zk_cX3_rowOfSprite zn_cX3_rowOfSprite rfl)
theorem dX3_rowOfSprite_5 : decode cX3_rowOfSprite 5 = .ok (.invokevirtual 62, 3) := zo_182 (b1 := 0) (b2 := 62) (zkb3 zk_cX3_rowOfSprite zn_cX3_rowOfSprite rfl) rfl
theorem dX3_rowOfSprite_8 : decode cX3_rowOfSprite 8 = .ok (.istore_n 3, 1) := zo_62 (zkb zk_cX3_rowOfSprite zn_cX3_rowOfSprite rfl)
theorem dX3_rowOfSprite_9 : decode cX3_rowOfSprite 9 = .ok (.iload_n 1, 1) := zo_27 (zkb zk_cX3_rowOfSprite zn_cX3_rowOfSprite rfl)
theorem dX3_rowOfSprite_10 : decode cX3_rowOfSprite 10 = .ok (.iload_n 2, 1) := zo_28 (zkb zk_cX3_rowOfSprite zn_cX3_rowOfSprite rfl)
theorem dX3_rowOfSprite_11 : decode cX3_rowOfSprite 11 = .ok (.isub, 1) := zo_100 (zkb zk_cX3_rowOfSprite zn_cX3_rowOfSprite rfl)
theorem dX3_rowOfSprite_12 : decode cX3_rowOfSprite 12 = .ok (.iconst 1, 1) := zo_4 (zkb zk_cX3_rowOfSprite zn_cX3_rowOfSprite rfl)
theorem dX3_rowOfSprite_13 : decode cX3_rowOfSprite 13 = .ok (.isub, 1) := zo_100 (zkb zk_cX3_rowOfSprite zn_cX3_rowOfSprite rfl)
theorem dX3_rowOfSprite_14 : decode cX3_rowOfSprite 14 = .ok (.sipush 255, 3) := zo_17 (b1 := 0) (b2 := 255) (zkb3 zk_cX3_rowOfSprite zn_cX3_rowOfSprite rfl) rfl
theorem dX3_rowOfSprite_17 : decode cX3_rowOfSprite 17 = .ok (.iand, 1) := zo_126 (zkb zk_cX3_rowOfSprite zn_cX3_rowOfSprite rfl)
theorem dX3_rowOfSprite_18 : decode cX3_rowOfSprite 18 = .ok (.istore 4, 2) := zo_54 (b1 := 4) (zkb2 zk_cX3_rowOfSprite zn_cX3_rowOfSprite rfl)
theorem dX3_rowOfSprite_20 : decode cX3_rowOfSprite 20 = .ok (.iload_n 3, 1) := zo_29 (zkb zk_cX3_rowOfSprite zn_cX3_rowOfSprite rfl)
theorem dX3_rowOfSprite_21 : decode cX3_rowOfSprite 21 = .ok (.iconst 1, 1) := zo_4 (zkb zk_cX3_rowOfSprite zn_cX3_rowOfSprite rfl)
theorem dX3_rowOfSprite_22 : decode cX3_rowOfSprite 22 = .ok (.iand, 1) := zo_126 (zkb zk_cX3_rowOfSprite zn_cX3_rowOfSprite rfl)
theorem dX3_rowOfSprite_23 : decode cX3_rowOfSprite 23 = .ok (.ifCond .eq 9, 3) := zo_153 (b1 := 0) (b2 := 9) (zkb3 zk_cX3_rowOfSprite zn_cX3_rowOfSprite rfl) rfl
theorem dX3_rowOfSprite_26 : decode cX3_rowOfSprite 26 = .ok (.iload 4, 2) := zo_21 (b1 := 4) (zkb2 zk_cX3_rowOfSprite zn_cX3_rowOfSprite rfl)
theorem dX3_rowOfSprite_28 : decode cX3_rowOfSprite 28 = .ok (.iconst 1, 1) := zo_4 (zkb zk_cX3_rowOfSprite zn_cX3_rowOfSprite rfl)
theorem dX3_rowOfSprite_29 : decode cX3_rowOfSprite 29 = .ok (.ishr, 1) := zo_122 (zkb zk_cX3_rowOfSprite zn_cX3_rowOfSprite rfl)
theorem dX3_rowOfSprite_30 : decode cX3_rowOfSprite 30 = .ok (.istore 4, 2) := zo_54 (b1 := 4) (zkb2 zk_cX3_rowOfSprite zn_cX3_rowOfSprite rfl)
theorem dX3_rowOfSprite_32 : decode cX3_rowOfSprite 32 = .ok (.iload 4, 2) := zo_21 (b1 := 4) (zkb2 zk_cX3_rowOfSprite zn_cX3_rowOfSprite rfl)
theorem dX3_rowOfSprite_34 : decode cX3_rowOfSprite 34 = .ok (.iload_n 3, 1) := zo_29 (zkb zk_cX3_rowOfSprite zn_cX3_rowOfSprite rfl)
theorem dX3_rowOfSprite_35 : decode cX3_rowOfSprite 35 = .ok (.iconst 2, 1) := zo_5 (zkb zk_cX3_rowOfSprite zn_cX3_rowOfSprite rfl)
theorem dX3_rowOfSprite_36 : decode cX3_rowOfSprite 36 = .ok (.iand, 1) := zo_126 (zkb zk_cX3_rowOfSprite zn_cX3_rowOfSprite rfl)
theorem dX3_rowOfSprite_37 : decode cX3_rowOfSprite 37 = .ok (.ifCond .eq 8, 3) := zo_153 (b1 := 0) (b2 := 8) (zkb3 zk_cX3_rowOfSprite zn_cX3_rowOfSprite rfl) rfl
theorem dX3_rowOfSprite_40 : decode cX3_rowOfSprite 40 = .ok (.bipush 16, 2) := zo_16 (b1 := 16) (zkb2 zk_cX3_rowOfSprite zn_cX3_rowOfSprite rfl) rfl
theorem dX3_rowOfSprite_42 : decode cX3_rowOfSprite 42 = .ok (.goto 5, 3) := zo_167 (b1 := 0) (b2 := 5) (zkb3 zk_cX3_rowOfSprite zn_cX3_rowOfSprite rfl) rfl
theorem dX3_rowOfSprite_45 : decode cX3_rowOfSprite 45 = .ok (.bipush 8, 2) := zo_16 (b1 := 8) (zkb2 zk_cX3_rowOfSprite zn_cX3_rowOfSprite rfl) rfl
theorem dX3_rowOfSprite_47 : decode cX3_rowOfSprite 47 = .ok (.if_icmp .ge 8, 3) := zo_162 (b1 := 0) (b2 := 8) (zkb3 zk_cX3_rowOfSprite zn_cX3_rowOfSprite rfl) rfl
theorem dX3_rowOfSprite_50 : decode cX3_rowOfSprite 50 = .ok (.iload 4, 2) := zo_21 (b1 := 4) (zkb2 zk_cX3_rowOfSprite zn_cX3_rowOfSprite rfl)
theorem dX3_rowOfSprite_52 : decode cX3_rowOfSprite 52 = .ok (.goto 4, 3) := zo_167 (b1 := 0) (b2 := 4) (zkb3 zk_cX3_rowOfSprite zn_cX3_rowOfSprite rfl) rfl
theorem dX3_rowOfSprite_55 : decode cX3_rowOfSprite 55 = .ok (.iconst (-1), 1) := zo_2 (zkb zk_cX3_rowOfSprite zn_cX3_rowOfSprite rfl)
theorem dX3_rowOfSprite_56 : decode cX3_rowOfSprite 56 = .ok (.ireturn, 1) := zo_172 (zkb zk_cX3_rowOfSprite zn_cX3_rowOfSprite rfl)
noncomputable def kn_cX9_held : Nat := 0xac030400a72e1b1000b42a0c00a260101b12009b1b
theorem zk_cX9_held : zkd cX9_held.data.toList kn_cX9_held = true := by decide +kernel
theorem zn_cX9_held : cX9_held.data.toList.length = 21 := by decide +kernel
theorem dX9_held_0 : decode cX9_held 0 = .ok (.iload_n 1, 1) := zo_27 (zkb zk_cX9_held zn_cX9_held rfl)
theorem dX9_held_1 : decode cX9_held 1 = .ok (.ifCond .lt 18, 3) := zo_155 (b1 := 0) (b2 := 18) (zkb3 zk_cX9_held zn_cX9_held rfl) rfl
theorem dX9_held_4 : decode cX9_held 4 = .ok (.iload_n 1, 1) := zo_27 (zkb zk_cX9_held zn_cX9_held rfl)
theorem dX9_held_5 : decode cX9_held 5 = .ok (.bipush 96, 2) := zo_16 (b1 := 96) (zkb2 zk_cX9_held zn_cX9_held rfl) rfl
theorem dX9_held_7 : decode cX9_held 7 = .ok (.if_icmp .ge 12, 3) := zo_162 (b1 := 0) (b2 := 12) (zkb3 zk_cX9_held zn_cX9_held rfl) rfl
theorem dX9_held_10 : decode cX9_held 10 = .ok (.aload_n 0, 1) := zo_42 (zkb zk_cX9_held zn_cX9_held rfl)
theorem dX9_held_11 : decode cX9_held 11 = .ok (.getfield 16, 3) := zo_180 (b1 := 0) (b2 := 16) (zkb3 zk_cX9_held zn_cX9_held rfl) rfl
theorem dX9_held_14 : decode cX9_held 14 = .ok (.iload_n 1, 1) := zo_27 (zkb zk_cX9_held zn_cX9_held rfl)
theorem dX9_held_15 : decode cX9_held 15 = .ok (.iaload, 1) := zo_46 (zkb zk_cX9_held zn_cX9_held rfl)
theorem dX9_held_16 : decode cX9_held 16 = .ok (.goto 4, 3) := zo_167 (b1 := 0) (b2 := 4) (zkb3 zk_cX9_held zn_cX9_held rfl) rfl
theorem dX9_held_19 : decode cX9_held 19 = .ok (.iconst 0, 1) := zo_3 (zkb zk_cX9_held zn_cX9_held rfl)
theorem dX9_held_20 : decode cX9_held 20 = .ok (.ireturn, 1) := zo_172 (zkb zk_cX9_held zn_cX9_held rfl)
noncomputable def kn_cX9_vramByte : Nat := 0xac2e7eff3f111b0900b42a
theorem zk_cX9_vramByte : zkd cX9_vramByte.data.toList kn_cX9_vramByte = true := by decide +kernel
theorem zn_cX9_vramByte : cX9_vramByte.data.toList.length = 11 := by decide +kernel
theorem dX9_vramByte_0 : decode cX9_vramByte 0 = .ok (.aload_n 0, 1) := zo_42 (zkb zk_cX9_vramByte zn_cX9_vramByte rfl)
theorem dX9_vramByte_1 : decode cX9_vramByte 1 = .ok (.getfield 9, 3) := zo_180 (b1 := 0) (b2 := 9) (zkb3 zk_cX9_vramByte zn_cX9_vramByte rfl) rfl
theorem dX9_vramByte_4 : decode cX9_vramByte 4 = .ok (.iload_n 1, 1) := zo_27 (zkb zk_cX9_vramByte zn_cX9_vramByte rfl)
theorem dX9_vramByte_5 : decode cX9_vramByte 5 = .ok (.sipush 16383, 3) := zo_17 (b1 := 63) (b2 := 255) (zkb3 zk_cX9_vramByte zn_cX9_vramByte rfl) rfl
theorem dX9_vramByte_8 : decode cX9_vramByte 8 = .ok (.iand, 1) := zo_126 (zkb zk_cX9_vramByte zn_cX9_vramByte rfl)
theorem dX9_vramByte_9 : decode cX9_vramByte 9 = .ok (.iaload, 1) := zo_46 (zkb zk_cX9_vramByte zn_cX9_vramByte rfl)
theorem dX9_vramByte_10 : decode cX9_vramByte 10 = .ok (.ireturn, 1) := zo_172 (zkb zk_cX9_vramByte zn_cX9_vramByte rfl)
noncomputable def kn_cX9_mark : Nat := 0xb14f801b2e5c0f101000b42a
theorem zk_cX9_mark : zkd cX9_mark.data.toList kn_cX9_mark = true := by decide +kernel
theorem zn_cX9_mark : cX9_mark.data.toList.length = 12 := by decide +kernel
theorem dX9_mark_0 : decode cX9_mark 0 = .ok (.aload_n 0, 1) := zo_42 (zkb zk_cX9_mark zn_cX9_mark rfl)
theorem dX9_mark_1 : decode cX9_mark 1 = .ok (.getfield 16, 3) := zo_180 (b1 := 0) (b2 := 16) (zkb3 zk_cX9_mark zn_cX9_mark rfl) rfl
theorem dX9_mark_4 : decode cX9_mark 4 = .ok (.bipush 15, 2) := zo_16 (b1 := 15) (zkb2 zk_cX9_mark zn_cX9_mark rfl) rfl
theorem dX9_mark_6 : decode cX9_mark 6 = .ok (.dup2, 1) := zo_92 (zkb zk_cX9_mark zn_cX9_mark rfl)
theorem dX9_mark_7 : decode cX9_mark 7 = .ok (.iaload, 1) := zo_46 (zkb zk_cX9_mark zn_cX9_mark rfl)
theorem dX9_mark_8 : decode cX9_mark 8 = .ok (.iload_n 1, 1) := zo_27 (zkb zk_cX9_mark zn_cX9_mark rfl)
theorem dX9_mark_9 : decode cX9_mark 9 = .ok (.ior, 1) := zo_128 (zkb zk_cX9_mark zn_cX9_mark rfl)
theorem dX9_mark_10 : decode cX9_mark 10 = .ok (.iastore, 1) := zo_79 (zkb zk_cX9_mark zn_cX9_mark rfl)
theorem dX9_mark_11 : decode cX9_mark 11 = .ok (.return_, 1) := zo_177 (zkb zk_cX9_mark zn_cX9_mark rfl)
noncomputable def kn_cX9_mode : Nat := 0xac030400a7050700997e052e031000b42aac060500997e08102e041000b42aac040500997e10102e041000b42aac070500997e072e031000b42a
theorem zk_cX9_mode : zkd cX9_mode.data.toList kn_cX9_mode = true := by decide +kernel
theorem zn_cX9_mode : cX9_mode.data.toList.length = 58 := by decide +kernel
theorem dX9_mode_0 : decode cX9_mode 0 = .ok (.aload_n 0, 1) := zo_42 (zkb zk_cX9_mode zn_cX9_mode rfl)
theorem dX9_mode_1 : decode cX9_mode 1 = .ok (.getfield 16, 3) := zo_180 (b1 := 0) (b2 := 16) (zkb3 zk_cX9_mode zn_cX9_mode rfl) rfl
theorem dX9_mode_4 : decode cX9_mode 4 = .ok (.iconst 0, 1) := zo_3 (zkb zk_cX9_mode zn_cX9_mode rfl)
theorem dX9_mode_5 : decode cX9_mode 5 = .ok (.iaload, 1) := zo_46 (zkb zk_cX9_mode zn_cX9_mode rfl)
theorem dX9_mode_6 : decode cX9_mode 6 = .ok (.iconst 4, 1) := zo_7 (zkb zk_cX9_mode zn_cX9_mode rfl)
theorem dX9_mode_7 : decode cX9_mode 7 = .ok (.iand, 1) := zo_126 (zkb zk_cX9_mode zn_cX9_mode rfl)
theorem dX9_mode_8 : decode cX9_mode 8 = .ok (.ifCond .eq 5, 3) := zo_153 (b1 := 0) (b2 := 5) (zkb3 zk_cX9_mode zn_cX9_mode rfl) rfl
theorem dX9_mode_11 : decode cX9_mode 11 = .ok (.iconst 4, 1) := zo_7 (zkb zk_cX9_mode zn_cX9_mode rfl)
theorem dX9_mode_12 : decode cX9_mode 12 = .ok (.ireturn, 1) := zo_172 (zkb zk_cX9_mode zn_cX9_mode rfl)
theorem dX9_mode_13 : decode cX9_mode 13 = .ok (.aload_n 0, 1) := zo_42 (zkb zk_cX9_mode zn_cX9_mode rfl)
theorem dX9_mode_14 : decode cX9_mode 14 = .ok (.getfield 16, 3) := zo_180 (b1 := 0) (b2 := 16) (zkb3 zk_cX9_mode zn_cX9_mode rfl) rfl
theorem dX9_mode_17 : decode cX9_mode 17 = .ok (.iconst 1, 1) := zo_4 (zkb zk_cX9_mode zn_cX9_mode rfl)
theorem dX9_mode_18 : decode cX9_mode 18 = .ok (.iaload, 1) := zo_46 (zkb zk_cX9_mode zn_cX9_mode rfl)
theorem dX9_mode_19 : decode cX9_mode 19 = .ok (.bipush 16, 2) := zo_16 (b1 := 16) (zkb2 zk_cX9_mode zn_cX9_mode rfl) rfl
theorem dX9_mode_21 : decode cX9_mode 21 = .ok (.iand, 1) := zo_126 (zkb zk_cX9_mode zn_cX9_mode rfl)
theorem dX9_mode_22 : decode cX9_mode 22 = .ok (.ifCond .eq 5, 3) := zo_153 (b1 := 0) (b2 := 5) (zkb3 zk_cX9_mode zn_cX9_mode rfl) rfl
theorem dX9_mode_25 : decode cX9_mode 25 = .ok (.iconst 1, 1) := zo_4 (zkb zk_cX9_mode zn_cX9_mode rfl)
theorem dX9_mode_26 : decode cX9_mode 26 = .ok (.ireturn, 1) := zo_172 (zkb zk_cX9_mode zn_cX9_mode rfl)
theorem dX9_mode_27 : decode cX9_mode 27 = .ok (.aload_n 0, 1) := zo_42 (zkb zk_cX9_mode zn_cX9_mode rfl)
theorem dX9_mode_28 : decode cX9_mode 28 = .ok (.getfield 16, 3) := zo_180 (b1 := 0) (b2 := 16) (zkb3 zk_cX9_mode zn_cX9_mode rfl) rfl
theorem dX9_mode_31 : decode cX9_mode 31 = .ok (.iconst 1, 1) := zo_4 (zkb zk_cX9_mode zn_cX9_mode rfl)
theorem dX9_mode_32 : decode cX9_mode 32 = .ok (.iaload, 1) := zo_46 (zkb zk_cX9_mode zn_cX9_mode rfl)
theorem dX9_mode_33 : decode cX9_mode 33 = .ok (.bipush 8, 2) := zo_16 (b1 := 8) (zkb2 zk_cX9_mode zn_cX9_mode rfl) rfl
theorem dX9_mode_35 : decode cX9_mode 35 = .ok (.iand, 1) := zo_126 (zkb zk_cX9_mode zn_cX9_mode rfl)
theorem dX9_mode_36 : decode cX9_mode 36 = .ok (.ifCond .eq 5, 3) := zo_153 (b1 := 0) (b2 := 5) (zkb3 zk_cX9_mode zn_cX9_mode rfl) rfl
theorem dX9_mode_39 : decode cX9_mode 39 = .ok (.iconst 3, 1) := zo_6 (zkb zk_cX9_mode zn_cX9_mode rfl)
theorem dX9_mode_40 : decode cX9_mode 40 = .ok (.ireturn, 1) := zo_172 (zkb zk_cX9_mode zn_cX9_mode rfl)
theorem dX9_mode_41 : decode cX9_mode 41 = .ok (.aload_n 0, 1) := zo_42 (zkb zk_cX9_mode zn_cX9_mode rfl)
theorem dX9_mode_42 : decode cX9_mode 42 = .ok (.getfield 16, 3) := zo_180 (b1 := 0) (b2 := 16) (zkb3 zk_cX9_mode zn_cX9_mode rfl) rfl
theorem dX9_mode_45 : decode cX9_mode 45 = .ok (.iconst 0, 1) := zo_3 (zkb zk_cX9_mode zn_cX9_mode rfl)
theorem dX9_mode_46 : decode cX9_mode 46 = .ok (.iaload, 1) := zo_46 (zkb zk_cX9_mode zn_cX9_mode rfl)
theorem dX9_mode_47 : decode cX9_mode 47 = .ok (.iconst 2, 1) := zo_5 (zkb zk_cX9_mode zn_cX9_mode rfl)
theorem dX9_mode_48 : decode cX9_mode 48 = .ok (.iand, 1) := zo_126 (zkb zk_cX9_mode zn_cX9_mode rfl)
theorem dX9_mode_49 : decode cX9_mode 49 = .ok (.ifCond .eq 7, 3) := zo_153 (b1 := 0) (b2 := 7) (zkb3 zk_cX9_mode zn_cX9_mode rfl) rfl
theorem dX9_mode_52 : decode cX9_mode 52 = .ok (.iconst 2, 1) := zo_5 (zkb zk_cX9_mode zn_cX9_mode rfl)
theorem dX9_mode_53 : decode cX9_mode 53 = .ok (.goto 4, 3) := zo_167 (b1 := 0) (b2 := 4) (zkb3 zk_cX9_mode zn_cX9_mode rfl) rfl
theorem dX9_mode_56 : decode cX9_mode 56 = .ok (.iconst 0, 1) := zo_3 (zkb zk_cX9_mode zn_cX9_mode rfl)
theorem dX9_mode_57 : decode cX9_mode 57 = .ok (.ireturn, 1) := zo_172 (zkb zk_cX9_mode zn_cX9_mode rfl)
noncomputable def kn_cX9_height : Nat := 0xacc00011acf00011ace0001119000000100000001d000000080000000200000021000000ab7e18102e041000b42aacc0001107009f06107e06102e031000b42a
theorem zk_cX9_height : zkd cX9_height.data.toList kn_cX9_height = true := by decide +kernel
theorem zn_cX9_height : cX9_height.data.toList.length = 64 := by decide +kernel
theorem dX9_height_0 : decode cX9_height 0 = .ok (.aload_n 0, 1) := zo_42 (zkb zk_cX9_height zn_cX9_height rfl)
theorem dX9_height_1 : decode cX9_height 1 = .ok (.getfield 16, 3) := zo_180 (b1 := 0) (b2 := 16) (zkb3 zk_cX9_height zn_cX9_height rfl) rfl
theorem dX9_height_4 : decode cX9_height 4 = .ok (.iconst 0, 1) := zo_3 (zkb zk_cX9_height zn_cX9_height rfl)
theorem dX9_height_5 : decode cX9_height 5 = .ok (.iaload, 1) := zo_46 (zkb zk_cX9_height zn_cX9_height rfl)
theorem dX9_height_6 : decode cX9_height 6 = .ok (.bipush 6, 2) := zo_16 (b1 := 6) (zkb2 zk_cX9_height zn_cX9_height rfl) rfl
theorem dX9_height_8 : decode cX9_height 8 = .ok (.iand, 1) := zo_126 (zkb zk_cX9_height zn_cX9_height rfl)
theorem dX9_height_9 : decode cX9_height 9 = .ok (.bipush 6, 2) := zo_16 (b1 := 6) (zkb2 zk_cX9_height zn_cX9_height rfl) rfl
theorem dX9_height_11 : decode cX9_height 11 = .ok (.if_icmp .eq 7, 3) := zo_159 (b1 := 0) (b2 := 7) (zkb3 zk_cX9_height zn_cX9_height rfl) rfl
theorem dX9_height_14 : decode cX9_height 14 = .ok (.sipush 192, 3) := zo_17 (b1 := 0) (b2 := 192) (zkb3 zk_cX9_height zn_cX9_height rfl) rfl
theorem dX9_height_17 : decode cX9_height 17 = .ok (.ireturn, 1) := zo_172 (zkb zk_cX9_height zn_cX9_height rfl)
theorem dX9_height_18 : decode cX9_height 18 = .ok (.aload_n 0, 1) := zo_42 (zkb zk_cX9_height zn_cX9_height rfl)
theorem dX9_height_19 : decode cX9_height 19 = .ok (.getfield 16, 3) := zo_180 (b1 := 0) (b2 := 16) (zkb3 zk_cX9_height zn_cX9_height rfl) rfl
theorem dX9_height_22 : decode cX9_height 22 = .ok (.iconst 1, 1) := zo_4 (zkb zk_cX9_height zn_cX9_height rfl)
theorem dX9_height_23 : decode cX9_height 23 = .ok (.iaload, 1) := zo_46 (zkb zk_cX9_height zn_cX9_height rfl)
theorem dX9_height_24 : decode cX9_height 24 = .ok (.bipush 24, 2) := zo_16 (b1 := 24) (zkb2 zk_cX9_height zn_cX9_height rfl) rfl
theorem dX9_height_26 : decode cX9_height 26 = .ok (.iand, 1) := zo_126 (zkb zk_cX9_height zn_cX9_height rfl)
theorem dX9_height_27 : decode cX9_height 27 = .ok (.lookupswitch 33 #[(8, 29), (16, 25)], 25) := by decide +kernel
theorem dX9_height_52 : decode cX9_height 52 = .ok (.sipush 224, 3) := zo_17 (b1 := 0) (b2 := 224) (zkb3 zk_cX9_height zn_cX9_height rfl) rfl
theorem dX9_height_55 : decode cX9_height 55 = .ok (.ireturn, 1) := zo_172 (zkb zk_cX9_height zn_cX9_height rfl)
theorem dX9_height_56 : decode cX9_height 56 = .ok (.sipush 240, 3) := zo_17 (b1 := 0) (b2 := 240) (zkb3 zk_cX9_height zn_cX9_height rfl) rfl
theorem dX9_height_59 : decode cX9_height 59 = .ok (.ireturn, 1) := zo_172 (zkb zk_cX9_height zn_cX9_height rfl)
theorem dX9_height_60 : decode cX9_height 60 = .ok (.sipush 192, 3) := zo_17 (b1 := 0) (b2 := 192) (zkb3 zk_cX9_height zn_cX9_height rfl) rfl
theorem dX9_height_63 : decode cX9_height 63 = .ok (.ireturn, 1) := zo_172 (zkb zk_cX9_height zn_cX9_height rfl)
noncomputable def kn_cJ7_fill_53178 : Nat := 0xb1f4ffa70102844f1b1c2a0d00a21d1c3ebe2a3d03
theorem zk_cJ7_fill_53178 : zkd cJ7_fill_53178.data.toList kn_cJ7_fill_53178 = true := by decide +kernel
theorem zn_cJ7_fill_53178 : cJ7_fill_53178.data.toList.length = 21 := by decide +kernel
theorem dJ7_fill_53178_0 : decode cJ7_fill_53178 0 = .ok (.iconst 0, 1) := zo_3 (zkb zk_cJ7_fill_53178 zn_cJ7_fill_53178 rfl)
theorem dJ7_fill_53178_1 : decode cJ7_fill_53178 1 = .ok (.istore_n 2, 1) := zo_61 (zkb zk_cJ7_fill_53178 zn_cJ7_fill_53178 rfl)
theorem dJ7_fill_53178_2 : decode cJ7_fill_53178 2 = .ok (.aload_n 0, 1) := zo_42 (zkb zk_cJ7_fill_53178 zn_cJ7_fill_53178 rfl)
theorem dJ7_fill_53178_3 : decode cJ7_fill_53178 3 = .ok (.arraylength, 1) := zo_190 (zkb zk_cJ7_fill_53178 zn_cJ7_fill_53178 rfl)
theorem dJ7_fill_53178_4 : decode cJ7_fill_53178 4 = .ok (.istore_n 3, 1) := zo_62 (zkb zk_cJ7_fill_53178 zn_cJ7_fill_53178 rfl)
theorem dJ7_fill_53178_5 : decode cJ7_fill_53178 5 = .ok (.iload_n 2, 1) := zo_28 (zkb zk_cJ7_fill_53178 zn_cJ7_fill_53178 rfl)
theorem dJ7_fill_53178_6 : decode cJ7_fill_53178 6 = .ok (.iload_n 3, 1) := zo_29 (zkb zk_cJ7_fill_53178 zn_cJ7_fill_53178 rfl)
theorem dJ7_fill_53178_7 : decode cJ7_fill_53178 7 = .ok (.if_icmp .ge 13, 3) := zo_162 (b1 := 0) (b2 := 13) (zkb3 zk_cJ7_fill_53178 zn_cJ7_fill_53178 rfl) rfl
theorem dJ7_fill_53178_10 : decode cJ7_fill_53178 10 = .ok (.aload_n 0, 1) := zo_42 (zkb zk_cJ7_fill_53178 zn_cJ7_fill_53178 rfl)
theorem dJ7_fill_53178_11 : decode cJ7_fill_53178 11 = .ok (.iload_n 2, 1) := zo_28 (zkb zk_cJ7_fill_53178 zn_cJ7_fill_53178 rfl)
theorem dJ7_fill_53178_12 : decode cJ7_fill_53178 12 = .ok (.iload_n 1, 1) := zo_27 (zkb zk_cJ7_fill_53178 zn_cJ7_fill_53178 rfl)
theorem dJ7_fill_53178_13 : decode cJ7_fill_53178 13 = .ok (.iastore, 1) := zo_79 (zkb zk_cJ7_fill_53178 zn_cJ7_fill_53178 rfl)
theorem dJ7_fill_53178_14 : decode cJ7_fill_53178 14 = .ok (.iinc 2 1, 3) := zo_132 (b1 := 2) (b2 := 1) (zkb3 zk_cJ7_fill_53178 zn_cJ7_fill_53178 rfl) rfl
theorem dJ7_fill_53178_17 : decode cJ7_fill_53178 17 = .ok (.goto (-12), 3) := zo_167 (b1 := 255) (b2 := 244) (zkb3 zk_cJ7_fill_53178 zn_cJ7_fill_53178 rfl) rfl
theorem dJ7_fill_53178_20 : decode cJ7_fill_53178 20 = .ok (.return_, 1) := zo_177 (zkb zk_cJ7_fill_53178 zn_cJ7_fill_53178 rfl)
noncomputable def rmX2_sumOfCard : Room := { frames := 1, cells := 0, slots := 0, locals := 21 }
noncomputable def wzX2_sumOfCard : List Cond := .code yX2_sumOfCard cX2_sumOfCard 4 (some .int) :: wsL_law
theorem hinX2_sumOfCard_X20 : ∀ w ∈ wsX20, w ∈ wzX2_sumOfCard := fun w h => List.mem_cons_of_mem _ (inlX2 w h)
noncomputable def fX2_sumOfCard_77  (σ : zSt) (x2 : Int32) : Option (zSt × Int32) :=
  some (σ, x2 &&& 65535)
noncomputable def fX2_sumOfCard_55_body (k55 : zSt → Int32 → Int32 → Option (zSt × Int32)) (σ : zSt) (x2 : Int32) (x3 : Int32) : Option (zSt × Int32) :=
  if (zgi σ 1 4) ≤ x3 then fX2_sumOfCard_77 σ x2 else
  zbi (fX2_romByte σ x3) (fun σ1 v2 =>
  zbv (x2 + v2) (fun v3 =>
  zbv (x3 + 1) (fun v4 =>
  k55 σ1 v3 v4)))
noncomputable def fX2_sumOfCard_55  : Nat → zSt → Int32 → Int32 → Option (zSt × Int32)
  | 0, _, _, _ => none
  | n + 1, σ, x2, x3 => fX2_sumOfCard_55_body (fX2_sumOfCard_55  n) σ x2 x3
noncomputable def fX2_sumOfCard_52  (σ : zSt) (x2 : Int32) : Option (zSt × Int32) :=
  fX2_sumOfCard_55 zfuel σ x2 32768
noncomputable def fX2_sumOfCard_19_body (k19 : zSt → Int32 → Int32 → Int32 → Option (zSt × Int32)) (σ : zSt) (x1 : Int32) (x2 : Int32) (x3 : Int32) : Option (zSt × Int32) :=
  if (zgi σ 1 7) ≤ x3 then if 14 ≤ x1 then fX2_sumOfCard_52 σ x2 else
  if 2 < x1 then fX2_sumOfCard_77 σ x2 else
  fX2_sumOfCard_52 σ x2 else
  zbi (fX2_romByte σ x3) (fun σ5 v6 =>
  zbv (x2 + v6) (fun v7 =>
  zbv (x3 + 1) (fun v8 =>
  k19 σ5 x1 v7 v8)))
noncomputable def fX2_sumOfCard_19  : Nat → zSt → Int32 → Int32 → Int32 → Option (zSt × Int32)
  | 0, _, _, _, _ => none
  | n + 1, σ, x1, x2, x3 => fX2_sumOfCard_19_body (fX2_sumOfCard_19  n) σ x1 x2 x3
noncomputable def fX2_sumOfCard  (σ : zSt)  : Option (zSt × Int32) :=
  zbi (fX2_romByte σ ((zgi σ 1 7) + 15)) (fun σ9 v10 =>
  zbv (v10 &&& 15) (fun v11 =>
  fX2_sumOfCard_19 zfuel σ9 v11 0 0))
set_option maxRecDepth 20000 in
set_option maxHeartbeats 4000000 in
theorem bX2_sumOfCard_77 {st : Nat → Nat} {p : Program} {l : Launch} {e : Env} {s : State} {m : MethodId} {args : Array Value} {below : List Frame} {meth : Method} {c : Code} {D : va_G} {A : Nat → Prop} {ad : Nat → Nat} {cy : Nat → ClassId} (hC : zC p m c cX2_sumOfCard 4 s args wzX2_sumOfCard RX2 meth (some .int))  {res : zSt × Int32} {H : Heap} {locs : List Loc} {σ : zSt} {ls : Array Slot} {x2 : Int32} (hI : zI st D (tC cy) (wC ad cy σ) A s H locs) (hl : lv_has ls 4 [(2, .int x2)]) (hf : fX2_sumOfCard_77  σ x2 = some res) : W p l e rmX2_sumOfCard s m args below meth c H locs 0 0 (zQi below args s D (tC cy) (wC ad cy) A res) (F0 m 77 ls []) := by
  have hx := hC.1
  have hb := hC.2.1
  unfold fX2_sumOfCard_77 at hf
  refine lv_iload_n hx hb dX2_sumOfCard_77 rfl (lv_at hl 0 rfl) ?_
  refine lv_ldc (v := 65535) hx hb hC.2.2.2.1 (hC.2.2.2.2.1 _ (List.mem_cons_of_mem _ zw17_16)) dX2_sumOfCard_78 ?_
  refine lv_iand hx hb dX2_sumOfCard_80 ?_
  exact z_ireturn hC hI hf dX2_sumOfCard_81
set_option maxRecDepth 20000 in
set_option maxHeartbeats 4000000 in
theorem bX2_sumOfCard_55_body {st : Nat → Nat} {p : Program} {l : Launch} {e : Env} {s : State} {m : MethodId} {args : Array Value} {below : List Frame} {meth : Method} {c : Code} {D : va_G} {A : Nat → Prop} {ad : Nat → Nat} {cy : Nat → ClassId} (hC : zC p m c cX2_sumOfCard 4 s args wzX2_sumOfCard RX2 meth (some .int)) {k55 : zSt → Int32 → Int32 → Option (zSt × Int32)} {res : zSt × Int32} (hk55 : ∀ (H : Heap) (locs : List Loc) (σ : zSt) (ls : Array Slot) (x2 : Int32) (x3 : Int32), zI st D (tC cy) (wC ad cy σ) A s H locs → lv_has ls 4 [(0, .ref (ad 1)), (2, .int x2), (3, .int x3)] → k55 σ x2 x3 = some res → W p l e rmX2_sumOfCard s m args below meth c H locs 0 0 (zQi below args s D (tC cy) (wC ad cy) A res) (F0 m 55 ls [])) {H : Heap} {locs : List Loc} {σ : zSt} {ls : Array Slot} {x2 : Int32} {x3 : Int32} (hI : zI st D (tC cy) (wC ad cy σ) A s H locs) (hl : lv_has ls 4 [(0, .ref (ad 1)), (2, .int x2), (3, .int x3)]) (hf : fX2_sumOfCard_55_body k55 σ x2 x3 = some res) : W p l e rmX2_sumOfCard s m args below meth c H locs 0 0 (zQi below args s D (tC cy) (wC ad cy) A res) (F0 m 55 ls []) := by
  have hx := hC.1
  have hb := hC.2.1
  unfold fX2_sumOfCard_55_body at hf
  refine lv_iload_n hx hb dX2_sumOfCard_55 rfl (lv_at hl 2 rfl) ?_
  refine lv_aload_n hx hb dX2_sumOfCard_56 rfl (lv_at hl 0 rfl) ?_
  refine z_get hC hI hinX2_sumOfCard_X20 1 (wC_e1 ad cy σ) rfl 4 (by decide) (List.mem_cons_of_mem _ zw14_1) rfl dX2_sumOfCard_57 ?_
  refine lv_icmp_ge (tgt := 77) hx hb dX2_sumOfCard_60 (by decide) (fun q => ?_) (fun q => ?_)
  · replace hf := zif_t q hf
    exact bX2_sumOfCard_77 hC  hI (lv_sub hl [1] rfl) hf
  replace hf := zif_f q hf
  refine lv_iload_n hx hb dX2_sumOfCard_63 rfl (lv_at hl 1 rfl) ?_
  refine lv_aload_n hx hb dX2_sumOfCard_64 rfl (lv_at hl 0 rfl) ?_
  refine lv_iload_n hx hb dX2_sumOfCard_65 rfl (lv_at hl 2 rfl) ?_
  obtain ⟨σ1, v2, g1, hf⟩ := zbi_use hf
  refine z_callVi (As := [.int x3]) (rest := [.int x2]) hC hI (cX2_romByte_met st l D ad cy σ x3 _ g1) (zgV zw14_10 zw14_11 zw14_12 zw1_21 zw14_13) rfl ⟨rfl, rfl⟩ 1 hdX2_romByte ⟨Nat.le_of_ble_eq_true rfl, Nat.le_of_ble_eq_true rfl⟩ rfl rfl (wC_e1 ad cy σ) rfl hl rfl (Nat.le_of_ble_eq_true rfl) dX2_sumOfCard_66 ⟨Nat.zero_le _, Nat.zero_le _⟩ (fun H locs hI => ?_)
  refine lv_iadd hx hb dX2_sumOfCard_69 ?_
  refine lv_topi (fun v3 ev3 => ?_)
  replace hf := zbv_use ev3 hf
  refine lv_istore_n (lv' := [(2, .int v3), (0, .ref (ad 1)), (3, .int x3)]) hx hb dX2_sumOfCard_70 rfl hl (by decide) rfl (fun ls hl => ?_)
  obtain ⟨v4, ev4⟩ : ∃ z : Int32, z = x3 + 1 := ⟨_, rfl⟩
  replace hf := zbv_use ev4 hf
  refine lv_iinc (v := v4) (lv' := [(3, .int v4), (2, .int v3), (0, .ref (ad 1))]) hx hb dX2_sumOfCard_71 hl (k := 2) rfl (by rw [ev4]; rfl) (by decide) rfl (fun ls hl => ?_)
  refine lv_goto (tgt := 55) hx hb dX2_sumOfCard_74 (by decide) ?_
  exact hk55 _ _ _ _ _ _ hI (lv_sub hl [2, 1, 0] rfl) hf
theorem blX2_sumOfCard_55 {st : Nat → Nat} {p : Program} {l : Launch} {e : Env} {s : State} {m : MethodId} {args : Array Value} {below : List Frame} {meth : Method} {c : Code} {D : va_G} {A : Nat → Prop} {ad : Nat → Nat} {cy : Nat → ClassId} (hC : zC p m c cX2_sumOfCard 4 s args wzX2_sumOfCard RX2 meth (some .int))  {res : zSt × Int32} : ∀ (n : Nat) (H : Heap) (locs : List Loc) (σ : zSt) (ls : Array Slot) (x2 : Int32) (x3 : Int32), zI st D (tC cy) (wC ad cy σ) A s H locs → lv_has ls 4 [(0, .ref (ad 1)), (2, .int x2), (3, .int x3)] → fX2_sumOfCard_55  n σ x2 x3 = some res → W p l e rmX2_sumOfCard s m args below meth c H locs 0 0 (zQi below args s D (tC cy) (wC ad cy) A res) (F0 m 55 ls []) := by
  intro n
  induction n with
  | zero => intro H locs σ ls x2 x3 hI hl hf; cases hf
  | succ n ih => intro H locs σ ls x2 x3 hI hl hf; exact bX2_sumOfCard_55_body hC ih hI hl hf
set_option maxRecDepth 20000 in
set_option maxHeartbeats 4000000 in
theorem bX2_sumOfCard_52 {st : Nat → Nat} {p : Program} {l : Launch} {e : Env} {s : State} {m : MethodId} {args : Array Value} {below : List Frame} {meth : Method} {c : Code} {D : va_G} {A : Nat → Prop} {ad : Nat → Nat} {cy : Nat → ClassId} (hC : zC p m c cX2_sumOfCard 4 s args wzX2_sumOfCard RX2 meth (some .int))  {res : zSt × Int32} {H : Heap} {locs : List Loc} {σ : zSt} {ls : Array Slot} {x2 : Int32} (hI : zI st D (tC cy) (wC ad cy σ) A s H locs) (hl : lv_has ls 4 [(0, .ref (ad 1)), (2, .int x2)]) (hf : fX2_sumOfCard_52  σ x2 = some res) : W p l e rmX2_sumOfCard s m args below meth c H locs 0 0 (zQi below args s D (tC cy) (wC ad cy) A res) (F0 m 52 ls []) := by
  have hx := hC.1
  have hb := hC.2.1
  unfold fX2_sumOfCard_52 at hf
  refine lv_ldc (v := 32768) hx hb hC.2.2.2.1 (hC.2.2.2.2.1 _ (List.mem_cons_of_mem _ zw3_21)) dX2_sumOfCard_52 ?_
  refine lv_istore_n (lv' := [(3, .int 32768), (0, .ref (ad 1)), (2, .int x2)]) hx hb dX2_sumOfCard_54 rfl hl (by decide) rfl (fun ls hl => ?_)
  exact blX2_sumOfCard_55 hC  zfuel _ _ _ _ _ _ hI (lv_sub hl [1, 2, 0] rfl) hf
set_option maxRecDepth 20000 in
set_option maxHeartbeats 4000000 in
theorem bX2_sumOfCard_19_body {st : Nat → Nat} {p : Program} {l : Launch} {e : Env} {s : State} {m : MethodId} {args : Array Value} {below : List Frame} {meth : Method} {c : Code} {D : va_G} {A : Nat → Prop} {ad : Nat → Nat} {cy : Nat → ClassId} (hC : zC p m c cX2_sumOfCard 4 s args wzX2_sumOfCard RX2 meth (some .int)) {k19 : zSt → Int32 → Int32 → Int32 → Option (zSt × Int32)} {res : zSt × Int32} (hk19 : ∀ (H : Heap) (locs : List Loc) (σ : zSt) (ls : Array Slot) (x1 : Int32) (x2 : Int32) (x3 : Int32), zI st D (tC cy) (wC ad cy σ) A s H locs → lv_has ls 4 [(0, .ref (ad 1)), (1, .int x1), (2, .int x2), (3, .int x3)] → k19 σ x1 x2 x3 = some res → W p l e rmX2_sumOfCard s m args below meth c H locs 0 0 (zQi below args s D (tC cy) (wC ad cy) A res) (F0 m 19 ls [])) {H : Heap} {locs : List Loc} {σ : zSt} {ls : Array Slot} {x1 : Int32} {x2 : Int32} {x3 : Int32} (hI : zI st D (tC cy) (wC ad cy σ) A s H locs) (hl : lv_has ls 4 [(0, .ref (ad 1)), (1, .int x1), (2, .int x2), (3, .int x3)]) (hf : fX2_sumOfCard_19_body k19 σ x1 x2 x3 = some res) : W p l e rmX2_sumOfCard s m args below meth c H locs 0 0 (zQi below args s D (tC cy) (wC ad cy) A res) (F0 m 19 ls []) := by
  have hx := hC.1
  have hb := hC.2.1
  unfold fX2_sumOfCard_19_body at hf
  refine lv_iload_n hx hb dX2_sumOfCard_19 rfl (lv_at hl 3 rfl) ?_
  refine lv_aload_n hx hb dX2_sumOfCard_20 rfl (lv_at hl 0 rfl) ?_
  refine z_get hC hI hinX2_sumOfCard_X20 1 (wC_e1 ad cy σ) rfl 7 (by decide) (List.mem_cons_of_mem _ zw3_18) rfl dX2_sumOfCard_21 ?_
  refine lv_icmp_ge (tgt := 41) hx hb dX2_sumOfCard_24 (by decide) (fun q => ?_) (fun q => ?_)
  · replace hf := zif_t q hf
    refine lv_iload_n hx hb dX2_sumOfCard_41 rfl (lv_at hl 1 rfl) ?_
    refine lv_bipush (v := 14) hx hb dX2_sumOfCard_42 (by decide) ?_
    refine lv_icmp_ge (tgt := 52) hx hb dX2_sumOfCard_44 (by decide) (fun q => ?_) (fun q => ?_)
    · replace hf := zif_t q hf
      exact bX2_sumOfCard_52 hC  hI (lv_sub hl [0, 2] rfl) hf
    replace hf := zif_f q hf
    refine lv_iload_n hx hb dX2_sumOfCard_47 rfl (lv_at hl 1 rfl) ?_
    refine lv_iconst (v := 2) hx hb dX2_sumOfCard_48 (by decide) ?_
    refine lv_icmp_gt (tgt := 77) hx hb dX2_sumOfCard_49 (by decide) (fun q => ?_) (fun q => ?_)
    · replace hf := zif_t q hf
      exact bX2_sumOfCard_77 hC  hI (lv_sub hl [2] rfl) hf
    replace hf := zif_f q hf
    exact bX2_sumOfCard_52 hC  hI (lv_sub hl [0, 2] rfl) hf
  replace hf := zif_f q hf
  refine lv_iload_n hx hb dX2_sumOfCard_27 rfl (lv_at hl 2 rfl) ?_
  refine lv_aload_n hx hb dX2_sumOfCard_28 rfl (lv_at hl 0 rfl) ?_
  refine lv_iload_n hx hb dX2_sumOfCard_29 rfl (lv_at hl 3 rfl) ?_
  obtain ⟨σ5, v6, g5, hf⟩ := zbi_use hf
  refine z_callVi (As := [.int x3]) (rest := [.int x2]) hC hI (cX2_romByte_met st l D ad cy σ x3 _ g5) (zgV zw14_10 zw14_11 zw14_12 zw1_21 zw14_13) rfl ⟨rfl, rfl⟩ 1 hdX2_romByte ⟨Nat.le_of_ble_eq_true rfl, Nat.le_of_ble_eq_true rfl⟩ rfl rfl (wC_e1 ad cy σ) rfl hl rfl (Nat.le_of_ble_eq_true rfl) dX2_sumOfCard_30 ⟨Nat.zero_le _, Nat.zero_le _⟩ (fun H locs hI => ?_)
  refine lv_iadd hx hb dX2_sumOfCard_33 ?_
  refine lv_topi (fun v7 ev7 => ?_)
  replace hf := zbv_use ev7 hf
  refine lv_istore_n (lv' := [(2, .int v7), (0, .ref (ad 1)), (1, .int x1), (3, .int x3)]) hx hb dX2_sumOfCard_34 rfl hl (by decide) rfl (fun ls hl => ?_)
  obtain ⟨v8, ev8⟩ : ∃ z : Int32, z = x3 + 1 := ⟨_, rfl⟩
  replace hf := zbv_use ev8 hf
  refine lv_iinc (v := v8) (lv' := [(3, .int v8), (2, .int v7), (0, .ref (ad 1)), (1, .int x1)]) hx hb dX2_sumOfCard_35 hl (k := 3) rfl (by rw [ev8]; rfl) (by decide) rfl (fun ls hl => ?_)
  refine lv_goto (tgt := 19) hx hb dX2_sumOfCard_38 (by decide) ?_
  exact hk19 _ _ _ _ _ _ _ hI (lv_sub hl [2, 3, 1, 0] rfl) hf
theorem blX2_sumOfCard_19 {st : Nat → Nat} {p : Program} {l : Launch} {e : Env} {s : State} {m : MethodId} {args : Array Value} {below : List Frame} {meth : Method} {c : Code} {D : va_G} {A : Nat → Prop} {ad : Nat → Nat} {cy : Nat → ClassId} (hC : zC p m c cX2_sumOfCard 4 s args wzX2_sumOfCard RX2 meth (some .int))  {res : zSt × Int32} : ∀ (n : Nat) (H : Heap) (locs : List Loc) (σ : zSt) (ls : Array Slot) (x1 : Int32) (x2 : Int32) (x3 : Int32), zI st D (tC cy) (wC ad cy σ) A s H locs → lv_has ls 4 [(0, .ref (ad 1)), (1, .int x1), (2, .int x2), (3, .int x3)] → fX2_sumOfCard_19  n σ x1 x2 x3 = some res → W p l e rmX2_sumOfCard s m args below meth c H locs 0 0 (zQi below args s D (tC cy) (wC ad cy) A res) (F0 m 19 ls []) := by
  intro n
  induction n with
  | zero => intro H locs σ ls x1 x2 x3 hI hl hf; cases hf
  | succ n ih => intro H locs σ ls x1 x2 x3 hI hl hf; exact bX2_sumOfCard_19_body hC ih hI hl hf
set_option maxRecDepth 20000 in
set_option maxHeartbeats 4000000 in
theorem bX2_sumOfCard {st : Nat → Nat} {p : Program} {l : Launch} {e : Env} {s : State} {m : MethodId} {args : Array Value} {below : List Frame} {meth : Method} {c : Code} {D : va_G} {A : Nat → Prop} {ad : Nat → Nat} {cy : Nat → ClassId} (hC : zC p m c cX2_sumOfCard 4 s args wzX2_sumOfCard RX2 meth (some .int))  {res : zSt × Int32} {H : Heap} {locs : List Loc} {σ : zSt} {ls : Array Slot}  (hI : zI st D (tC cy) (wC ad cy σ) A s H locs) (hl : lv_has ls 4 [(0, .ref (ad 1))]) (hf : fX2_sumOfCard  σ  = some res) : W p l e rmX2_sumOfCard s m args below meth c H locs 0 0 (zQi below args s D (tC cy) (wC ad cy) A res) (F0 m 0 ls []) := by
  have hx := hC.1
  have hb := hC.2.1
  unfold fX2_sumOfCard at hf
  refine lv_aload_n hx hb dX2_sumOfCard_0 rfl (lv_at hl 0 rfl) ?_
  refine lv_aload_n hx hb dX2_sumOfCard_1 rfl (lv_at hl 0 rfl) ?_
  refine z_get hC hI hinX2_sumOfCard_X20 1 (wC_e1 ad cy σ) rfl 7 (by decide) (List.mem_cons_of_mem _ zw3_18) rfl dX2_sumOfCard_2 ?_
  refine lv_bipush (v := 15) hx hb dX2_sumOfCard_5 (by decide) ?_
  refine lv_iadd hx hb dX2_sumOfCard_7 ?_
  obtain ⟨σ9, v10, g9, hf⟩ := zbi_use hf
  refine z_callVi (As := [.int ((zgi σ 1 7) + 15)]) (rest := []) hC hI (cX2_romByte_met st l D ad cy σ ((zgi σ 1 7) + 15) _ g9) (zgV zw14_10 zw14_11 zw14_12 zw1_21 zw14_13) rfl ⟨rfl, rfl⟩ 1 hdX2_romByte ⟨Nat.le_of_ble_eq_true rfl, Nat.le_of_ble_eq_true rfl⟩ rfl rfl (wC_e1 ad cy σ) rfl hl rfl (Nat.le_of_ble_eq_true rfl) dX2_sumOfCard_8 ⟨Nat.zero_le _, Nat.zero_le _⟩ (fun H locs hI => ?_)
  refine lv_bipush (v := 15) hx hb dX2_sumOfCard_11 (by decide) ?_
  refine lv_iand hx hb dX2_sumOfCard_13 ?_
  refine lv_topi (fun v11 ev11 => ?_)
  replace hf := zbv_use ev11 hf
  refine lv_istore_n (lv' := [(1, .int v11), (0, .ref (ad 1))]) hx hb dX2_sumOfCard_14 rfl hl (by decide) rfl (fun ls hl => ?_)
  refine lv_iconst (v := 0) hx hb dX2_sumOfCard_15 (by decide) ?_
  refine lv_istore_n (lv' := [(2, .int 0), (1, .int v11), (0, .ref (ad 1))]) hx hb dX2_sumOfCard_16 rfl hl (by decide) rfl (fun ls hl => ?_)
  refine lv_iconst (v := 0) hx hb dX2_sumOfCard_17 (by decide) ?_
  refine lv_istore_n (lv' := [(3, .int 0), (2, .int 0), (1, .int v11), (0, .ref (ad 1))]) hx hb dX2_sumOfCard_18 rfl hl (by decide) rfl (fun ls hl => ?_)
  exact blX2_sumOfCard_19 hC  zfuel _ _ _ _ _ _ _ hI (lv_sub hl [3, 2, 1, 0] rfl) hf
set_option maxRecDepth 20000 in
theorem cX2_sumOfCard_met (st : Nat → Nat) (l : Launch) (D : va_G) (ad : Nat → Nat) (cy : Nat → ClassId) (σ : zSt)  (res : zSt × Int32) (hf : fX2_sumOfCard σ  = some res) (sz : Nat) : zMi st l yX2_sumOfCard wzX2_sumOfCard rmX2_sumOfCard [.ref (ad 1)] D (tC cy) (wC ad cy) sz σ res :=
  zMi.of (cc := cX2_sumOfCard) (maxL := 4) (ret := (some .int)) (by decide) rfl (Nat.le_of_ble_eq_true rfl) (fun p e s m args below meth c hC A hI ls hl => bX2_sumOfCard hC hI hl hf)
theorem hdX2_sumOfCard : yX2_sumOfCard.cls = RX2 ∧ yX2_sumOfCard.cls ≠ "java/lang/invoke/MethodHandle" ∧ yX2_sumOfCard.cls ≠ "java/lang/invoke/VarHandle" ∧ (parseMethodDescriptor yX2_sumOfCard.desc).map (fun d => d.parameters.length) = some 0 := by decide +kernel
noncomputable def rmX2_decimal : Room := { frames := 1, cells := 0, slots := 0, locals := 21 }
noncomputable def wzX2_decimal : List Cond := .code yX2_decimal cX2_decimal 3 (some .int) :: wsL_law
theorem hinX2_decimal_X20 : ∀ w ∈ wsX20, w ∈ wzX2_decimal := fun w h => List.mem_cons_of_mem _ (inlX2 w h)
noncomputable def fX2_decimal  (σ : zSt) (x1 : Int32) : Option (zSt × Int32) :=
  zbi (fX2_romByte σ ((zgi σ 1 7) + x1)) (fun σ1 v2 =>
  some (σ1, (10 * (v2 >>> ((4 : Int32) &&& 31))) + (v2 &&& 15)))
set_option maxRecDepth 20000 in
set_option maxHeartbeats 4000000 in
theorem bX2_decimal {st : Nat → Nat} {p : Program} {l : Launch} {e : Env} {s : State} {m : MethodId} {args : Array Value} {below : List Frame} {meth : Method} {c : Code} {D : va_G} {A : Nat → Prop} {ad : Nat → Nat} {cy : Nat → ClassId} (hC : zC p m c cX2_decimal 3 s args wzX2_decimal RX2 meth (some .int))  {res : zSt × Int32} {H : Heap} {locs : List Loc} {σ : zSt} {ls : Array Slot} {x1 : Int32} (hI : zI st D (tC cy) (wC ad cy σ) A s H locs) (hl : lv_has ls 3 [(0, .ref (ad 1)), (1, .int x1)]) (hf : fX2_decimal  σ x1 = some res) : W p l e rmX2_decimal s m args below meth c H locs 0 0 (zQi below args s D (tC cy) (wC ad cy) A res) (F0 m 0 ls []) := by
  have hx := hC.1
  have hb := hC.2.1
  unfold fX2_decimal at hf
  refine lv_aload_n hx hb dX2_decimal_0 rfl (lv_at hl 0 rfl) ?_
  refine lv_aload_n hx hb dX2_decimal_1 rfl (lv_at hl 0 rfl) ?_
  refine z_get hC hI hinX2_decimal_X20 1 (wC_e1 ad cy σ) rfl 7 (by decide) (List.mem_cons_of_mem _ zw3_18) rfl dX2_decimal_2 ?_
  refine lv_iload_n hx hb dX2_decimal_5 rfl (lv_at hl 1 rfl) ?_
  refine lv_iadd hx hb dX2_decimal_6 ?_
  obtain ⟨σ1, v2, g1, hf⟩ := zbi_use hf
  refine z_callVi (As := [.int ((zgi σ 1 7) + x1)]) (rest := []) hC hI (cX2_romByte_met st l D ad cy σ ((zgi σ 1 7) + x1) _ g1) (zgV zw14_10 zw14_11 zw14_12 zw1_21 zw14_13) rfl ⟨rfl, rfl⟩ 1 hdX2_romByte ⟨Nat.le_of_ble_eq_true rfl, Nat.le_of_ble_eq_true rfl⟩ rfl rfl (wC_e1 ad cy σ) rfl hl rfl (Nat.le_of_ble_eq_true rfl) dX2_decimal_7 ⟨Nat.zero_le _, Nat.zero_le _⟩ (fun H locs hI => ?_)
  refine lv_istore_n (lv' := [(2, .int v2), (0, .ref (ad 1)), (1, .int x1)]) hx hb dX2_decimal_10 rfl hl (by decide) rfl (fun ls hl => ?_)
  refine lv_bipush (v := 10) hx hb dX2_decimal_11 (by decide) ?_
  refine lv_iload_n hx hb dX2_decimal_13 rfl (lv_at hl 0 rfl) ?_
  refine lv_iconst (v := 4) hx hb dX2_decimal_14 (by decide) ?_
  refine lv_ishr hx hb dX2_decimal_15 ?_
  refine lv_imul hx hb dX2_decimal_16 ?_
  refine lv_iload_n hx hb dX2_decimal_17 rfl (lv_at hl 0 rfl) ?_
  refine lv_bipush (v := 15) hx hb dX2_decimal_18 (by decide) ?_
  refine lv_iand hx hb dX2_decimal_20 ?_
  refine lv_iadd hx hb dX2_decimal_21 ?_
  exact z_ireturn hC hI hf dX2_decimal_22
set_option maxRecDepth 20000 in
theorem cX2_decimal_met (st : Nat → Nat) (l : Launch) (D : va_G) (ad : Nat → Nat) (cy : Nat → ClassId) (σ : zSt) (x1 : Int32) (res : zSt × Int32) (hf : fX2_decimal σ x1 = some res) (sz : Nat) : zMi st l yX2_decimal wzX2_decimal rmX2_decimal [.ref (ad 1), .int x1] D (tC cy) (wC ad cy) sz σ res :=
  zMi.of (cc := cX2_decimal) (maxL := 3) (ret := (some .int)) (by decide) rfl (Nat.le_of_ble_eq_true rfl) (fun p e s m args below meth c hC A hI ls hl => bX2_decimal hC hI hl hf)
theorem hdX2_decimal : yX2_decimal.cls = RX2 ∧ yX2_decimal.cls ≠ "java/lang/invoke/MethodHandle" ∧ yX2_decimal.cls ≠ "java/lang/invoke/VarHandle" ∧ (parseMethodDescriptor yX2_decimal.desc).map (fun d => d.parameters.length) = some 1 := by decide +kernel
noncomputable def rmX2_aboutCard : Room := { frames := 2, cells := 0, slots := 0, locals := 44 }
noncomputable def wzX2_aboutCard : List Cond := .code yX2_aboutCard cX2_aboutCard 2 (some .int) :: wsL_law
theorem hinX2_aboutCard_X20 : ∀ w ∈ wsX20, w ∈ wzX2_aboutCard := fun w h => List.mem_cons_of_mem _ (inlX2 w h)
noncomputable def fX2_aboutCard_14  (σ : zSt) (x1 : Int32) : Option (zSt × Int32) :=
  if x1 = 0 then some (σ, zgi σ 1 6) else
  if x1 = 1 then some (σ, zgi σ 1 5) else
  if x1 = 2 then some (σ, zgi σ 1 7) else
  if x1 = 3 then zbi (fX2_decimal σ 12) (fun σ1 v2 =>
  zbi (fX2_decimal σ1 13) (fun σ3 v4 =>
  zbi (fX2_romByte σ3 ((zgi σ3 1 7) + 14)) (fun σ5 v6 =>
  some (σ5, (v2 + (100 * v4)) + (10000 * (v6 >>> ((4 : Int32) &&& 31))))))) else
  if x1 = 4 then zbi (fX2_romByte σ ((zgi σ 1 7) + 15)) (fun σ7 v8 =>
  some (σ7, v8 >>> ((4 : Int32) &&& 31))) else
  if x1 = 5 then zbi (fX2_romByte σ ((zgi σ 1 7) + 15)) (fun σ9 v10 =>
  some (σ9, v10 &&& 15)) else
  if x1 = 6 then zbi (fX2_romWord σ ((zgi σ 1 7) + 10)) (fun σ11 v12 =>
  some (σ11, v12)) else
  zbi (fX2_sumOfCard σ ) (fun σ13 v14 =>
  some (σ13, v14))
noncomputable def fX2_aboutCard  (σ : zSt) (x1 : Int32) : Option (zSt × Int32) :=
  if x1 < 3 then fX2_aboutCard_14 σ x1 else
  if 0 ≤ (zgi σ 1 7) then fX2_aboutCard_14 σ x1 else
  some (σ, 0)
set_option maxRecDepth 20000 in
set_option maxHeartbeats 4000000 in
theorem bX2_aboutCard_14 {st : Nat → Nat} {p : Program} {l : Launch} {e : Env} {s : State} {m : MethodId} {args : Array Value} {below : List Frame} {meth : Method} {c : Code} {D : va_G} {A : Nat → Prop} {ad : Nat → Nat} {cy : Nat → ClassId} (hC : zC p m c cX2_aboutCard 2 s args wzX2_aboutCard RX2 meth (some .int))  {res : zSt × Int32} {H : Heap} {locs : List Loc} {σ : zSt} {ls : Array Slot} {x1 : Int32} (hI : zI st D (tC cy) (wC ad cy σ) A s H locs) (hl : lv_has ls 2 [(0, .ref (ad 1)), (1, .int x1)]) (hf : fX2_aboutCard_14  σ x1 = some res) : W p l e rmX2_aboutCard s m args below meth c H locs 0 0 (zQi below args s D (tC cy) (wC ad cy) A res) (F0 m 14 ls []) := by
  have hx := hC.1
  have hb := hC.2.1
  unfold fX2_aboutCard_14 at hf
  refine lv_iload_n hx hb dX2_aboutCard_14 rfl (lv_at hl 1 rfl) ?_
  by_cases q0 : x1 = 0
  · replace hf := zif_t q0 hf
    refine lv_tableIn (tgt := 56) hx hb dX2_aboutCard_15 (by rw [q0]; decide) (by rw [q0]; decide) (by rw [q0]; rfl) (by decide) ?_
    refine lv_aload_n hx hb dX2_aboutCard_56 rfl (lv_at hl 0 rfl) ?_
    refine z_get hC hI hinX2_aboutCard_X20 1 (wC_e1 ad cy σ) rfl 6 (by decide) (List.mem_cons_of_mem _ zw14_3) rfl dX2_aboutCard_57 ?_
    exact z_ireturn hC hI hf dX2_aboutCard_60
  replace hf := zif_f q0 hf
  by_cases q1 : x1 = 1
  · replace hf := zif_t q1 hf
    refine lv_tableIn (tgt := 61) hx hb dX2_aboutCard_15 (by rw [q1]; decide) (by rw [q1]; decide) (by rw [q1]; rfl) (by decide) ?_
    refine lv_aload_n hx hb dX2_aboutCard_61 rfl (lv_at hl 0 rfl) ?_
    refine z_get hC hI hinX2_aboutCard_X20 1 (wC_e1 ad cy σ) rfl 5 (by decide) (List.mem_cons_of_mem _ zw14_2) rfl dX2_aboutCard_62 ?_
    exact z_ireturn hC hI hf dX2_aboutCard_65
  replace hf := zif_f q1 hf
  by_cases q2 : x1 = 2
  · replace hf := zif_t q2 hf
    refine lv_tableIn (tgt := 66) hx hb dX2_aboutCard_15 (by rw [q2]; decide) (by rw [q2]; decide) (by rw [q2]; rfl) (by decide) ?_
    refine lv_aload_n hx hb dX2_aboutCard_66 rfl (lv_at hl 0 rfl) ?_
    refine z_get hC hI hinX2_aboutCard_X20 1 (wC_e1 ad cy σ) rfl 7 (by decide) (List.mem_cons_of_mem _ zw3_18) rfl dX2_aboutCard_67 ?_
    exact z_ireturn hC hI hf dX2_aboutCard_70
  replace hf := zif_f q2 hf
  by_cases q3 : x1 = 3
  · replace hf := zif_t q3 hf
    refine lv_tableIn (tgt := 71) hx hb dX2_aboutCard_15 (by rw [q3]; decide) (by rw [q3]; decide) (by rw [q3]; rfl) (by decide) ?_
    refine lv_aload_n hx hb dX2_aboutCard_71 rfl (lv_at hl 0 rfl) ?_
    refine lv_bipush (v := 12) hx hb dX2_aboutCard_72 (by decide) ?_
    obtain ⟨σ1, v2, g1, hf⟩ := zbi_use hf
    refine z_callVi (As := [.int 12]) (rest := []) hC hI (cX2_decimal_met st l D ad cy σ 12 _ g1) (zgV zw17_8 zw17_9 zw17_10 zw1_21 zw17_11) rfl ⟨rfl, rfl⟩ 1 hdX2_decimal ⟨Nat.le_of_ble_eq_true rfl, Nat.le_of_ble_eq_true rfl⟩ rfl rfl (wC_e1 ad cy σ) rfl hl rfl (Nat.le_of_ble_eq_true rfl) dX2_aboutCard_74 ⟨Nat.zero_le _, Nat.zero_le _⟩ (fun H locs hI => ?_)
    refine lv_bipush (v := 100) hx hb dX2_aboutCard_77 (by decide) ?_
    refine lv_aload_n hx hb dX2_aboutCard_79 rfl (lv_at hl 0 rfl) ?_
    refine lv_bipush (v := 13) hx hb dX2_aboutCard_80 (by decide) ?_
    obtain ⟨σ3, v4, g3, hf⟩ := zbi_use hf
    refine z_callVi (As := [.int 13]) (rest := [.int 100, .int v2]) hC hI (cX2_decimal_met st l D ad cy σ1 13 _ g3) (zgV zw17_8 zw17_9 zw17_10 zw1_21 zw17_11) rfl ⟨rfl, rfl⟩ 1 hdX2_decimal ⟨Nat.le_of_ble_eq_true rfl, Nat.le_of_ble_eq_true rfl⟩ rfl rfl (wC_e1 ad cy σ1) rfl hl rfl (Nat.le_of_ble_eq_true rfl) dX2_aboutCard_82 ⟨Nat.zero_le _, Nat.zero_le _⟩ (fun H locs hI => ?_)
    refine lv_imul hx hb dX2_aboutCard_85 ?_
    refine lv_iadd hx hb dX2_aboutCard_86 ?_
    refine lv_sipush (v := 10000) hx hb dX2_aboutCard_87 (by decide) ?_
    refine lv_aload_n hx hb dX2_aboutCard_90 rfl (lv_at hl 0 rfl) ?_
    refine lv_aload_n hx hb dX2_aboutCard_91 rfl (lv_at hl 0 rfl) ?_
    refine z_get hC hI hinX2_aboutCard_X20 1 (wC_e1 ad cy σ3) rfl 7 (by decide) (List.mem_cons_of_mem _ zw3_18) rfl dX2_aboutCard_92 ?_
    refine lv_bipush (v := 14) hx hb dX2_aboutCard_95 (by decide) ?_
    refine lv_iadd hx hb dX2_aboutCard_97 ?_
    obtain ⟨σ5, v6, g5, hf⟩ := zbi_use hf
    refine z_callVi (As := [.int ((zgi σ3 1 7) + 14)]) (rest := [.int 10000, .int (v2 + (100 * v4))]) hC hI (cX2_romByte_met st l D ad cy σ3 ((zgi σ3 1 7) + 14) _ g5) (zgV zw14_10 zw14_11 zw14_12 zw1_21 zw14_13) rfl ⟨rfl, rfl⟩ 1 hdX2_romByte ⟨Nat.le_of_ble_eq_true rfl, Nat.le_of_ble_eq_true rfl⟩ rfl rfl (wC_e1 ad cy σ3) rfl hl rfl (Nat.le_of_ble_eq_true rfl) dX2_aboutCard_98 ⟨Nat.zero_le _, Nat.zero_le _⟩ (fun H locs hI => ?_)
    refine lv_iconst (v := 4) hx hb dX2_aboutCard_101 (by decide) ?_
    refine lv_ishr hx hb dX2_aboutCard_102 ?_
    refine lv_imul hx hb dX2_aboutCard_103 ?_
    refine lv_iadd hx hb dX2_aboutCard_104 ?_
    exact z_ireturn hC hI hf dX2_aboutCard_105
  replace hf := zif_f q3 hf
  by_cases q4 : x1 = 4
  · replace hf := zif_t q4 hf
    refine lv_tableIn (tgt := 106) hx hb dX2_aboutCard_15 (by rw [q4]; decide) (by rw [q4]; decide) (by rw [q4]; rfl) (by decide) ?_
    refine lv_aload_n hx hb dX2_aboutCard_106 rfl (lv_at hl 0 rfl) ?_
    refine lv_aload_n hx hb dX2_aboutCard_107 rfl (lv_at hl 0 rfl) ?_
    refine z_get hC hI hinX2_aboutCard_X20 1 (wC_e1 ad cy σ) rfl 7 (by decide) (List.mem_cons_of_mem _ zw3_18) rfl dX2_aboutCard_108 ?_
    refine lv_bipush (v := 15) hx hb dX2_aboutCard_111 (by decide) ?_
    refine lv_iadd hx hb dX2_aboutCard_113 ?_
    obtain ⟨σ7, v8, g7, hf⟩ := zbi_use hf
    refine z_callVi (As := [.int ((zgi σ 1 7) + 15)]) (rest := []) hC hI (cX2_romByte_met st l D ad cy σ ((zgi σ 1 7) + 15) _ g7) (zgV zw14_10 zw14_11 zw14_12 zw1_21 zw14_13) rfl ⟨rfl, rfl⟩ 1 hdX2_romByte ⟨Nat.le_of_ble_eq_true rfl, Nat.le_of_ble_eq_true rfl⟩ rfl rfl (wC_e1 ad cy σ) rfl hl rfl (Nat.le_of_ble_eq_true rfl) dX2_aboutCard_114 ⟨Nat.zero_le _, Nat.zero_le _⟩ (fun H locs hI => ?_)
    refine lv_iconst (v := 4) hx hb dX2_aboutCard_117 (by decide) ?_
    refine lv_ishr hx hb dX2_aboutCard_118 ?_
    exact z_ireturn hC hI hf dX2_aboutCard_119
  replace hf := zif_f q4 hf
  by_cases q5 : x1 = 5
  · replace hf := zif_t q5 hf
    refine lv_tableIn (tgt := 120) hx hb dX2_aboutCard_15 (by rw [q5]; decide) (by rw [q5]; decide) (by rw [q5]; rfl) (by decide) ?_
    refine lv_aload_n hx hb dX2_aboutCard_120 rfl (lv_at hl 0 rfl) ?_
    refine lv_aload_n hx hb dX2_aboutCard_121 rfl (lv_at hl 0 rfl) ?_
    refine z_get hC hI hinX2_aboutCard_X20 1 (wC_e1 ad cy σ) rfl 7 (by decide) (List.mem_cons_of_mem _ zw3_18) rfl dX2_aboutCard_122 ?_
    refine lv_bipush (v := 15) hx hb dX2_aboutCard_125 (by decide) ?_
    refine lv_iadd hx hb dX2_aboutCard_127 ?_
    obtain ⟨σ9, v10, g9, hf⟩ := zbi_use hf
    refine z_callVi (As := [.int ((zgi σ 1 7) + 15)]) (rest := []) hC hI (cX2_romByte_met st l D ad cy σ ((zgi σ 1 7) + 15) _ g9) (zgV zw14_10 zw14_11 zw14_12 zw1_21 zw14_13) rfl ⟨rfl, rfl⟩ 1 hdX2_romByte ⟨Nat.le_of_ble_eq_true rfl, Nat.le_of_ble_eq_true rfl⟩ rfl rfl (wC_e1 ad cy σ) rfl hl rfl (Nat.le_of_ble_eq_true rfl) dX2_aboutCard_128 ⟨Nat.zero_le _, Nat.zero_le _⟩ (fun H locs hI => ?_)
    refine lv_bipush (v := 15) hx hb dX2_aboutCard_131 (by decide) ?_
    refine lv_iand hx hb dX2_aboutCard_133 ?_
    exact z_ireturn hC hI hf dX2_aboutCard_134
  replace hf := zif_f q5 hf
  by_cases q6 : x1 = 6
  · replace hf := zif_t q6 hf
    refine lv_tableIn (tgt := 135) hx hb dX2_aboutCard_15 (by rw [q6]; decide) (by rw [q6]; decide) (by rw [q6]; rfl) (by decide) ?_
    refine lv_aload_n hx hb dX2_aboutCard_135 rfl (lv_at hl 0 rfl) ?_
    refine lv_aload_n hx hb dX2_aboutCard_136 rfl (lv_at hl 0 rfl) ?_
    refine z_get hC hI hinX2_aboutCard_X20 1 (wC_e1 ad cy σ) rfl 7 (by decide) (List.mem_cons_of_mem _ zw3_18) rfl dX2_aboutCard_137 ?_
    refine lv_bipush (v := 10) hx hb dX2_aboutCard_140 (by decide) ?_
    refine lv_iadd hx hb dX2_aboutCard_142 ?_
    obtain ⟨σ11, v12, g11, hf⟩ := zbi_use hf
    refine z_callVi (As := [.int ((zgi σ 1 7) + 10)]) (rest := []) hC hI (cX2_romWord_met st l D ad cy σ ((zgi σ 1 7) + 10) _ g11) (zgV zw14_20 zw14_21 zw14_22 zw1_21 zw14_23) rfl ⟨rfl, rfl⟩ 1 hdX2_romWord ⟨Nat.le_of_ble_eq_true rfl, Nat.le_of_ble_eq_true rfl⟩ rfl rfl (wC_e1 ad cy σ) rfl hl rfl (Nat.le_of_ble_eq_true rfl) dX2_aboutCard_143 ⟨Nat.zero_le _, Nat.zero_le _⟩ (fun H locs hI => ?_)
    exact z_ireturn hC hI hf dX2_aboutCard_146
  replace hf := zif_f q6 hf
  refine lv_tableOut (tgt := 147) hx hb dX2_aboutCard_15 (zsw (fun k h1 h2 => by rcases (show k = 0 ∨ k = 1 ∨ k = 2 ∨ k = 3 ∨ k = 4 ∨ k = 5 ∨ k = 6 by omega) with rfl | rfl | rfl | rfl | rfl | rfl | rfl <;> assumption)) (by decide) ?_
  refine lv_aload_n hx hb dX2_aboutCard_147 rfl (lv_at hl 0 rfl) ?_
  obtain ⟨σ13, v14, g13, hf⟩ := zbi_use hf
  refine z_callVi (As := []) (rest := []) hC hI (cX2_sumOfCard_met st l D ad cy σ  _ g13) (zgV zw17_12 zw17_13 zw17_14 zw1_21 zw17_15) rfl ⟨rfl, rfl⟩ 0 hdX2_sumOfCard ⟨Nat.le_of_ble_eq_true rfl, Nat.le_of_ble_eq_true rfl⟩ rfl rfl (wC_e1 ad cy σ) rfl hl rfl (Nat.le_of_ble_eq_true rfl) dX2_aboutCard_148 ⟨Nat.zero_le _, Nat.zero_le _⟩ (fun H locs hI => ?_)
  exact z_ireturn hC hI hf dX2_aboutCard_151
set_option maxRecDepth 20000 in
set_option maxHeartbeats 4000000 in
theorem bX2_aboutCard {st : Nat → Nat} {p : Program} {l : Launch} {e : Env} {s : State} {m : MethodId} {args : Array Value} {below : List Frame} {meth : Method} {c : Code} {D : va_G} {A : Nat → Prop} {ad : Nat → Nat} {cy : Nat → ClassId} (hC : zC p m c cX2_aboutCard 2 s args wzX2_aboutCard RX2 meth (some .int))  {res : zSt × Int32} {H : Heap} {locs : List Loc} {σ : zSt} {ls : Array Slot} {x1 : Int32} (hI : zI st D (tC cy) (wC ad cy σ) A s H locs) (hl : lv_has ls 2 [(0, .ref (ad 1)), (1, .int x1)]) (hf : fX2_aboutCard  σ x1 = some res) : W p l e rmX2_aboutCard s m args below meth c H locs 0 0 (zQi below args s D (tC cy) (wC ad cy) A res) (F0 m 0 ls []) := by
  have hx := hC.1
  have hb := hC.2.1
  unfold fX2_aboutCard at hf
  refine lv_iload_n hx hb dX2_aboutCard_0 rfl (lv_at hl 1 rfl) ?_
  refine lv_iconst (v := 3) hx hb dX2_aboutCard_1 (by decide) ?_
  refine lv_icmp_lt (tgt := 14) hx hb dX2_aboutCard_2 (by decide) (fun q => ?_) (fun q => ?_)
  · replace hf := zif_t q hf
    exact bX2_aboutCard_14 hC  hI hl hf
  replace hf := zif_f q hf
  refine lv_aload_n hx hb dX2_aboutCard_5 rfl (lv_at hl 0 rfl) ?_
  refine z_get hC hI hinX2_aboutCard_X20 1 (wC_e1 ad cy σ) rfl 7 (by decide) (List.mem_cons_of_mem _ zw3_18) rfl dX2_aboutCard_6 ?_
  refine lv_if_ge (tgt := 14) hx hb dX2_aboutCard_9 (by decide) (fun q => ?_) (fun q => ?_)
  · replace hf := zif_t q hf
    exact bX2_aboutCard_14 hC  hI hl hf
  replace hf := zif_f q hf
  refine lv_iconst (v := 0) hx hb dX2_aboutCard_12 (by decide) ?_
  exact z_ireturn hC hI hf dX2_aboutCard_13
set_option maxRecDepth 20000 in
theorem cX2_aboutCard_met (st : Nat → Nat) (l : Launch) (D : va_G) (ad : Nat → Nat) (cy : Nat → ClassId) (σ : zSt) (x1 : Int32) (res : zSt × Int32) (hf : fX2_aboutCard σ x1 = some res) (sz : Nat) : zMi st l yX2_aboutCard wzX2_aboutCard rmX2_aboutCard [.ref (ad 1), .int x1] D (tC cy) (wC ad cy) sz σ res :=
  zMi.of (cc := cX2_aboutCard) (maxL := 2) (ret := (some .int)) (by decide) rfl (Nat.le_of_ble_eq_true rfl) (fun p e s m args below meth c hC A hI ls hl => bX2_aboutCard hC hI hl hf)
theorem hdX2_aboutCard : yX2_aboutCard.cls = RX2 ∧ yX2_aboutCard.cls ≠ "java/lang/invoke/MethodHandle" ∧ yX2_aboutCard.cls ≠ "java/lang/invoke/VarHandle" ∧ (parseMethodDescriptor yX2_aboutCard.desc).map (fun d => d.parameters.length) = some 1 := by decide +kernel
noncomputable def rmX2_cardSize : Room := { frames := 0, cells := 0, slots := 0, locals := 0 }
noncomputable def wzX2_cardSize : List Cond := .code yX2_cardSize cX2_cardSize 1 (some .int) :: wsL_law
theorem hinX2_cardSize_X20 : ∀ w ∈ wsX20, w ∈ wzX2_cardSize := fun w h => List.mem_cons_of_mem _ (inlX2 w h)
noncomputable def fX2_cardSize  (σ : zSt)  : Option (zSt × Int32) :=
  some (σ, zgi σ 1 4)
set_option maxRecDepth 20000 in
set_option maxHeartbeats 4000000 in
theorem bX2_cardSize {st : Nat → Nat} {p : Program} {l : Launch} {e : Env} {s : State} {m : MethodId} {args : Array Value} {below : List Frame} {meth : Method} {c : Code} {D : va_G} {A : Nat → Prop} {ad : Nat → Nat} {cy : Nat → ClassId} (hC : zC p m c cX2_cardSize 1 s args wzX2_cardSize RX2 meth (some .int))  {res : zSt × Int32} {H : Heap} {locs : List Loc} {σ : zSt} {ls : Array Slot}  (hI : zI st D (tC cy) (wC ad cy σ) A s H locs) (hl : lv_has ls 1 [(0, .ref (ad 1))]) (hf : fX2_cardSize  σ  = some res) : W p l e rmX2_cardSize s m args below meth c H locs 0 0 (zQi below args s D (tC cy) (wC ad cy) A res) (F0 m 0 ls []) := by
  have hx := hC.1
  have hb := hC.2.1
  unfold fX2_cardSize at hf
  refine lv_aload_n hx hb dX2_cardSize_0 rfl (lv_at hl 0 rfl) ?_
  refine z_get hC hI hinX2_cardSize_X20 1 (wC_e1 ad cy σ) rfl 4 (by decide) (List.mem_cons_of_mem _ zw14_1) rfl dX2_cardSize_1 ?_
  exact z_ireturn hC hI hf dX2_cardSize_4
set_option maxRecDepth 20000 in
theorem cX2_cardSize_met (st : Nat → Nat) (l : Launch) (D : va_G) (ad : Nat → Nat) (cy : Nat → ClassId) (σ : zSt)  (res : zSt × Int32) (hf : fX2_cardSize σ  = some res) (sz : Nat) : zMi st l yX2_cardSize wzX2_cardSize rmX2_cardSize [.ref (ad 1)] D (tC cy) (wC ad cy) sz σ res :=
  zMi.of (cc := cX2_cardSize) (maxL := 1) (ret := (some .int)) (by decide) rfl (Nat.le_of_ble_eq_true rfl) (fun p e s m args below meth c hC A hI ls hl => bX2_cardSize hC hI hl hf)
theorem hdX2_cardSize : yX2_cardSize.cls = RX2 ∧ yX2_cardSize.cls ≠ "java/lang/invoke/MethodHandle" ∧ yX2_cardSize.cls ≠ "java/lang/invoke/VarHandle" ∧ (parseMethodDescriptor yX2_cardSize.desc).map (fun d => d.parameters.length) = some 0 := by decide +kernel
noncomputable def rmX2_page : Room := { frames := 0, cells := 0, slots := 0, locals := 0 }
noncomputable def wzX2_page : List Cond := .code yX2_page cX2_page 2 (some .int) :: wsL_law
theorem hinX2_page_X20 : ∀ w ∈ wsX20, w ∈ wzX2_page := fun w h => List.mem_cons_of_mem _ (inlX2 w h)
noncomputable def fX2_page  (σ : zSt) (x1 : Int32) : Option (zSt × Int32) :=
  zck (zin (x1 &&& 3) 4) (
  some (σ, zgi σ 19 (x1 &&& 3).toNatClampNeg))
set_option maxRecDepth 20000 in
set_option maxHeartbeats 4000000 in
theorem bX2_page {st : Nat → Nat} {p : Program} {l : Launch} {e : Env} {s : State} {m : MethodId} {args : Array Value} {below : List Frame} {meth : Method} {c : Code} {D : va_G} {A : Nat → Prop} {ad : Nat → Nat} {cy : Nat → ClassId} (hC : zC p m c cX2_page 2 s args wzX2_page RX2 meth (some .int))  {res : zSt × Int32} {H : Heap} {locs : List Loc} {σ : zSt} {ls : Array Slot} {x1 : Int32} (hI : zI st D (tC cy) (wC ad cy σ) A s H locs) (hl : lv_has ls 2 [(0, .ref (ad 1)), (1, .int x1)]) (hf : fX2_page  σ x1 = some res) : W p l e rmX2_page s m args below meth c H locs 0 0 (zQi below args s D (tC cy) (wC ad cy) A res) (F0 m 0 ls []) := by
  have hx := hC.1
  have hb := hC.2.1
  unfold fX2_page at hf
  refine lv_aload_n hx hb dX2_page_0 rfl (lv_at hl 0 rfl) ?_
  refine z_get hC hI hinX2_page_X20 1 (wC_e1 ad cy σ) rfl 12 (by decide) (List.mem_cons_of_mem _ zw4_0) rfl dX2_page_1 ?_
  refine lv_iload_n hx hb dX2_page_4 rfl (lv_at hl 1 rfl) ?_
  refine lv_iconst (v := 3) hx hb dX2_page_5 (by decide) ?_
  refine lv_iand hx hb dX2_page_6 ?_
  obtain ⟨q, hf⟩ := zck_use hf
  refine z_iald hC hI 19 6 (wC_e19 ad cy σ) (tC_t19 cy) q dX2_page_7 ?_
  exact z_ireturn hC hI hf dX2_page_8
set_option maxRecDepth 20000 in
theorem cX2_page_met (st : Nat → Nat) (l : Launch) (D : va_G) (ad : Nat → Nat) (cy : Nat → ClassId) (σ : zSt) (x1 : Int32) (res : zSt × Int32) (hf : fX2_page σ x1 = some res) (sz : Nat) : zMi st l yX2_page wzX2_page rmX2_page [.ref (ad 1), .int x1] D (tC cy) (wC ad cy) sz σ res :=
  zMi.of (cc := cX2_page) (maxL := 2) (ret := (some .int)) (by decide) rfl (Nat.le_of_ble_eq_true rfl) (fun p e s m args below meth c hC A hI ls hl => bX2_page hC hI hl hf)
theorem hdX2_page : yX2_page.cls = RX2 ∧ yX2_page.cls ≠ "java/lang/invoke/MethodHandle" ∧ yX2_page.cls ≠ "java/lang/invoke/VarHandle" ∧ (parseMethodDescriptor yX2_page.desc).map (fun d => d.parameters.length) = some 1 := by decide +kernel
noncomputable def rmX2_batteryIsIn : Room := { frames := 0, cells := 0, slots := 0, locals := 0 }
noncomputable def wzX2_batteryIsIn : List Cond := .code yX2_batteryIsIn cX2_batteryIsIn 1 (some .boolean) :: wsL_law
theorem hinX2_batteryIsIn_X20 : ∀ w ∈ wsX20, w ∈ wzX2_batteryIsIn := fun w h => List.mem_cons_of_mem _ (inlX2 w h)
noncomputable def fX2_batteryIsIn_25  (σ : zSt) (s0 : Int32) : Option (zSt × Int32) :=
  zck (zbo s0) (some (σ, s0))
noncomputable def fX2_batteryIsIn_24  (σ : zSt)  : Option (zSt × Int32) :=
  fX2_batteryIsIn_25 σ 0
noncomputable def fX2_batteryIsIn  (σ : zSt)  : Option (zSt × Int32) :=
  if (zgi σ 1 6) = 1 then zck (zin 3 4) (
  if ((zgi σ 19 (3 : Int32).toNatClampNeg) &&& 8) = 0 then fX2_batteryIsIn_24 σ else
  fX2_batteryIsIn_25 σ 1) else
  fX2_batteryIsIn_24 σ
set_option maxRecDepth 20000 in
set_option maxHeartbeats 4000000 in
theorem bX2_batteryIsIn_25 {st : Nat → Nat} {p : Program} {l : Launch} {e : Env} {s : State} {m : MethodId} {args : Array Value} {below : List Frame} {meth : Method} {c : Code} {D : va_G} {A : Nat → Prop} {ad : Nat → Nat} {cy : Nat → ClassId} (hC : zC p m c cX2_batteryIsIn 1 s args wzX2_batteryIsIn RX2 meth (some .boolean))  {res : zSt × Int32} {H : Heap} {locs : List Loc} {σ : zSt} {ls : Array Slot} {s0 : Int32} (hI : zI st D (tC cy) (wC ad cy σ) A s H locs) (hl : lv_has ls 1 []) (hf : fX2_batteryIsIn_25  σ s0 = some res) : W p l e rmX2_batteryIsIn s m args below meth c H locs 0 0 (zQi below args s D (tC cy) (wC ad cy) A res) (F0 m 25 ls [.int s0]) := by
  have hx := hC.1
  have hb := hC.2.1
  unfold fX2_batteryIsIn_25 at hf
  obtain ⟨q, hf⟩ := zck_use hf
  exact z_zreturn hC hI (zbo_n q) hf dX2_batteryIsIn_25
set_option maxRecDepth 20000 in
set_option maxHeartbeats 4000000 in
theorem bX2_batteryIsIn_24 {st : Nat → Nat} {p : Program} {l : Launch} {e : Env} {s : State} {m : MethodId} {args : Array Value} {below : List Frame} {meth : Method} {c : Code} {D : va_G} {A : Nat → Prop} {ad : Nat → Nat} {cy : Nat → ClassId} (hC : zC p m c cX2_batteryIsIn 1 s args wzX2_batteryIsIn RX2 meth (some .boolean))  {res : zSt × Int32} {H : Heap} {locs : List Loc} {σ : zSt} {ls : Array Slot}  (hI : zI st D (tC cy) (wC ad cy σ) A s H locs) (hl : lv_has ls 1 []) (hf : fX2_batteryIsIn_24  σ  = some res) : W p l e rmX2_batteryIsIn s m args below meth c H locs 0 0 (zQi below args s D (tC cy) (wC ad cy) A res) (F0 m 24 ls []) := by
  have hx := hC.1
  have hb := hC.2.1
  unfold fX2_batteryIsIn_24 at hf
  refine lv_iconst (v := 0) hx hb dX2_batteryIsIn_24 (by decide) ?_
  exact bX2_batteryIsIn_25 hC  hI hl hf
set_option maxRecDepth 20000 in
set_option maxHeartbeats 4000000 in
theorem bX2_batteryIsIn {st : Nat → Nat} {p : Program} {l : Launch} {e : Env} {s : State} {m : MethodId} {args : Array Value} {below : List Frame} {meth : Method} {c : Code} {D : va_G} {A : Nat → Prop} {ad : Nat → Nat} {cy : Nat → ClassId} (hC : zC p m c cX2_batteryIsIn 1 s args wzX2_batteryIsIn RX2 meth (some .boolean))  {res : zSt × Int32} {H : Heap} {locs : List Loc} {σ : zSt} {ls : Array Slot}  (hI : zI st D (tC cy) (wC ad cy σ) A s H locs) (hl : lv_has ls 1 [(0, .ref (ad 1))]) (hf : fX2_batteryIsIn  σ  = some res) : W p l e rmX2_batteryIsIn s m args below meth c H locs 0 0 (zQi below args s D (tC cy) (wC ad cy) A res) (F0 m 0 ls []) := by
  have hx := hC.1
  have hb := hC.2.1
  unfold fX2_batteryIsIn at hf
  refine lv_aload_n hx hb dX2_batteryIsIn_0 rfl (lv_at hl 0 rfl) ?_
  refine z_get hC hI hinX2_batteryIsIn_X20 1 (wC_e1 ad cy σ) rfl 6 (by decide) (List.mem_cons_of_mem _ zw14_3) rfl dX2_batteryIsIn_1 ?_
  refine lv_iconst (v := 1) hx hb dX2_batteryIsIn_4 (by decide) ?_
  refine lv_icmp_ne (tgt := 24) hx hb dX2_batteryIsIn_5 (by decide) (fun q => ?_) (fun q => ?_)
  · replace hf := zif_f q hf
    exact bX2_batteryIsIn_24 hC  hI (lv_sub hl [] rfl) hf
  replace hf := zif_t q hf
  refine lv_aload_n hx hb dX2_batteryIsIn_8 rfl (lv_at hl 0 rfl) ?_
  refine z_get hC hI hinX2_batteryIsIn_X20 1 (wC_e1 ad cy σ) rfl 12 (by decide) (List.mem_cons_of_mem _ zw4_0) rfl dX2_batteryIsIn_9 ?_
  refine lv_iconst (v := 3) hx hb dX2_batteryIsIn_12 (by decide) ?_
  obtain ⟨q, hf⟩ := zck_use hf
  refine z_iald hC hI 19 6 (wC_e19 ad cy σ) (tC_t19 cy) q dX2_batteryIsIn_13 ?_
  refine lv_bipush (v := 8) hx hb dX2_batteryIsIn_14 (by decide) ?_
  refine lv_iand hx hb dX2_batteryIsIn_16 ?_
  refine lv_if_eq (tgt := 24) hx hb dX2_batteryIsIn_17 (by decide) (fun q => ?_) (fun q => ?_)
  · replace hf := zif_t q hf
    exact bX2_batteryIsIn_24 hC  hI (lv_sub hl [] rfl) hf
  replace hf := zif_f q hf
  refine lv_iconst (v := 1) hx hb dX2_batteryIsIn_20 (by decide) ?_
  refine lv_goto (tgt := 25) hx hb dX2_batteryIsIn_21 (by decide) ?_
  exact bX2_batteryIsIn_25 hC  hI (lv_sub hl [] rfl) hf
set_option maxRecDepth 20000 in
theorem cX2_batteryIsIn_met (st : Nat → Nat) (l : Launch) (D : va_G) (ad : Nat → Nat) (cy : Nat → ClassId) (σ : zSt)  (res : zSt × Int32) (hf : fX2_batteryIsIn σ  = some res) (sz : Nat) : zMi st l yX2_batteryIsIn wzX2_batteryIsIn rmX2_batteryIsIn [.ref (ad 1)] D (tC cy) (wC ad cy) sz σ res :=
  zMi.of (cc := cX2_batteryIsIn) (maxL := 1) (ret := (some .boolean)) (by decide) rfl (Nat.le_of_ble_eq_true rfl) (fun p e s m args below meth c hC A hI ls hl => bX2_batteryIsIn hC hI hl hf)
theorem hdX2_batteryIsIn : yX2_batteryIsIn.cls = RX2 ∧ yX2_batteryIsIn.cls ≠ "java/lang/invoke/MethodHandle" ∧ yX2_batteryIsIn.cls ≠ "java/lang/invoke/VarHandle" ∧ (parseMethodDescriptor yX2_batteryIsIn.desc).map (fun d => d.parameters.length) = some 0 := by decide +kernel
noncomputable def rmX2_batteryPlace : Room := { frames := 0, cells := 0, slots := 0, locals := 0 }
noncomputable def wzX2_batteryPlace : List Cond := .code yX2_batteryPlace cX2_batteryPlace 2 (some .int) :: wsL_law
theorem hinX2_batteryPlace_X20 : ∀ w ∈ wsX20, w ∈ wzX2_batteryPlace := fun w h => List.mem_cons_of_mem _ (inlX2 w h)
noncomputable def fX2_batteryPlace  (σ : zSt) (x1 : Int32) : Option (zSt × Int32) :=
  zck (zin 3 4) (
  some (σ, (x1 &&& 16383) + (16384 * (((zgi σ 19 (3 : Int32).toNatClampNeg) >>> ((2 : Int32) &&& 31)) &&& 1))))
set_option maxRecDepth 20000 in
set_option maxHeartbeats 4000000 in
theorem bX2_batteryPlace {st : Nat → Nat} {p : Program} {l : Launch} {e : Env} {s : State} {m : MethodId} {args : Array Value} {below : List Frame} {meth : Method} {c : Code} {D : va_G} {A : Nat → Prop} {ad : Nat → Nat} {cy : Nat → ClassId} (hC : zC p m c cX2_batteryPlace 2 s args wzX2_batteryPlace RX2 meth (some .int))  {res : zSt × Int32} {H : Heap} {locs : List Loc} {σ : zSt} {ls : Array Slot} {x1 : Int32} (hI : zI st D (tC cy) (wC ad cy σ) A s H locs) (hl : lv_has ls 2 [(0, .ref (ad 1)), (1, .int x1)]) (hf : fX2_batteryPlace  σ x1 = some res) : W p l e rmX2_batteryPlace s m args below meth c H locs 0 0 (zQi below args s D (tC cy) (wC ad cy) A res) (F0 m 0 ls []) := by
  have hx := hC.1
  have hb := hC.2.1
  unfold fX2_batteryPlace at hf
  refine lv_iload_n hx hb dX2_batteryPlace_0 rfl (lv_at hl 1 rfl) ?_
  refine lv_sipush (v := 16383) hx hb dX2_batteryPlace_1 (by decide) ?_
  refine lv_iand hx hb dX2_batteryPlace_4 ?_
  refine lv_sipush (v := 16384) hx hb dX2_batteryPlace_5 (by decide) ?_
  refine lv_aload_n hx hb dX2_batteryPlace_8 rfl (lv_at hl 0 rfl) ?_
  refine z_get hC hI hinX2_batteryPlace_X20 1 (wC_e1 ad cy σ) rfl 12 (by decide) (List.mem_cons_of_mem _ zw4_0) rfl dX2_batteryPlace_9 ?_
  refine lv_iconst (v := 3) hx hb dX2_batteryPlace_12 (by decide) ?_
  obtain ⟨q, hf⟩ := zck_use hf
  refine z_iald hC hI 19 6 (wC_e19 ad cy σ) (tC_t19 cy) q dX2_batteryPlace_13 ?_
  refine lv_iconst (v := 2) hx hb dX2_batteryPlace_14 (by decide) ?_
  refine lv_ishr hx hb dX2_batteryPlace_15 ?_
  refine lv_iconst (v := 1) hx hb dX2_batteryPlace_16 (by decide) ?_
  refine lv_iand hx hb dX2_batteryPlace_17 ?_
  refine lv_imul hx hb dX2_batteryPlace_18 ?_
  refine lv_iadd hx hb dX2_batteryPlace_19 ?_
  exact z_ireturn hC hI hf dX2_batteryPlace_20
set_option maxRecDepth 20000 in
theorem cX2_batteryPlace_met (st : Nat → Nat) (l : Launch) (D : va_G) (ad : Nat → Nat) (cy : Nat → ClassId) (σ : zSt) (x1 : Int32) (res : zSt × Int32) (hf : fX2_batteryPlace σ x1 = some res) (sz : Nat) : zMi st l yX2_batteryPlace wzX2_batteryPlace rmX2_batteryPlace [.ref (ad 1), .int x1] D (tC cy) (wC ad cy) sz σ res :=
  zMi.of (cc := cX2_batteryPlace) (maxL := 2) (ret := (some .int)) (by decide) rfl (Nat.le_of_ble_eq_true rfl) (fun p e s m args below meth c hC A hI ls hl => bX2_batteryPlace hC hI hl hf)
theorem hdX2_batteryPlace : yX2_batteryPlace.cls = RX2 ∧ yX2_batteryPlace.cls ≠ "java/lang/invoke/MethodHandle" ∧ yX2_batteryPlace.cls ≠ "java/lang/invoke/VarHandle" ∧ (parseMethodDescriptor yX2_batteryPlace.desc).map (fun d => d.parameters.length) = some 1 := by decide +kernel
noncomputable def rmX2_read : Room := { frames := 1, cells := 0, slots := 0, locals := 21 }
noncomputable def wzX2_read : List Cond := .code yX2_read cX2_read 7 (some .int) :: wsL_law
theorem hinX2_read_X20 : ∀ w ∈ wsX20, w ∈ wzX2_read := fun w h => List.mem_cons_of_mem _ (inlX2 w h)
noncomputable def fX2_read_169  (σ : zSt) (s0 : Int32) : Option (zSt × Int32) :=
  some (σ, s0)
noncomputable def fX2_read_144  (σ : zSt) (x3 : Int32) : Option (zSt × Int32) :=
  if (zgi σ 1 4) ≤ x3 then fX2_read_169 σ 255 else
  zck (zin ((zgi σ 1 3) + x3) 262656) (
  fX2_read_169 σ (zgi σ (ztp ((zgi σ 1 1))) ((zgi σ 1 3) + x3).toNatClampNeg))
noncomputable def fX2_read_126  (σ : zSt) (x2 : Int32) (x6 : Int32) : Option (zSt × Int32) :=
  zck (decide (¬ (zgi σ 1 5) = 0)) (
  zbv (((zrem x6 (zgi σ 1 5)) * 16384) + (x2 &&& 16383)) (fun v1 =>
  fX2_read_144 σ v1))
noncomputable def fX2_read_106  (σ : zSt) (x2 : Int32) (s0 : Int32) : Option (zSt × Int32) :=
  if (zgi σ 1 6) = 1 then if 1024 ≤ x2 then fX2_read_126 σ x2 s0 else
  fX2_read_126 σ x2 0 else
  fX2_read_126 σ x2 s0
noncomputable def fX2_read_87  (σ : zSt) (x2 : Int32) (x4 : Int32) (s0 : Int32) : Option (zSt × Int32) :=
  if s0 = 0 then zck (zin x4 4) (
  fX2_read_106 σ x2 (zgi σ 19 x4.toNatClampNeg)) else
  fX2_read_106 σ x2 x4
noncomputable def fX2_read_86  (σ : zSt) (x2 : Int32) (x4 : Int32) : Option (zSt × Int32) :=
  fX2_read_87 σ x2 x4 0
noncomputable def fX2_read_62  (σ : zSt) (x2 : Int32) : Option (zSt × Int32) :=
  zbv (x2 >>> ((14 : Int32) &&& 31)) (fun v2 =>
  if (zgi σ 1 6) = 3 then if 2 ≤ v2 then fX2_read_86 σ x2 v2 else
  fX2_read_87 σ x2 v2 1 else
  fX2_read_86 σ x2 v2)
noncomputable def fX2_read  (σ : zSt) (x1 : Int32) : Option (zSt × Int32) :=
  zbv (x1 &&& 65535) (fun v3 =>
  if v3 < 49152 then if (zgi σ 1 6) = 0 then fX2_read_144 σ v3 else
  if (zgi σ 1 5) ≤ 0 then fX2_read_144 σ v3 else
  if v3 < 32768 then fX2_read_62 σ v3 else
  zbi (fX2_batteryIsIn σ ) (fun σ4 v5 =>
  if v5 = 0 then fX2_read_62 σ4 v3 else
  zbi (fX2_batteryPlace σ4 v3) (fun σ6 v7 =>
  zck (zin v7 32768) (
  some (σ6, zgi σ6 17 v7.toNatClampNeg)))) else
  zck (zin (v3 &&& 8191) 8192) (
  some (σ, zgi σ 15 (v3 &&& 8191).toNatClampNeg)))
set_option maxRecDepth 20000 in
set_option maxHeartbeats 4000000 in
theorem bX2_read_169 {st : Nat → Nat} {p : Program} {l : Launch} {e : Env} {s : State} {m : MethodId} {args : Array Value} {below : List Frame} {meth : Method} {c : Code} {D : va_G} {A : Nat → Prop} {ad : Nat → Nat} {cy : Nat → ClassId} (hC : zC p m c cX2_read 7 s args wzX2_read RX2 meth (some .int))  {res : zSt × Int32} {H : Heap} {locs : List Loc} {σ : zSt} {ls : Array Slot} {s0 : Int32} (hI : zI st D (tC cy) (wC ad cy σ) A s H locs) (hl : lv_has ls 7 []) (hf : fX2_read_169  σ s0 = some res) : W p l e rmX2_read s m args below meth c H locs 0 0 (zQi below args s D (tC cy) (wC ad cy) A res) (F0 m 169 ls [.int s0]) := by
  have hx := hC.1
  have hb := hC.2.1
  unfold fX2_read_169 at hf
  exact z_ireturn hC hI hf dX2_read_169
set_option maxRecDepth 20000 in
set_option maxHeartbeats 4000000 in
theorem bX2_read_144 {st : Nat → Nat} {p : Program} {l : Launch} {e : Env} {s : State} {m : MethodId} {args : Array Value} {below : List Frame} {meth : Method} {c : Code} {D : va_G} {A : Nat → Prop} {ad : Nat → Nat} {cy : Nat → ClassId} (hC : zC p m c cX2_read 7 s args wzX2_read RX2 meth (some .int))  {res : zSt × Int32} {H : Heap} {locs : List Loc} {σ : zSt} {ls : Array Slot} {x3 : Int32} (hI : zI st D (tC cy) (wC ad cy σ) A s H locs) (hl : lv_has ls 7 [(0, .ref (ad 1)), (3, .int x3)]) (hf : fX2_read_144  σ x3 = some res) : W p l e rmX2_read s m args below meth c H locs 0 0 (zQi below args s D (tC cy) (wC ad cy) A res) (F0 m 144 ls []) := by
  have hx := hC.1
  have hb := hC.2.1
  unfold fX2_read_144 at hf
  refine lv_iload_n hx hb dX2_read_144 rfl (lv_at hl 1 rfl) ?_
  refine lv_aload_n hx hb dX2_read_145 rfl (lv_at hl 0 rfl) ?_
  refine z_get hC hI hinX2_read_X20 1 (wC_e1 ad cy σ) rfl 4 (by decide) (List.mem_cons_of_mem _ zw14_1) rfl dX2_read_146 ?_
  refine lv_icmp_ge (tgt := 166) hx hb dX2_read_149 (by decide) (fun q => ?_) (fun q => ?_)
  · replace hf := zif_t q hf
    refine lv_sipush (v := 255) hx hb dX2_read_166 (by decide) ?_
    exact bX2_read_169 hC  hI (lv_sub hl [] rfl) hf
  replace hf := zif_f q hf
  refine lv_aload_n hx hb dX2_read_152 rfl (lv_at hl 0 rfl) ?_
  refine z_get hC hI hinX2_read_X20 1 (wC_e1 ad cy σ) rfl 1 (by decide) (List.mem_cons_of_mem _ zw3_17) rfl dX2_read_153 ?_
  refine lv_aload_n hx hb dX2_read_156 rfl (lv_at hl 0 rfl) ?_
  refine z_get hC hI hinX2_read_X20 1 (wC_e1 ad cy σ) rfl 3 (by decide) (List.mem_cons_of_mem _ zw14_0) rfl dX2_read_157 ?_
  refine lv_iload_n hx hb dX2_read_160 rfl (lv_at hl 1 rfl) ?_
  refine lv_iadd hx hb dX2_read_161 ?_
  obtain ⟨q, hf⟩ := zck_use hf
  refine z_iald hC hI _ _ (wC_e_tp ad cy σ _) (tC_tp cy _) q dX2_read_162 ?_
  refine lv_goto (tgt := 169) hx hb dX2_read_163 (by decide) ?_
  exact bX2_read_169 hC  hI (lv_sub hl [] rfl) hf
set_option maxRecDepth 20000 in
set_option maxHeartbeats 4000000 in
theorem bX2_read_126 {st : Nat → Nat} {p : Program} {l : Launch} {e : Env} {s : State} {m : MethodId} {args : Array Value} {below : List Frame} {meth : Method} {c : Code} {D : va_G} {A : Nat → Prop} {ad : Nat → Nat} {cy : Nat → ClassId} (hC : zC p m c cX2_read 7 s args wzX2_read RX2 meth (some .int))  {res : zSt × Int32} {H : Heap} {locs : List Loc} {σ : zSt} {ls : Array Slot} {x2 : Int32} {x6 : Int32} (hI : zI st D (tC cy) (wC ad cy σ) A s H locs) (hl : lv_has ls 7 [(0, .ref (ad 1)), (2, .int x2), (6, .int x6)]) (hf : fX2_read_126  σ x2 x6 = some res) : W p l e rmX2_read s m args below meth c H locs 0 0 (zQi below args s D (tC cy) (wC ad cy) A res) (F0 m 126 ls []) := by
  have hx := hC.1
  have hb := hC.2.1
  unfold fX2_read_126 at hf
  refine lv_iload hx hb dX2_read_126 (lv_at hl 2 rfl) ?_
  refine lv_aload_n hx hb dX2_read_128 rfl (lv_at hl 0 rfl) ?_
  refine z_get hC hI hinX2_read_X20 1 (wC_e1 ad cy σ) rfl 5 (by decide) (List.mem_cons_of_mem _ zw14_2) rfl dX2_read_129 ?_
  obtain ⟨q, hf⟩ := zck_use hf
  refine z_irem hx hb dX2_read_132 (of_decide_eq_true q) ?_
  refine lv_sipush (v := 16384) hx hb dX2_read_133 (by decide) ?_
  refine lv_imul hx hb dX2_read_136 ?_
  refine lv_iload_n hx hb dX2_read_137 rfl (lv_at hl 1 rfl) ?_
  refine lv_sipush (v := 16383) hx hb dX2_read_138 (by decide) ?_
  refine lv_iand hx hb dX2_read_141 ?_
  refine lv_iadd hx hb dX2_read_142 ?_
  refine lv_topi (fun v1 ev1 => ?_)
  replace hf := zbv_use ev1 hf
  refine lv_istore_n (lv' := [(3, .int v1), (0, .ref (ad 1)), (2, .int x2), (6, .int x6)]) hx hb dX2_read_143 rfl hl (by decide) rfl (fun ls hl => ?_)
  exact bX2_read_144 hC  hI (lv_sub hl [1, 0] rfl) hf
set_option maxRecDepth 20000 in
set_option maxHeartbeats 4000000 in
theorem bX2_read_106 {st : Nat → Nat} {p : Program} {l : Launch} {e : Env} {s : State} {m : MethodId} {args : Array Value} {below : List Frame} {meth : Method} {c : Code} {D : va_G} {A : Nat → Prop} {ad : Nat → Nat} {cy : Nat → ClassId} (hC : zC p m c cX2_read 7 s args wzX2_read RX2 meth (some .int))  {res : zSt × Int32} {H : Heap} {locs : List Loc} {σ : zSt} {ls : Array Slot} {x2 : Int32} {s0 : Int32} (hI : zI st D (tC cy) (wC ad cy σ) A s H locs) (hl : lv_has ls 7 [(0, .ref (ad 1)), (2, .int x2)]) (hf : fX2_read_106  σ x2 s0 = some res) : W p l e rmX2_read s m args below meth c H locs 0 0 (zQi below args s D (tC cy) (wC ad cy) A res) (F0 m 106 ls [.int s0]) := by
  have hx := hC.1
  have hb := hC.2.1
  unfold fX2_read_106 at hf
  refine lv_istore (lv' := [(6, .int s0), (0, .ref (ad 1)), (2, .int x2)]) hx hb dX2_read_106 hl (by decide) rfl (fun ls hl => ?_)
  refine lv_aload_n hx hb dX2_read_108 rfl (lv_at hl 1 rfl) ?_
  refine z_get hC hI hinX2_read_X20 1 (wC_e1 ad cy σ) rfl 6 (by decide) (List.mem_cons_of_mem _ zw14_3) rfl dX2_read_109 ?_
  refine lv_iconst (v := 1) hx hb dX2_read_112 (by decide) ?_
  refine lv_icmp_ne (tgt := 126) hx hb dX2_read_113 (by decide) (fun q => ?_) (fun q => ?_)
  · replace hf := zif_f q hf
    exact bX2_read_126 hC  hI (lv_sub hl [1, 2, 0] rfl) hf
  replace hf := zif_t q hf
  refine lv_iload_n hx hb dX2_read_116 rfl (lv_at hl 2 rfl) ?_
  refine lv_sipush (v := 1024) hx hb dX2_read_117 (by decide) ?_
  refine lv_icmp_ge (tgt := 126) hx hb dX2_read_120 (by decide) (fun q => ?_) (fun q => ?_)
  · replace hf := zif_t q hf
    exact bX2_read_126 hC  hI (lv_sub hl [1, 2, 0] rfl) hf
  replace hf := zif_f q hf
  refine lv_iconst (v := 0) hx hb dX2_read_123 (by decide) ?_
  refine lv_istore (lv' := [(6, .int 0), (0, .ref (ad 1)), (2, .int x2)]) hx hb dX2_read_124 hl (by decide) rfl (fun ls hl => ?_)
  exact bX2_read_126 hC  hI (lv_sub hl [1, 2, 0] rfl) hf
set_option maxRecDepth 20000 in
set_option maxHeartbeats 4000000 in
theorem bX2_read_87 {st : Nat → Nat} {p : Program} {l : Launch} {e : Env} {s : State} {m : MethodId} {args : Array Value} {below : List Frame} {meth : Method} {c : Code} {D : va_G} {A : Nat → Prop} {ad : Nat → Nat} {cy : Nat → ClassId} (hC : zC p m c cX2_read 7 s args wzX2_read RX2 meth (some .int))  {res : zSt × Int32} {H : Heap} {locs : List Loc} {σ : zSt} {ls : Array Slot} {x2 : Int32} {x4 : Int32} {s0 : Int32} (hI : zI st D (tC cy) (wC ad cy σ) A s H locs) (hl : lv_has ls 7 [(0, .ref (ad 1)), (2, .int x2), (4, .int x4)]) (hf : fX2_read_87  σ x2 x4 s0 = some res) : W p l e rmX2_read s m args below meth c H locs 0 0 (zQi below args s D (tC cy) (wC ad cy) A res) (F0 m 87 ls [.int s0]) := by
  have hx := hC.1
  have hb := hC.2.1
  unfold fX2_read_87 at hf
  refine lv_istore (lv' := [(5, .int s0), (0, .ref (ad 1)), (2, .int x2), (4, .int x4)]) hx hb dX2_read_87 hl (by decide) rfl (fun ls hl => ?_)
  refine lv_iload hx hb dX2_read_89 (lv_at hl 0 rfl) ?_
  refine lv_if_eq (tgt := 99) hx hb dX2_read_91 (by decide) (fun q => ?_) (fun q => ?_)
  · replace hf := zif_t q hf
    refine lv_aload_n hx hb dX2_read_99 rfl (lv_at hl 1 rfl) ?_
    refine z_get hC hI hinX2_read_X20 1 (wC_e1 ad cy σ) rfl 12 (by decide) (List.mem_cons_of_mem _ zw4_0) rfl dX2_read_100 ?_
    refine lv_iload hx hb dX2_read_103 (lv_at hl 3 rfl) ?_
    obtain ⟨q, hf⟩ := zck_use hf
    refine z_iald hC hI 19 6 (wC_e19 ad cy σ) (tC_t19 cy) q dX2_read_105 ?_
    exact bX2_read_106 hC  hI (lv_sub hl [1, 2] rfl) hf
  replace hf := zif_f q hf
  refine lv_iload hx hb dX2_read_94 (lv_at hl 3 rfl) ?_
  refine lv_goto (tgt := 106) hx hb dX2_read_96 (by decide) ?_
  exact bX2_read_106 hC  hI (lv_sub hl [1, 2] rfl) hf
set_option maxRecDepth 20000 in
set_option maxHeartbeats 4000000 in
theorem bX2_read_86 {st : Nat → Nat} {p : Program} {l : Launch} {e : Env} {s : State} {m : MethodId} {args : Array Value} {below : List Frame} {meth : Method} {c : Code} {D : va_G} {A : Nat → Prop} {ad : Nat → Nat} {cy : Nat → ClassId} (hC : zC p m c cX2_read 7 s args wzX2_read RX2 meth (some .int))  {res : zSt × Int32} {H : Heap} {locs : List Loc} {σ : zSt} {ls : Array Slot} {x2 : Int32} {x4 : Int32} (hI : zI st D (tC cy) (wC ad cy σ) A s H locs) (hl : lv_has ls 7 [(0, .ref (ad 1)), (2, .int x2), (4, .int x4)]) (hf : fX2_read_86  σ x2 x4 = some res) : W p l e rmX2_read s m args below meth c H locs 0 0 (zQi below args s D (tC cy) (wC ad cy) A res) (F0 m 86 ls []) := by
  have hx := hC.1
  have hb := hC.2.1
  unfold fX2_read_86 at hf
  refine lv_iconst (v := 0) hx hb dX2_read_86 (by decide) ?_
  exact bX2_read_87 hC  hI hl hf
set_option maxRecDepth 20000 in
set_option maxHeartbeats 4000000 in
theorem bX2_read_62 {st : Nat → Nat} {p : Program} {l : Launch} {e : Env} {s : State} {m : MethodId} {args : Array Value} {below : List Frame} {meth : Method} {c : Code} {D : va_G} {A : Nat → Prop} {ad : Nat → Nat} {cy : Nat → ClassId} (hC : zC p m c cX2_read 7 s args wzX2_read RX2 meth (some .int))  {res : zSt × Int32} {H : Heap} {locs : List Loc} {σ : zSt} {ls : Array Slot} {x2 : Int32} (hI : zI st D (tC cy) (wC ad cy σ) A s H locs) (hl : lv_has ls 7 [(0, .ref (ad 1)), (2, .int x2)]) (hf : fX2_read_62  σ x2 = some res) : W p l e rmX2_read s m args below meth c H locs 0 0 (zQi below args s D (tC cy) (wC ad cy) A res) (F0 m 62 ls []) := by
  have hx := hC.1
  have hb := hC.2.1
  unfold fX2_read_62 at hf
  refine lv_iload_n hx hb dX2_read_62 rfl (lv_at hl 1 rfl) ?_
  refine lv_bipush (v := 14) hx hb dX2_read_63 (by decide) ?_
  refine lv_ishr hx hb dX2_read_65 ?_
  refine lv_topi (fun v2 ev2 => ?_)
  replace hf := zbv_use ev2 hf
  refine lv_istore (lv' := [(4, .int v2), (0, .ref (ad 1)), (2, .int x2)]) hx hb dX2_read_66 hl (by decide) rfl (fun ls hl => ?_)
  refine lv_aload_n hx hb dX2_read_68 rfl (lv_at hl 1 rfl) ?_
  refine z_get hC hI hinX2_read_X20 1 (wC_e1 ad cy σ) rfl 6 (by decide) (List.mem_cons_of_mem _ zw14_3) rfl dX2_read_69 ?_
  refine lv_iconst (v := 3) hx hb dX2_read_72 (by decide) ?_
  refine lv_icmp_ne (tgt := 86) hx hb dX2_read_73 (by decide) (fun q => ?_) (fun q => ?_)
  · replace hf := zif_f q hf
    exact bX2_read_86 hC  hI (lv_sub hl [1, 2, 0] rfl) hf
  replace hf := zif_t q hf
  refine lv_iload hx hb dX2_read_76 (lv_at hl 0 rfl) ?_
  refine lv_iconst (v := 2) hx hb dX2_read_78 (by decide) ?_
  refine lv_icmp_ge (tgt := 86) hx hb dX2_read_79 (by decide) (fun q => ?_) (fun q => ?_)
  · replace hf := zif_t q hf
    exact bX2_read_86 hC  hI (lv_sub hl [1, 2, 0] rfl) hf
  replace hf := zif_f q hf
  refine lv_iconst (v := 1) hx hb dX2_read_82 (by decide) ?_
  refine lv_goto (tgt := 87) hx hb dX2_read_83 (by decide) ?_
  exact bX2_read_87 hC  hI (lv_sub hl [1, 2, 0] rfl) hf
set_option maxRecDepth 20000 in
set_option maxHeartbeats 4000000 in
theorem bX2_read {st : Nat → Nat} {p : Program} {l : Launch} {e : Env} {s : State} {m : MethodId} {args : Array Value} {below : List Frame} {meth : Method} {c : Code} {D : va_G} {A : Nat → Prop} {ad : Nat → Nat} {cy : Nat → ClassId} (hC : zC p m c cX2_read 7 s args wzX2_read RX2 meth (some .int))  {res : zSt × Int32} {H : Heap} {locs : List Loc} {σ : zSt} {ls : Array Slot} {x1 : Int32} (hI : zI st D (tC cy) (wC ad cy σ) A s H locs) (hl : lv_has ls 7 [(0, .ref (ad 1)), (1, .int x1)]) (hf : fX2_read  σ x1 = some res) : W p l e rmX2_read s m args below meth c H locs 0 0 (zQi below args s D (tC cy) (wC ad cy) A res) (F0 m 0 ls []) := by
  have hx := hC.1
  have hb := hC.2.1
  unfold fX2_read at hf
  refine lv_iload_n hx hb dX2_read_0 rfl (lv_at hl 1 rfl) ?_
  refine lv_ldc (v := 65535) hx hb hC.2.2.2.1 (hC.2.2.2.2.1 _ (List.mem_cons_of_mem _ zw17_16)) dX2_read_1 ?_
  refine lv_iand hx hb dX2_read_3 ?_
  refine lv_topi (fun v3 ev3 => ?_)
  replace hf := zbv_use ev3 hf
  refine lv_istore_n (lv' := [(2, .int v3), (0, .ref (ad 1)), (1, .int x1)]) hx hb dX2_read_4 rfl hl (by decide) rfl (fun ls hl => ?_)
  refine lv_iload_n hx hb dX2_read_5 rfl (lv_at hl 0 rfl) ?_
  refine lv_ldc (v := 49152) hx hb hC.2.2.2.1 (hC.2.2.2.2.1 _ (List.mem_cons_of_mem _ zw14_18)) dX2_read_6 ?_
  refine lv_icmp_lt (tgt := 22) hx hb dX2_read_8 (by decide) (fun q => ?_) (fun q => ?_)
  · replace hf := zif_t q hf
    refine lv_iload_n hx hb dX2_read_22 rfl (lv_at hl 0 rfl) ?_
    refine lv_istore_n (lv' := [(3, .int v3), (2, .int v3), (0, .ref (ad 1)), (1, .int x1)]) hx hb dX2_read_23 rfl hl (by decide) rfl (fun ls hl => ?_)
    refine lv_aload_n hx hb dX2_read_24 rfl (lv_at hl 2 rfl) ?_
    refine z_get hC hI hinX2_read_X20 1 (wC_e1 ad cy σ) rfl 6 (by decide) (List.mem_cons_of_mem _ zw14_3) rfl dX2_read_25 ?_
    refine lv_if_eq (tgt := 144) hx hb dX2_read_28 (by decide) (fun q => ?_) (fun q => ?_)
    · replace hf := zif_t q hf
      exact bX2_read_144 hC  hI (lv_sub hl [2, 0] rfl) hf
    replace hf := zif_f q hf
    refine lv_aload_n hx hb dX2_read_31 rfl (lv_at hl 2 rfl) ?_
    refine z_get hC hI hinX2_read_X20 1 (wC_e1 ad cy σ) rfl 5 (by decide) (List.mem_cons_of_mem _ zw14_2) rfl dX2_read_32 ?_
    refine lv_if_le (tgt := 144) hx hb dX2_read_35 (by decide) (fun q => ?_) (fun q => ?_)
    · replace hf := zif_t q hf
      exact bX2_read_144 hC  hI (lv_sub hl [2, 0] rfl) hf
    replace hf := zif_f q hf
    refine lv_iload_n hx hb dX2_read_38 rfl (lv_at hl 1 rfl) ?_
    refine lv_ldc (v := 32768) hx hb hC.2.2.2.1 (hC.2.2.2.2.1 _ (List.mem_cons_of_mem _ zw3_21)) dX2_read_39 ?_
    refine lv_icmp_lt (tgt := 62) hx hb dX2_read_41 (by decide) (fun q => ?_) (fun q => ?_)
    · replace hf := zif_t q hf
      exact bX2_read_62 hC  hI (lv_sub hl [2, 1] rfl) hf
    replace hf := zif_f q hf
    refine lv_aload_n hx hb dX2_read_44 rfl (lv_at hl 2 rfl) ?_
    obtain ⟨σ4, v5, g4, hf⟩ := zbi_use hf
    refine z_callVi (As := []) (rest := []) hC hI (cX2_batteryIsIn_met st l D ad cy σ  _ g4) (zgV zw20_14 zw20_15 zw20_16 zw1_21 zw20_17) rfl ⟨rfl, rfl⟩ 0 hdX2_batteryIsIn ⟨Nat.le_of_ble_eq_true rfl, Nat.le_of_ble_eq_true rfl⟩ rfl rfl (wC_e1 ad cy σ) rfl hl rfl (Nat.le_of_ble_eq_true rfl) dX2_read_45 ⟨Nat.zero_le _, Nat.zero_le _⟩ (fun H locs hI => ?_)
    refine lv_if_eq (tgt := 62) hx hb dX2_read_48 (by decide) (fun q => ?_) (fun q => ?_)
    · replace hf := zif_t q hf
      exact bX2_read_62 hC  hI (lv_sub hl [2, 1] rfl) hf
    replace hf := zif_f q hf
    refine lv_aload_n hx hb dX2_read_51 rfl (lv_at hl 2 rfl) ?_
    refine z_get hC hI hinX2_read_X20 1 (wC_e1 ad cy σ4) rfl 10 (by decide) (List.mem_cons_of_mem _ zw3_22) rfl dX2_read_52 ?_
    refine lv_aload_n hx hb dX2_read_55 rfl (lv_at hl 2 rfl) ?_
    refine lv_iload_n hx hb dX2_read_56 rfl (lv_at hl 1 rfl) ?_
    obtain ⟨σ6, v7, g6, hf⟩ := zbi_use hf
    refine z_callVi (As := [.int v3]) (rest := [.ref (ad 17)]) hC hI (cX2_batteryPlace_met st l D ad cy σ4 v3 _ g6) (zgV zw20_18 zw20_19 zw20_20 zw1_21 zw20_21) rfl ⟨rfl, rfl⟩ 1 hdX2_batteryPlace ⟨Nat.le_of_ble_eq_true rfl, Nat.le_of_ble_eq_true rfl⟩ rfl rfl (wC_e1 ad cy σ4) rfl hl rfl (Nat.le_of_ble_eq_true rfl) dX2_read_57 ⟨Nat.zero_le _, Nat.zero_le _⟩ (fun H locs hI => ?_)
    obtain ⟨q, hf⟩ := zck_use hf
    refine z_iald hC hI 17 4 (wC_e17 ad cy σ6) (tC_t17 cy) q dX2_read_60 ?_
    exact z_ireturn hC hI hf dX2_read_61
  replace hf := zif_f q hf
  refine lv_aload_n hx hb dX2_read_11 rfl (lv_at hl 1 rfl) ?_
  refine z_get hC hI hinX2_read_X20 1 (wC_e1 ad cy σ) rfl 8 (by decide) (List.mem_cons_of_mem _ zw3_19) rfl dX2_read_12 ?_
  refine lv_iload_n hx hb dX2_read_15 rfl (lv_at hl 0 rfl) ?_
  refine lv_sipush (v := 8191) hx hb dX2_read_16 (by decide) ?_
  refine lv_iand hx hb dX2_read_19 ?_
  obtain ⟨q, hf⟩ := zck_use hf
  refine z_iald hC hI 15 2 (wC_e15 ad cy σ) (tC_t15 cy) q dX2_read_20 ?_
  exact z_ireturn hC hI hf dX2_read_21
set_option maxRecDepth 20000 in
theorem cX2_read_met (st : Nat → Nat) (l : Launch) (D : va_G) (ad : Nat → Nat) (cy : Nat → ClassId) (σ : zSt) (x1 : Int32) (res : zSt × Int32) (hf : fX2_read σ x1 = some res) (sz : Nat) : zMi st l yX2_read wzX2_read rmX2_read [.ref (ad 1), .int x1] D (tC cy) (wC ad cy) sz σ res :=
  zMi.of (cc := cX2_read) (maxL := 7) (ret := (some .int)) (by decide) rfl (Nat.le_of_ble_eq_true rfl) (fun p e s m args below meth c hC A hI ls hl => bX2_read hC hI hl hf)
theorem hdX2_read : yX2_read.cls = RX2 ∧ yX2_read.cls ≠ "java/lang/invoke/MethodHandle" ∧ yX2_read.cls ≠ "java/lang/invoke/VarHandle" ∧ (parseMethodDescriptor yX2_read.desc).map (fun d => d.parameters.length) = some 1 := by decide +kernel
noncomputable def rmX2_write : Room := { frames := 1, cells := 0, slots := 0, locals := 21 }
noncomputable def wzX2_write : List Cond := .code yX2_write cX2_write 4 none :: wsL_law
theorem hinX2_write_X20 : ∀ w ∈ wsX20, w ∈ wzX2_write := fun w h => List.mem_cons_of_mem _ (inlX2 w h)
noncomputable def fX2_write_151  (σ : zSt)  : Option (zSt) :=
  some σ
noncomputable def fX2_write_54  (σ : zSt) (x2 : Int32) (s0 : Int32) : Option (zSt) :=
  zck (zin s0 4) (zbv (zsi σ 19 (s0.toNatClampNeg) x2) (fun σ1 =>
  fX2_write_151 σ1))
noncomputable def fX2_write_130  (σ : zSt) (x2 : Int32) (x3 : Int32) : Option (zSt) :=
  if (zgi σ 1 6) = 3 then if x3 = 40960 then zck (zin 2 4) (zbv (zsi σ 19 ((2 : Int32).toNatClampNeg) x2) (fun σ2 =>
  fX2_write_151 σ2)) else
  fX2_write_151 σ else
  fX2_write_151 σ
noncomputable def fX2_write_117  (σ : zSt) (x2 : Int32) (x3 : Int32) : Option (zSt) :=
  zck (zin (x3 >>> ((14 : Int32) &&& 31)) 4) (zbv (zsi σ 19 ((x3 >>> ((14 : Int32) &&& 31)).toNatClampNeg) x2) (fun σ3 =>
  fX2_write_151 σ3))
noncomputable def fX2_write_22  (σ : zSt) (x2 : Int32) (x3 : Int32) : Option (zSt) :=
  if (zgi σ 1 6) = 1 then if x3 < 65532 then if x3 < 32768 then fX2_write_151 σ else
  if 49152 ≤ x3 then fX2_write_151 σ else
  zbi (fX2_batteryIsIn σ ) (fun σ4 v5 =>
  if v5 = 0 then fX2_write_151 σ4 else
  zbi (fX2_batteryPlace σ4 x3) (fun σ6 v7 =>
  zck (zin v7 32768) (zbv (zsi σ6 17 (v7.toNatClampNeg) x2) (fun σ8 =>
  fX2_write_151 σ8)))) else
  if x3 = 65532 then fX2_write_54 σ x2 3 else
  fX2_write_54 σ x2 (x3 - 65533) else
  if (zgi σ 1 6) = 2 then if x3 = 0 then fX2_write_117 σ x2 x3 else
  if x3 = 16384 then fX2_write_117 σ x2 x3 else
  if x3 = 32768 then fX2_write_117 σ x2 x3 else
  fX2_write_130 σ x2 x3 else
  fX2_write_130 σ x2 x3
noncomputable def fX2_write  (σ : zSt) (x1 : Int32) (x2 : Int32) : Option (zSt) :=
  zbv (x1 &&& 65535) (fun v9 =>
  if v9 < 49152 then fX2_write_22 σ x2 v9 else
  zck (zin (v9 &&& 8191) 8192) (zbv (zsi σ 15 ((v9 &&& 8191).toNatClampNeg) x2) (fun σ10 =>
  fX2_write_22 σ10 x2 v9)))
set_option maxRecDepth 20000 in
set_option maxHeartbeats 4000000 in
theorem bX2_write_151 {st : Nat → Nat} {p : Program} {l : Launch} {e : Env} {s : State} {m : MethodId} {args : Array Value} {below : List Frame} {meth : Method} {c : Code} {D : va_G} {A : Nat → Prop} {ad : Nat → Nat} {cy : Nat → ClassId} (hC : zC p m c cX2_write 4 s args wzX2_write RX2 meth none)  {res : zSt} {H : Heap} {locs : List Loc} {σ : zSt} {ls : Array Slot}  (hI : zI st D (tC cy) (wC ad cy σ) A s H locs) (hl : lv_has ls 4 []) (hf : fX2_write_151  σ  = some res) : W p l e rmX2_write s m args below meth c H locs 0 0 (zQu below args s D (tC cy) (wC ad cy) A res) (F0 m 151 ls []) := by
  have hx := hC.1
  have hb := hC.2.1
  unfold fX2_write_151 at hf
  exact z_return hC hI hf dX2_write_151
set_option maxRecDepth 20000 in
set_option maxHeartbeats 4000000 in
theorem bX2_write_54 {st : Nat → Nat} {p : Program} {l : Launch} {e : Env} {s : State} {m : MethodId} {args : Array Value} {below : List Frame} {meth : Method} {c : Code} {D : va_G} {A : Nat → Prop} {ad : Nat → Nat} {cy : Nat → ClassId} (hC : zC p m c cX2_write 4 s args wzX2_write RX2 meth none)  {res : zSt} {H : Heap} {locs : List Loc} {σ : zSt} {ls : Array Slot} {x2 : Int32} {s0 : Int32} (hI : zI st D (tC cy) (wC ad cy σ) A s H locs) (hl : lv_has ls 4 [(2, .int x2)]) (hf : fX2_write_54  σ x2 s0 = some res) : W p l e rmX2_write s m args below meth c H locs 0 0 (zQu below args s D (tC cy) (wC ad cy) A res) (F0 m 54 ls [.int s0, .ref (ad 19)]) := by
  have hx := hC.1
  have hb := hC.2.1
  unfold fX2_write_54 at hf
  refine lv_iload_n hx hb dX2_write_54 rfl (lv_at hl 0 rfl) ?_
  obtain ⟨q, hf⟩ := zck_use hf
  obtain ⟨σ1, eσ1⟩ : ∃ z, z = zsi σ 19 (s0.toNatClampNeg) x2 := ⟨_, rfl⟩
  replace hf := zbv_use eσ1 hf
  refine z_iast hC hI 19 6 (wC_e19 ad cy σ) (tC_t19 cy) q ((wC_s19 ad cy σ _ _).trans (congrArg (wC ad cy) eσ1.symm)) dX2_write_55 (fun H locs hI => ?_)
  refine lv_goto (tgt := 151) hx hb dX2_write_56 (by decide) ?_
  exact bX2_write_151 hC  hI (lv_sub hl [] rfl) hf
set_option maxRecDepth 20000 in
set_option maxHeartbeats 4000000 in
theorem bX2_write_130 {st : Nat → Nat} {p : Program} {l : Launch} {e : Env} {s : State} {m : MethodId} {args : Array Value} {below : List Frame} {meth : Method} {c : Code} {D : va_G} {A : Nat → Prop} {ad : Nat → Nat} {cy : Nat → ClassId} (hC : zC p m c cX2_write 4 s args wzX2_write RX2 meth none)  {res : zSt} {H : Heap} {locs : List Loc} {σ : zSt} {ls : Array Slot} {x2 : Int32} {x3 : Int32} (hI : zI st D (tC cy) (wC ad cy σ) A s H locs) (hl : lv_has ls 4 [(0, .ref (ad 1)), (2, .int x2), (3, .int x3)]) (hf : fX2_write_130  σ x2 x3 = some res) : W p l e rmX2_write s m args below meth c H locs 0 0 (zQu below args s D (tC cy) (wC ad cy) A res) (F0 m 130 ls []) := by
  have hx := hC.1
  have hb := hC.2.1
  unfold fX2_write_130 at hf
  refine lv_aload_n hx hb dX2_write_130 rfl (lv_at hl 0 rfl) ?_
  refine z_get hC hI hinX2_write_X20 1 (wC_e1 ad cy σ) rfl 6 (by decide) (List.mem_cons_of_mem _ zw14_3) rfl dX2_write_131 ?_
  refine lv_iconst (v := 3) hx hb dX2_write_134 (by decide) ?_
  refine lv_icmp_ne (tgt := 151) hx hb dX2_write_135 (by decide) (fun q => ?_) (fun q => ?_)
  · replace hf := zif_f q hf
    exact bX2_write_151 hC  hI (lv_sub hl [] rfl) hf
  replace hf := zif_t q hf
  refine lv_iload_n hx hb dX2_write_138 rfl (lv_at hl 2 rfl) ?_
  refine lv_ldc (v := 40960) hx hb hC.2.2.2.1 (hC.2.2.2.2.1 _ (List.mem_cons_of_mem _ zw20_13)) dX2_write_139 ?_
  refine lv_icmp_ne (tgt := 151) hx hb dX2_write_141 (by decide) (fun q => ?_) (fun q => ?_)
  · replace hf := zif_f q hf
    exact bX2_write_151 hC  hI (lv_sub hl [] rfl) hf
  replace hf := zif_t q hf
  refine lv_aload_n hx hb dX2_write_144 rfl (lv_at hl 0 rfl) ?_
  refine z_get hC hI hinX2_write_X20 1 (wC_e1 ad cy σ) rfl 12 (by decide) (List.mem_cons_of_mem _ zw4_0) rfl dX2_write_145 ?_
  refine lv_iconst (v := 2) hx hb dX2_write_148 (by decide) ?_
  refine lv_iload_n hx hb dX2_write_149 rfl (lv_at hl 1 rfl) ?_
  obtain ⟨q, hf⟩ := zck_use hf
  obtain ⟨σ2, eσ2⟩ : ∃ z, z = zsi σ 19 ((2 : Int32).toNatClampNeg) x2 := ⟨_, rfl⟩
  replace hf := zbv_use eσ2 hf
  refine z_iast hC hI 19 6 (wC_e19 ad cy σ) (tC_t19 cy) q ((wC_s19 ad cy σ _ _).trans (congrArg (wC ad cy) eσ2.symm)) dX2_write_150 (fun H locs hI => ?_)
  exact bX2_write_151 hC  hI (lv_sub hl [] rfl) hf
set_option maxRecDepth 20000 in
set_option maxHeartbeats 4000000 in
theorem bX2_write_117 {st : Nat → Nat} {p : Program} {l : Launch} {e : Env} {s : State} {m : MethodId} {args : Array Value} {below : List Frame} {meth : Method} {c : Code} {D : va_G} {A : Nat → Prop} {ad : Nat → Nat} {cy : Nat → ClassId} (hC : zC p m c cX2_write 4 s args wzX2_write RX2 meth none)  {res : zSt} {H : Heap} {locs : List Loc} {σ : zSt} {ls : Array Slot} {x2 : Int32} {x3 : Int32} (hI : zI st D (tC cy) (wC ad cy σ) A s H locs) (hl : lv_has ls 4 [(0, .ref (ad 1)), (2, .int x2), (3, .int x3)]) (hf : fX2_write_117  σ x2 x3 = some res) : W p l e rmX2_write s m args below meth c H locs 0 0 (zQu below args s D (tC cy) (wC ad cy) A res) (F0 m 117 ls []) := by
  have hx := hC.1
  have hb := hC.2.1
  unfold fX2_write_117 at hf
  refine lv_aload_n hx hb dX2_write_117 rfl (lv_at hl 0 rfl) ?_
  refine z_get hC hI hinX2_write_X20 1 (wC_e1 ad cy σ) rfl 12 (by decide) (List.mem_cons_of_mem _ zw4_0) rfl dX2_write_118 ?_
  refine lv_iload_n hx hb dX2_write_121 rfl (lv_at hl 2 rfl) ?_
  refine lv_bipush (v := 14) hx hb dX2_write_122 (by decide) ?_
  refine lv_ishr hx hb dX2_write_124 ?_
  refine lv_iload_n hx hb dX2_write_125 rfl (lv_at hl 1 rfl) ?_
  obtain ⟨q, hf⟩ := zck_use hf
  obtain ⟨σ3, eσ3⟩ : ∃ z, z = zsi σ 19 ((x3 >>> ((14 : Int32) &&& 31)).toNatClampNeg) x2 := ⟨_, rfl⟩
  replace hf := zbv_use eσ3 hf
  refine z_iast hC hI 19 6 (wC_e19 ad cy σ) (tC_t19 cy) q ((wC_s19 ad cy σ _ _).trans (congrArg (wC ad cy) eσ3.symm)) dX2_write_126 (fun H locs hI => ?_)
  refine lv_goto (tgt := 151) hx hb dX2_write_127 (by decide) ?_
  exact bX2_write_151 hC  hI (lv_sub hl [] rfl) hf
set_option maxRecDepth 20000 in
set_option maxHeartbeats 4000000 in
theorem bX2_write_22 {st : Nat → Nat} {p : Program} {l : Launch} {e : Env} {s : State} {m : MethodId} {args : Array Value} {below : List Frame} {meth : Method} {c : Code} {D : va_G} {A : Nat → Prop} {ad : Nat → Nat} {cy : Nat → ClassId} (hC : zC p m c cX2_write 4 s args wzX2_write RX2 meth none)  {res : zSt} {H : Heap} {locs : List Loc} {σ : zSt} {ls : Array Slot} {x2 : Int32} {x3 : Int32} (hI : zI st D (tC cy) (wC ad cy σ) A s H locs) (hl : lv_has ls 4 [(0, .ref (ad 1)), (2, .int x2), (3, .int x3)]) (hf : fX2_write_22  σ x2 x3 = some res) : W p l e rmX2_write s m args below meth c H locs 0 0 (zQu below args s D (tC cy) (wC ad cy) A res) (F0 m 22 ls []) := by
  have hx := hC.1
  have hb := hC.2.1
  unfold fX2_write_22 at hf
  refine lv_aload_n hx hb dX2_write_22 rfl (lv_at hl 0 rfl) ?_
  refine z_get hC hI hinX2_write_X20 1 (wC_e1 ad cy σ) rfl 6 (by decide) (List.mem_cons_of_mem _ zw14_3) rfl dX2_write_23 ?_
  refine lv_iconst (v := 1) hx hb dX2_write_26 (by decide) ?_
  refine lv_icmp_ne (tgt := 92) hx hb dX2_write_27 (by decide) (fun q => ?_) (fun q => ?_)
  · replace hf := zif_f q hf
    refine lv_aload_n hx hb dX2_write_92 rfl (lv_at hl 0 rfl) ?_
    refine z_get hC hI hinX2_write_X20 1 (wC_e1 ad cy σ) rfl 6 (by decide) (List.mem_cons_of_mem _ zw14_3) rfl dX2_write_93 ?_
    refine lv_iconst (v := 2) hx hb dX2_write_96 (by decide) ?_
    refine lv_icmp_ne (tgt := 130) hx hb dX2_write_97 (by decide) (fun q => ?_) (fun q => ?_)
    · replace hf := zif_f q hf
      exact bX2_write_130 hC  hI hl hf
    replace hf := zif_t q hf
    refine lv_iload_n hx hb dX2_write_100 rfl (lv_at hl 2 rfl) ?_
    refine lv_if_eq (tgt := 117) hx hb dX2_write_101 (by decide) (fun q => ?_) (fun q => ?_)
    · replace hf := zif_t q hf
      exact bX2_write_117 hC  hI hl hf
    replace hf := zif_f q hf
    refine lv_iload_n hx hb dX2_write_104 rfl (lv_at hl 2 rfl) ?_
    refine lv_sipush (v := 16384) hx hb dX2_write_105 (by decide) ?_
    refine lv_icmp_eq (tgt := 117) hx hb dX2_write_108 (by decide) (fun q => ?_) (fun q => ?_)
    · replace hf := zif_t q hf
      exact bX2_write_117 hC  hI hl hf
    replace hf := zif_f q hf
    refine lv_iload_n hx hb dX2_write_111 rfl (lv_at hl 2 rfl) ?_
    refine lv_ldc (v := 32768) hx hb hC.2.2.2.1 (hC.2.2.2.2.1 _ (List.mem_cons_of_mem _ zw3_21)) dX2_write_112 ?_
    refine lv_icmp_ne (tgt := 130) hx hb dX2_write_114 (by decide) (fun q => ?_) (fun q => ?_)
    · replace hf := zif_f q hf
      exact bX2_write_130 hC  hI hl hf
    replace hf := zif_t q hf
    exact bX2_write_117 hC  hI hl hf
  replace hf := zif_t q hf
  refine lv_iload_n hx hb dX2_write_30 rfl (lv_at hl 2 rfl) ?_
  refine lv_ldc (v := 65532) hx hb hC.2.2.2.1 (hC.2.2.2.2.1 _ (List.mem_cons_of_mem _ zw20_11)) dX2_write_31 ?_
  refine lv_icmp_lt (tgt := 59) hx hb dX2_write_33 (by decide) (fun q => ?_) (fun q => ?_)
  · replace hf := zif_t q hf
    refine lv_iload_n hx hb dX2_write_59 rfl (lv_at hl 2 rfl) ?_
    refine lv_ldc (v := 32768) hx hb hC.2.2.2.1 (hC.2.2.2.2.1 _ (List.mem_cons_of_mem _ zw3_21)) dX2_write_60 ?_
    refine lv_icmp_lt (tgt := 151) hx hb dX2_write_62 (by decide) (fun q => ?_) (fun q => ?_)
    · replace hf := zif_t q hf
      exact bX2_write_151 hC  hI (lv_sub hl [] rfl) hf
    replace hf := zif_f q hf
    refine lv_iload_n hx hb dX2_write_65 rfl (lv_at hl 2 rfl) ?_
    refine lv_ldc (v := 49152) hx hb hC.2.2.2.1 (hC.2.2.2.2.1 _ (List.mem_cons_of_mem _ zw14_18)) dX2_write_66 ?_
    refine lv_icmp_ge (tgt := 151) hx hb dX2_write_68 (by decide) (fun q => ?_) (fun q => ?_)
    · replace hf := zif_t q hf
      exact bX2_write_151 hC  hI (lv_sub hl [] rfl) hf
    replace hf := zif_f q hf
    refine lv_aload_n hx hb dX2_write_71 rfl (lv_at hl 0 rfl) ?_
    obtain ⟨σ4, v5, g4, hf⟩ := zbi_use hf
    refine z_callVi (As := []) (rest := []) hC hI (cX2_batteryIsIn_met st l D ad cy σ  _ g4) (zgV zw20_14 zw20_15 zw20_16 zw1_21 zw20_17) rfl ⟨rfl, rfl⟩ 0 hdX2_batteryIsIn ⟨Nat.le_of_ble_eq_true rfl, Nat.le_of_ble_eq_true rfl⟩ rfl rfl (wC_e1 ad cy σ) rfl hl rfl (Nat.le_of_ble_eq_true rfl) dX2_write_72 ⟨Nat.zero_le _, Nat.zero_le _⟩ (fun H locs hI => ?_)
    refine lv_if_eq (tgt := 151) hx hb dX2_write_75 (by decide) (fun q => ?_) (fun q => ?_)
    · replace hf := zif_t q hf
      exact bX2_write_151 hC  hI (lv_sub hl [] rfl) hf
    replace hf := zif_f q hf
    refine lv_aload_n hx hb dX2_write_78 rfl (lv_at hl 0 rfl) ?_
    refine z_get hC hI hinX2_write_X20 1 (wC_e1 ad cy σ4) rfl 10 (by decide) (List.mem_cons_of_mem _ zw3_22) rfl dX2_write_79 ?_
    refine lv_aload_n hx hb dX2_write_82 rfl (lv_at hl 0 rfl) ?_
    refine lv_iload_n hx hb dX2_write_83 rfl (lv_at hl 2 rfl) ?_
    obtain ⟨σ6, v7, g6, hf⟩ := zbi_use hf
    refine z_callVi (As := [.int x3]) (rest := [.ref (ad 17)]) hC hI (cX2_batteryPlace_met st l D ad cy σ4 x3 _ g6) (zgV zw20_18 zw20_19 zw20_20 zw1_21 zw20_21) rfl ⟨rfl, rfl⟩ 1 hdX2_batteryPlace ⟨Nat.le_of_ble_eq_true rfl, Nat.le_of_ble_eq_true rfl⟩ rfl rfl (wC_e1 ad cy σ4) rfl hl rfl (Nat.le_of_ble_eq_true rfl) dX2_write_84 ⟨Nat.zero_le _, Nat.zero_le _⟩ (fun H locs hI => ?_)
    refine lv_iload_n hx hb dX2_write_87 rfl (lv_at hl 1 rfl) ?_
    obtain ⟨q, hf⟩ := zck_use hf
    obtain ⟨σ8, eσ8⟩ : ∃ z, z = zsi σ6 17 (v7.toNatClampNeg) x2 := ⟨_, rfl⟩
    replace hf := zbv_use eσ8 hf
    refine z_iast hC hI 17 4 (wC_e17 ad cy σ6) (tC_t17 cy) q ((wC_s17 ad cy σ6 _ _).trans (congrArg (wC ad cy) eσ8.symm)) dX2_write_88 (fun H locs hI => ?_)
    refine lv_goto (tgt := 151) hx hb dX2_write_89 (by decide) ?_
    exact bX2_write_151 hC  hI (lv_sub hl [] rfl) hf
  replace hf := zif_f q hf
  refine lv_aload_n hx hb dX2_write_36 rfl (lv_at hl 0 rfl) ?_
  refine z_get hC hI hinX2_write_X20 1 (wC_e1 ad cy σ) rfl 12 (by decide) (List.mem_cons_of_mem _ zw4_0) rfl dX2_write_37 ?_
  refine lv_iload_n hx hb dX2_write_40 rfl (lv_at hl 2 rfl) ?_
  refine lv_ldc (v := 65532) hx hb hC.2.2.2.1 (hC.2.2.2.2.1 _ (List.mem_cons_of_mem _ zw20_11)) dX2_write_41 ?_
  refine lv_icmp_ne (tgt := 50) hx hb dX2_write_43 (by decide) (fun q => ?_) (fun q => ?_)
  · replace hf := zif_f q hf
    refine lv_iload_n hx hb dX2_write_50 rfl (lv_at hl 2 rfl) ?_
    refine lv_ldc (v := 65533) hx hb hC.2.2.2.1 (hC.2.2.2.2.1 _ (List.mem_cons_of_mem _ zw20_12)) dX2_write_51 ?_
    refine lv_isub hx hb dX2_write_53 ?_
    exact bX2_write_54 hC  hI (lv_sub hl [1] rfl) hf
  replace hf := zif_t q hf
  refine lv_iconst (v := 3) hx hb dX2_write_46 (by decide) ?_
  refine lv_goto (tgt := 54) hx hb dX2_write_47 (by decide) ?_
  exact bX2_write_54 hC  hI (lv_sub hl [1] rfl) hf
set_option maxRecDepth 20000 in
set_option maxHeartbeats 4000000 in
theorem bX2_write {st : Nat → Nat} {p : Program} {l : Launch} {e : Env} {s : State} {m : MethodId} {args : Array Value} {below : List Frame} {meth : Method} {c : Code} {D : va_G} {A : Nat → Prop} {ad : Nat → Nat} {cy : Nat → ClassId} (hC : zC p m c cX2_write 4 s args wzX2_write RX2 meth none)  {res : zSt} {H : Heap} {locs : List Loc} {σ : zSt} {ls : Array Slot} {x1 : Int32} {x2 : Int32} (hI : zI st D (tC cy) (wC ad cy σ) A s H locs) (hl : lv_has ls 4 [(0, .ref (ad 1)), (1, .int x1), (2, .int x2)]) (hf : fX2_write  σ x1 x2 = some res) : W p l e rmX2_write s m args below meth c H locs 0 0 (zQu below args s D (tC cy) (wC ad cy) A res) (F0 m 0 ls []) := by
  have hx := hC.1
  have hb := hC.2.1
  unfold fX2_write at hf
  refine lv_iload_n hx hb dX2_write_0 rfl (lv_at hl 1 rfl) ?_
  refine lv_ldc (v := 65535) hx hb hC.2.2.2.1 (hC.2.2.2.2.1 _ (List.mem_cons_of_mem _ zw17_16)) dX2_write_1 ?_
  refine lv_iand hx hb dX2_write_3 ?_
  refine lv_topi (fun v9 ev9 => ?_)
  replace hf := zbv_use ev9 hf
  refine lv_istore_n (lv' := [(3, .int v9), (0, .ref (ad 1)), (1, .int x1), (2, .int x2)]) hx hb dX2_write_4 rfl hl (by decide) rfl (fun ls hl => ?_)
  refine lv_iload_n hx hb dX2_write_5 rfl (lv_at hl 0 rfl) ?_
  refine lv_ldc (v := 49152) hx hb hC.2.2.2.1 (hC.2.2.2.2.1 _ (List.mem_cons_of_mem _ zw14_18)) dX2_write_6 ?_
  refine lv_icmp_lt (tgt := 22) hx hb dX2_write_8 (by decide) (fun q => ?_) (fun q => ?_)
  · replace hf := zif_t q hf
    exact bX2_write_22 hC  hI (lv_sub hl [1, 3, 0] rfl) hf
  replace hf := zif_f q hf
  refine lv_aload_n hx hb dX2_write_11 rfl (lv_at hl 1 rfl) ?_
  refine z_get hC hI hinX2_write_X20 1 (wC_e1 ad cy σ) rfl 8 (by decide) (List.mem_cons_of_mem _ zw3_19) rfl dX2_write_12 ?_
  refine lv_iload_n hx hb dX2_write_15 rfl (lv_at hl 0 rfl) ?_
  refine lv_sipush (v := 8191) hx hb dX2_write_16 (by decide) ?_
  refine lv_iand hx hb dX2_write_19 ?_
  refine lv_iload_n hx hb dX2_write_20 rfl (lv_at hl 3 rfl) ?_
  obtain ⟨q, hf⟩ := zck_use hf
  obtain ⟨σ10, eσ10⟩ : ∃ z, z = zsi σ 15 ((v9 &&& 8191).toNatClampNeg) x2 := ⟨_, rfl⟩
  replace hf := zbv_use eσ10 hf
  refine z_iast hC hI 15 2 (wC_e15 ad cy σ) (tC_t15 cy) q ((wC_s15 ad cy σ _ _).trans (congrArg (wC ad cy) eσ10.symm)) dX2_write_21 (fun H locs hI => ?_)
  exact bX2_write_22 hC  hI (lv_sub hl [1, 3, 0] rfl) hf
set_option maxRecDepth 20000 in
theorem cX2_write_met (st : Nat → Nat) (l : Launch) (D : va_G) (ad : Nat → Nat) (cy : Nat → ClassId) (σ : zSt) (x1 : Int32) (x2 : Int32) (res : zSt) (hf : fX2_write σ x1 x2 = some res) (sz : Nat) : zMu st l yX2_write wzX2_write rmX2_write [.ref (ad 1), .int x1, .int x2] D (tC cy) (wC ad cy) sz σ res :=
  zMu.of (cc := cX2_write) (maxL := 4) (ret := none) (by decide) rfl (Nat.le_of_ble_eq_true rfl) (fun p e s m args below meth c hC A hI ls hl => bX2_write hC hI hl hf)
theorem hdX2_write : yX2_write.cls = RX2 ∧ yX2_write.cls ≠ "java/lang/invoke/MethodHandle" ∧ yX2_write.cls ≠ "java/lang/invoke/VarHandle" ∧ (parseMethodDescriptor yX2_write.desc).map (fun d => d.parameters.length) = some 2 := by decide +kernel
noncomputable def rmX2_batteryByte : Room := { frames := 0, cells := 0, slots := 0, locals := 0 }
noncomputable def wzX2_batteryByte : List Cond := .code yX2_batteryByte cX2_batteryByte 2 (some .int) :: wsL_law
theorem hinX2_batteryByte_X20 : ∀ w ∈ wsX20, w ∈ wzX2_batteryByte := fun w h => List.mem_cons_of_mem _ (inlX2 w h)
noncomputable def fX2_batteryByte  (σ : zSt) (x1 : Int32) : Option (zSt × Int32) :=
  zck (zin (x1 &&& 32767) 32768) (
  some (σ, zgi σ 17 (x1 &&& 32767).toNatClampNeg))
set_option maxRecDepth 20000 in
set_option maxHeartbeats 4000000 in
theorem bX2_batteryByte {st : Nat → Nat} {p : Program} {l : Launch} {e : Env} {s : State} {m : MethodId} {args : Array Value} {below : List Frame} {meth : Method} {c : Code} {D : va_G} {A : Nat → Prop} {ad : Nat → Nat} {cy : Nat → ClassId} (hC : zC p m c cX2_batteryByte 2 s args wzX2_batteryByte RX2 meth (some .int))  {res : zSt × Int32} {H : Heap} {locs : List Loc} {σ : zSt} {ls : Array Slot} {x1 : Int32} (hI : zI st D (tC cy) (wC ad cy σ) A s H locs) (hl : lv_has ls 2 [(0, .ref (ad 1)), (1, .int x1)]) (hf : fX2_batteryByte  σ x1 = some res) : W p l e rmX2_batteryByte s m args below meth c H locs 0 0 (zQi below args s D (tC cy) (wC ad cy) A res) (F0 m 0 ls []) := by
  have hx := hC.1
  have hb := hC.2.1
  unfold fX2_batteryByte at hf
  refine lv_aload_n hx hb dX2_batteryByte_0 rfl (lv_at hl 0 rfl) ?_
  refine z_get hC hI hinX2_batteryByte_X20 1 (wC_e1 ad cy σ) rfl 10 (by decide) (List.mem_cons_of_mem _ zw3_22) rfl dX2_batteryByte_1 ?_
  refine lv_iload_n hx hb dX2_batteryByte_4 rfl (lv_at hl 1 rfl) ?_
  refine lv_sipush (v := 32767) hx hb dX2_batteryByte_5 (by decide) ?_
  refine lv_iand hx hb dX2_batteryByte_8 ?_
  obtain ⟨q, hf⟩ := zck_use hf
  refine z_iald hC hI 17 4 (wC_e17 ad cy σ) (tC_t17 cy) q dX2_batteryByte_9 ?_
  exact z_ireturn hC hI hf dX2_batteryByte_10
set_option maxRecDepth 20000 in
theorem cX2_batteryByte_met (st : Nat → Nat) (l : Launch) (D : va_G) (ad : Nat → Nat) (cy : Nat → ClassId) (σ : zSt) (x1 : Int32) (res : zSt × Int32) (hf : fX2_batteryByte σ x1 = some res) (sz : Nat) : zMi st l yX2_batteryByte wzX2_batteryByte rmX2_batteryByte [.ref (ad 1), .int x1] D (tC cy) (wC ad cy) sz σ res :=
  zMi.of (cc := cX2_batteryByte) (maxL := 2) (ret := (some .int)) (by decide) rfl (Nat.le_of_ble_eq_true rfl) (fun p e s m args below meth c hC A hI ls hl => bX2_batteryByte hC hI hl hf)
theorem hdX2_batteryByte : yX2_batteryByte.cls = RX2 ∧ yX2_batteryByte.cls ≠ "java/lang/invoke/MethodHandle" ∧ yX2_batteryByte.cls ≠ "java/lang/invoke/VarHandle" ∧ (parseMethodDescriptor yX2_batteryByte.desc).map (fun d => d.parameters.length) = some 1 := by decide +kernel
noncomputable def rmJ7_fill_53178_k17 : Room := { frames := 0, cells := 0, slots := 0, locals := 0 }
noncomputable def wzJ7_fill_53178 : List Cond := .code yJ7_fill_53178 cJ7_fill_53178 4 none :: wsL_law
noncomputable def fJ7_fill_53178_k17_5_body (k5 : zSt → Int32 → Int32 → Int32 → Option (zSt)) (σ : zSt) (x1 : Int32) (x2 : Int32) (x3 : Int32) : Option (zSt) :=
  if x3 ≤ x2 then some σ else
  zck (zin x2 32768) (zbv (zsi σ 17 (x2.toNatClampNeg) x1) (fun σ1 =>
  zbv (x2 + 1) (fun v2 =>
  k5 σ1 x1 v2 x3)))
noncomputable def fJ7_fill_53178_k17_5  : Nat → zSt → Int32 → Int32 → Int32 → Option (zSt)
  | 0, _, _, _, _ => none
  | n + 1, σ, x1, x2, x3 => fJ7_fill_53178_k17_5_body (fJ7_fill_53178_k17_5  n) σ x1 x2 x3
noncomputable def fJ7_fill_53178_k17  (σ : zSt) (x1 : Int32) : Option (zSt) :=
  fJ7_fill_53178_k17_5 zfuel σ x1 0 32768
set_option maxRecDepth 20000 in
set_option maxHeartbeats 4000000 in
theorem bJ7_fill_53178_k17_5_body {st : Nat → Nat} {p : Program} {l : Launch} {e : Env} {s : State} {m : MethodId} {args : Array Value} {below : List Frame} {meth : Method} {c : Code} {D : va_G} {A : Nat → Prop} {ad : Nat → Nat} {cy : Nat → ClassId} (hC : zC p m c cJ7_fill_53178 4 s args wzJ7_fill_53178 RJ7 meth none) {k5 : zSt → Int32 → Int32 → Int32 → Option (zSt)} {res : zSt} (hk5 : ∀ (H : Heap) (locs : List Loc) (σ : zSt) (ls : Array Slot) (x1 : Int32) (x2 : Int32) (x3 : Int32), zI st D (tC cy) (wC ad cy σ) A s H locs → lv_has ls 4 [(0, .ref (ad 17)), (1, .int x1), (2, .int x2), (3, .int x3)] → k5 σ x1 x2 x3 = some res → W p l e rmJ7_fill_53178_k17 s m args below meth c H locs 0 0 (zQu below args s D (tC cy) (wC ad cy) A res) (F0 m 5 ls [])) {H : Heap} {locs : List Loc} {σ : zSt} {ls : Array Slot} {x1 : Int32} {x2 : Int32} {x3 : Int32} (hI : zI st D (tC cy) (wC ad cy σ) A s H locs) (hl : lv_has ls 4 [(0, .ref (ad 17)), (1, .int x1), (2, .int x2), (3, .int x3)]) (hf : fJ7_fill_53178_k17_5_body k5 σ x1 x2 x3 = some res) : W p l e rmJ7_fill_53178_k17 s m args below meth c H locs 0 0 (zQu below args s D (tC cy) (wC ad cy) A res) (F0 m 5 ls []) := by
  have hx := hC.1
  have hb := hC.2.1
  unfold fJ7_fill_53178_k17_5_body at hf
  refine lv_iload_n hx hb dJ7_fill_53178_5 rfl (lv_at hl 2 rfl) ?_
  refine lv_iload_n hx hb dJ7_fill_53178_6 rfl (lv_at hl 3 rfl) ?_
  refine lv_icmp_ge (tgt := 20) hx hb dJ7_fill_53178_7 (by decide) (fun q => ?_) (fun q => ?_)
  · replace hf := zif_t q hf
    exact z_return hC hI hf dJ7_fill_53178_20
  replace hf := zif_f q hf
  refine lv_aload_n hx hb dJ7_fill_53178_10 rfl (lv_at hl 0 rfl) ?_
  refine lv_iload_n hx hb dJ7_fill_53178_11 rfl (lv_at hl 2 rfl) ?_
  refine lv_iload_n hx hb dJ7_fill_53178_12 rfl (lv_at hl 1 rfl) ?_
  obtain ⟨q, hf⟩ := zck_use hf
  obtain ⟨σ1, eσ1⟩ : ∃ z, z = zsi σ 17 (x2.toNatClampNeg) x1 := ⟨_, rfl⟩
  replace hf := zbv_use eσ1 hf
  refine z_iast hC hI 17 4 (wC_e17 ad cy σ) (tC_t17 cy) q ((wC_s17 ad cy σ _ _).trans (congrArg (wC ad cy) eσ1.symm)) dJ7_fill_53178_13 (fun H locs hI => ?_)
  obtain ⟨v2, ev2⟩ : ∃ z : Int32, z = x2 + 1 := ⟨_, rfl⟩
  replace hf := zbv_use ev2 hf
  refine lv_iinc (v := v2) (lv' := [(2, .int v2), (0, .ref (ad 17)), (1, .int x1), (3, .int x3)]) hx hb dJ7_fill_53178_14 hl (k := 2) rfl (by rw [ev2]; rfl) (by decide) rfl (fun ls hl => ?_)
  refine lv_goto (tgt := 5) hx hb dJ7_fill_53178_17 (by decide) ?_
  exact hk5 _ _ _ _ _ _ _ hI (lv_sub hl [1, 2, 0, 3] rfl) hf
theorem blJ7_fill_53178_k17_5 {st : Nat → Nat} {p : Program} {l : Launch} {e : Env} {s : State} {m : MethodId} {args : Array Value} {below : List Frame} {meth : Method} {c : Code} {D : va_G} {A : Nat → Prop} {ad : Nat → Nat} {cy : Nat → ClassId} (hC : zC p m c cJ7_fill_53178 4 s args wzJ7_fill_53178 RJ7 meth none)  {res : zSt} : ∀ (n : Nat) (H : Heap) (locs : List Loc) (σ : zSt) (ls : Array Slot) (x1 : Int32) (x2 : Int32) (x3 : Int32), zI st D (tC cy) (wC ad cy σ) A s H locs → lv_has ls 4 [(0, .ref (ad 17)), (1, .int x1), (2, .int x2), (3, .int x3)] → fJ7_fill_53178_k17_5  n σ x1 x2 x3 = some res → W p l e rmJ7_fill_53178_k17 s m args below meth c H locs 0 0 (zQu below args s D (tC cy) (wC ad cy) A res) (F0 m 5 ls []) := by
  intro n
  induction n with
  | zero => intro H locs σ ls x1 x2 x3 hI hl hf; cases hf
  | succ n ih => intro H locs σ ls x1 x2 x3 hI hl hf; exact bJ7_fill_53178_k17_5_body hC ih hI hl hf
set_option maxRecDepth 20000 in
set_option maxHeartbeats 4000000 in
theorem bJ7_fill_53178_k17 {st : Nat → Nat} {p : Program} {l : Launch} {e : Env} {s : State} {m : MethodId} {args : Array Value} {below : List Frame} {meth : Method} {c : Code} {D : va_G} {A : Nat → Prop} {ad : Nat → Nat} {cy : Nat → ClassId} (hC : zC p m c cJ7_fill_53178 4 s args wzJ7_fill_53178 RJ7 meth none)  {res : zSt} {H : Heap} {locs : List Loc} {σ : zSt} {ls : Array Slot} {x1 : Int32} (hI : zI st D (tC cy) (wC ad cy σ) A s H locs) (hl : lv_has ls 4 [(0, .ref (ad 17)), (1, .int x1)]) (hf : fJ7_fill_53178_k17  σ x1 = some res) : W p l e rmJ7_fill_53178_k17 s m args below meth c H locs 0 0 (zQu below args s D (tC cy) (wC ad cy) A res) (F0 m 0 ls []) := by
  have hx := hC.1
  have hb := hC.2.1
  unfold fJ7_fill_53178_k17 at hf
  refine lv_iconst (v := 0) hx hb dJ7_fill_53178_0 (by decide) ?_
  refine lv_istore_n (lv' := [(2, .int 0), (0, .ref (ad 17)), (1, .int x1)]) hx hb dJ7_fill_53178_1 rfl hl (by decide) rfl (fun ls hl => ?_)
  refine lv_aload_n hx hb dJ7_fill_53178_2 rfl (lv_at hl 1 rfl) ?_
  refine z_alen (v := 32768) hC hI 17 4 (wC_e17 ad cy σ) (tC_t17 cy) rfl dJ7_fill_53178_3 ?_
  refine lv_istore_n (lv' := [(3, .int 32768), (2, .int 0), (0, .ref (ad 17)), (1, .int x1)]) hx hb dJ7_fill_53178_4 rfl hl (by decide) rfl (fun ls hl => ?_)
  exact blJ7_fill_53178_k17_5 hC  zfuel _ _ _ _ _ _ _ hI (lv_sub hl [2, 3, 1, 0] rfl) hf
set_option maxRecDepth 20000 in
theorem cJ7_fill_53178_k17_met (st : Nat → Nat) (l : Launch) (D : va_G) (ad : Nat → Nat) (cy : Nat → ClassId) (σ : zSt) (x1 : Int32) (res : zSt) (hf : fJ7_fill_53178_k17 σ x1 = some res) (sz : Nat) : zMu st l yJ7_fill_53178 wzJ7_fill_53178 rmJ7_fill_53178_k17 [.ref (ad 17), .int x1] D (tC cy) (wC ad cy) sz σ res :=
  zMu.of (cc := cJ7_fill_53178) (maxL := 4) (ret := none) (by decide) rfl (Nat.le_of_ble_eq_true rfl) (fun p e s m args below meth c hC A hI ls hl => bJ7_fill_53178_k17 hC hI hl hf)
theorem hdJ7_fill_53178_k17 : yJ7_fill_53178.cls ≠ "java/lang/invoke/MethodHandle" ∧ yJ7_fill_53178.cls ≠ "java/lang/invoke/VarHandle" ∧ (parseMethodDescriptor yJ7_fill_53178.desc).map (fun d => d.parameters.length) = some 2 := by decide +kernel
noncomputable def rmX2_clearBattery : Room := { frames := 1, cells := 0, slots := 0, locals := 23 }
noncomputable def wzX2_clearBattery : List Cond := .code yX2_clearBattery cX2_clearBattery 1 none :: wsL_law
theorem hinX2_clearBattery_X20 : ∀ w ∈ wsX20, w ∈ wzX2_clearBattery := fun w h => List.mem_cons_of_mem _ (inlX2 w h)
noncomputable def fX2_clearBattery  (σ : zSt)  : Option (zSt) :=
  zbu (fJ7_fill_53178_k17 σ 0) (fun σ1 =>
  some σ1)
set_option maxRecDepth 20000 in
set_option maxHeartbeats 4000000 in
theorem bX2_clearBattery {st : Nat → Nat} {p : Program} {l : Launch} {e : Env} {s : State} {m : MethodId} {args : Array Value} {below : List Frame} {meth : Method} {c : Code} {D : va_G} {A : Nat → Prop} {ad : Nat → Nat} {cy : Nat → ClassId} (hC : zC p m c cX2_clearBattery 1 s args wzX2_clearBattery RX2 meth none)  {res : zSt} {H : Heap} {locs : List Loc} {σ : zSt} {ls : Array Slot}  (hI : zI st D (tC cy) (wC ad cy σ) A s H locs) (hl : lv_has ls 1 [(0, .ref (ad 1))]) (hf : fX2_clearBattery  σ  = some res) : W p l e rmX2_clearBattery s m args below meth c H locs 0 0 (zQu below args s D (tC cy) (wC ad cy) A res) (F0 m 0 ls []) := by
  have hx := hC.1
  have hb := hC.2.1
  unfold fX2_clearBattery at hf
  refine lv_aload_n hx hb dX2_clearBattery_0 rfl (lv_at hl 0 rfl) ?_
  refine z_get hC hI hinX2_clearBattery_X20 1 (wC_e1 ad cy σ) rfl 10 (by decide) (List.mem_cons_of_mem _ zw3_22) rfl dX2_clearBattery_1 ?_
  refine lv_iconst (v := 0) hx hb dX2_clearBattery_4 (by decide) ?_
  obtain ⟨σ1, g1, hf⟩ := zbu_use hf
  refine z_callSu (As := [.ref (ad 17), .int 0]) (rest := []) hC hI (cJ7_fill_53178_k17_met st l D ad cy σ 0 _ g1) (zgS zw15_4 zw5_12 zw5_13 zw5_14) rfl ⟨rfl, rfl⟩ 2 hdJ7_fill_53178_k17 ⟨Nat.le_of_ble_eq_true rfl, Nat.le_of_ble_eq_true rfl⟩ rfl hl rfl (Nat.le_of_ble_eq_true rfl) dX2_clearBattery_5 ⟨Nat.zero_le _, Nat.zero_le _⟩ (fun H locs hI => ?_)
  exact z_return hC hI hf dX2_clearBattery_8
set_option maxRecDepth 20000 in
theorem cX2_clearBattery_met (st : Nat → Nat) (l : Launch) (D : va_G) (ad : Nat → Nat) (cy : Nat → ClassId) (σ : zSt)  (res : zSt) (hf : fX2_clearBattery σ  = some res) (sz : Nat) : zMu st l yX2_clearBattery wzX2_clearBattery rmX2_clearBattery [.ref (ad 1)] D (tC cy) (wC ad cy) sz σ res :=
  zMu.of (cc := cX2_clearBattery) (maxL := 1) (ret := none) (by decide) rfl (Nat.le_of_ble_eq_true rfl) (fun p e s m args below meth c hC A hI ls hl => bX2_clearBattery hC hI hl hf)
theorem hdX2_clearBattery : yX2_clearBattery.cls = RX2 ∧ yX2_clearBattery.cls ≠ "java/lang/invoke/MethodHandle" ∧ yX2_clearBattery.cls ≠ "java/lang/invoke/VarHandle" ∧ (parseMethodDescriptor yX2_clearBattery.desc).map (fun d => d.parameters.length) = some 0 := by decide +kernel
noncomputable def rmJ7_fill_53178_k15 : Room := { frames := 0, cells := 0, slots := 0, locals := 0 }
noncomputable def fJ7_fill_53178_k15_5_body (k5 : zSt → Int32 → Int32 → Int32 → Option (zSt)) (σ : zSt) (x1 : Int32) (x2 : Int32) (x3 : Int32) : Option (zSt) :=
  if x3 ≤ x2 then some σ else
  zck (zin x2 8192) (zbv (zsi σ 15 (x2.toNatClampNeg) x1) (fun σ1 =>
  zbv (x2 + 1) (fun v2 =>
  k5 σ1 x1 v2 x3)))
noncomputable def fJ7_fill_53178_k15_5  : Nat → zSt → Int32 → Int32 → Int32 → Option (zSt)
  | 0, _, _, _, _ => none
  | n + 1, σ, x1, x2, x3 => fJ7_fill_53178_k15_5_body (fJ7_fill_53178_k15_5  n) σ x1 x2 x3
noncomputable def fJ7_fill_53178_k15  (σ : zSt) (x1 : Int32) : Option (zSt) :=
  fJ7_fill_53178_k15_5 zfuel σ x1 0 8192
set_option maxRecDepth 20000 in
set_option maxHeartbeats 4000000 in
theorem bJ7_fill_53178_k15_5_body {st : Nat → Nat} {p : Program} {l : Launch} {e : Env} {s : State} {m : MethodId} {args : Array Value} {below : List Frame} {meth : Method} {c : Code} {D : va_G} {A : Nat → Prop} {ad : Nat → Nat} {cy : Nat → ClassId} (hC : zC p m c cJ7_fill_53178 4 s args wzJ7_fill_53178 RJ7 meth none) {k5 : zSt → Int32 → Int32 → Int32 → Option (zSt)} {res : zSt} (hk5 : ∀ (H : Heap) (locs : List Loc) (σ : zSt) (ls : Array Slot) (x1 : Int32) (x2 : Int32) (x3 : Int32), zI st D (tC cy) (wC ad cy σ) A s H locs → lv_has ls 4 [(0, .ref (ad 15)), (1, .int x1), (2, .int x2), (3, .int x3)] → k5 σ x1 x2 x3 = some res → W p l e rmJ7_fill_53178_k15 s m args below meth c H locs 0 0 (zQu below args s D (tC cy) (wC ad cy) A res) (F0 m 5 ls [])) {H : Heap} {locs : List Loc} {σ : zSt} {ls : Array Slot} {x1 : Int32} {x2 : Int32} {x3 : Int32} (hI : zI st D (tC cy) (wC ad cy σ) A s H locs) (hl : lv_has ls 4 [(0, .ref (ad 15)), (1, .int x1), (2, .int x2), (3, .int x3)]) (hf : fJ7_fill_53178_k15_5_body k5 σ x1 x2 x3 = some res) : W p l e rmJ7_fill_53178_k15 s m args below meth c H locs 0 0 (zQu below args s D (tC cy) (wC ad cy) A res) (F0 m 5 ls []) := by
  have hx := hC.1
  have hb := hC.2.1
  unfold fJ7_fill_53178_k15_5_body at hf
  refine lv_iload_n hx hb dJ7_fill_53178_5 rfl (lv_at hl 2 rfl) ?_
  refine lv_iload_n hx hb dJ7_fill_53178_6 rfl (lv_at hl 3 rfl) ?_
  refine lv_icmp_ge (tgt := 20) hx hb dJ7_fill_53178_7 (by decide) (fun q => ?_) (fun q => ?_)
  · replace hf := zif_t q hf
    exact z_return hC hI hf dJ7_fill_53178_20
  replace hf := zif_f q hf
  refine lv_aload_n hx hb dJ7_fill_53178_10 rfl (lv_at hl 0 rfl) ?_
  refine lv_iload_n hx hb dJ7_fill_53178_11 rfl (lv_at hl 2 rfl) ?_
  refine lv_iload_n hx hb dJ7_fill_53178_12 rfl (lv_at hl 1 rfl) ?_
  obtain ⟨q, hf⟩ := zck_use hf
  obtain ⟨σ1, eσ1⟩ : ∃ z, z = zsi σ 15 (x2.toNatClampNeg) x1 := ⟨_, rfl⟩
  replace hf := zbv_use eσ1 hf
  refine z_iast hC hI 15 2 (wC_e15 ad cy σ) (tC_t15 cy) q ((wC_s15 ad cy σ _ _).trans (congrArg (wC ad cy) eσ1.symm)) dJ7_fill_53178_13 (fun H locs hI => ?_)
  obtain ⟨v2, ev2⟩ : ∃ z : Int32, z = x2 + 1 := ⟨_, rfl⟩
  replace hf := zbv_use ev2 hf
  refine lv_iinc (v := v2) (lv' := [(2, .int v2), (0, .ref (ad 15)), (1, .int x1), (3, .int x3)]) hx hb dJ7_fill_53178_14 hl (k := 2) rfl (by rw [ev2]; rfl) (by decide) rfl (fun ls hl => ?_)
  refine lv_goto (tgt := 5) hx hb dJ7_fill_53178_17 (by decide) ?_
  exact hk5 _ _ _ _ _ _ _ hI (lv_sub hl [1, 2, 0, 3] rfl) hf
theorem blJ7_fill_53178_k15_5 {st : Nat → Nat} {p : Program} {l : Launch} {e : Env} {s : State} {m : MethodId} {args : Array Value} {below : List Frame} {meth : Method} {c : Code} {D : va_G} {A : Nat → Prop} {ad : Nat → Nat} {cy : Nat → ClassId} (hC : zC p m c cJ7_fill_53178 4 s args wzJ7_fill_53178 RJ7 meth none)  {res : zSt} : ∀ (n : Nat) (H : Heap) (locs : List Loc) (σ : zSt) (ls : Array Slot) (x1 : Int32) (x2 : Int32) (x3 : Int32), zI st D (tC cy) (wC ad cy σ) A s H locs → lv_has ls 4 [(0, .ref (ad 15)), (1, .int x1), (2, .int x2), (3, .int x3)] → fJ7_fill_53178_k15_5  n σ x1 x2 x3 = some res → W p l e rmJ7_fill_53178_k15 s m args below meth c H locs 0 0 (zQu below args s D (tC cy) (wC ad cy) A res) (F0 m 5 ls []) := by
  intro n
  induction n with
  | zero => intro H locs σ ls x1 x2 x3 hI hl hf; cases hf
  | succ n ih => intro H locs σ ls x1 x2 x3 hI hl hf; exact bJ7_fill_53178_k15_5_body hC ih hI hl hf
set_option maxRecDepth 20000 in
set_option maxHeartbeats 4000000 in
theorem bJ7_fill_53178_k15 {st : Nat → Nat} {p : Program} {l : Launch} {e : Env} {s : State} {m : MethodId} {args : Array Value} {below : List Frame} {meth : Method} {c : Code} {D : va_G} {A : Nat → Prop} {ad : Nat → Nat} {cy : Nat → ClassId} (hC : zC p m c cJ7_fill_53178 4 s args wzJ7_fill_53178 RJ7 meth none)  {res : zSt} {H : Heap} {locs : List Loc} {σ : zSt} {ls : Array Slot} {x1 : Int32} (hI : zI st D (tC cy) (wC ad cy σ) A s H locs) (hl : lv_has ls 4 [(0, .ref (ad 15)), (1, .int x1)]) (hf : fJ7_fill_53178_k15  σ x1 = some res) : W p l e rmJ7_fill_53178_k15 s m args below meth c H locs 0 0 (zQu below args s D (tC cy) (wC ad cy) A res) (F0 m 0 ls []) := by
  have hx := hC.1
  have hb := hC.2.1
  unfold fJ7_fill_53178_k15 at hf
  refine lv_iconst (v := 0) hx hb dJ7_fill_53178_0 (by decide) ?_
  refine lv_istore_n (lv' := [(2, .int 0), (0, .ref (ad 15)), (1, .int x1)]) hx hb dJ7_fill_53178_1 rfl hl (by decide) rfl (fun ls hl => ?_)
  refine lv_aload_n hx hb dJ7_fill_53178_2 rfl (lv_at hl 1 rfl) ?_
  refine z_alen (v := 8192) hC hI 15 2 (wC_e15 ad cy σ) (tC_t15 cy) rfl dJ7_fill_53178_3 ?_
  refine lv_istore_n (lv' := [(3, .int 8192), (2, .int 0), (0, .ref (ad 15)), (1, .int x1)]) hx hb dJ7_fill_53178_4 rfl hl (by decide) rfl (fun ls hl => ?_)
  exact blJ7_fill_53178_k15_5 hC  zfuel _ _ _ _ _ _ _ hI (lv_sub hl [2, 3, 1, 0] rfl) hf
set_option maxRecDepth 20000 in
theorem cJ7_fill_53178_k15_met (st : Nat → Nat) (l : Launch) (D : va_G) (ad : Nat → Nat) (cy : Nat → ClassId) (σ : zSt) (x1 : Int32) (res : zSt) (hf : fJ7_fill_53178_k15 σ x1 = some res) (sz : Nat) : zMu st l yJ7_fill_53178 wzJ7_fill_53178 rmJ7_fill_53178_k15 [.ref (ad 15), .int x1] D (tC cy) (wC ad cy) sz σ res :=
  zMu.of (cc := cJ7_fill_53178) (maxL := 4) (ret := none) (by decide) rfl (Nat.le_of_ble_eq_true rfl) (fun p e s m args below meth c hC A hI ls hl => bJ7_fill_53178_k15 hC hI hl hf)
theorem hdJ7_fill_53178_k15 : yJ7_fill_53178.cls ≠ "java/lang/invoke/MethodHandle" ∧ yJ7_fill_53178.cls ≠ "java/lang/invoke/VarHandle" ∧ (parseMethodDescriptor yJ7_fill_53178.desc).map (fun d => d.parameters.length) = some 2 := by decide +kernel
noncomputable def rmX2_clearRam : Room := { frames := 1, cells := 0, slots := 0, locals := 23 }
noncomputable def wzX2_clearRam : List Cond := .code yX2_clearRam cX2_clearRam 1 none :: wsL_law
theorem hinX2_clearRam_X20 : ∀ w ∈ wsX20, w ∈ wzX2_clearRam := fun w h => List.mem_cons_of_mem _ (inlX2 w h)
noncomputable def fX2_clearRam  (σ : zSt)  : Option (zSt) :=
  zbu (fJ7_fill_53178_k15 σ 0) (fun σ1 =>
  some σ1)
set_option maxRecDepth 20000 in
set_option maxHeartbeats 4000000 in
theorem bX2_clearRam {st : Nat → Nat} {p : Program} {l : Launch} {e : Env} {s : State} {m : MethodId} {args : Array Value} {below : List Frame} {meth : Method} {c : Code} {D : va_G} {A : Nat → Prop} {ad : Nat → Nat} {cy : Nat → ClassId} (hC : zC p m c cX2_clearRam 1 s args wzX2_clearRam RX2 meth none)  {res : zSt} {H : Heap} {locs : List Loc} {σ : zSt} {ls : Array Slot}  (hI : zI st D (tC cy) (wC ad cy σ) A s H locs) (hl : lv_has ls 1 [(0, .ref (ad 1))]) (hf : fX2_clearRam  σ  = some res) : W p l e rmX2_clearRam s m args below meth c H locs 0 0 (zQu below args s D (tC cy) (wC ad cy) A res) (F0 m 0 ls []) := by
  have hx := hC.1
  have hb := hC.2.1
  unfold fX2_clearRam at hf
  refine lv_aload_n hx hb dX2_clearRam_0 rfl (lv_at hl 0 rfl) ?_
  refine z_get hC hI hinX2_clearRam_X20 1 (wC_e1 ad cy σ) rfl 8 (by decide) (List.mem_cons_of_mem _ zw3_19) rfl dX2_clearRam_1 ?_
  refine lv_iconst (v := 0) hx hb dX2_clearRam_4 (by decide) ?_
  obtain ⟨σ1, g1, hf⟩ := zbu_use hf
  refine z_callSu (As := [.ref (ad 15), .int 0]) (rest := []) hC hI (cJ7_fill_53178_k15_met st l D ad cy σ 0 _ g1) (zgS zw15_4 zw5_12 zw5_13 zw5_14) rfl ⟨rfl, rfl⟩ 2 hdJ7_fill_53178_k15 ⟨Nat.le_of_ble_eq_true rfl, Nat.le_of_ble_eq_true rfl⟩ rfl hl rfl (Nat.le_of_ble_eq_true rfl) dX2_clearRam_5 ⟨Nat.zero_le _, Nat.zero_le _⟩ (fun H locs hI => ?_)
  exact z_return hC hI hf dX2_clearRam_8
set_option maxRecDepth 20000 in
theorem cX2_clearRam_met (st : Nat → Nat) (l : Launch) (D : va_G) (ad : Nat → Nat) (cy : Nat → ClassId) (σ : zSt)  (res : zSt) (hf : fX2_clearRam σ  = some res) (sz : Nat) : zMu st l yX2_clearRam wzX2_clearRam rmX2_clearRam [.ref (ad 1)] D (tC cy) (wC ad cy) sz σ res :=
  zMu.of (cc := cX2_clearRam) (maxL := 1) (ret := none) (by decide) rfl (Nat.le_of_ble_eq_true rfl) (fun p e s m args below meth c hC A hI ls hl => bX2_clearRam hC hI hl hf)
theorem hdX2_clearRam : yX2_clearRam.cls = RX2 ∧ yX2_clearRam.cls ≠ "java/lang/invoke/MethodHandle" ∧ yX2_clearRam.cls ≠ "java/lang/invoke/VarHandle" ∧ (parseMethodDescriptor yX2_clearRam.desc).map (fun d => d.parameters.length) = some 0 := by decide +kernel
noncomputable def rmX2_clearPages : Room := { frames := 0, cells := 0, slots := 0, locals := 0 }
noncomputable def wzX2_clearPages : List Cond := .code yX2_clearPages cX2_clearPages 1 none :: wsL_law
theorem hinX2_clearPages_X20 : ∀ w ∈ wsX20, w ∈ wzX2_clearPages := fun w h => List.mem_cons_of_mem _ (inlX2 w h)
noncomputable def fX2_clearPages_32  (σ : zSt) (s0 : Int32) (s1 : Int32) : Option (zSt) :=
  zck (zin s1 4) (zbv (zsi σ 19 (s1.toNatClampNeg) s0) (fun σ1 =>
  zck (zin 3 4) (zbv (zsi σ1 19 ((3 : Int32).toNatClampNeg) 0) (fun σ2 =>
  some σ2))))
noncomputable def fX2_clearPages  (σ : zSt)  : Option (zSt) :=
  zck (zin 0 4) (zbv (zsi σ 19 ((0 : Int32).toNatClampNeg) 0) (fun σ3 =>
  zck (zin 1 4) (zbv (zsi σ3 19 ((1 : Int32).toNatClampNeg) 1) (fun σ4 =>
  if (zgi σ4 1 6) = 2 then fX2_clearPages_32 σ4 0 2 else
  fX2_clearPages_32 σ4 2 2))))
set_option maxRecDepth 20000 in
set_option maxHeartbeats 4000000 in
theorem bX2_clearPages_32 {st : Nat → Nat} {p : Program} {l : Launch} {e : Env} {s : State} {m : MethodId} {args : Array Value} {below : List Frame} {meth : Method} {c : Code} {D : va_G} {A : Nat → Prop} {ad : Nat → Nat} {cy : Nat → ClassId} (hC : zC p m c cX2_clearPages 1 s args wzX2_clearPages RX2 meth none)  {res : zSt} {H : Heap} {locs : List Loc} {σ : zSt} {ls : Array Slot} {s0 : Int32} {s1 : Int32} (hI : zI st D (tC cy) (wC ad cy σ) A s H locs) (hl : lv_has ls 1 [(0, .ref (ad 1))]) (hf : fX2_clearPages_32  σ s0 s1 = some res) : W p l e rmX2_clearPages s m args below meth c H locs 0 0 (zQu below args s D (tC cy) (wC ad cy) A res) (F0 m 32 ls [.int s0, .int s1, .ref (ad 19)]) := by
  have hx := hC.1
  have hb := hC.2.1
  unfold fX2_clearPages_32 at hf
  obtain ⟨q, hf⟩ := zck_use hf
  obtain ⟨σ1, eσ1⟩ : ∃ z, z = zsi σ 19 (s1.toNatClampNeg) s0 := ⟨_, rfl⟩
  replace hf := zbv_use eσ1 hf
  refine z_iast hC hI 19 6 (wC_e19 ad cy σ) (tC_t19 cy) q ((wC_s19 ad cy σ _ _).trans (congrArg (wC ad cy) eσ1.symm)) dX2_clearPages_32 (fun H locs hI => ?_)
  refine lv_aload_n hx hb dX2_clearPages_33 rfl (lv_at hl 0 rfl) ?_
  refine z_get hC hI hinX2_clearPages_X20 1 (wC_e1 ad cy σ1) rfl 12 (by decide) (List.mem_cons_of_mem _ zw4_0) rfl dX2_clearPages_34 ?_
  refine lv_iconst (v := 3) hx hb dX2_clearPages_37 (by decide) ?_
  refine lv_iconst (v := 0) hx hb dX2_clearPages_38 (by decide) ?_
  obtain ⟨q, hf⟩ := zck_use hf
  obtain ⟨σ2, eσ2⟩ : ∃ z, z = zsi σ1 19 ((3 : Int32).toNatClampNeg) 0 := ⟨_, rfl⟩
  replace hf := zbv_use eσ2 hf
  refine z_iast hC hI 19 6 (wC_e19 ad cy σ1) (tC_t19 cy) q ((wC_s19 ad cy σ1 _ _).trans (congrArg (wC ad cy) eσ2.symm)) dX2_clearPages_39 (fun H locs hI => ?_)
  exact z_return hC hI hf dX2_clearPages_40
set_option maxRecDepth 20000 in
set_option maxHeartbeats 4000000 in
theorem bX2_clearPages {st : Nat → Nat} {p : Program} {l : Launch} {e : Env} {s : State} {m : MethodId} {args : Array Value} {below : List Frame} {meth : Method} {c : Code} {D : va_G} {A : Nat → Prop} {ad : Nat → Nat} {cy : Nat → ClassId} (hC : zC p m c cX2_clearPages 1 s args wzX2_clearPages RX2 meth none)  {res : zSt} {H : Heap} {locs : List Loc} {σ : zSt} {ls : Array Slot}  (hI : zI st D (tC cy) (wC ad cy σ) A s H locs) (hl : lv_has ls 1 [(0, .ref (ad 1))]) (hf : fX2_clearPages  σ  = some res) : W p l e rmX2_clearPages s m args below meth c H locs 0 0 (zQu below args s D (tC cy) (wC ad cy) A res) (F0 m 0 ls []) := by
  have hx := hC.1
  have hb := hC.2.1
  unfold fX2_clearPages at hf
  refine lv_aload_n hx hb dX2_clearPages_0 rfl (lv_at hl 0 rfl) ?_
  refine z_get hC hI hinX2_clearPages_X20 1 (wC_e1 ad cy σ) rfl 12 (by decide) (List.mem_cons_of_mem _ zw4_0) rfl dX2_clearPages_1 ?_
  refine lv_iconst (v := 0) hx hb dX2_clearPages_4 (by decide) ?_
  refine lv_iconst (v := 0) hx hb dX2_clearPages_5 (by decide) ?_
  obtain ⟨q, hf⟩ := zck_use hf
  obtain ⟨σ3, eσ3⟩ : ∃ z, z = zsi σ 19 ((0 : Int32).toNatClampNeg) 0 := ⟨_, rfl⟩
  replace hf := zbv_use eσ3 hf
  refine z_iast hC hI 19 6 (wC_e19 ad cy σ) (tC_t19 cy) q ((wC_s19 ad cy σ _ _).trans (congrArg (wC ad cy) eσ3.symm)) dX2_clearPages_6 (fun H locs hI => ?_)
  refine lv_aload_n hx hb dX2_clearPages_7 rfl (lv_at hl 0 rfl) ?_
  refine z_get hC hI hinX2_clearPages_X20 1 (wC_e1 ad cy σ3) rfl 12 (by decide) (List.mem_cons_of_mem _ zw4_0) rfl dX2_clearPages_8 ?_
  refine lv_iconst (v := 1) hx hb dX2_clearPages_11 (by decide) ?_
  refine lv_iconst (v := 1) hx hb dX2_clearPages_12 (by decide) ?_
  obtain ⟨q, hf⟩ := zck_use hf
  obtain ⟨σ4, eσ4⟩ : ∃ z, z = zsi σ3 19 ((1 : Int32).toNatClampNeg) 1 := ⟨_, rfl⟩
  replace hf := zbv_use eσ4 hf
  refine z_iast hC hI 19 6 (wC_e19 ad cy σ3) (tC_t19 cy) q ((wC_s19 ad cy σ3 _ _).trans (congrArg (wC ad cy) eσ4.symm)) dX2_clearPages_13 (fun H locs hI => ?_)
  refine lv_aload_n hx hb dX2_clearPages_14 rfl (lv_at hl 0 rfl) ?_
  refine z_get hC hI hinX2_clearPages_X20 1 (wC_e1 ad cy σ4) rfl 12 (by decide) (List.mem_cons_of_mem _ zw4_0) rfl dX2_clearPages_15 ?_
  refine lv_iconst (v := 2) hx hb dX2_clearPages_18 (by decide) ?_
  refine lv_aload_n hx hb dX2_clearPages_19 rfl (lv_at hl 0 rfl) ?_
  refine z_get hC hI hinX2_clearPages_X20 1 (wC_e1 ad cy σ4) rfl 6 (by decide) (List.mem_cons_of_mem _ zw14_3) rfl dX2_clearPages_20 ?_
  refine lv_iconst (v := 2) hx hb dX2_clearPages_23 (by decide) ?_
  refine lv_icmp_ne (tgt := 31) hx hb dX2_clearPages_24 (by decide) (fun q => ?_) (fun q => ?_)
  · replace hf := zif_f q hf
    refine lv_iconst (v := 2) hx hb dX2_clearPages_31 (by decide) ?_
    exact bX2_clearPages_32 hC  hI hl hf
  replace hf := zif_t q hf
  refine lv_iconst (v := 0) hx hb dX2_clearPages_27 (by decide) ?_
  refine lv_goto (tgt := 32) hx hb dX2_clearPages_28 (by decide) ?_
  exact bX2_clearPages_32 hC  hI hl hf
set_option maxRecDepth 20000 in
theorem cX2_clearPages_met (st : Nat → Nat) (l : Launch) (D : va_G) (ad : Nat → Nat) (cy : Nat → ClassId) (σ : zSt)  (res : zSt) (hf : fX2_clearPages σ  = some res) (sz : Nat) : zMu st l yX2_clearPages wzX2_clearPages rmX2_clearPages [.ref (ad 1)] D (tC cy) (wC ad cy) sz σ res :=
  zMu.of (cc := cX2_clearPages) (maxL := 1) (ret := none) (by decide) rfl (Nat.le_of_ble_eq_true rfl) (fun p e s m args below meth c hC A hI ls hl => bX2_clearPages hC hI hl hf)
theorem hdX2_clearPages : yX2_clearPages.cls = RX2 ∧ yX2_clearPages.cls ≠ "java/lang/invoke/MethodHandle" ∧ yX2_clearPages.cls ≠ "java/lang/invoke/VarHandle" ∧ (parseMethodDescriptor yX2_clearPages.desc).map (fun d => d.parameters.length) = some 0 := by decide +kernel
noncomputable def rmX2_keep : Room := { frames := 1, cells := 0, slots := 0, locals := 64 }
noncomputable def wzX2_keep : List Cond := .code yX2_keep cX2_keep 1 none :: wsL_law
theorem hinX2_keep_X20 : ∀ w ∈ wsX20, w ∈ wzX2_keep := fun w h => List.mem_cons_of_mem _ (inlX2 w h)
noncomputable def fX2_keep  (σ : zSt)  : Option (zSt) :=
  zck (zco 0 0 8192 8192 8192) (zbv (zcpi σ 15 16 ((0 : Int32).toNatClampNeg) ((0 : Int32).toNatClampNeg) ((8192 : Int32).toNatClampNeg)) (fun σ1 =>
  zck (zco 0 0 32768 32768 32768) (zbv (zcpi σ1 17 18 ((0 : Int32).toNatClampNeg) ((0 : Int32).toNatClampNeg) ((32768 : Int32).toNatClampNeg)) (fun σ2 =>
  zck (zco 0 0 4 4 4) (zbv (zcpi σ2 19 20 ((0 : Int32).toNatClampNeg) ((0 : Int32).toNatClampNeg) ((4 : Int32).toNatClampNeg)) (fun σ3 =>
  some σ3))))))
set_option maxRecDepth 20000 in
set_option maxHeartbeats 4000000 in
theorem bX2_keep {st : Nat → Nat} {p : Program} {l : Launch} {e : Env} {s : State} {m : MethodId} {args : Array Value} {below : List Frame} {meth : Method} {c : Code} {D : va_G} {A : Nat → Prop} {ad : Nat → Nat} {cy : Nat → ClassId} (hC : zC p m c cX2_keep 1 s args wzX2_keep RX2 meth none)  {res : zSt} {H : Heap} {locs : List Loc} {σ : zSt} {ls : Array Slot}  (hI : zI st D (tC cy) (wC ad cy σ) A s H locs) (hl : lv_has ls 1 [(0, .ref (ad 1))]) (hf : fX2_keep  σ  = some res) : W p l e rmX2_keep s m args below meth c H locs 0 0 (zQu below args s D (tC cy) (wC ad cy) A res) (F0 m 0 ls []) := by
  have hx := hC.1
  have hb := hC.2.1
  unfold fX2_keep at hf
  refine lv_aload_n hx hb dX2_keep_0 rfl (lv_at hl 0 rfl) ?_
  refine z_get hC hI hinX2_keep_X20 1 (wC_e1 ad cy σ) rfl 8 (by decide) (List.mem_cons_of_mem _ zw3_19) rfl dX2_keep_1 ?_
  refine lv_iconst (v := 0) hx hb dX2_keep_4 (by decide) ?_
  refine lv_aload_n hx hb dX2_keep_5 rfl (lv_at hl 0 rfl) ?_
  refine z_get hC hI hinX2_keep_X20 1 (wC_e1 ad cy σ) rfl 9 (by decide) (List.mem_cons_of_mem _ zw3_20) rfl dX2_keep_6 ?_
  refine lv_iconst (v := 0) hx hb dX2_keep_9 (by decide) ?_
  refine lv_sipush (v := 8192) hx hb dX2_keep_10 (by decide) ?_
  obtain ⟨q, hf⟩ := zck_use hf
  obtain ⟨σ1, eσ1⟩ : ∃ z, z = zcpi σ 15 16 ((0 : Int32).toNatClampNeg) ((0 : Int32).toNatClampNeg) ((8192 : Int32).toNatClampNeg) := ⟨_, rfl⟩
  replace hf := zbv_use eσ1 hf
  refine z_cpi hC hI (List.mem_cons_of_mem _ zw80_5) (List.mem_cons_of_mem _ zw80_6) (List.mem_cons_of_mem _ zw80_7) (List.mem_cons_of_mem _ zw80_8) hl 15 16 2 3 (wC_e15 ad cy σ) (wC_e16 ad cy σ) (tC_t15 cy) (tC_t16 cy) q (show _ = wC ad cy σ1 from eσ1 ▸ rfl) (Nat.le_of_ble_eq_true rfl) (Nat.le_of_ble_eq_true rfl) dX2_keep_13 (fun H locs hI => ?_)
  refine lv_aload_n hx hb dX2_keep_16 rfl (lv_at hl 0 rfl) ?_
  refine z_get hC hI hinX2_keep_X20 1 (wC_e1 ad cy σ1) rfl 10 (by decide) (List.mem_cons_of_mem _ zw3_22) rfl dX2_keep_17 ?_
  refine lv_iconst (v := 0) hx hb dX2_keep_20 (by decide) ?_
  refine lv_aload_n hx hb dX2_keep_21 rfl (lv_at hl 0 rfl) ?_
  refine z_get hC hI hinX2_keep_X20 1 (wC_e1 ad cy σ1) rfl 11 (by decide) (List.mem_cons_of_mem _ zw3_23) rfl dX2_keep_22 ?_
  refine lv_iconst (v := 0) hx hb dX2_keep_25 (by decide) ?_
  refine lv_ldc (v := 32768) hx hb hC.2.2.2.1 (hC.2.2.2.2.1 _ (List.mem_cons_of_mem _ zw3_21)) dX2_keep_26 ?_
  obtain ⟨q, hf⟩ := zck_use hf
  obtain ⟨σ2, eσ2⟩ : ∃ z, z = zcpi σ1 17 18 ((0 : Int32).toNatClampNeg) ((0 : Int32).toNatClampNeg) ((32768 : Int32).toNatClampNeg) := ⟨_, rfl⟩
  replace hf := zbv_use eσ2 hf
  refine z_cpi hC hI (List.mem_cons_of_mem _ zw80_5) (List.mem_cons_of_mem _ zw80_6) (List.mem_cons_of_mem _ zw80_7) (List.mem_cons_of_mem _ zw80_8) hl 17 18 4 5 (wC_e17 ad cy σ1) (wC_e18 ad cy σ1) (tC_t17 cy) (tC_t18 cy) q (show _ = wC ad cy σ2 from eσ2 ▸ rfl) (Nat.le_of_ble_eq_true rfl) (Nat.le_of_ble_eq_true rfl) dX2_keep_28 (fun H locs hI => ?_)
  refine lv_aload_n hx hb dX2_keep_31 rfl (lv_at hl 0 rfl) ?_
  refine z_get hC hI hinX2_keep_X20 1 (wC_e1 ad cy σ2) rfl 12 (by decide) (List.mem_cons_of_mem _ zw4_0) rfl dX2_keep_32 ?_
  refine lv_iconst (v := 0) hx hb dX2_keep_35 (by decide) ?_
  refine lv_aload_n hx hb dX2_keep_36 rfl (lv_at hl 0 rfl) ?_
  refine z_get hC hI hinX2_keep_X20 1 (wC_e1 ad cy σ2) rfl 13 (by decide) (List.mem_cons_of_mem _ zw4_1) rfl dX2_keep_37 ?_
  refine lv_iconst (v := 0) hx hb dX2_keep_40 (by decide) ?_
  refine lv_iconst (v := 4) hx hb dX2_keep_41 (by decide) ?_
  obtain ⟨q, hf⟩ := zck_use hf
  obtain ⟨σ3, eσ3⟩ : ∃ z, z = zcpi σ2 19 20 ((0 : Int32).toNatClampNeg) ((0 : Int32).toNatClampNeg) ((4 : Int32).toNatClampNeg) := ⟨_, rfl⟩
  replace hf := zbv_use eσ3 hf
  refine z_cpi hC hI (List.mem_cons_of_mem _ zw80_5) (List.mem_cons_of_mem _ zw80_6) (List.mem_cons_of_mem _ zw80_7) (List.mem_cons_of_mem _ zw80_8) hl 19 20 6 7 (wC_e19 ad cy σ2) (wC_e20 ad cy σ2) (tC_t19 cy) (tC_t20 cy) q (show _ = wC ad cy σ3 from eσ3 ▸ rfl) (Nat.le_of_ble_eq_true rfl) (Nat.le_of_ble_eq_true rfl) dX2_keep_42 (fun H locs hI => ?_)
  exact z_return hC hI hf dX2_keep_45
set_option maxRecDepth 20000 in
theorem cX2_keep_met (st : Nat → Nat) (l : Launch) (D : va_G) (ad : Nat → Nat) (cy : Nat → ClassId) (σ : zSt)  (res : zSt) (hf : fX2_keep σ  = some res) (sz : Nat) : zMu st l yX2_keep wzX2_keep rmX2_keep [.ref (ad 1)] D (tC cy) (wC ad cy) sz σ res :=
  zMu.of (cc := cX2_keep) (maxL := 1) (ret := none) (by decide) rfl (Nat.le_of_ble_eq_true rfl) (fun p e s m args below meth c hC A hI ls hl => bX2_keep hC hI hl hf)
theorem hdX2_keep : yX2_keep.cls = RX2 ∧ yX2_keep.cls ≠ "java/lang/invoke/MethodHandle" ∧ yX2_keep.cls ≠ "java/lang/invoke/VarHandle" ∧ (parseMethodDescriptor yX2_keep.desc).map (fun d => d.parameters.length) = some 0 := by decide +kernel
noncomputable def rmX2_bringBack : Room := { frames := 1, cells := 0, slots := 0, locals := 64 }
noncomputable def wzX2_bringBack : List Cond := .code yX2_bringBack cX2_bringBack 1 none :: wsL_law
theorem hinX2_bringBack_X20 : ∀ w ∈ wsX20, w ∈ wzX2_bringBack := fun w h => List.mem_cons_of_mem _ (inlX2 w h)
noncomputable def fX2_bringBack  (σ : zSt)  : Option (zSt) :=
  zck (zco 0 0 8192 8192 8192) (zbv (zcpi σ 16 15 ((0 : Int32).toNatClampNeg) ((0 : Int32).toNatClampNeg) ((8192 : Int32).toNatClampNeg)) (fun σ1 =>
  zck (zco 0 0 32768 32768 32768) (zbv (zcpi σ1 18 17 ((0 : Int32).toNatClampNeg) ((0 : Int32).toNatClampNeg) ((32768 : Int32).toNatClampNeg)) (fun σ2 =>
  zck (zco 0 0 4 4 4) (zbv (zcpi σ2 20 19 ((0 : Int32).toNatClampNeg) ((0 : Int32).toNatClampNeg) ((4 : Int32).toNatClampNeg)) (fun σ3 =>
  some σ3))))))
set_option maxRecDepth 20000 in
set_option maxHeartbeats 4000000 in
theorem bX2_bringBack {st : Nat → Nat} {p : Program} {l : Launch} {e : Env} {s : State} {m : MethodId} {args : Array Value} {below : List Frame} {meth : Method} {c : Code} {D : va_G} {A : Nat → Prop} {ad : Nat → Nat} {cy : Nat → ClassId} (hC : zC p m c cX2_bringBack 1 s args wzX2_bringBack RX2 meth none)  {res : zSt} {H : Heap} {locs : List Loc} {σ : zSt} {ls : Array Slot}  (hI : zI st D (tC cy) (wC ad cy σ) A s H locs) (hl : lv_has ls 1 [(0, .ref (ad 1))]) (hf : fX2_bringBack  σ  = some res) : W p l e rmX2_bringBack s m args below meth c H locs 0 0 (zQu below args s D (tC cy) (wC ad cy) A res) (F0 m 0 ls []) := by
  have hx := hC.1
  have hb := hC.2.1
  unfold fX2_bringBack at hf
  refine lv_aload_n hx hb dX2_bringBack_0 rfl (lv_at hl 0 rfl) ?_
  refine z_get hC hI hinX2_bringBack_X20 1 (wC_e1 ad cy σ) rfl 9 (by decide) (List.mem_cons_of_mem _ zw3_20) rfl dX2_bringBack_1 ?_
  refine lv_iconst (v := 0) hx hb dX2_bringBack_4 (by decide) ?_
  refine lv_aload_n hx hb dX2_bringBack_5 rfl (lv_at hl 0 rfl) ?_
  refine z_get hC hI hinX2_bringBack_X20 1 (wC_e1 ad cy σ) rfl 8 (by decide) (List.mem_cons_of_mem _ zw3_19) rfl dX2_bringBack_6 ?_
  refine lv_iconst (v := 0) hx hb dX2_bringBack_9 (by decide) ?_
  refine lv_sipush (v := 8192) hx hb dX2_bringBack_10 (by decide) ?_
  obtain ⟨q, hf⟩ := zck_use hf
  obtain ⟨σ1, eσ1⟩ : ∃ z, z = zcpi σ 16 15 ((0 : Int32).toNatClampNeg) ((0 : Int32).toNatClampNeg) ((8192 : Int32).toNatClampNeg) := ⟨_, rfl⟩
  replace hf := zbv_use eσ1 hf
  refine z_cpi hC hI (List.mem_cons_of_mem _ zw80_5) (List.mem_cons_of_mem _ zw80_6) (List.mem_cons_of_mem _ zw80_7) (List.mem_cons_of_mem _ zw80_8) hl 16 15 3 2 (wC_e16 ad cy σ) (wC_e15 ad cy σ) (tC_t16 cy) (tC_t15 cy) q (show _ = wC ad cy σ1 from eσ1 ▸ rfl) (Nat.le_of_ble_eq_true rfl) (Nat.le_of_ble_eq_true rfl) dX2_bringBack_13 (fun H locs hI => ?_)
  refine lv_aload_n hx hb dX2_bringBack_16 rfl (lv_at hl 0 rfl) ?_
  refine z_get hC hI hinX2_bringBack_X20 1 (wC_e1 ad cy σ1) rfl 11 (by decide) (List.mem_cons_of_mem _ zw3_23) rfl dX2_bringBack_17 ?_
  refine lv_iconst (v := 0) hx hb dX2_bringBack_20 (by decide) ?_
  refine lv_aload_n hx hb dX2_bringBack_21 rfl (lv_at hl 0 rfl) ?_
  refine z_get hC hI hinX2_bringBack_X20 1 (wC_e1 ad cy σ1) rfl 10 (by decide) (List.mem_cons_of_mem _ zw3_22) rfl dX2_bringBack_22 ?_
  refine lv_iconst (v := 0) hx hb dX2_bringBack_25 (by decide) ?_
  refine lv_ldc (v := 32768) hx hb hC.2.2.2.1 (hC.2.2.2.2.1 _ (List.mem_cons_of_mem _ zw3_21)) dX2_bringBack_26 ?_
  obtain ⟨q, hf⟩ := zck_use hf
  obtain ⟨σ2, eσ2⟩ : ∃ z, z = zcpi σ1 18 17 ((0 : Int32).toNatClampNeg) ((0 : Int32).toNatClampNeg) ((32768 : Int32).toNatClampNeg) := ⟨_, rfl⟩
  replace hf := zbv_use eσ2 hf
  refine z_cpi hC hI (List.mem_cons_of_mem _ zw80_5) (List.mem_cons_of_mem _ zw80_6) (List.mem_cons_of_mem _ zw80_7) (List.mem_cons_of_mem _ zw80_8) hl 18 17 5 4 (wC_e18 ad cy σ1) (wC_e17 ad cy σ1) (tC_t18 cy) (tC_t17 cy) q (show _ = wC ad cy σ2 from eσ2 ▸ rfl) (Nat.le_of_ble_eq_true rfl) (Nat.le_of_ble_eq_true rfl) dX2_bringBack_28 (fun H locs hI => ?_)
  refine lv_aload_n hx hb dX2_bringBack_31 rfl (lv_at hl 0 rfl) ?_
  refine z_get hC hI hinX2_bringBack_X20 1 (wC_e1 ad cy σ2) rfl 13 (by decide) (List.mem_cons_of_mem _ zw4_1) rfl dX2_bringBack_32 ?_
  refine lv_iconst (v := 0) hx hb dX2_bringBack_35 (by decide) ?_
  refine lv_aload_n hx hb dX2_bringBack_36 rfl (lv_at hl 0 rfl) ?_
  refine z_get hC hI hinX2_bringBack_X20 1 (wC_e1 ad cy σ2) rfl 12 (by decide) (List.mem_cons_of_mem _ zw4_0) rfl dX2_bringBack_37 ?_
  refine lv_iconst (v := 0) hx hb dX2_bringBack_40 (by decide) ?_
  refine lv_iconst (v := 4) hx hb dX2_bringBack_41 (by decide) ?_
  obtain ⟨q, hf⟩ := zck_use hf
  obtain ⟨σ3, eσ3⟩ : ∃ z, z = zcpi σ2 20 19 ((0 : Int32).toNatClampNeg) ((0 : Int32).toNatClampNeg) ((4 : Int32).toNatClampNeg) := ⟨_, rfl⟩
  replace hf := zbv_use eσ3 hf
  refine z_cpi hC hI (List.mem_cons_of_mem _ zw80_5) (List.mem_cons_of_mem _ zw80_6) (List.mem_cons_of_mem _ zw80_7) (List.mem_cons_of_mem _ zw80_8) hl 20 19 7 6 (wC_e20 ad cy σ2) (wC_e19 ad cy σ2) (tC_t20 cy) (tC_t19 cy) q (show _ = wC ad cy σ3 from eσ3 ▸ rfl) (Nat.le_of_ble_eq_true rfl) (Nat.le_of_ble_eq_true rfl) dX2_bringBack_42 (fun H locs hI => ?_)
  exact z_return hC hI hf dX2_bringBack_45
set_option maxRecDepth 20000 in
theorem cX2_bringBack_met (st : Nat → Nat) (l : Launch) (D : va_G) (ad : Nat → Nat) (cy : Nat → ClassId) (σ : zSt)  (res : zSt) (hf : fX2_bringBack σ  = some res) (sz : Nat) : zMu st l yX2_bringBack wzX2_bringBack rmX2_bringBack [.ref (ad 1)] D (tC cy) (wC ad cy) sz σ res :=
  zMu.of (cc := cX2_bringBack) (maxL := 1) (ret := none) (by decide) rfl (Nat.le_of_ble_eq_true rfl) (fun p e s m args below meth c hC A hI ls hl => bX2_bringBack hC hI hl hf)
theorem hdX2_bringBack : yX2_bringBack.cls = RX2 ∧ yX2_bringBack.cls ≠ "java/lang/invoke/MethodHandle" ∧ yX2_bringBack.cls ≠ "java/lang/invoke/VarHandle" ∧ (parseMethodDescriptor yX2_bringBack.desc).map (fun d => d.parameters.length) = some 0 := by decide +kernel
noncomputable def rmX3_keep : Room := { frames := 1, cells := 0, slots := 0, locals := 64 }
noncomputable def wzX3_keep : List Cond := .code yX3_keep cX3_keep 1 none :: wsL_law
theorem hinX3_keep_X30 : ∀ w ∈ wsX30, w ∈ wzX3_keep := fun w h => List.mem_cons_of_mem _ (inlX3 w h)
noncomputable def fX3_keep  (σ : zSt)  : Option (zSt) :=
  zck (zco 0 0 61440 61440 61440) (zbv (zcpi σ 25 26 ((0 : Int32).toNatClampNeg) ((0 : Int32).toNatClampNeg) ((61440 : Int32).toNatClampNeg)) (fun σ1 =>
  some σ1))
set_option maxRecDepth 20000 in
set_option maxHeartbeats 4000000 in
theorem bX3_keep {st : Nat → Nat} {p : Program} {l : Launch} {e : Env} {s : State} {m : MethodId} {args : Array Value} {below : List Frame} {meth : Method} {c : Code} {D : va_G} {A : Nat → Prop} {ad : Nat → Nat} {cy : Nat → ClassId} (hC : zC p m c cX3_keep 1 s args wzX3_keep RX3 meth none)  {res : zSt} {H : Heap} {locs : List Loc} {σ : zSt} {ls : Array Slot}  (hI : zI st D (tC cy) (wC ad cy σ) A s H locs) (hl : lv_has ls 1 [(0, .ref (ad 3))]) (hf : fX3_keep  σ  = some res) : W p l e rmX3_keep s m args below meth c H locs 0 0 (zQu below args s D (tC cy) (wC ad cy) A res) (F0 m 0 ls []) := by
  have hx := hC.1
  have hb := hC.2.1
  unfold fX3_keep at hf
  refine lv_aload_n hx hb dX3_keep_0 rfl (lv_at hl 0 rfl) ?_
  refine z_get hC hI hinX3_keep_X30 3 (wC_e3 ad cy σ) rfl 2 (by decide) (List.mem_cons_of_mem _ zw4_17) rfl dX3_keep_1 ?_
  refine lv_iconst (v := 0) hx hb dX3_keep_4 (by decide) ?_
  refine lv_aload_n hx hb dX3_keep_5 rfl (lv_at hl 0 rfl) ?_
  refine z_get hC hI hinX3_keep_X30 3 (wC_e3 ad cy σ) rfl 3 (by decide) (List.mem_cons_of_mem _ zw4_18) rfl dX3_keep_6 ?_
  refine lv_iconst (v := 0) hx hb dX3_keep_9 (by decide) ?_
  refine lv_aload_n hx hb dX3_keep_10 rfl (lv_at hl 0 rfl) ?_
  refine z_get hC hI hinX3_keep_X30 3 (wC_e3 ad cy σ) rfl 2 (by decide) (List.mem_cons_of_mem _ zw4_17) rfl dX3_keep_11 ?_
  refine z_alen (v := 61440) hC hI 25 12 (wC_e25 ad cy σ) (tC_t25 cy) rfl dX3_keep_14 ?_
  obtain ⟨q, hf⟩ := zck_use hf
  obtain ⟨σ1, eσ1⟩ : ∃ z, z = zcpi σ 25 26 ((0 : Int32).toNatClampNeg) ((0 : Int32).toNatClampNeg) ((61440 : Int32).toNatClampNeg) := ⟨_, rfl⟩
  replace hf := zbv_use eσ1 hf
  refine z_cpi hC hI (List.mem_cons_of_mem _ zw80_18) (List.mem_cons_of_mem _ zw80_6) (List.mem_cons_of_mem _ zw80_7) (List.mem_cons_of_mem _ zw80_8) hl 25 26 12 13 (wC_e25 ad cy σ) (wC_e26 ad cy σ) (tC_t25 cy) (tC_t26 cy) q (show _ = wC ad cy σ1 from eσ1 ▸ rfl) (Nat.le_of_ble_eq_true rfl) (Nat.le_of_ble_eq_true rfl) dX3_keep_15 (fun H locs hI => ?_)
  exact z_return hC hI hf dX3_keep_18
set_option maxRecDepth 20000 in
theorem cX3_keep_met (st : Nat → Nat) (l : Launch) (D : va_G) (ad : Nat → Nat) (cy : Nat → ClassId) (σ : zSt)  (res : zSt) (hf : fX3_keep σ  = some res) (sz : Nat) : zMu st l yX3_keep wzX3_keep rmX3_keep [.ref (ad 3)] D (tC cy) (wC ad cy) sz σ res :=
  zMu.of (cc := cX3_keep) (maxL := 1) (ret := none) (by decide) rfl (Nat.le_of_ble_eq_true rfl) (fun p e s m args below meth c hC A hI ls hl => bX3_keep hC hI hl hf)
theorem hdX3_keep : yX3_keep.cls = RX3 ∧ yX3_keep.cls ≠ "java/lang/invoke/MethodHandle" ∧ yX3_keep.cls ≠ "java/lang/invoke/VarHandle" ∧ (parseMethodDescriptor yX3_keep.desc).map (fun d => d.parameters.length) = some 0 := by decide +kernel
noncomputable def rmX3_bringBack : Room := { frames := 1, cells := 0, slots := 0, locals := 64 }
noncomputable def wzX3_bringBack : List Cond := .code yX3_bringBack cX3_bringBack 1 none :: wsL_law
theorem hinX3_bringBack_X30 : ∀ w ∈ wsX30, w ∈ wzX3_bringBack := fun w h => List.mem_cons_of_mem _ (inlX3 w h)
noncomputable def fX3_bringBack  (σ : zSt)  : Option (zSt) :=
  zck (zco 0 0 61440 61440 61440) (zbv (zcpi σ 26 25 ((0 : Int32).toNatClampNeg) ((0 : Int32).toNatClampNeg) ((61440 : Int32).toNatClampNeg)) (fun σ1 =>
  some σ1))
set_option maxRecDepth 20000 in
set_option maxHeartbeats 4000000 in
theorem bX3_bringBack {st : Nat → Nat} {p : Program} {l : Launch} {e : Env} {s : State} {m : MethodId} {args : Array Value} {below : List Frame} {meth : Method} {c : Code} {D : va_G} {A : Nat → Prop} {ad : Nat → Nat} {cy : Nat → ClassId} (hC : zC p m c cX3_bringBack 1 s args wzX3_bringBack RX3 meth none)  {res : zSt} {H : Heap} {locs : List Loc} {σ : zSt} {ls : Array Slot}  (hI : zI st D (tC cy) (wC ad cy σ) A s H locs) (hl : lv_has ls 1 [(0, .ref (ad 3))]) (hf : fX3_bringBack  σ  = some res) : W p l e rmX3_bringBack s m args below meth c H locs 0 0 (zQu below args s D (tC cy) (wC ad cy) A res) (F0 m 0 ls []) := by
  have hx := hC.1
  have hb := hC.2.1
  unfold fX3_bringBack at hf
  refine lv_aload_n hx hb dX3_bringBack_0 rfl (lv_at hl 0 rfl) ?_
  refine z_get hC hI hinX3_bringBack_X30 3 (wC_e3 ad cy σ) rfl 3 (by decide) (List.mem_cons_of_mem _ zw4_18) rfl dX3_bringBack_1 ?_
  refine lv_iconst (v := 0) hx hb dX3_bringBack_4 (by decide) ?_
  refine lv_aload_n hx hb dX3_bringBack_5 rfl (lv_at hl 0 rfl) ?_
  refine z_get hC hI hinX3_bringBack_X30 3 (wC_e3 ad cy σ) rfl 2 (by decide) (List.mem_cons_of_mem _ zw4_17) rfl dX3_bringBack_6 ?_
  refine lv_iconst (v := 0) hx hb dX3_bringBack_9 (by decide) ?_
  refine lv_aload_n hx hb dX3_bringBack_10 rfl (lv_at hl 0 rfl) ?_
  refine z_get hC hI hinX3_bringBack_X30 3 (wC_e3 ad cy σ) rfl 2 (by decide) (List.mem_cons_of_mem _ zw4_17) rfl dX3_bringBack_11 ?_
  refine z_alen (v := 61440) hC hI 25 12 (wC_e25 ad cy σ) (tC_t25 cy) rfl dX3_bringBack_14 ?_
  obtain ⟨q, hf⟩ := zck_use hf
  obtain ⟨σ1, eσ1⟩ : ∃ z, z = zcpi σ 26 25 ((0 : Int32).toNatClampNeg) ((0 : Int32).toNatClampNeg) ((61440 : Int32).toNatClampNeg) := ⟨_, rfl⟩
  replace hf := zbv_use eσ1 hf
  refine z_cpi hC hI (List.mem_cons_of_mem _ zw80_18) (List.mem_cons_of_mem _ zw80_6) (List.mem_cons_of_mem _ zw80_7) (List.mem_cons_of_mem _ zw80_8) hl 26 25 13 12 (wC_e26 ad cy σ) (wC_e25 ad cy σ) (tC_t26 cy) (tC_t25 cy) q (show _ = wC ad cy σ1 from eσ1 ▸ rfl) (Nat.le_of_ble_eq_true rfl) (Nat.le_of_ble_eq_true rfl) dX3_bringBack_15 (fun H locs hI => ?_)
  exact z_return hC hI hf dX3_bringBack_18
set_option maxRecDepth 20000 in
theorem cX3_bringBack_met (st : Nat → Nat) (l : Launch) (D : va_G) (ad : Nat → Nat) (cy : Nat → ClassId) (σ : zSt)  (res : zSt) (hf : fX3_bringBack σ  = some res) (sz : Nat) : zMu st l yX3_bringBack wzX3_bringBack rmX3_bringBack [.ref (ad 3)] D (tC cy) (wC ad cy) sz σ res :=
  zMu.of (cc := cX3_bringBack) (maxL := 1) (ret := none) (by decide) rfl (Nat.le_of_ble_eq_true rfl) (fun p e s m args below meth c hC A hI ls hl => bX3_bringBack hC hI hl hf)
theorem hdX3_bringBack : yX3_bringBack.cls = RX3 ∧ yX3_bringBack.cls ≠ "java/lang/invoke/MethodHandle" ∧ yX3_bringBack.cls ≠ "java/lang/invoke/VarHandle" ∧ (parseMethodDescriptor yX3_bringBack.desc).map (fun d => d.parameters.length) = some 0 := by decide +kernel
noncomputable def rmX3_width : Room := { frames := 0, cells := 0, slots := 0, locals := 0 }
noncomputable def wzX3_width : List Cond := .code yX3_width cX3_width 1 (some .int) :: wsL_law
theorem hinX3_width_X30 : ∀ w ∈ wsX30, w ∈ wzX3_width := fun w h => List.mem_cons_of_mem _ (inlX3 w h)
noncomputable def fX3_width_16  (σ : zSt) (s0 : Int32) : Option (zSt × Int32) :=
  some (σ, s0)
noncomputable def fX3_width  (σ : zSt)  : Option (zSt × Int32) :=
  if (zgi σ 3 1) = 0 then fX3_width_16 σ 256 else
  fX3_width_16 σ 160
set_option maxRecDepth 20000 in
set_option maxHeartbeats 4000000 in
theorem bX3_width_16 {st : Nat → Nat} {p : Program} {l : Launch} {e : Env} {s : State} {m : MethodId} {args : Array Value} {below : List Frame} {meth : Method} {c : Code} {D : va_G} {A : Nat → Prop} {ad : Nat → Nat} {cy : Nat → ClassId} (hC : zC p m c cX3_width 1 s args wzX3_width RX3 meth (some .int))  {res : zSt × Int32} {H : Heap} {locs : List Loc} {σ : zSt} {ls : Array Slot} {s0 : Int32} (hI : zI st D (tC cy) (wC ad cy σ) A s H locs) (hl : lv_has ls 1 []) (hf : fX3_width_16  σ s0 = some res) : W p l e rmX3_width s m args below meth c H locs 0 0 (zQi below args s D (tC cy) (wC ad cy) A res) (F0 m 16 ls [.int s0]) := by
  have hx := hC.1
  have hb := hC.2.1
  unfold fX3_width_16 at hf
  exact z_ireturn hC hI hf dX3_width_16
set_option maxRecDepth 20000 in
set_option maxHeartbeats 4000000 in
theorem bX3_width {st : Nat → Nat} {p : Program} {l : Launch} {e : Env} {s : State} {m : MethodId} {args : Array Value} {below : List Frame} {meth : Method} {c : Code} {D : va_G} {A : Nat → Prop} {ad : Nat → Nat} {cy : Nat → ClassId} (hC : zC p m c cX3_width 1 s args wzX3_width RX3 meth (some .int))  {res : zSt × Int32} {H : Heap} {locs : List Loc} {σ : zSt} {ls : Array Slot}  (hI : zI st D (tC cy) (wC ad cy σ) A s H locs) (hl : lv_has ls 1 [(0, .ref (ad 3))]) (hf : fX3_width  σ  = some res) : W p l e rmX3_width s m args below meth c H locs 0 0 (zQi below args s D (tC cy) (wC ad cy) A res) (F0 m 0 ls []) := by
  have hx := hC.1
  have hb := hC.2.1
  unfold fX3_width at hf
  refine lv_aload_n hx hb dX3_width_0 rfl (lv_at hl 0 rfl) ?_
  refine z_get hC hI hinX3_width_X30 3 (wC_e3 ad cy σ) rfl 1 (by decide) (List.mem_cons_of_mem _ zw4_23) rfl dX3_width_1 ?_
  refine lv_if_eq (tgt := 13) hx hb dX3_width_4 (by decide) (fun q => ?_) (fun q => ?_)
  · replace hf := zif_t q hf
    refine lv_sipush (v := 256) hx hb dX3_width_13 (by decide) ?_
    exact bX3_width_16 hC  hI (lv_sub hl [] rfl) hf
  replace hf := zif_f q hf
  refine lv_sipush (v := 160) hx hb dX3_width_7 (by decide) ?_
  refine lv_goto (tgt := 16) hx hb dX3_width_10 (by decide) ?_
  exact bX3_width_16 hC  hI (lv_sub hl [] rfl) hf
set_option maxRecDepth 20000 in
theorem cX3_width_met (st : Nat → Nat) (l : Launch) (D : va_G) (ad : Nat → Nat) (cy : Nat → ClassId) (σ : zSt)  (res : zSt × Int32) (hf : fX3_width σ  = some res) (sz : Nat) : zMi st l yX3_width wzX3_width rmX3_width [.ref (ad 3)] D (tC cy) (wC ad cy) sz σ res :=
  zMi.of (cc := cX3_width) (maxL := 1) (ret := (some .int)) (by decide) rfl (Nat.le_of_ble_eq_true rfl) (fun p e s m args below meth c hC A hI ls hl => bX3_width hC hI hl hf)
theorem hdX3_width : yX3_width.cls = RX3 ∧ yX3_width.cls ≠ "java/lang/invoke/MethodHandle" ∧ yX3_width.cls ≠ "java/lang/invoke/VarHandle" ∧ (parseMethodDescriptor yX3_width.desc).map (fun d => d.parameters.length) = some 0 := by decide +kernel
noncomputable def rmX9_height : Room := { frames := 0, cells := 0, slots := 0, locals := 0 }
noncomputable def wzX9_height : List Cond := .code yX9_height cX9_height 1 (some .int) :: wsL_law
theorem hinX9_height_X90 : ∀ w ∈ wsX90, w ∈ wzX9_height := fun w h => List.mem_cons_of_mem _ (inlX9 w h)
noncomputable def fX9_height  (σ : zSt)  : Option (zSt × Int32) :=
  zck (zin 0 96) (
  if ((zgi σ 23 (0 : Int32).toNatClampNeg) &&& 6) = 6 then zck (zin 1 96) (
  if ((zgi σ 23 (1 : Int32).toNatClampNeg) &&& 24) = 8 then some (σ, 240) else
  if ((zgi σ 23 (1 : Int32).toNatClampNeg) &&& 24) = 16 then some (σ, 224) else
  some (σ, 192)) else
  some (σ, 192))
set_option maxRecDepth 20000 in
set_option maxHeartbeats 4000000 in
theorem bX9_height {st : Nat → Nat} {p : Program} {l : Launch} {e : Env} {s : State} {m : MethodId} {args : Array Value} {below : List Frame} {meth : Method} {c : Code} {D : va_G} {A : Nat → Prop} {ad : Nat → Nat} {cy : Nat → ClassId} (hC : zC p m c cX9_height 1 s args wzX9_height RX9 meth (some .int))  {res : zSt × Int32} {H : Heap} {locs : List Loc} {σ : zSt} {ls : Array Slot}  (hI : zI st D (tC cy) (wC ad cy σ) A s H locs) (hl : lv_has ls 1 [(0, .ref (ad 2))]) (hf : fX9_height  σ  = some res) : W p l e rmX9_height s m args below meth c H locs 0 0 (zQi below args s D (tC cy) (wC ad cy) A res) (F0 m 0 ls []) := by
  have hx := hC.1
  have hb := hC.2.1
  unfold fX9_height at hf
  refine lv_aload_n hx hb dX9_height_0 rfl (lv_at hl 0 rfl) ?_
  refine z_get hC hI hinX9_height_X90 2 (wC_e2 ad cy σ) rfl 4 (by decide) (List.mem_cons_of_mem _ zw4_8) rfl dX9_height_1 ?_
  refine lv_iconst (v := 0) hx hb dX9_height_4 (by decide) ?_
  obtain ⟨q, hf⟩ := zck_use hf
  refine z_iald hC hI 23 10 (wC_e23 ad cy σ) (tC_t23 cy) q dX9_height_5 ?_
  refine lv_bipush (v := 6) hx hb dX9_height_6 (by decide) ?_
  refine lv_iand hx hb dX9_height_8 ?_
  refine lv_bipush (v := 6) hx hb dX9_height_9 (by decide) ?_
  refine lv_icmp_eq (tgt := 18) hx hb dX9_height_11 (by decide) (fun q => ?_) (fun q => ?_)
  · replace hf := zif_t q hf
    refine lv_aload_n hx hb dX9_height_18 rfl (lv_at hl 0 rfl) ?_
    refine z_get hC hI hinX9_height_X90 2 (wC_e2 ad cy σ) rfl 4 (by decide) (List.mem_cons_of_mem _ zw4_8) rfl dX9_height_19 ?_
    refine lv_iconst (v := 1) hx hb dX9_height_22 (by decide) ?_
    obtain ⟨q, hf⟩ := zck_use hf
    refine z_iald hC hI 23 10 (wC_e23 ad cy σ) (tC_t23 cy) q dX9_height_23 ?_
    refine lv_bipush (v := 24) hx hb dX9_height_24 (by decide) ?_
    refine lv_iand hx hb dX9_height_26 ?_
    by_cases q0 : ((zgi σ 23 (1 : Int32).toNatClampNeg) &&& 24) = 8
    · replace hf := zif_t q0 hf
      refine lv_lookup (off := 29) (tgt := 56) hx hb dX9_height_27 (by decide) (by rw [q0] <;> rfl) (by decide) ?_
      refine lv_sipush (v := 240) hx hb dX9_height_56 (by decide) ?_
      exact z_ireturn hC hI hf dX9_height_59
    replace hf := zif_f q0 hf
    by_cases q1 : ((zgi σ 23 (1 : Int32).toNatClampNeg) &&& 24) = 16
    · replace hf := zif_t q1 hf
      refine lv_lookup (off := 25) (tgt := 52) hx hb dX9_height_27 (by decide) (by rw [q1] <;> rfl) (by decide) ?_
      refine lv_sipush (v := 224) hx hb dX9_height_52 (by decide) ?_
      exact z_ireturn hC hI hf dX9_height_55
    replace hf := zif_f q1 hf
    refine lv_lookup (off := 33) (tgt := 60) hx hb dX9_height_27 (by decide) (by show Op.lookupswitch.offset [(8, 29), (16, 25)] _ _ = _; rw [lv_osw q0 (by decide), lv_osw q1 (by decide)] <;> rfl) (by decide) ?_
    refine lv_sipush (v := 192) hx hb dX9_height_60 (by decide) ?_
    exact z_ireturn hC hI hf dX9_height_63
  replace hf := zif_f q hf
  refine lv_sipush (v := 192) hx hb dX9_height_14 (by decide) ?_
  exact z_ireturn hC hI hf dX9_height_17
set_option maxRecDepth 20000 in
theorem cX9_height_met (st : Nat → Nat) (l : Launch) (D : va_G) (ad : Nat → Nat) (cy : Nat → ClassId) (σ : zSt)  (res : zSt × Int32) (hf : fX9_height σ  = some res) (sz : Nat) : zMi st l yX9_height wzX9_height rmX9_height [.ref (ad 2)] D (tC cy) (wC ad cy) sz σ res :=
  zMi.of (cc := cX9_height) (maxL := 1) (ret := (some .int)) (by decide) rfl (Nat.le_of_ble_eq_true rfl) (fun p e s m args below meth c hC A hI ls hl => bX9_height hC hI hl hf)
theorem hdX9_height : yX9_height.cls = RX9 ∧ yX9_height.cls ≠ "java/lang/invoke/MethodHandle" ∧ yX9_height.cls ≠ "java/lang/invoke/VarHandle" ∧ (parseMethodDescriptor yX9_height.desc).map (fun d => d.parameters.length) = some 0 := by decide +kernel
noncomputable def rmX3_height : Room := { frames := 1, cells := 0, slots := 0, locals := 20 }
noncomputable def wzX3_height : List Cond := .code yX3_height cX3_height 1 (some .int) :: wsL_law
theorem hinX3_height_X30 : ∀ w ∈ wsX30, w ∈ wzX3_height := fun w h => List.mem_cons_of_mem _ (inlX3 w h)
noncomputable def fX3_height_20  (σ : zSt) (s0 : Int32) : Option (zSt × Int32) :=
  some (σ, s0)
noncomputable def fX3_height  (σ : zSt)  : Option (zSt × Int32) :=
  if (zgi σ 3 1) = 0 then zbi (fX9_height σ ) (fun σ1 v2 =>
  fX3_height_20 σ1 v2) else
  fX3_height_20 σ 144
set_option maxRecDepth 20000 in
set_option maxHeartbeats 4000000 in
theorem bX3_height_20 {st : Nat → Nat} {p : Program} {l : Launch} {e : Env} {s : State} {m : MethodId} {args : Array Value} {below : List Frame} {meth : Method} {c : Code} {D : va_G} {A : Nat → Prop} {ad : Nat → Nat} {cy : Nat → ClassId} (hC : zC p m c cX3_height 1 s args wzX3_height RX3 meth (some .int))  {res : zSt × Int32} {H : Heap} {locs : List Loc} {σ : zSt} {ls : Array Slot} {s0 : Int32} (hI : zI st D (tC cy) (wC ad cy σ) A s H locs) (hl : lv_has ls 1 []) (hf : fX3_height_20  σ s0 = some res) : W p l e rmX3_height s m args below meth c H locs 0 0 (zQi below args s D (tC cy) (wC ad cy) A res) (F0 m 20 ls [.int s0]) := by
  have hx := hC.1
  have hb := hC.2.1
  unfold fX3_height_20 at hf
  exact z_ireturn hC hI hf dX3_height_20
set_option maxRecDepth 20000 in
set_option maxHeartbeats 4000000 in
theorem bX3_height {st : Nat → Nat} {p : Program} {l : Launch} {e : Env} {s : State} {m : MethodId} {args : Array Value} {below : List Frame} {meth : Method} {c : Code} {D : va_G} {A : Nat → Prop} {ad : Nat → Nat} {cy : Nat → ClassId} (hC : zC p m c cX3_height 1 s args wzX3_height RX3 meth (some .int))  {res : zSt × Int32} {H : Heap} {locs : List Loc} {σ : zSt} {ls : Array Slot}  (hI : zI st D (tC cy) (wC ad cy σ) A s H locs) (hl : lv_has ls 1 [(0, .ref (ad 3))]) (hf : fX3_height  σ  = some res) : W p l e rmX3_height s m args below meth c H locs 0 0 (zQi below args s D (tC cy) (wC ad cy) A res) (F0 m 0 ls []) := by
  have hx := hC.1
  have hb := hC.2.1
  unfold fX3_height at hf
  refine lv_aload_n hx hb dX3_height_0 rfl (lv_at hl 0 rfl) ?_
  refine z_get hC hI hinX3_height_X30 3 (wC_e3 ad cy σ) rfl 1 (by decide) (List.mem_cons_of_mem _ zw4_23) rfl dX3_height_1 ?_
  refine lv_if_eq (tgt := 13) hx hb dX3_height_4 (by decide) (fun q => ?_) (fun q => ?_)
  · replace hf := zif_t q hf
    refine lv_aload_n hx hb dX3_height_13 rfl (lv_at hl 0 rfl) ?_
    refine z_get hC hI hinX3_height_X30 3 (wC_e3 ad cy σ) rfl 0 (by decide) (List.mem_cons_of_mem _ zw4_22) rfl dX3_height_14 ?_
    obtain ⟨σ1, v2, g1, hf⟩ := zbi_use hf
    refine z_callVi (As := []) (rest := []) hC hI (cX9_height_met st l D ad cy σ  _ g1) (zgV zw36_9 zw25_17 zw25_18 zw2_1 zw25_19) rfl ⟨rfl, rfl⟩ 0 hdX9_height ⟨Nat.le_of_ble_eq_true rfl, Nat.le_of_ble_eq_true rfl⟩ rfl rfl (wC_e2 ad cy σ) rfl hl rfl (Nat.le_of_ble_eq_true rfl) dX3_height_17 ⟨Nat.zero_le _, Nat.zero_le _⟩ (fun H locs hI => ?_)
    exact bX3_height_20 hC  hI (lv_sub hl [] rfl) hf
  replace hf := zif_f q hf
  refine lv_sipush (v := 144) hx hb dX3_height_7 (by decide) ?_
  refine lv_goto (tgt := 20) hx hb dX3_height_10 (by decide) ?_
  exact bX3_height_20 hC  hI (lv_sub hl [] rfl) hf
set_option maxRecDepth 20000 in
theorem cX3_height_met (st : Nat → Nat) (l : Launch) (D : va_G) (ad : Nat → Nat) (cy : Nat → ClassId) (σ : zSt)  (res : zSt × Int32) (hf : fX3_height σ  = some res) (sz : Nat) : zMi st l yX3_height wzX3_height rmX3_height [.ref (ad 3)] D (tC cy) (wC ad cy) sz σ res :=
  zMi.of (cc := cX3_height) (maxL := 1) (ret := (some .int)) (by decide) rfl (Nat.le_of_ble_eq_true rfl) (fun p e s m args below meth c hC A hI ls hl => bX3_height hC hI hl hf)
theorem hdX3_height : yX3_height.cls = RX3 ∧ yX3_height.cls ≠ "java/lang/invoke/MethodHandle" ∧ yX3_height.cls ≠ "java/lang/invoke/VarHandle" ∧ (parseMethodDescriptor yX3_height.desc).map (fun d => d.parameters.length) = some 0 := by decide +kernel
noncomputable def rmX3_placeOf : Room := { frames := 0, cells := 0, slots := 0, locals := 0 }
noncomputable def wzX3_placeOf : List Cond := .code yX3_placeOf cX3_placeOf 2 (some .int) :: wsL_law
theorem hinX3_placeOf_X30 : ∀ w ∈ wsX30, w ∈ wzX3_placeOf := fun w h => List.mem_cons_of_mem _ (inlX3 w h)
noncomputable def fX3_placeOf_26  (σ : zSt) (s0 : Int32) : Option (zSt × Int32) :=
  some (σ, s0)
noncomputable def fX3_placeOf  (σ : zSt) (x1 : Int32) : Option (zSt × Int32) :=
  if (zgi σ 3 1) = 0 then fX3_placeOf_26 σ (x1 * 256) else
  fX3_placeOf_26 σ (((x1 + 24) * 256) + 48)
set_option maxRecDepth 20000 in
set_option maxHeartbeats 4000000 in
theorem bX3_placeOf_26 {st : Nat → Nat} {p : Program} {l : Launch} {e : Env} {s : State} {m : MethodId} {args : Array Value} {below : List Frame} {meth : Method} {c : Code} {D : va_G} {A : Nat → Prop} {ad : Nat → Nat} {cy : Nat → ClassId} (hC : zC p m c cX3_placeOf 2 s args wzX3_placeOf RX3 meth (some .int))  {res : zSt × Int32} {H : Heap} {locs : List Loc} {σ : zSt} {ls : Array Slot} {s0 : Int32} (hI : zI st D (tC cy) (wC ad cy σ) A s H locs) (hl : lv_has ls 2 []) (hf : fX3_placeOf_26  σ s0 = some res) : W p l e rmX3_placeOf s m args below meth c H locs 0 0 (zQi below args s D (tC cy) (wC ad cy) A res) (F0 m 26 ls [.int s0]) := by
  have hx := hC.1
  have hb := hC.2.1
  unfold fX3_placeOf_26 at hf
  exact z_ireturn hC hI hf dX3_placeOf_26
set_option maxRecDepth 20000 in
set_option maxHeartbeats 4000000 in
theorem bX3_placeOf {st : Nat → Nat} {p : Program} {l : Launch} {e : Env} {s : State} {m : MethodId} {args : Array Value} {below : List Frame} {meth : Method} {c : Code} {D : va_G} {A : Nat → Prop} {ad : Nat → Nat} {cy : Nat → ClassId} (hC : zC p m c cX3_placeOf 2 s args wzX3_placeOf RX3 meth (some .int))  {res : zSt × Int32} {H : Heap} {locs : List Loc} {σ : zSt} {ls : Array Slot} {x1 : Int32} (hI : zI st D (tC cy) (wC ad cy σ) A s H locs) (hl : lv_has ls 2 [(0, .ref (ad 3)), (1, .int x1)]) (hf : fX3_placeOf  σ x1 = some res) : W p l e rmX3_placeOf s m args below meth c H locs 0 0 (zQi below args s D (tC cy) (wC ad cy) A res) (F0 m 0 ls []) := by
  have hx := hC.1
  have hb := hC.2.1
  unfold fX3_placeOf at hf
  refine lv_aload_n hx hb dX3_placeOf_0 rfl (lv_at hl 0 rfl) ?_
  refine z_get hC hI hinX3_placeOf_X30 3 (wC_e3 ad cy σ) rfl 1 (by decide) (List.mem_cons_of_mem _ zw4_23) rfl dX3_placeOf_1 ?_
  refine lv_if_eq (tgt := 21) hx hb dX3_placeOf_4 (by decide) (fun q => ?_) (fun q => ?_)
  · replace hf := zif_t q hf
    refine lv_iload_n hx hb dX3_placeOf_21 rfl (lv_at hl 1 rfl) ?_
    refine lv_sipush (v := 256) hx hb dX3_placeOf_22 (by decide) ?_
    refine lv_imul hx hb dX3_placeOf_25 ?_
    exact bX3_placeOf_26 hC  hI (lv_sub hl [] rfl) hf
  replace hf := zif_f q hf
  refine lv_iload_n hx hb dX3_placeOf_7 rfl (lv_at hl 1 rfl) ?_
  refine lv_bipush (v := 24) hx hb dX3_placeOf_8 (by decide) ?_
  refine lv_iadd hx hb dX3_placeOf_10 ?_
  refine lv_sipush (v := 256) hx hb dX3_placeOf_11 (by decide) ?_
  refine lv_imul hx hb dX3_placeOf_14 ?_
  refine lv_bipush (v := 48) hx hb dX3_placeOf_15 (by decide) ?_
  refine lv_iadd hx hb dX3_placeOf_17 ?_
  refine lv_goto (tgt := 26) hx hb dX3_placeOf_18 (by decide) ?_
  exact bX3_placeOf_26 hC  hI (lv_sub hl [] rfl) hf
set_option maxRecDepth 20000 in
theorem cX3_placeOf_met (st : Nat → Nat) (l : Launch) (D : va_G) (ad : Nat → Nat) (cy : Nat → ClassId) (σ : zSt) (x1 : Int32) (res : zSt × Int32) (hf : fX3_placeOf σ x1 = some res) (sz : Nat) : zMi st l yX3_placeOf wzX3_placeOf rmX3_placeOf [.ref (ad 3), .int x1] D (tC cy) (wC ad cy) sz σ res :=
  zMi.of (cc := cX3_placeOf) (maxL := 2) (ret := (some .int)) (by decide) rfl (Nat.le_of_ble_eq_true rfl) (fun p e s m args below meth c hC A hI ls hl => bX3_placeOf hC hI hl hf)
theorem hdX3_placeOf : yX3_placeOf.cls = RX3 ∧ yX3_placeOf.cls ≠ "java/lang/invoke/MethodHandle" ∧ yX3_placeOf.cls ≠ "java/lang/invoke/VarHandle" ∧ (parseMethodDescriptor yX3_placeOf.desc).map (fun d => d.parameters.length) = some 1 := by decide +kernel
noncomputable def rmX3_dotAt : Room := { frames := 1, cells := 0, slots := 0, locals := 21 }
noncomputable def wzX3_dotAt : List Cond := .code yX3_dotAt cX3_dotAt 4 (some .int) :: wsL_law
theorem hinX3_dotAt_X30 : ∀ w ∈ wsX30, w ∈ wzX3_dotAt := fun w h => List.mem_cons_of_mem _ (inlX3 w h)
noncomputable def fX3_dotAt_31  (σ : zSt) (s0 : Int32) : Option (zSt × Int32) :=
  some (σ, s0)
noncomputable def fX3_dotAt_30  (σ : zSt)  : Option (zSt × Int32) :=
  fX3_dotAt_31 σ 0
noncomputable def fX3_dotAt  (σ : zSt) (x1 : Int32) (x2 : Int32) : Option (zSt × Int32) :=
  zbi (fX3_placeOf σ x2) (fun σ1 v2 =>
  zbv (v2 + x1) (fun v3 =>
  if v3 < 0 then fX3_dotAt_30 σ1 else
  if 61440 ≤ v3 then fX3_dotAt_30 σ1 else
  zck (zin v3 61440) (
  fX3_dotAt_31 σ1 (zgi σ1 25 v3.toNatClampNeg))))
set_option maxRecDepth 20000 in
set_option maxHeartbeats 4000000 in
theorem bX3_dotAt_31 {st : Nat → Nat} {p : Program} {l : Launch} {e : Env} {s : State} {m : MethodId} {args : Array Value} {below : List Frame} {meth : Method} {c : Code} {D : va_G} {A : Nat → Prop} {ad : Nat → Nat} {cy : Nat → ClassId} (hC : zC p m c cX3_dotAt 4 s args wzX3_dotAt RX3 meth (some .int))  {res : zSt × Int32} {H : Heap} {locs : List Loc} {σ : zSt} {ls : Array Slot} {s0 : Int32} (hI : zI st D (tC cy) (wC ad cy σ) A s H locs) (hl : lv_has ls 4 []) (hf : fX3_dotAt_31  σ s0 = some res) : W p l e rmX3_dotAt s m args below meth c H locs 0 0 (zQi below args s D (tC cy) (wC ad cy) A res) (F0 m 31 ls [.int s0]) := by
  have hx := hC.1
  have hb := hC.2.1
  unfold fX3_dotAt_31 at hf
  exact z_ireturn hC hI hf dX3_dotAt_31
set_option maxRecDepth 20000 in
set_option maxHeartbeats 4000000 in
theorem bX3_dotAt_30 {st : Nat → Nat} {p : Program} {l : Launch} {e : Env} {s : State} {m : MethodId} {args : Array Value} {below : List Frame} {meth : Method} {c : Code} {D : va_G} {A : Nat → Prop} {ad : Nat → Nat} {cy : Nat → ClassId} (hC : zC p m c cX3_dotAt 4 s args wzX3_dotAt RX3 meth (some .int))  {res : zSt × Int32} {H : Heap} {locs : List Loc} {σ : zSt} {ls : Array Slot}  (hI : zI st D (tC cy) (wC ad cy σ) A s H locs) (hl : lv_has ls 4 []) (hf : fX3_dotAt_30  σ  = some res) : W p l e rmX3_dotAt s m args below meth c H locs 0 0 (zQi below args s D (tC cy) (wC ad cy) A res) (F0 m 30 ls []) := by
  have hx := hC.1
  have hb := hC.2.1
  unfold fX3_dotAt_30 at hf
  refine lv_iconst (v := 0) hx hb dX3_dotAt_30 (by decide) ?_
  exact bX3_dotAt_31 hC  hI hl hf
set_option maxRecDepth 20000 in
set_option maxHeartbeats 4000000 in
theorem bX3_dotAt {st : Nat → Nat} {p : Program} {l : Launch} {e : Env} {s : State} {m : MethodId} {args : Array Value} {below : List Frame} {meth : Method} {c : Code} {D : va_G} {A : Nat → Prop} {ad : Nat → Nat} {cy : Nat → ClassId} (hC : zC p m c cX3_dotAt 4 s args wzX3_dotAt RX3 meth (some .int))  {res : zSt × Int32} {H : Heap} {locs : List Loc} {σ : zSt} {ls : Array Slot} {x1 : Int32} {x2 : Int32} (hI : zI st D (tC cy) (wC ad cy σ) A s H locs) (hl : lv_has ls 4 [(0, .ref (ad 3)), (1, .int x1), (2, .int x2)]) (hf : fX3_dotAt  σ x1 x2 = some res) : W p l e rmX3_dotAt s m args below meth c H locs 0 0 (zQi below args s D (tC cy) (wC ad cy) A res) (F0 m 0 ls []) := by
  have hx := hC.1
  have hb := hC.2.1
  unfold fX3_dotAt at hf
  refine lv_aload_n hx hb dX3_dotAt_0 rfl (lv_at hl 0 rfl) ?_
  refine lv_iload_n hx hb dX3_dotAt_1 rfl (lv_at hl 2 rfl) ?_
  obtain ⟨σ1, v2, g1, hf⟩ := zbi_use hf
  refine z_callVi (As := [.int x2]) (rest := []) hC hI (cX3_placeOf_met st l D ad cy σ x2 _ g1) (zgV zw90_21 zw90_22 zw90_23 zw2_5 zw91_0) rfl ⟨rfl, rfl⟩ 1 hdX3_placeOf ⟨Nat.le_of_ble_eq_true rfl, Nat.le_of_ble_eq_true rfl⟩ rfl rfl (wC_e3 ad cy σ) rfl hl rfl (Nat.le_of_ble_eq_true rfl) dX3_dotAt_2 ⟨Nat.zero_le _, Nat.zero_le _⟩ (fun H locs hI => ?_)
  refine lv_iload_n hx hb dX3_dotAt_5 rfl (lv_at hl 1 rfl) ?_
  refine lv_iadd hx hb dX3_dotAt_6 ?_
  refine lv_topi (fun v3 ev3 => ?_)
  replace hf := zbv_use ev3 hf
  refine lv_istore_n (lv' := [(3, .int v3), (0, .ref (ad 3)), (1, .int x1), (2, .int x2)]) hx hb dX3_dotAt_7 rfl hl (by decide) rfl (fun ls hl => ?_)
  refine lv_iload_n hx hb dX3_dotAt_8 rfl (lv_at hl 0 rfl) ?_
  refine lv_if_lt (tgt := 30) hx hb dX3_dotAt_9 (by decide) (fun q => ?_) (fun q => ?_)
  · replace hf := zif_t q hf
    exact bX3_dotAt_30 hC  hI (lv_sub hl [] rfl) hf
  replace hf := zif_f q hf
  refine lv_iload_n hx hb dX3_dotAt_12 rfl (lv_at hl 0 rfl) ?_
  refine lv_aload_n hx hb dX3_dotAt_13 rfl (lv_at hl 1 rfl) ?_
  refine z_get hC hI hinX3_dotAt_X30 3 (wC_e3 ad cy σ1) rfl 2 (by decide) (List.mem_cons_of_mem _ zw4_17) rfl dX3_dotAt_14 ?_
  refine z_alen (v := 61440) hC hI 25 12 (wC_e25 ad cy σ1) (tC_t25 cy) rfl dX3_dotAt_17 ?_
  refine lv_icmp_ge (tgt := 30) hx hb dX3_dotAt_18 (by decide) (fun q => ?_) (fun q => ?_)
  · replace hf := zif_t q hf
    exact bX3_dotAt_30 hC  hI (lv_sub hl [] rfl) hf
  replace hf := zif_f q hf
  refine lv_aload_n hx hb dX3_dotAt_21 rfl (lv_at hl 1 rfl) ?_
  refine z_get hC hI hinX3_dotAt_X30 3 (wC_e3 ad cy σ1) rfl 2 (by decide) (List.mem_cons_of_mem _ zw4_17) rfl dX3_dotAt_22 ?_
  refine lv_iload_n hx hb dX3_dotAt_25 rfl (lv_at hl 0 rfl) ?_
  obtain ⟨q, hf⟩ := zck_use hf
  refine z_iald hC hI 25 12 (wC_e25 ad cy σ1) (tC_t25 cy) q dX3_dotAt_26 ?_
  refine lv_goto (tgt := 31) hx hb dX3_dotAt_27 (by decide) ?_
  exact bX3_dotAt_31 hC  hI (lv_sub hl [] rfl) hf
set_option maxRecDepth 20000 in
theorem cX3_dotAt_met (st : Nat → Nat) (l : Launch) (D : va_G) (ad : Nat → Nat) (cy : Nat → ClassId) (σ : zSt) (x1 : Int32) (x2 : Int32) (res : zSt × Int32) (hf : fX3_dotAt σ x1 x2 = some res) (sz : Nat) : zMi st l yX3_dotAt wzX3_dotAt rmX3_dotAt [.ref (ad 3), .int x1, .int x2] D (tC cy) (wC ad cy) sz σ res :=
  zMi.of (cc := cX3_dotAt) (maxL := 4) (ret := (some .int)) (by decide) rfl (Nat.le_of_ble_eq_true rfl) (fun p e s m args below meth c hC A hI ls hl => bX3_dotAt hC hI hl hf)
theorem hdX3_dotAt : yX3_dotAt.cls = RX3 ∧ yX3_dotAt.cls ≠ "java/lang/invoke/MethodHandle" ∧ yX3_dotAt.cls ≠ "java/lang/invoke/VarHandle" ∧ (parseMethodDescriptor yX3_dotAt.desc).map (fun d => d.parameters.length) = some 2 := by decide +kernel
noncomputable def rmX3_sumOfLine : Room := { frames := 1, cells := 0, slots := 0, locals := 21 }
noncomputable def wzX3_sumOfLine : List Cond := .code yX3_sumOfLine cX3_sumOfLine 6 (some .int) :: wsL_law
theorem hinX3_sumOfLine_X30 : ∀ w ∈ wsX30, w ∈ wzX3_sumOfLine := fun w h => List.mem_cons_of_mem _ (inlX3 w h)
noncomputable def fX3_sumOfLine_31_body (k31 : zSt → Int32 → Int32 → Int32 → Option (zSt × Int32)) (σ : zSt) (x2 : Int32) (x4 : Int32) (x5 : Int32) : Option (zSt × Int32) :=
  if x4 ≤ x5 then some (σ, x2) else
  zck (zin x5 61440) (
  zbv ((31 * x2) + (zgi σ 25 x5.toNatClampNeg)) (fun v1 =>
  zbv (x5 + 1) (fun v2 =>
  k31 σ v1 x4 v2)))
noncomputable def fX3_sumOfLine_31  : Nat → zSt → Int32 → Int32 → Int32 → Option (zSt × Int32)
  | 0, _, _, _, _ => none
  | n + 1, σ, x2, x4, x5 => fX3_sumOfLine_31_body (fX3_sumOfLine_31  n) σ x2 x4 x5
noncomputable def fX3_sumOfLine  (σ : zSt) (x1 : Int32) : Option (zSt × Int32) :=
  zbi (fX3_placeOf σ x1) (fun σ3 v4 =>
  zbi (fX3_width σ3 ) (fun σ5 v6 =>
  zbv (zmin (v4 + v6) 61440) (fun v7 =>
  zbv (zmax 0 v4) (fun v8 =>
  fX3_sumOfLine_31 zfuel σ5 0 v7 v8))))
set_option maxRecDepth 20000 in
set_option maxHeartbeats 4000000 in
theorem bX3_sumOfLine_31_body {st : Nat → Nat} {p : Program} {l : Launch} {e : Env} {s : State} {m : MethodId} {args : Array Value} {below : List Frame} {meth : Method} {c : Code} {D : va_G} {A : Nat → Prop} {ad : Nat → Nat} {cy : Nat → ClassId} (hC : zC p m c cX3_sumOfLine 6 s args wzX3_sumOfLine RX3 meth (some .int)) {k31 : zSt → Int32 → Int32 → Int32 → Option (zSt × Int32)} {res : zSt × Int32} (hk31 : ∀ (H : Heap) (locs : List Loc) (σ : zSt) (ls : Array Slot) (x2 : Int32) (x4 : Int32) (x5 : Int32), zI st D (tC cy) (wC ad cy σ) A s H locs → lv_has ls 6 [(0, .ref (ad 3)), (2, .int x2), (4, .int x4), (5, .int x5)] → k31 σ x2 x4 x5 = some res → W p l e rmX3_sumOfLine s m args below meth c H locs 0 0 (zQi below args s D (tC cy) (wC ad cy) A res) (F0 m 31 ls [])) {H : Heap} {locs : List Loc} {σ : zSt} {ls : Array Slot} {x2 : Int32} {x4 : Int32} {x5 : Int32} (hI : zI st D (tC cy) (wC ad cy σ) A s H locs) (hl : lv_has ls 6 [(0, .ref (ad 3)), (2, .int x2), (4, .int x4), (5, .int x5)]) (hf : fX3_sumOfLine_31_body k31 σ x2 x4 x5 = some res) : W p l e rmX3_sumOfLine s m args below meth c H locs 0 0 (zQi below args s D (tC cy) (wC ad cy) A res) (F0 m 31 ls []) := by
  have hx := hC.1
  have hb := hC.2.1
  unfold fX3_sumOfLine_31_body at hf
  refine lv_iload hx hb dX3_sumOfLine_31 (lv_at hl 3 rfl) ?_
  refine lv_iload hx hb dX3_sumOfLine_33 (lv_at hl 2 rfl) ?_
  refine lv_icmp_ge (tgt := 57) hx hb dX3_sumOfLine_35 (by decide) (fun q => ?_) (fun q => ?_)
  · replace hf := zif_t q hf
    refine lv_iload_n hx hb dX3_sumOfLine_57 rfl (lv_at hl 1 rfl) ?_
    exact z_ireturn hC hI hf dX3_sumOfLine_58
  replace hf := zif_f q hf
  refine lv_bipush (v := 31) hx hb dX3_sumOfLine_38 (by decide) ?_
  refine lv_iload_n hx hb dX3_sumOfLine_40 rfl (lv_at hl 1 rfl) ?_
  refine lv_imul hx hb dX3_sumOfLine_41 ?_
  refine lv_aload_n hx hb dX3_sumOfLine_42 rfl (lv_at hl 0 rfl) ?_
  refine z_get hC hI hinX3_sumOfLine_X30 3 (wC_e3 ad cy σ) rfl 2 (by decide) (List.mem_cons_of_mem _ zw4_17) rfl dX3_sumOfLine_43 ?_
  refine lv_iload hx hb dX3_sumOfLine_46 (lv_at hl 3 rfl) ?_
  obtain ⟨q, hf⟩ := zck_use hf
  refine z_iald hC hI 25 12 (wC_e25 ad cy σ) (tC_t25 cy) q dX3_sumOfLine_48 ?_
  refine lv_iadd hx hb dX3_sumOfLine_49 ?_
  refine lv_topi (fun v1 ev1 => ?_)
  replace hf := zbv_use ev1 hf
  refine lv_istore_n (lv' := [(2, .int v1), (0, .ref (ad 3)), (4, .int x4), (5, .int x5)]) hx hb dX3_sumOfLine_50 rfl hl (by decide) rfl (fun ls hl => ?_)
  obtain ⟨v2, ev2⟩ : ∃ z : Int32, z = x5 + 1 := ⟨_, rfl⟩
  replace hf := zbv_use ev2 hf
  refine lv_iinc (v := v2) (lv' := [(5, .int v2), (2, .int v1), (0, .ref (ad 3)), (4, .int x4)]) hx hb dX3_sumOfLine_51 hl (k := 3) rfl (by rw [ev2]; rfl) (by decide) rfl (fun ls hl => ?_)
  refine lv_goto (tgt := 31) hx hb dX3_sumOfLine_54 (by decide) ?_
  exact hk31 _ _ _ _ _ _ _ hI (lv_sub hl [2, 1, 3, 0] rfl) hf
theorem blX3_sumOfLine_31 {st : Nat → Nat} {p : Program} {l : Launch} {e : Env} {s : State} {m : MethodId} {args : Array Value} {below : List Frame} {meth : Method} {c : Code} {D : va_G} {A : Nat → Prop} {ad : Nat → Nat} {cy : Nat → ClassId} (hC : zC p m c cX3_sumOfLine 6 s args wzX3_sumOfLine RX3 meth (some .int))  {res : zSt × Int32} : ∀ (n : Nat) (H : Heap) (locs : List Loc) (σ : zSt) (ls : Array Slot) (x2 : Int32) (x4 : Int32) (x5 : Int32), zI st D (tC cy) (wC ad cy σ) A s H locs → lv_has ls 6 [(0, .ref (ad 3)), (2, .int x2), (4, .int x4), (5, .int x5)] → fX3_sumOfLine_31  n σ x2 x4 x5 = some res → W p l e rmX3_sumOfLine s m args below meth c H locs 0 0 (zQi below args s D (tC cy) (wC ad cy) A res) (F0 m 31 ls []) := by
  intro n
  induction n with
  | zero => intro H locs σ ls x2 x4 x5 hI hl hf; cases hf
  | succ n ih => intro H locs σ ls x2 x4 x5 hI hl hf; exact bX3_sumOfLine_31_body hC ih hI hl hf
set_option maxRecDepth 20000 in
set_option maxHeartbeats 4000000 in
theorem bX3_sumOfLine {st : Nat → Nat} {p : Program} {l : Launch} {e : Env} {s : State} {m : MethodId} {args : Array Value} {below : List Frame} {meth : Method} {c : Code} {D : va_G} {A : Nat → Prop} {ad : Nat → Nat} {cy : Nat → ClassId} (hC : zC p m c cX3_sumOfLine 6 s args wzX3_sumOfLine RX3 meth (some .int))  {res : zSt × Int32} {H : Heap} {locs : List Loc} {σ : zSt} {ls : Array Slot} {x1 : Int32} (hI : zI st D (tC cy) (wC ad cy σ) A s H locs) (hl : lv_has ls 6 [(0, .ref (ad 3)), (1, .int x1)]) (hf : fX3_sumOfLine  σ x1 = some res) : W p l e rmX3_sumOfLine s m args below meth c H locs 0 0 (zQi below args s D (tC cy) (wC ad cy) A res) (F0 m 0 ls []) := by
  have hx := hC.1
  have hb := hC.2.1
  unfold fX3_sumOfLine at hf
  refine lv_iconst (v := 0) hx hb dX3_sumOfLine_0 (by decide) ?_
  refine lv_istore_n (lv' := [(2, .int 0), (0, .ref (ad 3)), (1, .int x1)]) hx hb dX3_sumOfLine_1 rfl hl (by decide) rfl (fun ls hl => ?_)
  refine lv_aload_n hx hb dX3_sumOfLine_2 rfl (lv_at hl 1 rfl) ?_
  refine lv_iload_n hx hb dX3_sumOfLine_3 rfl (lv_at hl 2 rfl) ?_
  obtain ⟨σ3, v4, g3, hf⟩ := zbi_use hf
  refine z_callVi (As := [.int x1]) (rest := []) hC hI (cX3_placeOf_met st l D ad cy σ x1 _ g3) (zgV zw90_21 zw90_22 zw90_23 zw2_5 zw91_0) rfl ⟨rfl, rfl⟩ 1 hdX3_placeOf ⟨Nat.le_of_ble_eq_true rfl, Nat.le_of_ble_eq_true rfl⟩ rfl rfl (wC_e3 ad cy σ) rfl hl rfl (Nat.le_of_ble_eq_true rfl) dX3_sumOfLine_4 ⟨Nat.zero_le _, Nat.zero_le _⟩ (fun H locs hI => ?_)
  refine lv_istore_n (lv' := [(3, .int v4), (2, .int 0), (0, .ref (ad 3)), (1, .int x1)]) hx hb dX3_sumOfLine_7 rfl hl (by decide) rfl (fun ls hl => ?_)
  refine lv_iload_n hx hb dX3_sumOfLine_8 rfl (lv_at hl 0 rfl) ?_
  refine lv_aload_n hx hb dX3_sumOfLine_9 rfl (lv_at hl 2 rfl) ?_
  obtain ⟨σ5, v6, g5, hf⟩ := zbi_use hf
  refine z_callVi (As := []) (rest := [.int v4]) hC hI (cX3_width_met st l D ad cy σ3  _ g5) (zgV zw91_18 zw90_10 zw90_11 zw2_5 zw90_12) rfl ⟨rfl, rfl⟩ 0 hdX3_width ⟨Nat.le_of_ble_eq_true rfl, Nat.le_of_ble_eq_true rfl⟩ rfl rfl (wC_e3 ad cy σ3) rfl hl rfl (Nat.le_of_ble_eq_true rfl) dX3_sumOfLine_10 ⟨Nat.zero_le _, Nat.zero_le _⟩ (fun H locs hI => ?_)
  refine lv_iadd hx hb dX3_sumOfLine_13 ?_
  refine lv_aload_n hx hb dX3_sumOfLine_14 rfl (lv_at hl 2 rfl) ?_
  refine z_get hC hI hinX3_sumOfLine_X30 3 (wC_e3 ad cy σ5) rfl 2 (by decide) (List.mem_cons_of_mem _ zw4_17) rfl dX3_sumOfLine_15 ?_
  refine z_alen (v := 61440) hC hI 25 12 (wC_e25 ad cy σ5) (tC_t25 cy) rfl dX3_sumOfLine_18 ?_
  refine z_mmin hC (List.mem_cons_of_mem _ zw91_16) (List.mem_cons_of_mem _ zw12_14) (List.mem_cons_of_mem _ zw12_15) (List.mem_cons_of_mem _ zw12_16) hl (Nat.le_of_ble_eq_true rfl) (Nat.le_of_ble_eq_true rfl) ⟨Nat.zero_le _, Nat.zero_le _⟩ dX3_sumOfLine_19 ?_
  refine lv_topi (fun v7 ev7 => ?_)
  replace hf := zbv_use ev7 hf
  refine lv_istore (lv' := [(4, .int v7), (3, .int v4), (2, .int 0), (0, .ref (ad 3)), (1, .int x1)]) hx hb dX3_sumOfLine_22 hl (by decide) rfl (fun ls hl => ?_)
  refine lv_iconst (v := 0) hx hb dX3_sumOfLine_24 (by decide) ?_
  refine lv_iload_n hx hb dX3_sumOfLine_25 rfl (lv_at hl 1 rfl) ?_
  refine z_mmax hC (List.mem_cons_of_mem _ zw91_17) (List.mem_cons_of_mem _ zw12_18) (List.mem_cons_of_mem _ zw12_15) (List.mem_cons_of_mem _ zw12_19) hl (Nat.le_of_ble_eq_true rfl) (Nat.le_of_ble_eq_true rfl) ⟨Nat.zero_le _, Nat.zero_le _⟩ dX3_sumOfLine_26 ?_
  refine lv_topi (fun v8 ev8 => ?_)
  replace hf := zbv_use ev8 hf
  refine lv_istore (lv' := [(5, .int v8), (4, .int v7), (3, .int v4), (2, .int 0), (0, .ref (ad 3)), (1, .int x1)]) hx hb dX3_sumOfLine_29 hl (by decide) rfl (fun ls hl => ?_)
  exact blX3_sumOfLine_31 hC  zfuel _ _ _ _ _ _ _ hI (lv_sub hl [4, 3, 1, 0] rfl) hf
set_option maxRecDepth 20000 in
theorem cX3_sumOfLine_met (st : Nat → Nat) (l : Launch) (D : va_G) (ad : Nat → Nat) (cy : Nat → ClassId) (σ : zSt) (x1 : Int32) (res : zSt × Int32) (hf : fX3_sumOfLine σ x1 = some res) (sz : Nat) : zMi st l yX3_sumOfLine wzX3_sumOfLine rmX3_sumOfLine [.ref (ad 3), .int x1] D (tC cy) (wC ad cy) sz σ res :=
  zMi.of (cc := cX3_sumOfLine) (maxL := 6) (ret := (some .int)) (by decide) rfl (Nat.le_of_ble_eq_true rfl) (fun p e s m args below meth c hC A hI ls hl => bX3_sumOfLine hC hI hl hf)
theorem hdX3_sumOfLine : yX3_sumOfLine.cls = RX3 ∧ yX3_sumOfLine.cls ≠ "java/lang/invoke/MethodHandle" ∧ yX3_sumOfLine.cls ≠ "java/lang/invoke/VarHandle" ∧ (parseMethodDescriptor yX3_sumOfLine.desc).map (fun d => d.parameters.length) = some 1 := by decide +kernel
noncomputable def rmX9_held : Room := { frames := 0, cells := 0, slots := 0, locals := 0 }
noncomputable def wzX9_held : List Cond := .code yX9_held cX9_held 2 (some .int) :: wsL_law
theorem hinX9_held_X90 : ∀ w ∈ wsX90, w ∈ wzX9_held := fun w h => List.mem_cons_of_mem _ (inlX9 w h)
noncomputable def fX9_held_20  (σ : zSt) (s0 : Int32) : Option (zSt × Int32) :=
  some (σ, s0)
noncomputable def fX9_held_19  (σ : zSt)  : Option (zSt × Int32) :=
  fX9_held_20 σ 0
noncomputable def fX9_held  (σ : zSt) (x1 : Int32) : Option (zSt × Int32) :=
  if x1 < 0 then fX9_held_19 σ else
  if 96 ≤ x1 then fX9_held_19 σ else
  zck (zin x1 96) (
  fX9_held_20 σ (zgi σ 23 x1.toNatClampNeg))
set_option maxRecDepth 20000 in
set_option maxHeartbeats 4000000 in
theorem bX9_held_20 {st : Nat → Nat} {p : Program} {l : Launch} {e : Env} {s : State} {m : MethodId} {args : Array Value} {below : List Frame} {meth : Method} {c : Code} {D : va_G} {A : Nat → Prop} {ad : Nat → Nat} {cy : Nat → ClassId} (hC : zC p m c cX9_held 2 s args wzX9_held RX9 meth (some .int))  {res : zSt × Int32} {H : Heap} {locs : List Loc} {σ : zSt} {ls : Array Slot} {s0 : Int32} (hI : zI st D (tC cy) (wC ad cy σ) A s H locs) (hl : lv_has ls 2 []) (hf : fX9_held_20  σ s0 = some res) : W p l e rmX9_held s m args below meth c H locs 0 0 (zQi below args s D (tC cy) (wC ad cy) A res) (F0 m 20 ls [.int s0]) := by
  have hx := hC.1
  have hb := hC.2.1
  unfold fX9_held_20 at hf
  exact z_ireturn hC hI hf dX9_held_20
set_option maxRecDepth 20000 in
set_option maxHeartbeats 4000000 in
theorem bX9_held_19 {st : Nat → Nat} {p : Program} {l : Launch} {e : Env} {s : State} {m : MethodId} {args : Array Value} {below : List Frame} {meth : Method} {c : Code} {D : va_G} {A : Nat → Prop} {ad : Nat → Nat} {cy : Nat → ClassId} (hC : zC p m c cX9_held 2 s args wzX9_held RX9 meth (some .int))  {res : zSt × Int32} {H : Heap} {locs : List Loc} {σ : zSt} {ls : Array Slot}  (hI : zI st D (tC cy) (wC ad cy σ) A s H locs) (hl : lv_has ls 2 []) (hf : fX9_held_19  σ  = some res) : W p l e rmX9_held s m args below meth c H locs 0 0 (zQi below args s D (tC cy) (wC ad cy) A res) (F0 m 19 ls []) := by
  have hx := hC.1
  have hb := hC.2.1
  unfold fX9_held_19 at hf
  refine lv_iconst (v := 0) hx hb dX9_held_19 (by decide) ?_
  exact bX9_held_20 hC  hI hl hf
set_option maxRecDepth 20000 in
set_option maxHeartbeats 4000000 in
theorem bX9_held {st : Nat → Nat} {p : Program} {l : Launch} {e : Env} {s : State} {m : MethodId} {args : Array Value} {below : List Frame} {meth : Method} {c : Code} {D : va_G} {A : Nat → Prop} {ad : Nat → Nat} {cy : Nat → ClassId} (hC : zC p m c cX9_held 2 s args wzX9_held RX9 meth (some .int))  {res : zSt × Int32} {H : Heap} {locs : List Loc} {σ : zSt} {ls : Array Slot} {x1 : Int32} (hI : zI st D (tC cy) (wC ad cy σ) A s H locs) (hl : lv_has ls 2 [(0, .ref (ad 2)), (1, .int x1)]) (hf : fX9_held  σ x1 = some res) : W p l e rmX9_held s m args below meth c H locs 0 0 (zQi below args s D (tC cy) (wC ad cy) A res) (F0 m 0 ls []) := by
  have hx := hC.1
  have hb := hC.2.1
  unfold fX9_held at hf
  refine lv_iload_n hx hb dX9_held_0 rfl (lv_at hl 1 rfl) ?_
  refine lv_if_lt (tgt := 19) hx hb dX9_held_1 (by decide) (fun q => ?_) (fun q => ?_)
  · replace hf := zif_t q hf
    exact bX9_held_19 hC  hI (lv_sub hl [] rfl) hf
  replace hf := zif_f q hf
  refine lv_iload_n hx hb dX9_held_4 rfl (lv_at hl 1 rfl) ?_
  refine lv_bipush (v := 96) hx hb dX9_held_5 (by decide) ?_
  refine lv_icmp_ge (tgt := 19) hx hb dX9_held_7 (by decide) (fun q => ?_) (fun q => ?_)
  · replace hf := zif_t q hf
    exact bX9_held_19 hC  hI (lv_sub hl [] rfl) hf
  replace hf := zif_f q hf
  refine lv_aload_n hx hb dX9_held_10 rfl (lv_at hl 0 rfl) ?_
  refine z_get hC hI hinX9_held_X90 2 (wC_e2 ad cy σ) rfl 4 (by decide) (List.mem_cons_of_mem _ zw4_8) rfl dX9_held_11 ?_
  refine lv_iload_n hx hb dX9_held_14 rfl (lv_at hl 1 rfl) ?_
  obtain ⟨q, hf⟩ := zck_use hf
  refine z_iald hC hI 23 10 (wC_e23 ad cy σ) (tC_t23 cy) q dX9_held_15 ?_
  refine lv_goto (tgt := 20) hx hb dX9_held_16 (by decide) ?_
  exact bX9_held_20 hC  hI (lv_sub hl [] rfl) hf
set_option maxRecDepth 20000 in
theorem cX9_held_met (st : Nat → Nat) (l : Launch) (D : va_G) (ad : Nat → Nat) (cy : Nat → ClassId) (σ : zSt) (x1 : Int32) (res : zSt × Int32) (hf : fX9_held σ x1 = some res) (sz : Nat) : zMi st l yX9_held wzX9_held rmX9_held [.ref (ad 2), .int x1] D (tC cy) (wC ad cy) sz σ res :=
  zMi.of (cc := cX9_held) (maxL := 2) (ret := (some .int)) (by decide) rfl (Nat.le_of_ble_eq_true rfl) (fun p e s m args below meth c hC A hI ls hl => bX9_held hC hI hl hf)
theorem hdX9_held : yX9_held.cls = RX9 ∧ yX9_held.cls ≠ "java/lang/invoke/MethodHandle" ∧ yX9_held.cls ≠ "java/lang/invoke/VarHandle" ∧ (parseMethodDescriptor yX9_held.desc).map (fun d => d.parameters.length) = some 1 := by decide +kernel
noncomputable def rmX9_mode : Room := { frames := 0, cells := 0, slots := 0, locals := 0 }
noncomputable def wzX9_mode : List Cond := .code yX9_mode cX9_mode 1 (some .int) :: wsL_law
theorem hinX9_mode_X90 : ∀ w ∈ wsX90, w ∈ wzX9_mode := fun w h => List.mem_cons_of_mem _ (inlX9 w h)
noncomputable def fX9_mode_57  (σ : zSt) (s0 : Int32) : Option (zSt × Int32) :=
  some (σ, s0)
noncomputable def fX9_mode  (σ : zSt)  : Option (zSt × Int32) :=
  zck (zin 0 96) (
  if ((zgi σ 23 (0 : Int32).toNatClampNeg) &&& 4) = 0 then zck (zin 1 96) (
  if ((zgi σ 23 (1 : Int32).toNatClampNeg) &&& 16) = 0 then zck (zin 1 96) (
  if ((zgi σ 23 (1 : Int32).toNatClampNeg) &&& 8) = 0 then zck (zin 0 96) (
  if ((zgi σ 23 (0 : Int32).toNatClampNeg) &&& 2) = 0 then fX9_mode_57 σ 0 else
  fX9_mode_57 σ 2) else
  some (σ, 3)) else
  some (σ, 1)) else
  some (σ, 4))
set_option maxRecDepth 20000 in
set_option maxHeartbeats 4000000 in
theorem bX9_mode_57 {st : Nat → Nat} {p : Program} {l : Launch} {e : Env} {s : State} {m : MethodId} {args : Array Value} {below : List Frame} {meth : Method} {c : Code} {D : va_G} {A : Nat → Prop} {ad : Nat → Nat} {cy : Nat → ClassId} (hC : zC p m c cX9_mode 1 s args wzX9_mode RX9 meth (some .int))  {res : zSt × Int32} {H : Heap} {locs : List Loc} {σ : zSt} {ls : Array Slot} {s0 : Int32} (hI : zI st D (tC cy) (wC ad cy σ) A s H locs) (hl : lv_has ls 1 []) (hf : fX9_mode_57  σ s0 = some res) : W p l e rmX9_mode s m args below meth c H locs 0 0 (zQi below args s D (tC cy) (wC ad cy) A res) (F0 m 57 ls [.int s0]) := by
  have hx := hC.1
  have hb := hC.2.1
  unfold fX9_mode_57 at hf
  exact z_ireturn hC hI hf dX9_mode_57
set_option maxRecDepth 20000 in
set_option maxHeartbeats 4000000 in
theorem bX9_mode {st : Nat → Nat} {p : Program} {l : Launch} {e : Env} {s : State} {m : MethodId} {args : Array Value} {below : List Frame} {meth : Method} {c : Code} {D : va_G} {A : Nat → Prop} {ad : Nat → Nat} {cy : Nat → ClassId} (hC : zC p m c cX9_mode 1 s args wzX9_mode RX9 meth (some .int))  {res : zSt × Int32} {H : Heap} {locs : List Loc} {σ : zSt} {ls : Array Slot}  (hI : zI st D (tC cy) (wC ad cy σ) A s H locs) (hl : lv_has ls 1 [(0, .ref (ad 2))]) (hf : fX9_mode  σ  = some res) : W p l e rmX9_mode s m args below meth c H locs 0 0 (zQi below args s D (tC cy) (wC ad cy) A res) (F0 m 0 ls []) := by
  have hx := hC.1
  have hb := hC.2.1
  unfold fX9_mode at hf
  refine lv_aload_n hx hb dX9_mode_0 rfl (lv_at hl 0 rfl) ?_
  refine z_get hC hI hinX9_mode_X90 2 (wC_e2 ad cy σ) rfl 4 (by decide) (List.mem_cons_of_mem _ zw4_8) rfl dX9_mode_1 ?_
  refine lv_iconst (v := 0) hx hb dX9_mode_4 (by decide) ?_
  obtain ⟨q, hf⟩ := zck_use hf
  refine z_iald hC hI 23 10 (wC_e23 ad cy σ) (tC_t23 cy) q dX9_mode_5 ?_
  refine lv_iconst (v := 4) hx hb dX9_mode_6 (by decide) ?_
  refine lv_iand hx hb dX9_mode_7 ?_
  refine lv_if_eq (tgt := 13) hx hb dX9_mode_8 (by decide) (fun q => ?_) (fun q => ?_)
  · replace hf := zif_t q hf
    refine lv_aload_n hx hb dX9_mode_13 rfl (lv_at hl 0 rfl) ?_
    refine z_get hC hI hinX9_mode_X90 2 (wC_e2 ad cy σ) rfl 4 (by decide) (List.mem_cons_of_mem _ zw4_8) rfl dX9_mode_14 ?_
    refine lv_iconst (v := 1) hx hb dX9_mode_17 (by decide) ?_
    obtain ⟨q, hf⟩ := zck_use hf
    refine z_iald hC hI 23 10 (wC_e23 ad cy σ) (tC_t23 cy) q dX9_mode_18 ?_
    refine lv_bipush (v := 16) hx hb dX9_mode_19 (by decide) ?_
    refine lv_iand hx hb dX9_mode_21 ?_
    refine lv_if_eq (tgt := 27) hx hb dX9_mode_22 (by decide) (fun q => ?_) (fun q => ?_)
    · replace hf := zif_t q hf
      refine lv_aload_n hx hb dX9_mode_27 rfl (lv_at hl 0 rfl) ?_
      refine z_get hC hI hinX9_mode_X90 2 (wC_e2 ad cy σ) rfl 4 (by decide) (List.mem_cons_of_mem _ zw4_8) rfl dX9_mode_28 ?_
      refine lv_iconst (v := 1) hx hb dX9_mode_31 (by decide) ?_
      obtain ⟨q, hf⟩ := zck_use hf
      refine z_iald hC hI 23 10 (wC_e23 ad cy σ) (tC_t23 cy) q dX9_mode_32 ?_
      refine lv_bipush (v := 8) hx hb dX9_mode_33 (by decide) ?_
      refine lv_iand hx hb dX9_mode_35 ?_
      refine lv_if_eq (tgt := 41) hx hb dX9_mode_36 (by decide) (fun q => ?_) (fun q => ?_)
      · replace hf := zif_t q hf
        refine lv_aload_n hx hb dX9_mode_41 rfl (lv_at hl 0 rfl) ?_
        refine z_get hC hI hinX9_mode_X90 2 (wC_e2 ad cy σ) rfl 4 (by decide) (List.mem_cons_of_mem _ zw4_8) rfl dX9_mode_42 ?_
        refine lv_iconst (v := 0) hx hb dX9_mode_45 (by decide) ?_
        obtain ⟨q, hf⟩ := zck_use hf
        refine z_iald hC hI 23 10 (wC_e23 ad cy σ) (tC_t23 cy) q dX9_mode_46 ?_
        refine lv_iconst (v := 2) hx hb dX9_mode_47 (by decide) ?_
        refine lv_iand hx hb dX9_mode_48 ?_
        refine lv_if_eq (tgt := 56) hx hb dX9_mode_49 (by decide) (fun q => ?_) (fun q => ?_)
        · replace hf := zif_t q hf
          refine lv_iconst (v := 0) hx hb dX9_mode_56 (by decide) ?_
          exact bX9_mode_57 hC  hI (lv_sub hl [] rfl) hf
        replace hf := zif_f q hf
        refine lv_iconst (v := 2) hx hb dX9_mode_52 (by decide) ?_
        refine lv_goto (tgt := 57) hx hb dX9_mode_53 (by decide) ?_
        exact bX9_mode_57 hC  hI (lv_sub hl [] rfl) hf
      replace hf := zif_f q hf
      refine lv_iconst (v := 3) hx hb dX9_mode_39 (by decide) ?_
      exact z_ireturn hC hI hf dX9_mode_40
    replace hf := zif_f q hf
    refine lv_iconst (v := 1) hx hb dX9_mode_25 (by decide) ?_
    exact z_ireturn hC hI hf dX9_mode_26
  replace hf := zif_f q hf
  refine lv_iconst (v := 4) hx hb dX9_mode_11 (by decide) ?_
  exact z_ireturn hC hI hf dX9_mode_12
set_option maxRecDepth 20000 in
theorem cX9_mode_met (st : Nat → Nat) (l : Launch) (D : va_G) (ad : Nat → Nat) (cy : Nat → ClassId) (σ : zSt)  (res : zSt × Int32) (hf : fX9_mode σ  = some res) (sz : Nat) : zMi st l yX9_mode wzX9_mode rmX9_mode [.ref (ad 2)] D (tC cy) (wC ad cy) sz σ res :=
  zMi.of (cc := cX9_mode) (maxL := 1) (ret := (some .int)) (by decide) rfl (Nat.le_of_ble_eq_true rfl) (fun p e s m args below meth c hC A hI ls hl => bX9_mode hC hI hl hf)
theorem hdX9_mode : yX9_mode.cls = RX9 ∧ yX9_mode.cls ≠ "java/lang/invoke/MethodHandle" ∧ yX9_mode.cls ≠ "java/lang/invoke/VarHandle" ∧ (parseMethodDescriptor yX9_mode.desc).map (fun d => d.parameters.length) = some 0 := by decide +kernel
noncomputable def rmJ7_fill_53178_k27 : Room := { frames := 0, cells := 0, slots := 0, locals := 0 }
noncomputable def fJ7_fill_53178_k27_5_body (k5 : zSt → Int32 → Int32 → Int32 → Option (zSt)) (σ : zSt) (x1 : Int32) (x2 : Int32) (x3 : Int32) : Option (zSt) :=
  if x3 ≤ x2 then some σ else
  zck (zin x2 256) (zbv (zsi σ 27 (x2.toNatClampNeg) x1) (fun σ1 =>
  zbv (x2 + 1) (fun v2 =>
  k5 σ1 x1 v2 x3)))
noncomputable def fJ7_fill_53178_k27_5  : Nat → zSt → Int32 → Int32 → Int32 → Option (zSt)
  | 0, _, _, _, _ => none
  | n + 1, σ, x1, x2, x3 => fJ7_fill_53178_k27_5_body (fJ7_fill_53178_k27_5  n) σ x1 x2 x3
noncomputable def fJ7_fill_53178_k27  (σ : zSt) (x1 : Int32) : Option (zSt) :=
  fJ7_fill_53178_k27_5 zfuel σ x1 0 256
set_option maxRecDepth 20000 in
set_option maxHeartbeats 4000000 in
theorem bJ7_fill_53178_k27_5_body {st : Nat → Nat} {p : Program} {l : Launch} {e : Env} {s : State} {m : MethodId} {args : Array Value} {below : List Frame} {meth : Method} {c : Code} {D : va_G} {A : Nat → Prop} {ad : Nat → Nat} {cy : Nat → ClassId} (hC : zC p m c cJ7_fill_53178 4 s args wzJ7_fill_53178 RJ7 meth none) {k5 : zSt → Int32 → Int32 → Int32 → Option (zSt)} {res : zSt} (hk5 : ∀ (H : Heap) (locs : List Loc) (σ : zSt) (ls : Array Slot) (x1 : Int32) (x2 : Int32) (x3 : Int32), zI st D (tC cy) (wC ad cy σ) A s H locs → lv_has ls 4 [(0, .ref (ad 27)), (1, .int x1), (2, .int x2), (3, .int x3)] → k5 σ x1 x2 x3 = some res → W p l e rmJ7_fill_53178_k27 s m args below meth c H locs 0 0 (zQu below args s D (tC cy) (wC ad cy) A res) (F0 m 5 ls [])) {H : Heap} {locs : List Loc} {σ : zSt} {ls : Array Slot} {x1 : Int32} {x2 : Int32} {x3 : Int32} (hI : zI st D (tC cy) (wC ad cy σ) A s H locs) (hl : lv_has ls 4 [(0, .ref (ad 27)), (1, .int x1), (2, .int x2), (3, .int x3)]) (hf : fJ7_fill_53178_k27_5_body k5 σ x1 x2 x3 = some res) : W p l e rmJ7_fill_53178_k27 s m args below meth c H locs 0 0 (zQu below args s D (tC cy) (wC ad cy) A res) (F0 m 5 ls []) := by
  have hx := hC.1
  have hb := hC.2.1
  unfold fJ7_fill_53178_k27_5_body at hf
  refine lv_iload_n hx hb dJ7_fill_53178_5 rfl (lv_at hl 2 rfl) ?_
  refine lv_iload_n hx hb dJ7_fill_53178_6 rfl (lv_at hl 3 rfl) ?_
  refine lv_icmp_ge (tgt := 20) hx hb dJ7_fill_53178_7 (by decide) (fun q => ?_) (fun q => ?_)
  · replace hf := zif_t q hf
    exact z_return hC hI hf dJ7_fill_53178_20
  replace hf := zif_f q hf
  refine lv_aload_n hx hb dJ7_fill_53178_10 rfl (lv_at hl 0 rfl) ?_
  refine lv_iload_n hx hb dJ7_fill_53178_11 rfl (lv_at hl 2 rfl) ?_
  refine lv_iload_n hx hb dJ7_fill_53178_12 rfl (lv_at hl 1 rfl) ?_
  obtain ⟨q, hf⟩ := zck_use hf
  obtain ⟨σ1, eσ1⟩ : ∃ z, z = zsi σ 27 (x2.toNatClampNeg) x1 := ⟨_, rfl⟩
  replace hf := zbv_use eσ1 hf
  refine z_iast hC hI 27 14 (wC_e27 ad cy σ) (tC_t27 cy) q ((wC_s27 ad cy σ _ _).trans (congrArg (wC ad cy) eσ1.symm)) dJ7_fill_53178_13 (fun H locs hI => ?_)
  obtain ⟨v2, ev2⟩ : ∃ z : Int32, z = x2 + 1 := ⟨_, rfl⟩
  replace hf := zbv_use ev2 hf
  refine lv_iinc (v := v2) (lv' := [(2, .int v2), (0, .ref (ad 27)), (1, .int x1), (3, .int x3)]) hx hb dJ7_fill_53178_14 hl (k := 2) rfl (by rw [ev2]; rfl) (by decide) rfl (fun ls hl => ?_)
  refine lv_goto (tgt := 5) hx hb dJ7_fill_53178_17 (by decide) ?_
  exact hk5 _ _ _ _ _ _ _ hI (lv_sub hl [1, 2, 0, 3] rfl) hf
theorem blJ7_fill_53178_k27_5 {st : Nat → Nat} {p : Program} {l : Launch} {e : Env} {s : State} {m : MethodId} {args : Array Value} {below : List Frame} {meth : Method} {c : Code} {D : va_G} {A : Nat → Prop} {ad : Nat → Nat} {cy : Nat → ClassId} (hC : zC p m c cJ7_fill_53178 4 s args wzJ7_fill_53178 RJ7 meth none)  {res : zSt} : ∀ (n : Nat) (H : Heap) (locs : List Loc) (σ : zSt) (ls : Array Slot) (x1 : Int32) (x2 : Int32) (x3 : Int32), zI st D (tC cy) (wC ad cy σ) A s H locs → lv_has ls 4 [(0, .ref (ad 27)), (1, .int x1), (2, .int x2), (3, .int x3)] → fJ7_fill_53178_k27_5  n σ x1 x2 x3 = some res → W p l e rmJ7_fill_53178_k27 s m args below meth c H locs 0 0 (zQu below args s D (tC cy) (wC ad cy) A res) (F0 m 5 ls []) := by
  intro n
  induction n with
  | zero => intro H locs σ ls x1 x2 x3 hI hl hf; cases hf
  | succ n ih => intro H locs σ ls x1 x2 x3 hI hl hf; exact bJ7_fill_53178_k27_5_body hC ih hI hl hf
set_option maxRecDepth 20000 in
set_option maxHeartbeats 4000000 in
theorem bJ7_fill_53178_k27 {st : Nat → Nat} {p : Program} {l : Launch} {e : Env} {s : State} {m : MethodId} {args : Array Value} {below : List Frame} {meth : Method} {c : Code} {D : va_G} {A : Nat → Prop} {ad : Nat → Nat} {cy : Nat → ClassId} (hC : zC p m c cJ7_fill_53178 4 s args wzJ7_fill_53178 RJ7 meth none)  {res : zSt} {H : Heap} {locs : List Loc} {σ : zSt} {ls : Array Slot} {x1 : Int32} (hI : zI st D (tC cy) (wC ad cy σ) A s H locs) (hl : lv_has ls 4 [(0, .ref (ad 27)), (1, .int x1)]) (hf : fJ7_fill_53178_k27  σ x1 = some res) : W p l e rmJ7_fill_53178_k27 s m args below meth c H locs 0 0 (zQu below args s D (tC cy) (wC ad cy) A res) (F0 m 0 ls []) := by
  have hx := hC.1
  have hb := hC.2.1
  unfold fJ7_fill_53178_k27 at hf
  refine lv_iconst (v := 0) hx hb dJ7_fill_53178_0 (by decide) ?_
  refine lv_istore_n (lv' := [(2, .int 0), (0, .ref (ad 27)), (1, .int x1)]) hx hb dJ7_fill_53178_1 rfl hl (by decide) rfl (fun ls hl => ?_)
  refine lv_aload_n hx hb dJ7_fill_53178_2 rfl (lv_at hl 1 rfl) ?_
  refine z_alen (v := 256) hC hI 27 14 (wC_e27 ad cy σ) (tC_t27 cy) rfl dJ7_fill_53178_3 ?_
  refine lv_istore_n (lv' := [(3, .int 256), (2, .int 0), (0, .ref (ad 27)), (1, .int x1)]) hx hb dJ7_fill_53178_4 rfl hl (by decide) rfl (fun ls hl => ?_)
  exact blJ7_fill_53178_k27_5 hC  zfuel _ _ _ _ _ _ _ hI (lv_sub hl [2, 3, 1, 0] rfl) hf
set_option maxRecDepth 20000 in
theorem cJ7_fill_53178_k27_met (st : Nat → Nat) (l : Launch) (D : va_G) (ad : Nat → Nat) (cy : Nat → ClassId) (σ : zSt) (x1 : Int32) (res : zSt) (hf : fJ7_fill_53178_k27 σ x1 = some res) (sz : Nat) : zMu st l yJ7_fill_53178 wzJ7_fill_53178 rmJ7_fill_53178_k27 [.ref (ad 27), .int x1] D (tC cy) (wC ad cy) sz σ res :=
  zMu.of (cc := cJ7_fill_53178) (maxL := 4) (ret := none) (by decide) rfl (Nat.le_of_ble_eq_true rfl) (fun p e s m args below meth c hC A hI ls hl => bJ7_fill_53178_k27 hC hI hl hf)
theorem hdJ7_fill_53178_k27 : yJ7_fill_53178.cls ≠ "java/lang/invoke/MethodHandle" ∧ yJ7_fill_53178.cls ≠ "java/lang/invoke/VarHandle" ∧ (parseMethodDescriptor yJ7_fill_53178.desc).map (fun d => d.parameters.length) = some 2 := by decide +kernel
noncomputable def rmX3_mixColours : Room := { frames := 1, cells := 0, slots := 0, locals := 21 }
noncomputable def wzX3_mixColours : List Cond := .code yX3_mixColours cX3_mixColours 4 none :: wsL_law
theorem hinX3_mixColours_X30 : ∀ w ∈ wsX30, w ∈ wzX3_mixColours := fun w h => List.mem_cons_of_mem _ (inlX3 w h)
noncomputable def fX3_mixColours_130 (k2 : zSt → Int32 → Int32 → Option (zSt)) (σ : zSt) (x1 : Int32) (x2 : Int32) : Option (zSt) :=
  zbv (x2 + 1) (fun v1 =>
  k2 σ x1 v1)
noncomputable def fX3_mixColours_78 (k2 : zSt → Int32 → Int32 → Option (zSt)) (σ : zSt) (x1 : Int32) (x2 : Int32) (s0 : Int32) (s1 : Int32) : Option (zSt) :=
  zck (zin s1 32) (zbv (zsi σ 29 (s1.toNatClampNeg) s0) (fun σ2 =>
  fX3_mixColours_130 k2 σ2 x1 x2))
noncomputable def fX3_mixColours_129 (k2 : zSt → Int32 → Int32 → Option (zSt)) (σ : zSt) (x1 : Int32) (x2 : Int32) (s0 : Int32) (s1 : Int32) : Option (zSt) :=
  zck (zin s1 32) (zbv (zsi σ 29 (s1.toNatClampNeg) s0) (fun σ3 =>
  fX3_mixColours_130 k2 σ3 x1 x2))
noncomputable def fX3_mixColours_2_body (k2 : zSt → Int32 → Int32 → Option (zSt)) (σ : zSt) (x1 : Int32) (x2 : Int32) : Option (zSt) :=
  if 32 ≤ x2 then some σ else
  if x1 = 4 then if (zgi σ 3 1) = 0 then zbi (fX9_held σ (32 + x2)) (fun σ5 v6 =>
  fX3_mixColours_78 k2 σ5 x1 x2 (v6 &&& 63) x2) else
  zbi (fX9_held σ (32 + (2 * x2))) (fun σ7 v8 =>
  zbi (fX9_held σ7 ((32 + (2 * x2)) + 1)) (fun σ9 v10 =>
  fX3_mixColours_78 k2 σ9 x1 x2 ((v8 ||| (v10 <<< ((8 : Int32) &&& 31))) &&& 4095) x2)) else
  zck (zin (x2 &&& 15) 16) (
  zbv (zt3 (x2 &&& 15).toNatClampNeg) (fun v4 =>
  if (zgi σ 3 1) = 0 then fX3_mixColours_129 k2 σ x1 x2 v4 x2 else
  fX3_mixColours_129 k2 σ x1 x2 (((5 * (v4 &&& 3)) + (80 * ((v4 >>> ((2 : Int32) &&& 31)) &&& 3))) + (1280 * (v4 >>> ((4 : Int32) &&& 31)))) x2))
noncomputable def fX3_mixColours_2  : Nat → zSt → Int32 → Int32 → Option (zSt)
  | 0, _, _, _ => none
  | n + 1, σ, x1, x2 => fX3_mixColours_2_body (fX3_mixColours_2  n) σ x1 x2
noncomputable def fX3_mixColours  (σ : zSt) (x1 : Int32) : Option (zSt) :=
  fX3_mixColours_2 zfuel σ x1 0
set_option maxRecDepth 20000 in
set_option maxHeartbeats 4000000 in
theorem bX3_mixColours_130 {st : Nat → Nat} {p : Program} {l : Launch} {e : Env} {s : State} {m : MethodId} {args : Array Value} {below : List Frame} {meth : Method} {c : Code} {D : va_G} {A : Nat → Prop} {ad : Nat → Nat} {cy : Nat → ClassId} (hC : zC p m c cX3_mixColours 4 s args wzX3_mixColours RX3 meth none) {k2 : zSt → Int32 → Int32 → Option (zSt)} {res : zSt} (hk2 : ∀ (H : Heap) (locs : List Loc) (σ : zSt) (ls : Array Slot) (x1 : Int32) (x2 : Int32), zI st D (tC cy) (wC ad cy σ) A s H locs → lv_has ls 4 [(0, .ref (ad 3)), (1, .int x1), (2, .int x2)] → k2 σ x1 x2 = some res → W p l e rmX3_mixColours s m args below meth c H locs 0 0 (zQu below args s D (tC cy) (wC ad cy) A res) (F0 m 2 ls [])) {H : Heap} {locs : List Loc} {σ : zSt} {ls : Array Slot} {x1 : Int32} {x2 : Int32} (hI : zI st D (tC cy) (wC ad cy σ) A s H locs) (hl : lv_has ls 4 [(0, .ref (ad 3)), (1, .int x1), (2, .int x2)]) (hf : fX3_mixColours_130 k2 σ x1 x2 = some res) : W p l e rmX3_mixColours s m args below meth c H locs 0 0 (zQu below args s D (tC cy) (wC ad cy) A res) (F0 m 130 ls []) := by
  have hx := hC.1
  have hb := hC.2.1
  unfold fX3_mixColours_130 at hf
  obtain ⟨v1, ev1⟩ : ∃ z : Int32, z = x2 + 1 := ⟨_, rfl⟩
  replace hf := zbv_use ev1 hf
  refine lv_iinc (v := v1) (lv' := [(2, .int v1), (0, .ref (ad 3)), (1, .int x1)]) hx hb dX3_mixColours_130 hl (k := 2) rfl (by rw [ev1]; rfl) (by decide) rfl (fun ls hl => ?_)
  refine lv_goto (tgt := 2) hx hb dX3_mixColours_133 (by decide) ?_
  exact hk2 _ _ _ _ _ _ hI (lv_sub hl [1, 2, 0] rfl) hf
set_option maxRecDepth 20000 in
set_option maxHeartbeats 4000000 in
theorem bX3_mixColours_78 {st : Nat → Nat} {p : Program} {l : Launch} {e : Env} {s : State} {m : MethodId} {args : Array Value} {below : List Frame} {meth : Method} {c : Code} {D : va_G} {A : Nat → Prop} {ad : Nat → Nat} {cy : Nat → ClassId} (hC : zC p m c cX3_mixColours 4 s args wzX3_mixColours RX3 meth none) {k2 : zSt → Int32 → Int32 → Option (zSt)} {res : zSt} (hk2 : ∀ (H : Heap) (locs : List Loc) (σ : zSt) (ls : Array Slot) (x1 : Int32) (x2 : Int32), zI st D (tC cy) (wC ad cy σ) A s H locs → lv_has ls 4 [(0, .ref (ad 3)), (1, .int x1), (2, .int x2)] → k2 σ x1 x2 = some res → W p l e rmX3_mixColours s m args below meth c H locs 0 0 (zQu below args s D (tC cy) (wC ad cy) A res) (F0 m 2 ls [])) {H : Heap} {locs : List Loc} {σ : zSt} {ls : Array Slot} {x1 : Int32} {x2 : Int32} {s0 : Int32} {s1 : Int32} (hI : zI st D (tC cy) (wC ad cy σ) A s H locs) (hl : lv_has ls 4 [(0, .ref (ad 3)), (1, .int x1), (2, .int x2)]) (hf : fX3_mixColours_78 k2 σ x1 x2 s0 s1 = some res) : W p l e rmX3_mixColours s m args below meth c H locs 0 0 (zQu below args s D (tC cy) (wC ad cy) A res) (F0 m 78 ls [.int s0, .int s1, .ref (ad 29)]) := by
  have hx := hC.1
  have hb := hC.2.1
  unfold fX3_mixColours_78 at hf
  obtain ⟨q, hf⟩ := zck_use hf
  obtain ⟨σ2, eσ2⟩ : ∃ z, z = zsi σ 29 (s1.toNatClampNeg) s0 := ⟨_, rfl⟩
  replace hf := zbv_use eσ2 hf
  refine z_iast hC hI 29 16 (wC_e29 ad cy σ) (tC_t29 cy) q ((wC_s29 ad cy σ _ _).trans (congrArg (wC ad cy) eσ2.symm)) dX3_mixColours_78 (fun H locs hI => ?_)
  refine lv_goto (tgt := 130) hx hb dX3_mixColours_79 (by decide) ?_
  exact bX3_mixColours_130 hC hk2 hI hl hf
set_option maxRecDepth 20000 in
set_option maxHeartbeats 4000000 in
theorem bX3_mixColours_129 {st : Nat → Nat} {p : Program} {l : Launch} {e : Env} {s : State} {m : MethodId} {args : Array Value} {below : List Frame} {meth : Method} {c : Code} {D : va_G} {A : Nat → Prop} {ad : Nat → Nat} {cy : Nat → ClassId} (hC : zC p m c cX3_mixColours 4 s args wzX3_mixColours RX3 meth none) {k2 : zSt → Int32 → Int32 → Option (zSt)} {res : zSt} (hk2 : ∀ (H : Heap) (locs : List Loc) (σ : zSt) (ls : Array Slot) (x1 : Int32) (x2 : Int32), zI st D (tC cy) (wC ad cy σ) A s H locs → lv_has ls 4 [(0, .ref (ad 3)), (1, .int x1), (2, .int x2)] → k2 σ x1 x2 = some res → W p l e rmX3_mixColours s m args below meth c H locs 0 0 (zQu below args s D (tC cy) (wC ad cy) A res) (F0 m 2 ls [])) {H : Heap} {locs : List Loc} {σ : zSt} {ls : Array Slot} {x1 : Int32} {x2 : Int32} {s0 : Int32} {s1 : Int32} (hI : zI st D (tC cy) (wC ad cy σ) A s H locs) (hl : lv_has ls 4 [(0, .ref (ad 3)), (1, .int x1), (2, .int x2)]) (hf : fX3_mixColours_129 k2 σ x1 x2 s0 s1 = some res) : W p l e rmX3_mixColours s m args below meth c H locs 0 0 (zQu below args s D (tC cy) (wC ad cy) A res) (F0 m 129 ls [.int s0, .int s1, .ref (ad 29)]) := by
  have hx := hC.1
  have hb := hC.2.1
  unfold fX3_mixColours_129 at hf
  obtain ⟨q, hf⟩ := zck_use hf
  obtain ⟨σ3, eσ3⟩ : ∃ z, z = zsi σ 29 (s1.toNatClampNeg) s0 := ⟨_, rfl⟩
  replace hf := zbv_use eσ3 hf
  refine z_iast hC hI 29 16 (wC_e29 ad cy σ) (tC_t29 cy) q ((wC_s29 ad cy σ _ _).trans (congrArg (wC ad cy) eσ3.symm)) dX3_mixColours_129 (fun H locs hI => ?_)
  exact bX3_mixColours_130 hC hk2 hI hl hf
set_option maxRecDepth 20000 in
set_option maxHeartbeats 4000000 in
theorem bX3_mixColours_2_body {st : Nat → Nat} {p : Program} {l : Launch} {e : Env} {s : State} {m : MethodId} {args : Array Value} {below : List Frame} {meth : Method} {c : Code} {D : va_G} {A : Nat → Prop} {ad : Nat → Nat} {cy : Nat → ClassId} (hC : zC p m c cX3_mixColours 4 s args wzX3_mixColours RX3 meth none) {k2 : zSt → Int32 → Int32 → Option (zSt)} {res : zSt} (hk2 : ∀ (H : Heap) (locs : List Loc) (σ : zSt) (ls : Array Slot) (x1 : Int32) (x2 : Int32), zI st D (tC cy) (wC ad cy σ) A s H locs → lv_has ls 4 [(0, .ref (ad 3)), (1, .int x1), (2, .int x2)] → k2 σ x1 x2 = some res → W p l e rmX3_mixColours s m args below meth c H locs 0 0 (zQu below args s D (tC cy) (wC ad cy) A res) (F0 m 2 ls [])) {H : Heap} {locs : List Loc} {σ : zSt} {ls : Array Slot} {x1 : Int32} {x2 : Int32} (hI : zI st D (tC cy) (wC ad cy σ) A s H locs) (hl : lv_has ls 4 [(0, .ref (ad 3)), (1, .int x1), (2, .int x2)]) (hf : fX3_mixColours_2_body k2 σ x1 x2 = some res) : W p l e rmX3_mixColours s m args below meth c H locs 0 0 (zQu below args s D (tC cy) (wC ad cy) A res) (F0 m 2 ls []) := by
  have hx := hC.1
  have hb := hC.2.1
  unfold fX3_mixColours_2_body at hf
  refine lv_iload_n hx hb dX3_mixColours_2 rfl (lv_at hl 2 rfl) ?_
  refine lv_bipush (v := 32) hx hb dX3_mixColours_3 (by decide) ?_
  refine lv_icmp_ge (tgt := 136) hx hb dX3_mixColours_5 (by decide) (fun q => ?_) (fun q => ?_)
  · replace hf := zif_t q hf
    exact z_return hC hI hf dX3_mixColours_136
  replace hf := zif_f q hf
  refine lv_iload_n hx hb dX3_mixColours_8 rfl (lv_at hl 1 rfl) ?_
  refine lv_iconst (v := 4) hx hb dX3_mixColours_9 (by decide) ?_
  refine lv_icmp_ne (tgt := 82) hx hb dX3_mixColours_10 (by decide) (fun q => ?_) (fun q => ?_)
  · replace hf := zif_f q hf
    refine z_gets hC hI 3 (by decide) (List.mem_cons_of_mem _ zw39_19) dX3_mixColours_82 ?_
    refine lv_iload_n hx hb dX3_mixColours_85 rfl (lv_at hl 2 rfl) ?_
    refine lv_bipush (v := 15) hx hb dX3_mixColours_86 (by decide) ?_
    refine lv_iand hx hb dX3_mixColours_88 ?_
    obtain ⟨q, hf⟩ := zck_use hf
    refine z_ti hC hI 3 (by decide) rfl rfl q rfl dX3_mixColours_89 ?_
    refine lv_topi (fun v4 ev4 => ?_)
    replace hf := zbv_use ev4 hf
    refine lv_istore_n (lv' := [(3, .int v4), (0, .ref (ad 3)), (1, .int x1), (2, .int x2)]) hx hb dX3_mixColours_90 rfl hl (by decide) rfl (fun ls hl => ?_)
    refine lv_aload_n hx hb dX3_mixColours_91 rfl (lv_at hl 1 rfl) ?_
    refine z_get hC hI hinX3_mixColours_X30 3 (wC_e3 ad cy σ) rfl 6 (by decide) (List.mem_cons_of_mem _ zw4_21) rfl dX3_mixColours_92 ?_
    refine lv_iload_n hx hb dX3_mixColours_95 rfl (lv_at hl 3 rfl) ?_
    refine lv_aload_n hx hb dX3_mixColours_96 rfl (lv_at hl 1 rfl) ?_
    refine z_get hC hI hinX3_mixColours_X30 3 (wC_e3 ad cy σ) rfl 1 (by decide) (List.mem_cons_of_mem _ zw4_23) rfl dX3_mixColours_97 ?_
    refine lv_if_eq (tgt := 128) hx hb dX3_mixColours_100 (by decide) (fun q => ?_) (fun q => ?_)
    · replace hf := zif_t q hf
      refine lv_iload_n hx hb dX3_mixColours_128 rfl (lv_at hl 0 rfl) ?_
      exact bX3_mixColours_129 hC hk2 hI (lv_sub hl [1, 2, 3] rfl) hf
    replace hf := zif_f q hf
    refine lv_iconst (v := 5) hx hb dX3_mixColours_103 (by decide) ?_
    refine lv_iload_n hx hb dX3_mixColours_104 rfl (lv_at hl 0 rfl) ?_
    refine lv_iconst (v := 3) hx hb dX3_mixColours_105 (by decide) ?_
    refine lv_iand hx hb dX3_mixColours_106 ?_
    refine lv_imul hx hb dX3_mixColours_107 ?_
    refine lv_bipush (v := 80) hx hb dX3_mixColours_108 (by decide) ?_
    refine lv_iload_n hx hb dX3_mixColours_110 rfl (lv_at hl 0 rfl) ?_
    refine lv_iconst (v := 2) hx hb dX3_mixColours_111 (by decide) ?_
    refine lv_ishr hx hb dX3_mixColours_112 ?_
    refine lv_iconst (v := 3) hx hb dX3_mixColours_113 (by decide) ?_
    refine lv_iand hx hb dX3_mixColours_114 ?_
    refine lv_imul hx hb dX3_mixColours_115 ?_
    refine lv_iadd hx hb dX3_mixColours_116 ?_
    refine lv_sipush (v := 1280) hx hb dX3_mixColours_117 (by decide) ?_
    refine lv_iload_n hx hb dX3_mixColours_120 rfl (lv_at hl 0 rfl) ?_
    refine lv_iconst (v := 4) hx hb dX3_mixColours_121 (by decide) ?_
    refine lv_ishr hx hb dX3_mixColours_122 ?_
    refine lv_imul hx hb dX3_mixColours_123 ?_
    refine lv_iadd hx hb dX3_mixColours_124 ?_
    refine lv_goto (tgt := 129) hx hb dX3_mixColours_125 (by decide) ?_
    exact bX3_mixColours_129 hC hk2 hI (lv_sub hl [1, 2, 3] rfl) hf
  replace hf := zif_t q hf
  refine lv_aload_n hx hb dX3_mixColours_13 rfl (lv_at hl 0 rfl) ?_
  refine z_get hC hI hinX3_mixColours_X30 3 (wC_e3 ad cy σ) rfl 6 (by decide) (List.mem_cons_of_mem _ zw4_21) rfl dX3_mixColours_14 ?_
  refine lv_iload_n hx hb dX3_mixColours_17 rfl (lv_at hl 2 rfl) ?_
  refine lv_aload_n hx hb dX3_mixColours_18 rfl (lv_at hl 0 rfl) ?_
  refine z_get hC hI hinX3_mixColours_X30 3 (wC_e3 ad cy σ) rfl 1 (by decide) (List.mem_cons_of_mem _ zw4_23) rfl dX3_mixColours_19 ?_
  refine lv_if_eq (tgt := 64) hx hb dX3_mixColours_22 (by decide) (fun q => ?_) (fun q => ?_)
  · replace hf := zif_t q hf
    refine lv_aload_n hx hb dX3_mixColours_64 rfl (lv_at hl 0 rfl) ?_
    refine z_get hC hI hinX3_mixColours_X30 3 (wC_e3 ad cy σ) rfl 0 (by decide) (List.mem_cons_of_mem _ zw4_22) rfl dX3_mixColours_65 ?_
    refine lv_bipush (v := 32) hx hb dX3_mixColours_68 (by decide) ?_
    refine lv_iload_n hx hb dX3_mixColours_70 rfl (lv_at hl 2 rfl) ?_
    refine lv_iadd hx hb dX3_mixColours_71 ?_
    obtain ⟨σ5, v6, g5, hf⟩ := zbi_use hf
    refine z_callVi (As := [.int (32 + x2)]) (rest := [.int x2, .ref (ad 29)]) hC hI (cX9_held_met st l D ad cy σ (32 + x2) _ g5) (zgV zw35_21 zw35_13 zw35_14 zw2_1 zw35_15) rfl ⟨rfl, rfl⟩ 1 hdX9_held ⟨Nat.le_of_ble_eq_true rfl, Nat.le_of_ble_eq_true rfl⟩ rfl rfl (wC_e2 ad cy σ) rfl hl rfl (Nat.le_of_ble_eq_true rfl) dX3_mixColours_72 ⟨Nat.zero_le _, Nat.zero_le _⟩ (fun H locs hI => ?_)
    refine lv_bipush (v := 63) hx hb dX3_mixColours_75 (by decide) ?_
    refine lv_iand hx hb dX3_mixColours_77 ?_
    exact bX3_mixColours_78 hC hk2 hI hl hf
  replace hf := zif_f q hf
  refine lv_aload_n hx hb dX3_mixColours_25 rfl (lv_at hl 0 rfl) ?_
  refine z_get hC hI hinX3_mixColours_X30 3 (wC_e3 ad cy σ) rfl 0 (by decide) (List.mem_cons_of_mem _ zw4_22) rfl dX3_mixColours_26 ?_
  refine lv_bipush (v := 32) hx hb dX3_mixColours_29 (by decide) ?_
  refine lv_iconst (v := 2) hx hb dX3_mixColours_31 (by decide) ?_
  refine lv_iload_n hx hb dX3_mixColours_32 rfl (lv_at hl 2 rfl) ?_
  refine lv_imul hx hb dX3_mixColours_33 ?_
  refine lv_iadd hx hb dX3_mixColours_34 ?_
  obtain ⟨σ7, v8, g7, hf⟩ := zbi_use hf
  refine z_callVi (As := [.int (32 + (2 * x2))]) (rest := [.int x2, .ref (ad 29)]) hC hI (cX9_held_met st l D ad cy σ (32 + (2 * x2)) _ g7) (zgV zw35_21 zw35_13 zw35_14 zw2_1 zw35_15) rfl ⟨rfl, rfl⟩ 1 hdX9_held ⟨Nat.le_of_ble_eq_true rfl, Nat.le_of_ble_eq_true rfl⟩ rfl rfl (wC_e2 ad cy σ) rfl hl rfl (Nat.le_of_ble_eq_true rfl) dX3_mixColours_35 ⟨Nat.zero_le _, Nat.zero_le _⟩ (fun H locs hI => ?_)
  refine lv_aload_n hx hb dX3_mixColours_38 rfl (lv_at hl 0 rfl) ?_
  refine z_get hC hI hinX3_mixColours_X30 3 (wC_e3 ad cy σ7) rfl 0 (by decide) (List.mem_cons_of_mem _ zw4_22) rfl dX3_mixColours_39 ?_
  refine lv_bipush (v := 32) hx hb dX3_mixColours_42 (by decide) ?_
  refine lv_iconst (v := 2) hx hb dX3_mixColours_44 (by decide) ?_
  refine lv_iload_n hx hb dX3_mixColours_45 rfl (lv_at hl 2 rfl) ?_
  refine lv_imul hx hb dX3_mixColours_46 ?_
  refine lv_iadd hx hb dX3_mixColours_47 ?_
  refine lv_iconst (v := 1) hx hb dX3_mixColours_48 (by decide) ?_
  refine lv_iadd hx hb dX3_mixColours_49 ?_
  obtain ⟨σ9, v10, g9, hf⟩ := zbi_use hf
  refine z_callVi (As := [.int ((32 + (2 * x2)) + 1)]) (rest := [.int v8, .int x2, .ref (ad 29)]) hC hI (cX9_held_met st l D ad cy σ7 ((32 + (2 * x2)) + 1) _ g9) (zgV zw35_21 zw35_13 zw35_14 zw2_1 zw35_15) rfl ⟨rfl, rfl⟩ 1 hdX9_held ⟨Nat.le_of_ble_eq_true rfl, Nat.le_of_ble_eq_true rfl⟩ rfl rfl (wC_e2 ad cy σ7) rfl hl rfl (Nat.le_of_ble_eq_true rfl) dX3_mixColours_50 ⟨Nat.zero_le _, Nat.zero_le _⟩ (fun H locs hI => ?_)
  refine lv_bipush (v := 8) hx hb dX3_mixColours_53 (by decide) ?_
  refine lv_ishl hx hb dX3_mixColours_55 ?_
  refine lv_ior hx hb dX3_mixColours_56 ?_
  refine lv_sipush (v := 4095) hx hb dX3_mixColours_57 (by decide) ?_
  refine lv_iand hx hb dX3_mixColours_60 ?_
  refine lv_goto (tgt := 78) hx hb dX3_mixColours_61 (by decide) ?_
  exact bX3_mixColours_78 hC hk2 hI hl hf
theorem blX3_mixColours_2 {st : Nat → Nat} {p : Program} {l : Launch} {e : Env} {s : State} {m : MethodId} {args : Array Value} {below : List Frame} {meth : Method} {c : Code} {D : va_G} {A : Nat → Prop} {ad : Nat → Nat} {cy : Nat → ClassId} (hC : zC p m c cX3_mixColours 4 s args wzX3_mixColours RX3 meth none)  {res : zSt} : ∀ (n : Nat) (H : Heap) (locs : List Loc) (σ : zSt) (ls : Array Slot) (x1 : Int32) (x2 : Int32), zI st D (tC cy) (wC ad cy σ) A s H locs → lv_has ls 4 [(0, .ref (ad 3)), (1, .int x1), (2, .int x2)] → fX3_mixColours_2  n σ x1 x2 = some res → W p l e rmX3_mixColours s m args below meth c H locs 0 0 (zQu below args s D (tC cy) (wC ad cy) A res) (F0 m 2 ls []) := by
  intro n
  induction n with
  | zero => intro H locs σ ls x1 x2 hI hl hf; cases hf
  | succ n ih => intro H locs σ ls x1 x2 hI hl hf; exact bX3_mixColours_2_body hC ih hI hl hf
set_option maxRecDepth 20000 in
set_option maxHeartbeats 4000000 in
theorem bX3_mixColours {st : Nat → Nat} {p : Program} {l : Launch} {e : Env} {s : State} {m : MethodId} {args : Array Value} {below : List Frame} {meth : Method} {c : Code} {D : va_G} {A : Nat → Prop} {ad : Nat → Nat} {cy : Nat → ClassId} (hC : zC p m c cX3_mixColours 4 s args wzX3_mixColours RX3 meth none)  {res : zSt} {H : Heap} {locs : List Loc} {σ : zSt} {ls : Array Slot} {x1 : Int32} (hI : zI st D (tC cy) (wC ad cy σ) A s H locs) (hl : lv_has ls 4 [(0, .ref (ad 3)), (1, .int x1)]) (hf : fX3_mixColours  σ x1 = some res) : W p l e rmX3_mixColours s m args below meth c H locs 0 0 (zQu below args s D (tC cy) (wC ad cy) A res) (F0 m 0 ls []) := by
  have hx := hC.1
  have hb := hC.2.1
  unfold fX3_mixColours at hf
  refine lv_iconst (v := 0) hx hb dX3_mixColours_0 (by decide) ?_
  refine lv_istore_n (lv' := [(2, .int 0), (0, .ref (ad 3)), (1, .int x1)]) hx hb dX3_mixColours_1 rfl hl (by decide) rfl (fun ls hl => ?_)
  exact blX3_mixColours_2 hC  zfuel _ _ _ _ _ _ hI (lv_sub hl [1, 2, 0] rfl) hf
set_option maxRecDepth 20000 in
theorem cX3_mixColours_met (st : Nat → Nat) (l : Launch) (D : va_G) (ad : Nat → Nat) (cy : Nat → ClassId) (σ : zSt) (x1 : Int32) (res : zSt) (hf : fX3_mixColours σ x1 = some res) (sz : Nat) : zMu st l yX3_mixColours wzX3_mixColours rmX3_mixColours [.ref (ad 3), .int x1] D (tC cy) (wC ad cy) sz σ res :=
  zMu.of (cc := cX3_mixColours) (maxL := 4) (ret := none) (by decide) rfl (Nat.le_of_ble_eq_true rfl) (fun p e s m args below meth c hC A hI ls hl => bX3_mixColours hC hI hl hf)
theorem hdX3_mixColours : yX3_mixColours.cls = RX3 ∧ yX3_mixColours.cls ≠ "java/lang/invoke/MethodHandle" ∧ yX3_mixColours.cls ≠ "java/lang/invoke/VarHandle" ∧ (parseMethodDescriptor yX3_mixColours.desc).map (fun d => d.parameters.length) = some 1 := by decide +kernel
noncomputable def rmX9_vramByte : Room := { frames := 0, cells := 0, slots := 0, locals := 0 }
noncomputable def wzX9_vramByte : List Cond := .code yX9_vramByte cX9_vramByte 2 (some .int) :: wsL_law
theorem hinX9_vramByte_X90 : ∀ w ∈ wsX90, w ∈ wzX9_vramByte := fun w h => List.mem_cons_of_mem _ (inlX9 w h)
noncomputable def fX9_vramByte  (σ : zSt) (x1 : Int32) : Option (zSt × Int32) :=
  zck (zin (x1 &&& 16383) 16384) (
  some (σ, zgi σ 21 (x1 &&& 16383).toNatClampNeg))
set_option maxRecDepth 20000 in
set_option maxHeartbeats 4000000 in
theorem bX9_vramByte {st : Nat → Nat} {p : Program} {l : Launch} {e : Env} {s : State} {m : MethodId} {args : Array Value} {below : List Frame} {meth : Method} {c : Code} {D : va_G} {A : Nat → Prop} {ad : Nat → Nat} {cy : Nat → ClassId} (hC : zC p m c cX9_vramByte 2 s args wzX9_vramByte RX9 meth (some .int))  {res : zSt × Int32} {H : Heap} {locs : List Loc} {σ : zSt} {ls : Array Slot} {x1 : Int32} (hI : zI st D (tC cy) (wC ad cy σ) A s H locs) (hl : lv_has ls 2 [(0, .ref (ad 2)), (1, .int x1)]) (hf : fX9_vramByte  σ x1 = some res) : W p l e rmX9_vramByte s m args below meth c H locs 0 0 (zQi below args s D (tC cy) (wC ad cy) A res) (F0 m 0 ls []) := by
  have hx := hC.1
  have hb := hC.2.1
  unfold fX9_vramByte at hf
  refine lv_aload_n hx hb dX9_vramByte_0 rfl (lv_at hl 0 rfl) ?_
  refine z_get hC hI hinX9_vramByte_X90 2 (wC_e2 ad cy σ) rfl 2 (by decide) (List.mem_cons_of_mem _ zw4_6) rfl dX9_vramByte_1 ?_
  refine lv_iload_n hx hb dX9_vramByte_4 rfl (lv_at hl 1 rfl) ?_
  refine lv_sipush (v := 16383) hx hb dX9_vramByte_5 (by decide) ?_
  refine lv_iand hx hb dX9_vramByte_8 ?_
  obtain ⟨q, hf⟩ := zck_use hf
  refine z_iald hC hI 21 8 (wC_e21 ad cy σ) (tC_t21 cy) q dX9_vramByte_9 ?_
  exact z_ireturn hC hI hf dX9_vramByte_10
set_option maxRecDepth 20000 in
theorem cX9_vramByte_met (st : Nat → Nat) (l : Launch) (D : va_G) (ad : Nat → Nat) (cy : Nat → ClassId) (σ : zSt) (x1 : Int32) (res : zSt × Int32) (hf : fX9_vramByte σ x1 = some res) (sz : Nat) : zMi st l yX9_vramByte wzX9_vramByte rmX9_vramByte [.ref (ad 2), .int x1] D (tC cy) (wC ad cy) sz σ res :=
  zMi.of (cc := cX9_vramByte) (maxL := 2) (ret := (some .int)) (by decide) rfl (Nat.le_of_ble_eq_true rfl) (fun p e s m args below meth c hC A hI ls hl => bX9_vramByte hC hI hl hf)
theorem hdX9_vramByte : yX9_vramByte.cls = RX9 ∧ yX9_vramByte.cls ≠ "java/lang/invoke/MethodHandle" ∧ yX9_vramByte.cls ≠ "java/lang/invoke/VarHandle" ∧ (parseMethodDescriptor yX9_vramByte.desc).map (fun d => d.parameters.length) = some 1 := by decide +kernel
noncomputable def rmX3_takePlanes : Room := { frames := 1, cells := 0, slots := 0, locals := 21 }
noncomputable def wzX3_takePlanes : List Cond := .code yX3_takePlanes cX3_takePlanes 2 none :: wsL_law
theorem hinX3_takePlanes_X30 : ∀ w ∈ wsX30, w ∈ wzX3_takePlanes := fun w h => List.mem_cons_of_mem _ (inlX3 w h)
noncomputable def fX3_takePlanes  (σ : zSt) (x1 : Int32) : Option (zSt) :=
  zbi (fX9_vramByte σ x1) (fun σ1 v2 =>
  zbi (fX9_vramByte σ1 (x1 + 1)) (fun σ3 v4 =>
  zbi (fX9_vramByte σ3 (x1 + 2)) (fun σ5 v6 =>
  zbi (fX9_vramByte σ5 (x1 + 3)) (fun σ7 v8 =>
  zbv (zsi σ7 3 7 (((v2 ||| (v4 <<< ((8 : Int32) &&& 31))) ||| (v6 <<< ((16 : Int32) &&& 31))) ||| (v8 <<< ((24 : Int32) &&& 31)))) (fun σ9 =>
  some σ9)))))
set_option maxRecDepth 20000 in
set_option maxHeartbeats 4000000 in
theorem bX3_takePlanes {st : Nat → Nat} {p : Program} {l : Launch} {e : Env} {s : State} {m : MethodId} {args : Array Value} {below : List Frame} {meth : Method} {c : Code} {D : va_G} {A : Nat → Prop} {ad : Nat → Nat} {cy : Nat → ClassId} (hC : zC p m c cX3_takePlanes 2 s args wzX3_takePlanes RX3 meth none)  {res : zSt} {H : Heap} {locs : List Loc} {σ : zSt} {ls : Array Slot} {x1 : Int32} (hI : zI st D (tC cy) (wC ad cy σ) A s H locs) (hl : lv_has ls 2 [(0, .ref (ad 3)), (1, .int x1)]) (hf : fX3_takePlanes  σ x1 = some res) : W p l e rmX3_takePlanes s m args below meth c H locs 0 0 (zQu below args s D (tC cy) (wC ad cy) A res) (F0 m 0 ls []) := by
  have hx := hC.1
  have hb := hC.2.1
  unfold fX3_takePlanes at hf
  refine lv_aload_n hx hb dX3_takePlanes_0 rfl (lv_at hl 0 rfl) ?_
  refine lv_aload_n hx hb dX3_takePlanes_1 rfl (lv_at hl 0 rfl) ?_
  refine z_get hC hI hinX3_takePlanes_X30 3 (wC_e3 ad cy σ) rfl 0 (by decide) (List.mem_cons_of_mem _ zw4_22) rfl dX3_takePlanes_2 ?_
  refine lv_iload_n hx hb dX3_takePlanes_5 rfl (lv_at hl 1 rfl) ?_
  obtain ⟨σ1, v2, g1, hf⟩ := zbi_use hf
  refine z_callVi (As := [.int x1]) (rest := [.ref (ad 3)]) hC hI (cX9_vramByte_met st l D ad cy σ x1 _ g1) (zgV zw36_14 zw36_15 zw36_16 zw2_1 zw36_17) rfl ⟨rfl, rfl⟩ 1 hdX9_vramByte ⟨Nat.le_of_ble_eq_true rfl, Nat.le_of_ble_eq_true rfl⟩ rfl rfl (wC_e2 ad cy σ) rfl hl rfl (Nat.le_of_ble_eq_true rfl) dX3_takePlanes_6 ⟨Nat.zero_le _, Nat.zero_le _⟩ (fun H locs hI => ?_)
  refine lv_aload_n hx hb dX3_takePlanes_9 rfl (lv_at hl 0 rfl) ?_
  refine z_get hC hI hinX3_takePlanes_X30 3 (wC_e3 ad cy σ1) rfl 0 (by decide) (List.mem_cons_of_mem _ zw4_22) rfl dX3_takePlanes_10 ?_
  refine lv_iload_n hx hb dX3_takePlanes_13 rfl (lv_at hl 1 rfl) ?_
  refine lv_iconst (v := 1) hx hb dX3_takePlanes_14 (by decide) ?_
  refine lv_iadd hx hb dX3_takePlanes_15 ?_
  obtain ⟨σ3, v4, g3, hf⟩ := zbi_use hf
  refine z_callVi (As := [.int (x1 + 1)]) (rest := [.int v2, .ref (ad 3)]) hC hI (cX9_vramByte_met st l D ad cy σ1 (x1 + 1) _ g3) (zgV zw36_14 zw36_15 zw36_16 zw2_1 zw36_17) rfl ⟨rfl, rfl⟩ 1 hdX9_vramByte ⟨Nat.le_of_ble_eq_true rfl, Nat.le_of_ble_eq_true rfl⟩ rfl rfl (wC_e2 ad cy σ1) rfl hl rfl (Nat.le_of_ble_eq_true rfl) dX3_takePlanes_16 ⟨Nat.zero_le _, Nat.zero_le _⟩ (fun H locs hI => ?_)
  refine lv_bipush (v := 8) hx hb dX3_takePlanes_19 (by decide) ?_
  refine lv_ishl hx hb dX3_takePlanes_21 ?_
  refine lv_ior hx hb dX3_takePlanes_22 ?_
  refine lv_aload_n hx hb dX3_takePlanes_23 rfl (lv_at hl 0 rfl) ?_
  refine z_get hC hI hinX3_takePlanes_X30 3 (wC_e3 ad cy σ3) rfl 0 (by decide) (List.mem_cons_of_mem _ zw4_22) rfl dX3_takePlanes_24 ?_
  refine lv_iload_n hx hb dX3_takePlanes_27 rfl (lv_at hl 1 rfl) ?_
  refine lv_iconst (v := 2) hx hb dX3_takePlanes_28 (by decide) ?_
  refine lv_iadd hx hb dX3_takePlanes_29 ?_
  obtain ⟨σ5, v6, g5, hf⟩ := zbi_use hf
  refine z_callVi (As := [.int (x1 + 2)]) (rest := [.int (v2 ||| (v4 <<< ((8 : Int32) &&& 31))), .ref (ad 3)]) hC hI (cX9_vramByte_met st l D ad cy σ3 (x1 + 2) _ g5) (zgV zw36_14 zw36_15 zw36_16 zw2_1 zw36_17) rfl ⟨rfl, rfl⟩ 1 hdX9_vramByte ⟨Nat.le_of_ble_eq_true rfl, Nat.le_of_ble_eq_true rfl⟩ rfl rfl (wC_e2 ad cy σ3) rfl hl rfl (Nat.le_of_ble_eq_true rfl) dX3_takePlanes_30 ⟨Nat.zero_le _, Nat.zero_le _⟩ (fun H locs hI => ?_)
  refine lv_bipush (v := 16) hx hb dX3_takePlanes_33 (by decide) ?_
  refine lv_ishl hx hb dX3_takePlanes_35 ?_
  refine lv_ior hx hb dX3_takePlanes_36 ?_
  refine lv_aload_n hx hb dX3_takePlanes_37 rfl (lv_at hl 0 rfl) ?_
  refine z_get hC hI hinX3_takePlanes_X30 3 (wC_e3 ad cy σ5) rfl 0 (by decide) (List.mem_cons_of_mem _ zw4_22) rfl dX3_takePlanes_38 ?_
  refine lv_iload_n hx hb dX3_takePlanes_41 rfl (lv_at hl 1 rfl) ?_
  refine lv_iconst (v := 3) hx hb dX3_takePlanes_42 (by decide) ?_
  refine lv_iadd hx hb dX3_takePlanes_43 ?_
  obtain ⟨σ7, v8, g7, hf⟩ := zbi_use hf
  refine z_callVi (As := [.int (x1 + 3)]) (rest := [.int ((v2 ||| (v4 <<< ((8 : Int32) &&& 31))) ||| (v6 <<< ((16 : Int32) &&& 31))), .ref (ad 3)]) hC hI (cX9_vramByte_met st l D ad cy σ5 (x1 + 3) _ g7) (zgV zw36_14 zw36_15 zw36_16 zw2_1 zw36_17) rfl ⟨rfl, rfl⟩ 1 hdX9_vramByte ⟨Nat.le_of_ble_eq_true rfl, Nat.le_of_ble_eq_true rfl⟩ rfl rfl (wC_e2 ad cy σ5) rfl hl rfl (Nat.le_of_ble_eq_true rfl) dX3_takePlanes_44 ⟨Nat.zero_le _, Nat.zero_le _⟩ (fun H locs hI => ?_)
  refine lv_bipush (v := 24) hx hb dX3_takePlanes_47 (by decide) ?_
  refine lv_ishl hx hb dX3_takePlanes_49 ?_
  refine lv_ior hx hb dX3_takePlanes_50 ?_
  obtain ⟨σ9, eσ9⟩ : ∃ z, z = zsi σ7 3 7 (((v2 ||| (v4 <<< ((8 : Int32) &&& 31))) ||| (v6 <<< ((16 : Int32) &&& 31))) ||| (v8 <<< ((24 : Int32) &&& 31))) := ⟨_, rfl⟩
  replace hf := zbv_use eσ9 hf
  refine z_put hC hI hinX3_takePlanes_X30 tyX3_ok nmX3 3 (wC_e3 ad cy σ7) rfl 7 (by decide) (List.mem_cons_of_mem _ zw36_8) rfl rfl rfl (Nat.le_of_ble_eq_true rfl) ((wC_s3_7 ad cy σ7 (((v2 ||| (v4 <<< ((8 : Int32) &&& 31))) ||| (v6 <<< ((16 : Int32) &&& 31))) ||| (v8 <<< ((24 : Int32) &&& 31)))).trans (congrArg (wC ad cy) eσ9.symm)) dX3_takePlanes_51 (fun H locs hI => ?_)
  exact z_return hC hI hf dX3_takePlanes_54
set_option maxRecDepth 20000 in
theorem cX3_takePlanes_met (st : Nat → Nat) (l : Launch) (D : va_G) (ad : Nat → Nat) (cy : Nat → ClassId) (σ : zSt) (x1 : Int32) (res : zSt) (hf : fX3_takePlanes σ x1 = some res) (sz : Nat) : zMu st l yX3_takePlanes wzX3_takePlanes rmX3_takePlanes [.ref (ad 3), .int x1] D (tC cy) (wC ad cy) sz σ res :=
  zMu.of (cc := cX3_takePlanes) (maxL := 2) (ret := none) (by decide) rfl (Nat.le_of_ble_eq_true rfl) (fun p e s m args below meth c hC A hI ls hl => bX3_takePlanes hC hI hl hf)
theorem hdX3_takePlanes : yX3_takePlanes.cls = RX3 ∧ yX3_takePlanes.cls ≠ "java/lang/invoke/MethodHandle" ∧ yX3_takePlanes.cls ≠ "java/lang/invoke/VarHandle" ∧ (parseMethodDescriptor yX3_takePlanes.desc).map (fun d => d.parameters.length) = some 1 := by decide +kernel
noncomputable def rmX3_takeTile : Room := { frames := 2, cells := 0, slots := 0, locals := 42 }
noncomputable def wzX3_takeTile : List Cond := .code yX3_takeTile cX3_takeTile 5 none :: wsL_law
theorem hinX3_takeTile_X30 : ∀ w ∈ wsX30, w ∈ wzX3_takeTile := fun w h => List.mem_cons_of_mem _ (inlX3 w h)
noncomputable def fX3_takeTile_60  (σ : zSt) (s0 : Int32) : Option (zSt) :=
  zbu (fX3_takePlanes σ ((32 * ((zgi σ 3 8) &&& 511)) + (4 * s0))) (fun σ1 =>
  some σ1)
noncomputable def fX3_takeTile  (σ : zSt) (x1 : Int32) (x2 : Int32) : Option (zSt) :=
  zbv (x1 + (64 * (x2 >>> ((3 : Int32) &&& 31)))) (fun v2 =>
  zbi (fX9_vramByte σ v2) (fun σ3 v4 =>
  zbi (fX9_vramByte σ3 (v2 + 1)) (fun σ5 v6 =>
  zbv (zsi σ5 3 8 (v4 ||| (v6 <<< ((8 : Int32) &&& 31)))) (fun σ7 =>
  if ((zgi σ7 3 8) &&& 1024) = 0 then fX3_takeTile_60 σ7 (x2 &&& 7) else
  fX3_takeTile_60 σ7 (7 - (x2 &&& 7))))))
set_option maxRecDepth 20000 in
set_option maxHeartbeats 4000000 in
theorem bX3_takeTile_60 {st : Nat → Nat} {p : Program} {l : Launch} {e : Env} {s : State} {m : MethodId} {args : Array Value} {below : List Frame} {meth : Method} {c : Code} {D : va_G} {A : Nat → Prop} {ad : Nat → Nat} {cy : Nat → ClassId} (hC : zC p m c cX3_takeTile 5 s args wzX3_takeTile RX3 meth none)  {res : zSt} {H : Heap} {locs : List Loc} {σ : zSt} {ls : Array Slot} {s0 : Int32} (hI : zI st D (tC cy) (wC ad cy σ) A s H locs) (hl : lv_has ls 5 [(0, .ref (ad 3))]) (hf : fX3_takeTile_60  σ s0 = some res) : W p l e rmX3_takeTile s m args below meth c H locs 0 0 (zQu below args s D (tC cy) (wC ad cy) A res) (F0 m 60 ls [.int s0]) := by
  have hx := hC.1
  have hb := hC.2.1
  unfold fX3_takeTile_60 at hf
  refine lv_istore (lv' := [(4, .int s0), (0, .ref (ad 3))]) hx hb dX3_takeTile_60 hl (by decide) rfl (fun ls hl => ?_)
  refine lv_aload_n hx hb dX3_takeTile_62 rfl (lv_at hl 1 rfl) ?_
  refine lv_bipush (v := 32) hx hb dX3_takeTile_63 (by decide) ?_
  refine lv_aload_n hx hb dX3_takeTile_65 rfl (lv_at hl 1 rfl) ?_
  refine z_get hC hI hinX3_takeTile_X30 3 (wC_e3 ad cy σ) rfl 8 (by decide) (List.mem_cons_of_mem _ zw36_7) rfl dX3_takeTile_66 ?_
  refine lv_sipush (v := 511) hx hb dX3_takeTile_69 (by decide) ?_
  refine lv_iand hx hb dX3_takeTile_72 ?_
  refine lv_imul hx hb dX3_takeTile_73 ?_
  refine lv_iconst (v := 4) hx hb dX3_takeTile_74 (by decide) ?_
  refine lv_iload hx hb dX3_takeTile_75 (lv_at hl 0 rfl) ?_
  refine lv_imul hx hb dX3_takeTile_77 ?_
  refine lv_iadd hx hb dX3_takeTile_78 ?_
  obtain ⟨σ1, g1, hf⟩ := zbu_use hf
  refine z_callVu (As := [.int ((32 * ((zgi σ 3 8) &&& 511)) + (4 * s0))]) (rest := []) hC hI (cX3_takePlanes_met st l D ad cy σ ((32 * ((zgi σ 3 8) &&& 511)) + (4 * s0)) _ g1) (zgV zw36_18 zw36_19 zw36_20 zw2_5 zw36_21) rfl ⟨rfl, rfl⟩ 1 hdX3_takePlanes ⟨Nat.le_of_ble_eq_true rfl, Nat.le_of_ble_eq_true rfl⟩ rfl rfl (wC_e3 ad cy σ) rfl hl rfl (Nat.le_of_ble_eq_true rfl) dX3_takeTile_79 ⟨Nat.zero_le _, Nat.zero_le _⟩ (fun H locs hI => ?_)
  exact z_return hC hI hf dX3_takeTile_82
set_option maxRecDepth 20000 in
set_option maxHeartbeats 4000000 in
theorem bX3_takeTile {st : Nat → Nat} {p : Program} {l : Launch} {e : Env} {s : State} {m : MethodId} {args : Array Value} {below : List Frame} {meth : Method} {c : Code} {D : va_G} {A : Nat → Prop} {ad : Nat → Nat} {cy : Nat → ClassId} (hC : zC p m c cX3_takeTile 5 s args wzX3_takeTile RX3 meth none)  {res : zSt} {H : Heap} {locs : List Loc} {σ : zSt} {ls : Array Slot} {x1 : Int32} {x2 : Int32} (hI : zI st D (tC cy) (wC ad cy σ) A s H locs) (hl : lv_has ls 5 [(0, .ref (ad 3)), (1, .int x1), (2, .int x2)]) (hf : fX3_takeTile  σ x1 x2 = some res) : W p l e rmX3_takeTile s m args below meth c H locs 0 0 (zQu below args s D (tC cy) (wC ad cy) A res) (F0 m 0 ls []) := by
  have hx := hC.1
  have hb := hC.2.1
  unfold fX3_takeTile at hf
  refine lv_iload_n hx hb dX3_takeTile_0 rfl (lv_at hl 1 rfl) ?_
  refine lv_bipush (v := 64) hx hb dX3_takeTile_1 (by decide) ?_
  refine lv_iload_n hx hb dX3_takeTile_3 rfl (lv_at hl 2 rfl) ?_
  refine lv_iconst (v := 3) hx hb dX3_takeTile_4 (by decide) ?_
  refine lv_ishr hx hb dX3_takeTile_5 ?_
  refine lv_imul hx hb dX3_takeTile_6 ?_
  refine lv_iadd hx hb dX3_takeTile_7 ?_
  refine lv_topi (fun v2 ev2 => ?_)
  replace hf := zbv_use ev2 hf
  refine lv_istore_n (lv' := [(3, .int v2), (0, .ref (ad 3)), (1, .int x1), (2, .int x2)]) hx hb dX3_takeTile_8 rfl hl (by decide) rfl (fun ls hl => ?_)
  refine lv_aload_n hx hb dX3_takeTile_9 rfl (lv_at hl 1 rfl) ?_
  refine lv_aload_n hx hb dX3_takeTile_10 rfl (lv_at hl 1 rfl) ?_
  refine z_get hC hI hinX3_takeTile_X30 3 (wC_e3 ad cy σ) rfl 0 (by decide) (List.mem_cons_of_mem _ zw4_22) rfl dX3_takeTile_11 ?_
  refine lv_iload_n hx hb dX3_takeTile_14 rfl (lv_at hl 0 rfl) ?_
  obtain ⟨σ3, v4, g3, hf⟩ := zbi_use hf
  refine z_callVi (As := [.int v2]) (rest := [.ref (ad 3)]) hC hI (cX9_vramByte_met st l D ad cy σ v2 _ g3) (zgV zw36_14 zw36_15 zw36_16 zw2_1 zw36_17) rfl ⟨rfl, rfl⟩ 1 hdX9_vramByte ⟨Nat.le_of_ble_eq_true rfl, Nat.le_of_ble_eq_true rfl⟩ rfl rfl (wC_e2 ad cy σ) rfl hl rfl (Nat.le_of_ble_eq_true rfl) dX3_takeTile_15 ⟨Nat.zero_le _, Nat.zero_le _⟩ (fun H locs hI => ?_)
  refine lv_aload_n hx hb dX3_takeTile_18 rfl (lv_at hl 1 rfl) ?_
  refine z_get hC hI hinX3_takeTile_X30 3 (wC_e3 ad cy σ3) rfl 0 (by decide) (List.mem_cons_of_mem _ zw4_22) rfl dX3_takeTile_19 ?_
  refine lv_iload_n hx hb dX3_takeTile_22 rfl (lv_at hl 0 rfl) ?_
  refine lv_iconst (v := 1) hx hb dX3_takeTile_23 (by decide) ?_
  refine lv_iadd hx hb dX3_takeTile_24 ?_
  obtain ⟨σ5, v6, g5, hf⟩ := zbi_use hf
  refine z_callVi (As := [.int (v2 + 1)]) (rest := [.int v4, .ref (ad 3)]) hC hI (cX9_vramByte_met st l D ad cy σ3 (v2 + 1) _ g5) (zgV zw36_14 zw36_15 zw36_16 zw2_1 zw36_17) rfl ⟨rfl, rfl⟩ 1 hdX9_vramByte ⟨Nat.le_of_ble_eq_true rfl, Nat.le_of_ble_eq_true rfl⟩ rfl rfl (wC_e2 ad cy σ3) rfl hl rfl (Nat.le_of_ble_eq_true rfl) dX3_takeTile_25 ⟨Nat.zero_le _, Nat.zero_le _⟩ (fun H locs hI => ?_)
  refine lv_bipush (v := 8) hx hb dX3_takeTile_28 (by decide) ?_
  refine lv_ishl hx hb dX3_takeTile_30 ?_
  refine lv_ior hx hb dX3_takeTile_31 ?_
  obtain ⟨σ7, eσ7⟩ : ∃ z, z = zsi σ5 3 8 (v4 ||| (v6 <<< ((8 : Int32) &&& 31))) := ⟨_, rfl⟩
  replace hf := zbv_use eσ7 hf
  refine z_put hC hI hinX3_takeTile_X30 tyX3_ok nmX3 3 (wC_e3 ad cy σ5) rfl 8 (by decide) (List.mem_cons_of_mem _ zw36_7) rfl rfl rfl (Nat.le_of_ble_eq_true rfl) ((wC_s3_8 ad cy σ5 (v4 ||| (v6 <<< ((8 : Int32) &&& 31)))).trans (congrArg (wC ad cy) eσ7.symm)) dX3_takeTile_32 (fun H locs hI => ?_)
  refine lv_aload_n hx hb dX3_takeTile_35 rfl (lv_at hl 1 rfl) ?_
  refine z_get hC hI hinX3_takeTile_X30 3 (wC_e3 ad cy σ7) rfl 8 (by decide) (List.mem_cons_of_mem _ zw36_7) rfl dX3_takeTile_36 ?_
  refine lv_sipush (v := 1024) hx hb dX3_takeTile_39 (by decide) ?_
  refine lv_iand hx hb dX3_takeTile_42 ?_
  refine lv_if_eq (tgt := 56) hx hb dX3_takeTile_43 (by decide) (fun q => ?_) (fun q => ?_)
  · replace hf := zif_t q hf
    refine lv_iload_n hx hb dX3_takeTile_56 rfl (lv_at hl 3 rfl) ?_
    refine lv_bipush (v := 7) hx hb dX3_takeTile_57 (by decide) ?_
    refine lv_iand hx hb dX3_takeTile_59 ?_
    exact bX3_takeTile_60 hC  hI (lv_sub hl [1] rfl) hf
  replace hf := zif_f q hf
  refine lv_bipush (v := 7) hx hb dX3_takeTile_46 (by decide) ?_
  refine lv_iload_n hx hb dX3_takeTile_48 rfl (lv_at hl 3 rfl) ?_
  refine lv_bipush (v := 7) hx hb dX3_takeTile_49 (by decide) ?_
  refine lv_iand hx hb dX3_takeTile_51 ?_
  refine lv_isub hx hb dX3_takeTile_52 ?_
  refine lv_goto (tgt := 60) hx hb dX3_takeTile_53 (by decide) ?_
  exact bX3_takeTile_60 hC  hI (lv_sub hl [1] rfl) hf
set_option maxRecDepth 20000 in
theorem cX3_takeTile_met (st : Nat → Nat) (l : Launch) (D : va_G) (ad : Nat → Nat) (cy : Nat → ClassId) (σ : zSt) (x1 : Int32) (x2 : Int32) (res : zSt) (hf : fX3_takeTile σ x1 x2 = some res) (sz : Nat) : zMu st l yX3_takeTile wzX3_takeTile rmX3_takeTile [.ref (ad 3), .int x1, .int x2] D (tC cy) (wC ad cy) sz σ res :=
  zMu.of (cc := cX3_takeTile) (maxL := 5) (ret := none) (by decide) rfl (Nat.le_of_ble_eq_true rfl) (fun p e s m args below meth c hC A hI ls hl => bX3_takeTile hC hI hl hf)
theorem hdX3_takeTile : yX3_takeTile.cls = RX3 ∧ yX3_takeTile.cls ≠ "java/lang/invoke/MethodHandle" ∧ yX3_takeTile.cls ≠ "java/lang/invoke/VarHandle" ∧ (parseMethodDescriptor yX3_takeTile.desc).map (fun d => d.parameters.length) = some 2 := by decide +kernel
noncomputable def rmX3_numberIn : Room := { frames := 0, cells := 0, slots := 0, locals := 0 }
noncomputable def wzX3_numberIn : List Cond := .code yX3_numberIn cX3_numberIn 3 (some .int) :: wsL_law
noncomputable def fX3_numberIn  (σ : zSt) (x0 : Int32) (x1 : Int32) : Option (zSt × Int32) :=
  zbv ((zush x0 (7 - x1)) &&& 16843009) (fun v1 =>
  some (σ, (((v1 &&& 1) ||| ((v1 >>> ((7 : Int32) &&& 31)) &&& 2)) ||| ((v1 >>> ((14 : Int32) &&& 31)) &&& 4)) ||| ((v1 >>> ((21 : Int32) &&& 31)) &&& 8)))
set_option maxRecDepth 20000 in
set_option maxHeartbeats 4000000 in
theorem bX3_numberIn {st : Nat → Nat} {p : Program} {l : Launch} {e : Env} {s : State} {m : MethodId} {args : Array Value} {below : List Frame} {meth : Method} {c : Code} {D : va_G} {A : Nat → Prop} {ad : Nat → Nat} {cy : Nat → ClassId} (hC : zC p m c cX3_numberIn 3 s args wzX3_numberIn RX3 meth (some .int))  {res : zSt × Int32} {H : Heap} {locs : List Loc} {σ : zSt} {ls : Array Slot} {x0 : Int32} {x1 : Int32} (hI : zI st D (tC cy) (wC ad cy σ) A s H locs) (hl : lv_has ls 3 [(0, .int x0), (1, .int x1)]) (hf : fX3_numberIn  σ x0 x1 = some res) : W p l e rmX3_numberIn s m args below meth c H locs 0 0 (zQi below args s D (tC cy) (wC ad cy) A res) (F0 m 0 ls []) := by
  have hx := hC.1
  have hb := hC.2.1
  unfold fX3_numberIn at hf
  refine lv_iload_n hx hb dX3_numberIn_0 rfl (lv_at hl 0 rfl) ?_
  refine lv_bipush (v := 7) hx hb dX3_numberIn_1 (by decide) ?_
  refine lv_iload_n hx hb dX3_numberIn_3 rfl (lv_at hl 1 rfl) ?_
  refine lv_isub hx hb dX3_numberIn_4 ?_
  refine lv_iushr (v := zush x0 (7 - x1)) hx hb dX3_numberIn_5 rfl ?_
  refine lv_ldc (v := 16843009) hx hb hC.2.2.2.1 (hC.2.2.2.2.1 _ (List.mem_cons_of_mem _ zw37_1)) dX3_numberIn_6 ?_
  refine lv_iand hx hb dX3_numberIn_8 ?_
  refine lv_topi (fun v1 ev1 => ?_)
  replace hf := zbv_use ev1 hf
  refine lv_istore_n (lv' := [(2, .int v1), (0, .int x0), (1, .int x1)]) hx hb dX3_numberIn_9 rfl hl (by decide) rfl (fun ls hl => ?_)
  refine lv_iload_n hx hb dX3_numberIn_10 rfl (lv_at hl 0 rfl) ?_
  refine lv_iconst (v := 1) hx hb dX3_numberIn_11 (by decide) ?_
  refine lv_iand hx hb dX3_numberIn_12 ?_
  refine lv_iload_n hx hb dX3_numberIn_13 rfl (lv_at hl 0 rfl) ?_
  refine lv_bipush (v := 7) hx hb dX3_numberIn_14 (by decide) ?_
  refine lv_ishr hx hb dX3_numberIn_16 ?_
  refine lv_iconst (v := 2) hx hb dX3_numberIn_17 (by decide) ?_
  refine lv_iand hx hb dX3_numberIn_18 ?_
  refine lv_ior hx hb dX3_numberIn_19 ?_
  refine lv_iload_n hx hb dX3_numberIn_20 rfl (lv_at hl 0 rfl) ?_
  refine lv_bipush (v := 14) hx hb dX3_numberIn_21 (by decide) ?_
  refine lv_ishr hx hb dX3_numberIn_23 ?_
  refine lv_iconst (v := 4) hx hb dX3_numberIn_24 (by decide) ?_
  refine lv_iand hx hb dX3_numberIn_25 ?_
  refine lv_ior hx hb dX3_numberIn_26 ?_
  refine lv_iload_n hx hb dX3_numberIn_27 rfl (lv_at hl 0 rfl) ?_
  refine lv_bipush (v := 21) hx hb dX3_numberIn_28 (by decide) ?_
  refine lv_ishr hx hb dX3_numberIn_30 ?_
  refine lv_bipush (v := 8) hx hb dX3_numberIn_31 (by decide) ?_
  refine lv_iand hx hb dX3_numberIn_33 ?_
  refine lv_ior hx hb dX3_numberIn_34 ?_
  exact z_ireturn hC hI hf dX3_numberIn_35
set_option maxRecDepth 20000 in
theorem cX3_numberIn_met (st : Nat → Nat) (l : Launch) (D : va_G) (ad : Nat → Nat) (cy : Nat → ClassId) (σ : zSt) (x0 : Int32) (x1 : Int32) (res : zSt × Int32) (hf : fX3_numberIn σ x0 x1 = some res) (sz : Nat) : zMi st l yX3_numberIn wzX3_numberIn rmX3_numberIn [.int x0, .int x1] D (tC cy) (wC ad cy) sz σ res :=
  zMi.of (cc := cX3_numberIn) (maxL := 3) (ret := (some .int)) (by decide) rfl (Nat.le_of_ble_eq_true rfl) (fun p e s m args below meth c hC A hI ls hl => bX3_numberIn hC hI hl hf)
theorem hdX3_numberIn : yX3_numberIn.cls ≠ "java/lang/invoke/MethodHandle" ∧ yX3_numberIn.cls ≠ "java/lang/invoke/VarHandle" ∧ (parseMethodDescriptor yX3_numberIn.desc).map (fun d => d.parameters.length) = some 2 := by decide +kernel
noncomputable def rmX3_drawTiles : Room := { frames := 3, cells := 0, slots := 0, locals := 66 }
noncomputable def wzX3_drawTiles : List Cond := .code yX3_drawTiles cX3_drawTiles 14 none :: wsL_law
theorem hinX3_drawTiles_X30 : ∀ w ∈ wsX30, w ∈ wzX3_drawTiles := fun w h => List.mem_cons_of_mem _ (inlX3 w h)
noncomputable def fX3_drawTiles_316 (k143 : zSt → Int32 → Int32 → Int32 → Int32 → Int32 → Int32 → Option (zSt)) (σ : zSt) (x1 : Int32) (x5 : Int32) (x6 : Int32) (x7 : Int32) (x8 : Int32) (x9 : Int32) (s0 : Int32) (s1 : Int32) (s2 : Int32) : Option (zSt) :=
  zck (zin s2 256) (zbv (zsi σ 27 (s2.toNatClampNeg) (s1 + s0)) (fun σ1 =>
  zbv (x9 + 1) (fun v2 =>
  k143 σ1 x1 x5 x6 x7 x8 v2)))
noncomputable def fX3_drawTiles_303 (k143 : zSt → Int32 → Int32 → Int32 → Int32 → Int32 → Int32 → Option (zSt)) (σ : zSt) (x1 : Int32) (x5 : Int32) (x6 : Int32) (x7 : Int32) (x8 : Int32) (x9 : Int32) (x13 : Int32) (s0 : Int32) (s1 : Int32) (s2 : Int32) : Option (zSt) :=
  if x13 = 0 then fX3_drawTiles_316 k143 σ x1 x5 x6 x7 x8 x9 0 (s1 + s0) s2 else
  fX3_drawTiles_316 k143 σ x1 x5 x6 x7 x8 x9 256 (s1 + s0) s2
noncomputable def fX3_drawTiles_276 (k143 : zSt → Int32 → Int32 → Int32 → Int32 → Int32 → Int32 → Option (zSt)) (σ : zSt) (x1 : Int32) (x5 : Int32) (x6 : Int32) (x7 : Int32) (x8 : Int32) (x9 : Int32) (x12 : Int32) (s0 : Int32) : Option (zSt) :=
  if ((zgi σ 3 8) &&& 2048) = 0 then fX3_drawTiles_303 k143 σ x1 x5 x6 x7 x8 x9 s0 0 x12 x9 else
  fX3_drawTiles_303 k143 σ x1 x5 x6 x7 x8 x9 s0 16 x12 x9
noncomputable def fX3_drawTiles_275 (k143 : zSt → Int32 → Int32 → Int32 → Int32 → Int32 → Int32 → Option (zSt)) (σ : zSt) (x1 : Int32) (x5 : Int32) (x6 : Int32) (x7 : Int32) (x8 : Int32) (x9 : Int32) (x12 : Int32) : Option (zSt) :=
  fX3_drawTiles_276 k143 σ x1 x5 x6 x7 x8 x9 x12 0
noncomputable def fX3_drawTiles_242 (k143 : zSt → Int32 → Int32 → Int32 → Int32 → Int32 → Int32 → Option (zSt)) (σ : zSt) (x1 : Int32) (x5 : Int32) (x6 : Int32) (x7 : Int32) (x8 : Int32) (x9 : Int32) (s0 : Int32) : Option (zSt) :=
  zbi (fX3_numberIn σ (zgi σ 3 7) s0) (fun σ3 v4 =>
  if v4 ≤ 0 then fX3_drawTiles_275 k143 σ3 x1 x5 x6 x7 x8 x9 v4 else
  if ((zgi σ3 3 8) &&& 4096) = 0 then fX3_drawTiles_275 k143 σ3 x1 x5 x6 x7 x8 x9 v4 else
  fX3_drawTiles_276 k143 σ3 x1 x5 x6 x7 x8 x9 v4 1)
noncomputable def fX3_drawTiles_215 (k143 : zSt → Int32 → Int32 → Int32 → Int32 → Int32 → Int32 → Option (zSt)) (σ : zSt) (x1 : Int32) (x5 : Int32) (x6 : Int32) (x7 : Int32) (x8 : Int32) (x9 : Int32) (x10 : Int32) : Option (zSt) :=
  if ((zgi σ 3 8) &&& 512) = 0 then fX3_drawTiles_242 k143 σ x1 x5 x6 x7 x8 x9 (x10 &&& 7) else
  fX3_drawTiles_242 k143 σ x1 x5 x6 x7 x8 x9 (7 - (x10 &&& 7))
noncomputable def fX3_drawTiles_212 (k143 : zSt → Int32 → Int32 → Int32 → Int32 → Int32 → Int32 → Option (zSt)) (σ : zSt) (x1 : Int32) (x5 : Int32) (x6 : Int32) (x7 : Int32) (x8 : Int32) (x9 : Int32) (x10 : Int32) (s0 : Int32) (s1 : Int32) : Option (zSt) :=
  zbu (fX3_takeTile σ s1 s0) (fun σ5 =>
  fX3_drawTiles_215 k143 σ5 x1 x5 x6 x7 x8 x9 x10)
noncomputable def fX3_drawTiles_210 (k143 : zSt → Int32 → Int32 → Int32 → Int32 → Int32 → Int32 → Option (zSt)) (σ : zSt) (x1 : Int32) (x5 : Int32) (x6 : Int32) (x7 : Int32) (x8 : Int32) (x9 : Int32) (x10 : Int32) (s0 : Int32) : Option (zSt) :=
  fX3_drawTiles_212 k143 σ x1 x5 x6 x7 x8 x9 x10 x7 s0
noncomputable def fX3_drawTiles_183 (k143 : zSt → Int32 → Int32 → Int32 → Int32 → Int32 → Int32 → Option (zSt)) (σ : zSt) (x1 : Int32) (x5 : Int32) (x6 : Int32) (x7 : Int32) (x8 : Int32) (x9 : Int32) (x10 : Int32) : Option (zSt) :=
  if x8 = 0 then fX3_drawTiles_210 k143 σ x1 x5 x6 x7 x8 x9 x10 (x5 + (2 * (x10 >>> ((3 : Int32) &&& 31)))) else
  if x9 < 192 then fX3_drawTiles_210 k143 σ x1 x5 x6 x7 x8 x9 x10 (x5 + (2 * (x10 >>> ((3 : Int32) &&& 31)))) else
  fX3_drawTiles_212 k143 σ x1 x5 x6 x7 x8 x9 x10 x1 (x5 + (2 * (x10 >>> ((3 : Int32) &&& 31))))
noncomputable def fX3_drawTiles_143_body (k143 : zSt → Int32 → Int32 → Int32 → Int32 → Int32 → Int32 → Option (zSt)) (σ : zSt) (x1 : Int32) (x5 : Int32) (x6 : Int32) (x7 : Int32) (x8 : Int32) (x9 : Int32) : Option (zSt) :=
  if 256 ≤ x9 then some σ else
  zbv ((x9 - x6) &&& 255) (fun v6 =>
  if x9 = 0 then fX3_drawTiles_183 k143 σ x1 x5 x6 x7 x8 x9 v6 else
  if x9 = 192 then fX3_drawTiles_183 k143 σ x1 x5 x6 x7 x8 x9 v6 else
  if (v6 &&& 7) = 0 then fX3_drawTiles_183 k143 σ x1 x5 x6 x7 x8 x9 v6 else
  fX3_drawTiles_215 k143 σ x1 x5 x6 x7 x8 x9 v6)
noncomputable def fX3_drawTiles_143  : Nat → zSt → Int32 → Int32 → Int32 → Int32 → Int32 → Int32 → Option (zSt)
  | 0, _, _, _, _, _, _, _ => none
  | n + 1, σ, x1, x5, x6, x7, x8, x9 => fX3_drawTiles_143_body (fX3_drawTiles_143  n) σ x1 x5 x6 x7 x8 x9
noncomputable def fX3_drawTiles_138  (σ : zSt) (x1 : Int32) (x5 : Int32) (x6 : Int32) (x7 : Int32) (s0 : Int32) : Option (zSt) :=
  fX3_drawTiles_143 zfuel σ x1 x5 x6 x7 s0 0
noncomputable def fX3_drawTiles_122  (σ : zSt) (x1 : Int32) (x3 : Int32) (x5 : Int32) (x6 : Int32) (s0 : Int32) (s1 : Int32) : Option (zSt) :=
  zck (decide (¬ s0 = 0)) (
  zbv (zrem s1 s0) (fun v7 =>
  if (x3 &&& 128) = 0 then fX3_drawTiles_138 σ x1 x5 x6 v7 0 else
  fX3_drawTiles_138 σ x1 x5 x6 v7 1))
noncomputable def fX3_drawTiles_96  (σ : zSt) (x1 : Int32) (x2 : Int32) (x3 : Int32) (x5 : Int32) (s0 : Int32) : Option (zSt) :=
  zbi (fX9_held σ 19) (fun σ8 v9 =>
  if x2 = 0 then fX3_drawTiles_122 σ8 x1 x3 x5 s0 224 (x1 + v9) else
  fX3_drawTiles_122 σ8 x1 x3 x5 s0 256 (x1 + v9))
noncomputable def fX3_drawTiles_87  (σ : zSt) (x1 : Int32) (x2 : Int32) (x3 : Int32) (x5 : Int32) : Option (zSt) :=
  zbi (fX9_held σ 8) (fun σ10 v11 =>
  fX3_drawTiles_96 σ10 x1 x2 x3 x5 v11)
noncomputable def fX3_drawTiles_68  (σ : zSt) (x1 : Int32) (x2 : Int32) (x3 : Int32) (s0 : Int32) : Option (zSt) :=
  if 16 ≤ x1 then fX3_drawTiles_87 σ x1 x2 x3 s0 else
  if (x3 &&& 64) = 0 then fX3_drawTiles_87 σ x1 x2 x3 s0 else
  fX3_drawTiles_96 σ x1 x2 x3 s0 0
noncomputable def fX3_drawTiles_18  (σ : zSt) (x1 : Int32) (s0 : Int32) : Option (zSt) :=
  zbi (fX9_held σ 0) (fun σ12 v13 =>
  zbi (fX9_held σ12 2) (fun σ14 v15 =>
  if s0 = 0 then fX3_drawTiles_68 σ14 x1 s0 v13 (1024 * (v15 &&& 14)) else
  fX3_drawTiles_68 σ14 x1 s0 v13 ((4096 * ((v15 >>> ((2 : Int32) &&& 31)) &&& 3)) + 1792)))
noncomputable def fX3_drawTiles  (σ : zSt) (x1 : Int32) : Option (zSt) :=
  zbi (fX9_height σ ) (fun σ16 v17 =>
  if v17 = 192 then fX3_drawTiles_18 σ16 x1 0 else
  fX3_drawTiles_18 σ16 x1 1)
set_option maxRecDepth 20000 in
set_option maxHeartbeats 4000000 in
theorem bX3_drawTiles_316 {st : Nat → Nat} {p : Program} {l : Launch} {e : Env} {s : State} {m : MethodId} {args : Array Value} {below : List Frame} {meth : Method} {c : Code} {D : va_G} {A : Nat → Prop} {ad : Nat → Nat} {cy : Nat → ClassId} (hC : zC p m c cX3_drawTiles 14 s args wzX3_drawTiles RX3 meth none) {k143 : zSt → Int32 → Int32 → Int32 → Int32 → Int32 → Int32 → Option (zSt)} {res : zSt} (hk143 : ∀ (H : Heap) (locs : List Loc) (σ : zSt) (ls : Array Slot) (x1 : Int32) (x5 : Int32) (x6 : Int32) (x7 : Int32) (x8 : Int32) (x9 : Int32), zI st D (tC cy) (wC ad cy σ) A s H locs → lv_has ls 14 [(0, .ref (ad 3)), (1, .int x1), (5, .int x5), (6, .int x6), (7, .int x7), (8, .int x8), (9, .int x9)] → k143 σ x1 x5 x6 x7 x8 x9 = some res → W p l e rmX3_drawTiles s m args below meth c H locs 0 0 (zQu below args s D (tC cy) (wC ad cy) A res) (F0 m 143 ls [])) {H : Heap} {locs : List Loc} {σ : zSt} {ls : Array Slot} {x1 : Int32} {x5 : Int32} {x6 : Int32} {x7 : Int32} {x8 : Int32} {x9 : Int32} {s0 : Int32} {s1 : Int32} {s2 : Int32} (hI : zI st D (tC cy) (wC ad cy σ) A s H locs) (hl : lv_has ls 14 [(0, .ref (ad 3)), (1, .int x1), (5, .int x5), (6, .int x6), (7, .int x7), (8, .int x8), (9, .int x9)]) (hf : fX3_drawTiles_316 k143 σ x1 x5 x6 x7 x8 x9 s0 s1 s2 = some res) : W p l e rmX3_drawTiles s m args below meth c H locs 0 0 (zQu below args s D (tC cy) (wC ad cy) A res) (F0 m 316 ls [.int s0, .int s1, .int s2, .ref (ad 27)]) := by
  have hx := hC.1
  have hb := hC.2.1
  unfold fX3_drawTiles_316 at hf
  refine lv_iadd hx hb dX3_drawTiles_316 ?_
  obtain ⟨q, hf⟩ := zck_use hf
  obtain ⟨σ1, eσ1⟩ : ∃ z, z = zsi σ 27 (s2.toNatClampNeg) (s1 + s0) := ⟨_, rfl⟩
  replace hf := zbv_use eσ1 hf
  refine z_iast hC hI 27 14 (wC_e27 ad cy σ) (tC_t27 cy) q ((wC_s27 ad cy σ _ _).trans (congrArg (wC ad cy) eσ1.symm)) dX3_drawTiles_317 (fun H locs hI => ?_)
  obtain ⟨v2, ev2⟩ : ∃ z : Int32, z = x9 + 1 := ⟨_, rfl⟩
  replace hf := zbv_use ev2 hf
  refine lv_iinc (v := v2) (lv' := [(9, .int v2), (0, .ref (ad 3)), (1, .int x1), (5, .int x5), (6, .int x6), (7, .int x7), (8, .int x8)]) hx hb dX3_drawTiles_318 hl (k := 6) rfl (by rw [ev2]; rfl) (by decide) rfl (fun ls hl => ?_)
  refine lv_goto (tgt := 143) hx hb dX3_drawTiles_321 (by decide) ?_
  exact hk143 _ _ _ _ _ _ _ _ _ _ hI (lv_sub hl [1, 2, 3, 4, 5, 6, 0] rfl) hf
set_option maxRecDepth 20000 in
set_option maxHeartbeats 4000000 in
theorem bX3_drawTiles_303 {st : Nat → Nat} {p : Program} {l : Launch} {e : Env} {s : State} {m : MethodId} {args : Array Value} {below : List Frame} {meth : Method} {c : Code} {D : va_G} {A : Nat → Prop} {ad : Nat → Nat} {cy : Nat → ClassId} (hC : zC p m c cX3_drawTiles 14 s args wzX3_drawTiles RX3 meth none) {k143 : zSt → Int32 → Int32 → Int32 → Int32 → Int32 → Int32 → Option (zSt)} {res : zSt} (hk143 : ∀ (H : Heap) (locs : List Loc) (σ : zSt) (ls : Array Slot) (x1 : Int32) (x5 : Int32) (x6 : Int32) (x7 : Int32) (x8 : Int32) (x9 : Int32), zI st D (tC cy) (wC ad cy σ) A s H locs → lv_has ls 14 [(0, .ref (ad 3)), (1, .int x1), (5, .int x5), (6, .int x6), (7, .int x7), (8, .int x8), (9, .int x9)] → k143 σ x1 x5 x6 x7 x8 x9 = some res → W p l e rmX3_drawTiles s m args below meth c H locs 0 0 (zQu below args s D (tC cy) (wC ad cy) A res) (F0 m 143 ls [])) {H : Heap} {locs : List Loc} {σ : zSt} {ls : Array Slot} {x1 : Int32} {x5 : Int32} {x6 : Int32} {x7 : Int32} {x8 : Int32} {x9 : Int32} {x13 : Int32} {s0 : Int32} {s1 : Int32} {s2 : Int32} (hI : zI st D (tC cy) (wC ad cy σ) A s H locs) (hl : lv_has ls 14 [(0, .ref (ad 3)), (1, .int x1), (5, .int x5), (6, .int x6), (7, .int x7), (8, .int x8), (9, .int x9), (13, .int x13)]) (hf : fX3_drawTiles_303 k143 σ x1 x5 x6 x7 x8 x9 x13 s0 s1 s2 = some res) : W p l e rmX3_drawTiles s m args below meth c H locs 0 0 (zQu below args s D (tC cy) (wC ad cy) A res) (F0 m 303 ls [.int s0, .int s1, .int s2, .ref (ad 27)]) := by
  have hx := hC.1
  have hb := hC.2.1
  unfold fX3_drawTiles_303 at hf
  refine lv_iadd hx hb dX3_drawTiles_303 ?_
  refine lv_iload hx hb dX3_drawTiles_304 (lv_at hl 7 rfl) ?_
  refine lv_if_eq (tgt := 315) hx hb dX3_drawTiles_306 (by decide) (fun q => ?_) (fun q => ?_)
  · replace hf := zif_t q hf
    refine lv_iconst (v := 0) hx hb dX3_drawTiles_315 (by decide) ?_
    exact bX3_drawTiles_316 hC hk143 hI (lv_sub hl [0, 1, 2, 3, 4, 5, 6] rfl) hf
  replace hf := zif_f q hf
  refine lv_sipush (v := 256) hx hb dX3_drawTiles_309 (by decide) ?_
  refine lv_goto (tgt := 316) hx hb dX3_drawTiles_312 (by decide) ?_
  exact bX3_drawTiles_316 hC hk143 hI (lv_sub hl [0, 1, 2, 3, 4, 5, 6] rfl) hf
set_option maxRecDepth 20000 in
set_option maxHeartbeats 4000000 in
theorem bX3_drawTiles_276 {st : Nat → Nat} {p : Program} {l : Launch} {e : Env} {s : State} {m : MethodId} {args : Array Value} {below : List Frame} {meth : Method} {c : Code} {D : va_G} {A : Nat → Prop} {ad : Nat → Nat} {cy : Nat → ClassId} (hC : zC p m c cX3_drawTiles 14 s args wzX3_drawTiles RX3 meth none) {k143 : zSt → Int32 → Int32 → Int32 → Int32 → Int32 → Int32 → Option (zSt)} {res : zSt} (hk143 : ∀ (H : Heap) (locs : List Loc) (σ : zSt) (ls : Array Slot) (x1 : Int32) (x5 : Int32) (x6 : Int32) (x7 : Int32) (x8 : Int32) (x9 : Int32), zI st D (tC cy) (wC ad cy σ) A s H locs → lv_has ls 14 [(0, .ref (ad 3)), (1, .int x1), (5, .int x5), (6, .int x6), (7, .int x7), (8, .int x8), (9, .int x9)] → k143 σ x1 x5 x6 x7 x8 x9 = some res → W p l e rmX3_drawTiles s m args below meth c H locs 0 0 (zQu below args s D (tC cy) (wC ad cy) A res) (F0 m 143 ls [])) {H : Heap} {locs : List Loc} {σ : zSt} {ls : Array Slot} {x1 : Int32} {x5 : Int32} {x6 : Int32} {x7 : Int32} {x8 : Int32} {x9 : Int32} {x12 : Int32} {s0 : Int32} (hI : zI st D (tC cy) (wC ad cy σ) A s H locs) (hl : lv_has ls 14 [(0, .ref (ad 3)), (1, .int x1), (5, .int x5), (6, .int x6), (7, .int x7), (8, .int x8), (9, .int x9), (12, .int x12)]) (hf : fX3_drawTiles_276 k143 σ x1 x5 x6 x7 x8 x9 x12 s0 = some res) : W p l e rmX3_drawTiles s m args below meth c H locs 0 0 (zQu below args s D (tC cy) (wC ad cy) A res) (F0 m 276 ls [.int s0]) := by
  have hx := hC.1
  have hb := hC.2.1
  unfold fX3_drawTiles_276 at hf
  refine lv_istore (lv' := [(13, .int s0), (0, .ref (ad 3)), (1, .int x1), (5, .int x5), (6, .int x6), (7, .int x7), (8, .int x8), (9, .int x9), (12, .int x12)]) hx hb dX3_drawTiles_276 hl (by decide) rfl (fun ls hl => ?_)
  refine lv_aload_n hx hb dX3_drawTiles_278 rfl (lv_at hl 1 rfl) ?_
  refine z_get hC hI hinX3_drawTiles_X30 3 (wC_e3 ad cy σ) rfl 4 (by decide) (List.mem_cons_of_mem _ zw4_19) rfl dX3_drawTiles_279 ?_
  refine lv_iload hx hb dX3_drawTiles_282 (lv_at hl 7 rfl) ?_
  refine lv_iload hx hb dX3_drawTiles_284 (lv_at hl 8 rfl) ?_
  refine lv_aload_n hx hb dX3_drawTiles_286 rfl (lv_at hl 1 rfl) ?_
  refine z_get hC hI hinX3_drawTiles_X30 3 (wC_e3 ad cy σ) rfl 8 (by decide) (List.mem_cons_of_mem _ zw36_7) rfl dX3_drawTiles_287 ?_
  refine lv_sipush (v := 2048) hx hb dX3_drawTiles_290 (by decide) ?_
  refine lv_iand hx hb dX3_drawTiles_293 ?_
  refine lv_if_eq (tgt := 302) hx hb dX3_drawTiles_294 (by decide) (fun q => ?_) (fun q => ?_)
  · replace hf := zif_t q hf
    refine lv_iconst (v := 0) hx hb dX3_drawTiles_302 (by decide) ?_
    exact bX3_drawTiles_303 hC hk143 hI (lv_sub hl [1, 2, 3, 4, 5, 6, 7, 0] rfl) hf
  replace hf := zif_f q hf
  refine lv_bipush (v := 16) hx hb dX3_drawTiles_297 (by decide) ?_
  refine lv_goto (tgt := 303) hx hb dX3_drawTiles_299 (by decide) ?_
  exact bX3_drawTiles_303 hC hk143 hI (lv_sub hl [1, 2, 3, 4, 5, 6, 7, 0] rfl) hf
set_option maxRecDepth 20000 in
set_option maxHeartbeats 4000000 in
theorem bX3_drawTiles_275 {st : Nat → Nat} {p : Program} {l : Launch} {e : Env} {s : State} {m : MethodId} {args : Array Value} {below : List Frame} {meth : Method} {c : Code} {D : va_G} {A : Nat → Prop} {ad : Nat → Nat} {cy : Nat → ClassId} (hC : zC p m c cX3_drawTiles 14 s args wzX3_drawTiles RX3 meth none) {k143 : zSt → Int32 → Int32 → Int32 → Int32 → Int32 → Int32 → Option (zSt)} {res : zSt} (hk143 : ∀ (H : Heap) (locs : List Loc) (σ : zSt) (ls : Array Slot) (x1 : Int32) (x5 : Int32) (x6 : Int32) (x7 : Int32) (x8 : Int32) (x9 : Int32), zI st D (tC cy) (wC ad cy σ) A s H locs → lv_has ls 14 [(0, .ref (ad 3)), (1, .int x1), (5, .int x5), (6, .int x6), (7, .int x7), (8, .int x8), (9, .int x9)] → k143 σ x1 x5 x6 x7 x8 x9 = some res → W p l e rmX3_drawTiles s m args below meth c H locs 0 0 (zQu below args s D (tC cy) (wC ad cy) A res) (F0 m 143 ls [])) {H : Heap} {locs : List Loc} {σ : zSt} {ls : Array Slot} {x1 : Int32} {x5 : Int32} {x6 : Int32} {x7 : Int32} {x8 : Int32} {x9 : Int32} {x12 : Int32} (hI : zI st D (tC cy) (wC ad cy σ) A s H locs) (hl : lv_has ls 14 [(0, .ref (ad 3)), (1, .int x1), (5, .int x5), (6, .int x6), (7, .int x7), (8, .int x8), (9, .int x9), (12, .int x12)]) (hf : fX3_drawTiles_275 k143 σ x1 x5 x6 x7 x8 x9 x12 = some res) : W p l e rmX3_drawTiles s m args below meth c H locs 0 0 (zQu below args s D (tC cy) (wC ad cy) A res) (F0 m 275 ls []) := by
  have hx := hC.1
  have hb := hC.2.1
  unfold fX3_drawTiles_275 at hf
  refine lv_iconst (v := 0) hx hb dX3_drawTiles_275 (by decide) ?_
  exact bX3_drawTiles_276 hC hk143 hI hl hf
set_option maxRecDepth 20000 in
set_option maxHeartbeats 4000000 in
theorem bX3_drawTiles_242 {st : Nat → Nat} {p : Program} {l : Launch} {e : Env} {s : State} {m : MethodId} {args : Array Value} {below : List Frame} {meth : Method} {c : Code} {D : va_G} {A : Nat → Prop} {ad : Nat → Nat} {cy : Nat → ClassId} (hC : zC p m c cX3_drawTiles 14 s args wzX3_drawTiles RX3 meth none) {k143 : zSt → Int32 → Int32 → Int32 → Int32 → Int32 → Int32 → Option (zSt)} {res : zSt} (hk143 : ∀ (H : Heap) (locs : List Loc) (σ : zSt) (ls : Array Slot) (x1 : Int32) (x5 : Int32) (x6 : Int32) (x7 : Int32) (x8 : Int32) (x9 : Int32), zI st D (tC cy) (wC ad cy σ) A s H locs → lv_has ls 14 [(0, .ref (ad 3)), (1, .int x1), (5, .int x5), (6, .int x6), (7, .int x7), (8, .int x8), (9, .int x9)] → k143 σ x1 x5 x6 x7 x8 x9 = some res → W p l e rmX3_drawTiles s m args below meth c H locs 0 0 (zQu below args s D (tC cy) (wC ad cy) A res) (F0 m 143 ls [])) {H : Heap} {locs : List Loc} {σ : zSt} {ls : Array Slot} {x1 : Int32} {x5 : Int32} {x6 : Int32} {x7 : Int32} {x8 : Int32} {x9 : Int32} {s0 : Int32} (hI : zI st D (tC cy) (wC ad cy σ) A s H locs) (hl : lv_has ls 14 [(0, .ref (ad 3)), (1, .int x1), (5, .int x5), (6, .int x6), (7, .int x7), (8, .int x8), (9, .int x9)]) (hf : fX3_drawTiles_242 k143 σ x1 x5 x6 x7 x8 x9 s0 = some res) : W p l e rmX3_drawTiles s m args below meth c H locs 0 0 (zQu below args s D (tC cy) (wC ad cy) A res) (F0 m 242 ls [.int s0]) := by
  have hx := hC.1
  have hb := hC.2.1
  unfold fX3_drawTiles_242 at hf
  refine lv_istore (lv' := [(11, .int s0), (0, .ref (ad 3)), (1, .int x1), (5, .int x5), (6, .int x6), (7, .int x7), (8, .int x8), (9, .int x9)]) hx hb dX3_drawTiles_242 hl (by decide) rfl (fun ls hl => ?_)
  refine lv_aload_n hx hb dX3_drawTiles_244 rfl (lv_at hl 1 rfl) ?_
  refine z_get hC hI hinX3_drawTiles_X30 3 (wC_e3 ad cy σ) rfl 7 (by decide) (List.mem_cons_of_mem _ zw36_8) rfl dX3_drawTiles_245 ?_
  refine lv_iload hx hb dX3_drawTiles_248 (lv_at hl 0 rfl) ?_
  obtain ⟨σ3, v4, g3, hf⟩ := zbi_use hf
  refine z_callSi (As := [.int (zgi σ 3 7), .int s0]) (rest := []) hC hI (cX3_numberIn_met st l D ad cy σ (zgi σ 3 7) s0 _ g3) (zgS zw36_22 zw36_23 zw2_5 zw37_0) rfl ⟨rfl, rfl⟩ 2 hdX3_numberIn ⟨Nat.le_of_ble_eq_true rfl, Nat.le_of_ble_eq_true rfl⟩ rfl hl rfl (Nat.le_of_ble_eq_true rfl) dX3_drawTiles_250 ⟨Nat.zero_le _, Nat.zero_le _⟩ (fun H locs hI => ?_)
  refine lv_istore (lv' := [(12, .int v4), (11, .int s0), (0, .ref (ad 3)), (1, .int x1), (5, .int x5), (6, .int x6), (7, .int x7), (8, .int x8), (9, .int x9)]) hx hb dX3_drawTiles_253 hl (by decide) rfl (fun ls hl => ?_)
  refine lv_iload hx hb dX3_drawTiles_255 (lv_at hl 0 rfl) ?_
  refine lv_if_le (tgt := 275) hx hb dX3_drawTiles_257 (by decide) (fun q => ?_) (fun q => ?_)
  · replace hf := zif_t q hf
    exact bX3_drawTiles_275 hC hk143 hI (lv_sub hl [2, 3, 4, 5, 6, 7, 8, 0] rfl) hf
  replace hf := zif_f q hf
  refine lv_aload_n hx hb dX3_drawTiles_260 rfl (lv_at hl 2 rfl) ?_
  refine z_get hC hI hinX3_drawTiles_X30 3 (wC_e3 ad cy σ3) rfl 8 (by decide) (List.mem_cons_of_mem _ zw36_7) rfl dX3_drawTiles_261 ?_
  refine lv_sipush (v := 4096) hx hb dX3_drawTiles_264 (by decide) ?_
  refine lv_iand hx hb dX3_drawTiles_267 ?_
  refine lv_if_eq (tgt := 275) hx hb dX3_drawTiles_268 (by decide) (fun q => ?_) (fun q => ?_)
  · replace hf := zif_t q hf
    exact bX3_drawTiles_275 hC hk143 hI (lv_sub hl [2, 3, 4, 5, 6, 7, 8, 0] rfl) hf
  replace hf := zif_f q hf
  refine lv_iconst (v := 1) hx hb dX3_drawTiles_271 (by decide) ?_
  refine lv_goto (tgt := 276) hx hb dX3_drawTiles_272 (by decide) ?_
  exact bX3_drawTiles_276 hC hk143 hI (lv_sub hl [2, 3, 4, 5, 6, 7, 8, 0] rfl) hf
set_option maxRecDepth 20000 in
set_option maxHeartbeats 4000000 in
theorem bX3_drawTiles_215 {st : Nat → Nat} {p : Program} {l : Launch} {e : Env} {s : State} {m : MethodId} {args : Array Value} {below : List Frame} {meth : Method} {c : Code} {D : va_G} {A : Nat → Prop} {ad : Nat → Nat} {cy : Nat → ClassId} (hC : zC p m c cX3_drawTiles 14 s args wzX3_drawTiles RX3 meth none) {k143 : zSt → Int32 → Int32 → Int32 → Int32 → Int32 → Int32 → Option (zSt)} {res : zSt} (hk143 : ∀ (H : Heap) (locs : List Loc) (σ : zSt) (ls : Array Slot) (x1 : Int32) (x5 : Int32) (x6 : Int32) (x7 : Int32) (x8 : Int32) (x9 : Int32), zI st D (tC cy) (wC ad cy σ) A s H locs → lv_has ls 14 [(0, .ref (ad 3)), (1, .int x1), (5, .int x5), (6, .int x6), (7, .int x7), (8, .int x8), (9, .int x9)] → k143 σ x1 x5 x6 x7 x8 x9 = some res → W p l e rmX3_drawTiles s m args below meth c H locs 0 0 (zQu below args s D (tC cy) (wC ad cy) A res) (F0 m 143 ls [])) {H : Heap} {locs : List Loc} {σ : zSt} {ls : Array Slot} {x1 : Int32} {x5 : Int32} {x6 : Int32} {x7 : Int32} {x8 : Int32} {x9 : Int32} {x10 : Int32} (hI : zI st D (tC cy) (wC ad cy σ) A s H locs) (hl : lv_has ls 14 [(0, .ref (ad 3)), (1, .int x1), (5, .int x5), (6, .int x6), (7, .int x7), (8, .int x8), (9, .int x9), (10, .int x10)]) (hf : fX3_drawTiles_215 k143 σ x1 x5 x6 x7 x8 x9 x10 = some res) : W p l e rmX3_drawTiles s m args below meth c H locs 0 0 (zQu below args s D (tC cy) (wC ad cy) A res) (F0 m 215 ls []) := by
  have hx := hC.1
  have hb := hC.2.1
  unfold fX3_drawTiles_215 at hf
  refine lv_aload_n hx hb dX3_drawTiles_215 rfl (lv_at hl 0 rfl) ?_
  refine z_get hC hI hinX3_drawTiles_X30 3 (wC_e3 ad cy σ) rfl 8 (by decide) (List.mem_cons_of_mem _ zw36_7) rfl dX3_drawTiles_216 ?_
  refine lv_sipush (v := 512) hx hb dX3_drawTiles_219 (by decide) ?_
  refine lv_iand hx hb dX3_drawTiles_222 ?_
  refine lv_if_eq (tgt := 237) hx hb dX3_drawTiles_223 (by decide) (fun q => ?_) (fun q => ?_)
  · replace hf := zif_t q hf
    refine lv_iload hx hb dX3_drawTiles_237 (lv_at hl 7 rfl) ?_
    refine lv_bipush (v := 7) hx hb dX3_drawTiles_239 (by decide) ?_
    refine lv_iand hx hb dX3_drawTiles_241 ?_
    exact bX3_drawTiles_242 hC hk143 hI (lv_sub hl [0, 1, 2, 3, 4, 5, 6] rfl) hf
  replace hf := zif_f q hf
  refine lv_bipush (v := 7) hx hb dX3_drawTiles_226 (by decide) ?_
  refine lv_iload hx hb dX3_drawTiles_228 (lv_at hl 7 rfl) ?_
  refine lv_bipush (v := 7) hx hb dX3_drawTiles_230 (by decide) ?_
  refine lv_iand hx hb dX3_drawTiles_232 ?_
  refine lv_isub hx hb dX3_drawTiles_233 ?_
  refine lv_goto (tgt := 242) hx hb dX3_drawTiles_234 (by decide) ?_
  exact bX3_drawTiles_242 hC hk143 hI (lv_sub hl [0, 1, 2, 3, 4, 5, 6] rfl) hf
set_option maxRecDepth 20000 in
set_option maxHeartbeats 4000000 in
theorem bX3_drawTiles_212 {st : Nat → Nat} {p : Program} {l : Launch} {e : Env} {s : State} {m : MethodId} {args : Array Value} {below : List Frame} {meth : Method} {c : Code} {D : va_G} {A : Nat → Prop} {ad : Nat → Nat} {cy : Nat → ClassId} (hC : zC p m c cX3_drawTiles 14 s args wzX3_drawTiles RX3 meth none) {k143 : zSt → Int32 → Int32 → Int32 → Int32 → Int32 → Int32 → Option (zSt)} {res : zSt} (hk143 : ∀ (H : Heap) (locs : List Loc) (σ : zSt) (ls : Array Slot) (x1 : Int32) (x5 : Int32) (x6 : Int32) (x7 : Int32) (x8 : Int32) (x9 : Int32), zI st D (tC cy) (wC ad cy σ) A s H locs → lv_has ls 14 [(0, .ref (ad 3)), (1, .int x1), (5, .int x5), (6, .int x6), (7, .int x7), (8, .int x8), (9, .int x9)] → k143 σ x1 x5 x6 x7 x8 x9 = some res → W p l e rmX3_drawTiles s m args below meth c H locs 0 0 (zQu below args s D (tC cy) (wC ad cy) A res) (F0 m 143 ls [])) {H : Heap} {locs : List Loc} {σ : zSt} {ls : Array Slot} {x1 : Int32} {x5 : Int32} {x6 : Int32} {x7 : Int32} {x8 : Int32} {x9 : Int32} {x10 : Int32} {s0 : Int32} {s1 : Int32} (hI : zI st D (tC cy) (wC ad cy σ) A s H locs) (hl : lv_has ls 14 [(0, .ref (ad 3)), (1, .int x1), (5, .int x5), (6, .int x6), (7, .int x7), (8, .int x8), (9, .int x9), (10, .int x10)]) (hf : fX3_drawTiles_212 k143 σ x1 x5 x6 x7 x8 x9 x10 s0 s1 = some res) : W p l e rmX3_drawTiles s m args below meth c H locs 0 0 (zQu below args s D (tC cy) (wC ad cy) A res) (F0 m 212 ls [.int s0, .int s1, .ref (ad 3)]) := by
  have hx := hC.1
  have hb := hC.2.1
  unfold fX3_drawTiles_212 at hf
  obtain ⟨σ5, g5, hf⟩ := zbu_use hf
  refine z_callVu (As := [.int s1, .int s0]) (rest := []) hC hI (cX3_takeTile_met st l D ad cy σ s1 s0 _ g5) (zgV zw36_10 zw36_11 zw36_12 zw2_5 zw36_13) rfl ⟨rfl, rfl⟩ 2 hdX3_takeTile ⟨Nat.le_of_ble_eq_true rfl, Nat.le_of_ble_eq_true rfl⟩ rfl rfl (wC_e3 ad cy σ) rfl hl rfl (Nat.le_of_ble_eq_true rfl) dX3_drawTiles_212 ⟨Nat.zero_le _, Nat.zero_le _⟩ (fun H locs hI => ?_)
  exact bX3_drawTiles_215 hC hk143 hI hl hf
set_option maxRecDepth 20000 in
set_option maxHeartbeats 4000000 in
theorem bX3_drawTiles_210 {st : Nat → Nat} {p : Program} {l : Launch} {e : Env} {s : State} {m : MethodId} {args : Array Value} {below : List Frame} {meth : Method} {c : Code} {D : va_G} {A : Nat → Prop} {ad : Nat → Nat} {cy : Nat → ClassId} (hC : zC p m c cX3_drawTiles 14 s args wzX3_drawTiles RX3 meth none) {k143 : zSt → Int32 → Int32 → Int32 → Int32 → Int32 → Int32 → Option (zSt)} {res : zSt} (hk143 : ∀ (H : Heap) (locs : List Loc) (σ : zSt) (ls : Array Slot) (x1 : Int32) (x5 : Int32) (x6 : Int32) (x7 : Int32) (x8 : Int32) (x9 : Int32), zI st D (tC cy) (wC ad cy σ) A s H locs → lv_has ls 14 [(0, .ref (ad 3)), (1, .int x1), (5, .int x5), (6, .int x6), (7, .int x7), (8, .int x8), (9, .int x9)] → k143 σ x1 x5 x6 x7 x8 x9 = some res → W p l e rmX3_drawTiles s m args below meth c H locs 0 0 (zQu below args s D (tC cy) (wC ad cy) A res) (F0 m 143 ls [])) {H : Heap} {locs : List Loc} {σ : zSt} {ls : Array Slot} {x1 : Int32} {x5 : Int32} {x6 : Int32} {x7 : Int32} {x8 : Int32} {x9 : Int32} {x10 : Int32} {s0 : Int32} (hI : zI st D (tC cy) (wC ad cy σ) A s H locs) (hl : lv_has ls 14 [(0, .ref (ad 3)), (1, .int x1), (5, .int x5), (6, .int x6), (7, .int x7), (8, .int x8), (9, .int x9), (10, .int x10)]) (hf : fX3_drawTiles_210 k143 σ x1 x5 x6 x7 x8 x9 x10 s0 = some res) : W p l e rmX3_drawTiles s m args below meth c H locs 0 0 (zQu below args s D (tC cy) (wC ad cy) A res) (F0 m 210 ls [.int s0, .ref (ad 3)]) := by
  have hx := hC.1
  have hb := hC.2.1
  unfold fX3_drawTiles_210 at hf
  refine lv_iload hx hb dX3_drawTiles_210 (lv_at hl 4 rfl) ?_
  exact bX3_drawTiles_212 hC hk143 hI hl hf
set_option maxRecDepth 20000 in
set_option maxHeartbeats 4000000 in
theorem bX3_drawTiles_183 {st : Nat → Nat} {p : Program} {l : Launch} {e : Env} {s : State} {m : MethodId} {args : Array Value} {below : List Frame} {meth : Method} {c : Code} {D : va_G} {A : Nat → Prop} {ad : Nat → Nat} {cy : Nat → ClassId} (hC : zC p m c cX3_drawTiles 14 s args wzX3_drawTiles RX3 meth none) {k143 : zSt → Int32 → Int32 → Int32 → Int32 → Int32 → Int32 → Option (zSt)} {res : zSt} (hk143 : ∀ (H : Heap) (locs : List Loc) (σ : zSt) (ls : Array Slot) (x1 : Int32) (x5 : Int32) (x6 : Int32) (x7 : Int32) (x8 : Int32) (x9 : Int32), zI st D (tC cy) (wC ad cy σ) A s H locs → lv_has ls 14 [(0, .ref (ad 3)), (1, .int x1), (5, .int x5), (6, .int x6), (7, .int x7), (8, .int x8), (9, .int x9)] → k143 σ x1 x5 x6 x7 x8 x9 = some res → W p l e rmX3_drawTiles s m args below meth c H locs 0 0 (zQu below args s D (tC cy) (wC ad cy) A res) (F0 m 143 ls [])) {H : Heap} {locs : List Loc} {σ : zSt} {ls : Array Slot} {x1 : Int32} {x5 : Int32} {x6 : Int32} {x7 : Int32} {x8 : Int32} {x9 : Int32} {x10 : Int32} (hI : zI st D (tC cy) (wC ad cy σ) A s H locs) (hl : lv_has ls 14 [(0, .ref (ad 3)), (1, .int x1), (5, .int x5), (6, .int x6), (7, .int x7), (8, .int x8), (9, .int x9), (10, .int x10)]) (hf : fX3_drawTiles_183 k143 σ x1 x5 x6 x7 x8 x9 x10 = some res) : W p l e rmX3_drawTiles s m args below meth c H locs 0 0 (zQu below args s D (tC cy) (wC ad cy) A res) (F0 m 183 ls []) := by
  have hx := hC.1
  have hb := hC.2.1
  unfold fX3_drawTiles_183 at hf
  refine lv_aload_n hx hb dX3_drawTiles_183 rfl (lv_at hl 0 rfl) ?_
  refine lv_iload hx hb dX3_drawTiles_184 (lv_at hl 2 rfl) ?_
  refine lv_iconst (v := 2) hx hb dX3_drawTiles_186 (by decide) ?_
  refine lv_iload hx hb dX3_drawTiles_187 (lv_at hl 7 rfl) ?_
  refine lv_iconst (v := 3) hx hb dX3_drawTiles_189 (by decide) ?_
  refine lv_ishr hx hb dX3_drawTiles_190 ?_
  refine lv_imul hx hb dX3_drawTiles_191 ?_
  refine lv_iadd hx hb dX3_drawTiles_192 ?_
  refine lv_iload hx hb dX3_drawTiles_193 (lv_at hl 5 rfl) ?_
  refine lv_if_eq (tgt := 210) hx hb dX3_drawTiles_195 (by decide) (fun q => ?_) (fun q => ?_)
  · replace hf := zif_t q hf
    exact bX3_drawTiles_210 hC hk143 hI hl hf
  replace hf := zif_f q hf
  refine lv_iload hx hb dX3_drawTiles_198 (lv_at hl 6 rfl) ?_
  refine lv_sipush (v := 192) hx hb dX3_drawTiles_200 (by decide) ?_
  refine lv_icmp_lt (tgt := 210) hx hb dX3_drawTiles_203 (by decide) (fun q => ?_) (fun q => ?_)
  · replace hf := zif_t q hf
    exact bX3_drawTiles_210 hC hk143 hI hl hf
  replace hf := zif_f q hf
  refine lv_iload_n hx hb dX3_drawTiles_206 rfl (lv_at hl 1 rfl) ?_
  refine lv_goto (tgt := 212) hx hb dX3_drawTiles_207 (by decide) ?_
  exact bX3_drawTiles_212 hC hk143 hI hl hf
set_option maxRecDepth 20000 in
set_option maxHeartbeats 4000000 in
theorem bX3_drawTiles_143_body {st : Nat → Nat} {p : Program} {l : Launch} {e : Env} {s : State} {m : MethodId} {args : Array Value} {below : List Frame} {meth : Method} {c : Code} {D : va_G} {A : Nat → Prop} {ad : Nat → Nat} {cy : Nat → ClassId} (hC : zC p m c cX3_drawTiles 14 s args wzX3_drawTiles RX3 meth none) {k143 : zSt → Int32 → Int32 → Int32 → Int32 → Int32 → Int32 → Option (zSt)} {res : zSt} (hk143 : ∀ (H : Heap) (locs : List Loc) (σ : zSt) (ls : Array Slot) (x1 : Int32) (x5 : Int32) (x6 : Int32) (x7 : Int32) (x8 : Int32) (x9 : Int32), zI st D (tC cy) (wC ad cy σ) A s H locs → lv_has ls 14 [(0, .ref (ad 3)), (1, .int x1), (5, .int x5), (6, .int x6), (7, .int x7), (8, .int x8), (9, .int x9)] → k143 σ x1 x5 x6 x7 x8 x9 = some res → W p l e rmX3_drawTiles s m args below meth c H locs 0 0 (zQu below args s D (tC cy) (wC ad cy) A res) (F0 m 143 ls [])) {H : Heap} {locs : List Loc} {σ : zSt} {ls : Array Slot} {x1 : Int32} {x5 : Int32} {x6 : Int32} {x7 : Int32} {x8 : Int32} {x9 : Int32} (hI : zI st D (tC cy) (wC ad cy σ) A s H locs) (hl : lv_has ls 14 [(0, .ref (ad 3)), (1, .int x1), (5, .int x5), (6, .int x6), (7, .int x7), (8, .int x8), (9, .int x9)]) (hf : fX3_drawTiles_143_body k143 σ x1 x5 x6 x7 x8 x9 = some res) : W p l e rmX3_drawTiles s m args below meth c H locs 0 0 (zQu below args s D (tC cy) (wC ad cy) A res) (F0 m 143 ls []) := by
  have hx := hC.1
  have hb := hC.2.1
  unfold fX3_drawTiles_143_body at hf
  refine lv_iload hx hb dX3_drawTiles_143 (lv_at hl 6 rfl) ?_
  refine lv_sipush (v := 256) hx hb dX3_drawTiles_145 (by decide) ?_
  refine lv_icmp_ge (tgt := 324) hx hb dX3_drawTiles_148 (by decide) (fun q => ?_) (fun q => ?_)
  · replace hf := zif_t q hf
    exact z_return hC hI hf dX3_drawTiles_324
  replace hf := zif_f q hf
  refine lv_iload hx hb dX3_drawTiles_151 (lv_at hl 6 rfl) ?_
  refine lv_iload hx hb dX3_drawTiles_153 (lv_at hl 3 rfl) ?_
  refine lv_isub hx hb dX3_drawTiles_155 ?_
  refine lv_sipush (v := 255) hx hb dX3_drawTiles_156 (by decide) ?_
  refine lv_iand hx hb dX3_drawTiles_159 ?_
  refine lv_topi (fun v6 ev6 => ?_)
  replace hf := zbv_use ev6 hf
  refine lv_istore (lv' := [(10, .int v6), (0, .ref (ad 3)), (1, .int x1), (5, .int x5), (6, .int x6), (7, .int x7), (8, .int x8), (9, .int x9)]) hx hb dX3_drawTiles_160 hl (by decide) rfl (fun ls hl => ?_)
  refine lv_iload hx hb dX3_drawTiles_162 (lv_at hl 7 rfl) ?_
  refine lv_if_eq (tgt := 183) hx hb dX3_drawTiles_164 (by decide) (fun q => ?_) (fun q => ?_)
  · replace hf := zif_t q hf
    exact bX3_drawTiles_183 hC hk143 hI (lv_sub hl [1, 2, 3, 4, 5, 6, 7, 0] rfl) hf
  replace hf := zif_f q hf
  refine lv_iload hx hb dX3_drawTiles_167 (lv_at hl 7 rfl) ?_
  refine lv_sipush (v := 192) hx hb dX3_drawTiles_169 (by decide) ?_
  refine lv_icmp_eq (tgt := 183) hx hb dX3_drawTiles_172 (by decide) (fun q => ?_) (fun q => ?_)
  · replace hf := zif_t q hf
    exact bX3_drawTiles_183 hC hk143 hI (lv_sub hl [1, 2, 3, 4, 5, 6, 7, 0] rfl) hf
  replace hf := zif_f q hf
  refine lv_iload hx hb dX3_drawTiles_175 (lv_at hl 0 rfl) ?_
  refine lv_bipush (v := 7) hx hb dX3_drawTiles_177 (by decide) ?_
  refine lv_iand hx hb dX3_drawTiles_179 ?_
  refine lv_if_ne (tgt := 215) hx hb dX3_drawTiles_180 (by decide) (fun q => ?_) (fun q => ?_)
  · replace hf := zif_f q hf
    exact bX3_drawTiles_215 hC hk143 hI (lv_sub hl [1, 2, 3, 4, 5, 6, 7, 0] rfl) hf
  replace hf := zif_t q hf
  exact bX3_drawTiles_183 hC hk143 hI (lv_sub hl [1, 2, 3, 4, 5, 6, 7, 0] rfl) hf
theorem blX3_drawTiles_143 {st : Nat → Nat} {p : Program} {l : Launch} {e : Env} {s : State} {m : MethodId} {args : Array Value} {below : List Frame} {meth : Method} {c : Code} {D : va_G} {A : Nat → Prop} {ad : Nat → Nat} {cy : Nat → ClassId} (hC : zC p m c cX3_drawTiles 14 s args wzX3_drawTiles RX3 meth none)  {res : zSt} : ∀ (n : Nat) (H : Heap) (locs : List Loc) (σ : zSt) (ls : Array Slot) (x1 : Int32) (x5 : Int32) (x6 : Int32) (x7 : Int32) (x8 : Int32) (x9 : Int32), zI st D (tC cy) (wC ad cy σ) A s H locs → lv_has ls 14 [(0, .ref (ad 3)), (1, .int x1), (5, .int x5), (6, .int x6), (7, .int x7), (8, .int x8), (9, .int x9)] → fX3_drawTiles_143  n σ x1 x5 x6 x7 x8 x9 = some res → W p l e rmX3_drawTiles s m args below meth c H locs 0 0 (zQu below args s D (tC cy) (wC ad cy) A res) (F0 m 143 ls []) := by
  intro n
  induction n with
  | zero => intro H locs σ ls x1 x5 x6 x7 x8 x9 hI hl hf; cases hf
  | succ n ih => intro H locs σ ls x1 x5 x6 x7 x8 x9 hI hl hf; exact bX3_drawTiles_143_body hC ih hI hl hf
set_option maxRecDepth 20000 in
set_option maxHeartbeats 4000000 in
theorem bX3_drawTiles_138 {st : Nat → Nat} {p : Program} {l : Launch} {e : Env} {s : State} {m : MethodId} {args : Array Value} {below : List Frame} {meth : Method} {c : Code} {D : va_G} {A : Nat → Prop} {ad : Nat → Nat} {cy : Nat → ClassId} (hC : zC p m c cX3_drawTiles 14 s args wzX3_drawTiles RX3 meth none)  {res : zSt} {H : Heap} {locs : List Loc} {σ : zSt} {ls : Array Slot} {x1 : Int32} {x5 : Int32} {x6 : Int32} {x7 : Int32} {s0 : Int32} (hI : zI st D (tC cy) (wC ad cy σ) A s H locs) (hl : lv_has ls 14 [(0, .ref (ad 3)), (1, .int x1), (5, .int x5), (6, .int x6), (7, .int x7)]) (hf : fX3_drawTiles_138  σ x1 x5 x6 x7 s0 = some res) : W p l e rmX3_drawTiles s m args below meth c H locs 0 0 (zQu below args s D (tC cy) (wC ad cy) A res) (F0 m 138 ls [.int s0]) := by
  have hx := hC.1
  have hb := hC.2.1
  unfold fX3_drawTiles_138 at hf
  refine lv_istore (lv' := [(8, .int s0), (0, .ref (ad 3)), (1, .int x1), (5, .int x5), (6, .int x6), (7, .int x7)]) hx hb dX3_drawTiles_138 hl (by decide) rfl (fun ls hl => ?_)
  refine lv_iconst (v := 0) hx hb dX3_drawTiles_140 (by decide) ?_
  refine lv_istore (lv' := [(9, .int 0), (8, .int s0), (0, .ref (ad 3)), (1, .int x1), (5, .int x5), (6, .int x6), (7, .int x7)]) hx hb dX3_drawTiles_141 hl (by decide) rfl (fun ls hl => ?_)
  exact blX3_drawTiles_143 hC  zfuel _ _ _ _ _ _ _ _ _ _ hI (lv_sub hl [2, 3, 4, 5, 6, 1, 0] rfl) hf
set_option maxRecDepth 20000 in
set_option maxHeartbeats 4000000 in
theorem bX3_drawTiles_122 {st : Nat → Nat} {p : Program} {l : Launch} {e : Env} {s : State} {m : MethodId} {args : Array Value} {below : List Frame} {meth : Method} {c : Code} {D : va_G} {A : Nat → Prop} {ad : Nat → Nat} {cy : Nat → ClassId} (hC : zC p m c cX3_drawTiles 14 s args wzX3_drawTiles RX3 meth none)  {res : zSt} {H : Heap} {locs : List Loc} {σ : zSt} {ls : Array Slot} {x1 : Int32} {x3 : Int32} {x5 : Int32} {x6 : Int32} {s0 : Int32} {s1 : Int32} (hI : zI st D (tC cy) (wC ad cy σ) A s H locs) (hl : lv_has ls 14 [(0, .ref (ad 3)), (1, .int x1), (3, .int x3), (5, .int x5), (6, .int x6)]) (hf : fX3_drawTiles_122  σ x1 x3 x5 x6 s0 s1 = some res) : W p l e rmX3_drawTiles s m args below meth c H locs 0 0 (zQu below args s D (tC cy) (wC ad cy) A res) (F0 m 122 ls [.int s0, .int s1]) := by
  have hx := hC.1
  have hb := hC.2.1
  unfold fX3_drawTiles_122 at hf
  obtain ⟨q, hf⟩ := zck_use hf
  refine z_irem hx hb dX3_drawTiles_122 (of_decide_eq_true q) ?_
  refine lv_topi (fun v7 ev7 => ?_)
  replace hf := zbv_use ev7 hf
  refine lv_istore (lv' := [(7, .int v7), (0, .ref (ad 3)), (1, .int x1), (3, .int x3), (5, .int x5), (6, .int x6)]) hx hb dX3_drawTiles_123 hl (by decide) rfl (fun ls hl => ?_)
  refine lv_iload_n hx hb dX3_drawTiles_125 rfl (lv_at hl 3 rfl) ?_
  refine lv_sipush (v := 128) hx hb dX3_drawTiles_126 (by decide) ?_
  refine lv_iand hx hb dX3_drawTiles_129 ?_
  refine lv_if_eq (tgt := 137) hx hb dX3_drawTiles_130 (by decide) (fun q => ?_) (fun q => ?_)
  · replace hf := zif_t q hf
    refine lv_iconst (v := 0) hx hb dX3_drawTiles_137 (by decide) ?_
    exact bX3_drawTiles_138 hC  hI (lv_sub hl [1, 2, 4, 5, 0] rfl) hf
  replace hf := zif_f q hf
  refine lv_iconst (v := 1) hx hb dX3_drawTiles_133 (by decide) ?_
  refine lv_goto (tgt := 138) hx hb dX3_drawTiles_134 (by decide) ?_
  exact bX3_drawTiles_138 hC  hI (lv_sub hl [1, 2, 4, 5, 0] rfl) hf
set_option maxRecDepth 20000 in
set_option maxHeartbeats 4000000 in
theorem bX3_drawTiles_96 {st : Nat → Nat} {p : Program} {l : Launch} {e : Env} {s : State} {m : MethodId} {args : Array Value} {below : List Frame} {meth : Method} {c : Code} {D : va_G} {A : Nat → Prop} {ad : Nat → Nat} {cy : Nat → ClassId} (hC : zC p m c cX3_drawTiles 14 s args wzX3_drawTiles RX3 meth none)  {res : zSt} {H : Heap} {locs : List Loc} {σ : zSt} {ls : Array Slot} {x1 : Int32} {x2 : Int32} {x3 : Int32} {x5 : Int32} {s0 : Int32} (hI : zI st D (tC cy) (wC ad cy σ) A s H locs) (hl : lv_has ls 14 [(0, .ref (ad 3)), (1, .int x1), (2, .int x2), (3, .int x3), (5, .int x5)]) (hf : fX3_drawTiles_96  σ x1 x2 x3 x5 s0 = some res) : W p l e rmX3_drawTiles s m args below meth c H locs 0 0 (zQu below args s D (tC cy) (wC ad cy) A res) (F0 m 96 ls [.int s0]) := by
  have hx := hC.1
  have hb := hC.2.1
  unfold fX3_drawTiles_96 at hf
  refine lv_istore (lv' := [(6, .int s0), (0, .ref (ad 3)), (1, .int x1), (2, .int x2), (3, .int x3), (5, .int x5)]) hx hb dX3_drawTiles_96 hl (by decide) rfl (fun ls hl => ?_)
  refine lv_iload_n hx hb dX3_drawTiles_98 rfl (lv_at hl 2 rfl) ?_
  refine lv_aload_n hx hb dX3_drawTiles_99 rfl (lv_at hl 1 rfl) ?_
  refine z_get hC hI hinX3_drawTiles_X30 3 (wC_e3 ad cy σ) rfl 0 (by decide) (List.mem_cons_of_mem _ zw4_22) rfl dX3_drawTiles_100 ?_
  refine lv_bipush (v := 19) hx hb dX3_drawTiles_103 (by decide) ?_
  obtain ⟨σ8, v9, g8, hf⟩ := zbi_use hf
  refine z_callVi (As := [.int 19]) (rest := [.int x1]) hC hI (cX9_held_met st l D ad cy σ 19 _ g8) (zgV zw35_21 zw35_13 zw35_14 zw2_1 zw35_15) rfl ⟨rfl, rfl⟩ 1 hdX9_held ⟨Nat.le_of_ble_eq_true rfl, Nat.le_of_ble_eq_true rfl⟩ rfl rfl (wC_e2 ad cy σ) rfl hl rfl (Nat.le_of_ble_eq_true rfl) dX3_drawTiles_105 ⟨Nat.zero_le _, Nat.zero_le _⟩ (fun H locs hI => ?_)
  refine lv_iadd hx hb dX3_drawTiles_108 ?_
  refine lv_iload_n hx hb dX3_drawTiles_109 rfl (lv_at hl 3 rfl) ?_
  refine lv_if_eq (tgt := 119) hx hb dX3_drawTiles_110 (by decide) (fun q => ?_) (fun q => ?_)
  · replace hf := zif_t q hf
    refine lv_sipush (v := 224) hx hb dX3_drawTiles_119 (by decide) ?_
    exact bX3_drawTiles_122 hC  hI (lv_sub hl [1, 2, 4, 5, 0] rfl) hf
  replace hf := zif_f q hf
  refine lv_sipush (v := 256) hx hb dX3_drawTiles_113 (by decide) ?_
  refine lv_goto (tgt := 122) hx hb dX3_drawTiles_116 (by decide) ?_
  exact bX3_drawTiles_122 hC  hI (lv_sub hl [1, 2, 4, 5, 0] rfl) hf
set_option maxRecDepth 20000 in
set_option maxHeartbeats 4000000 in
theorem bX3_drawTiles_87 {st : Nat → Nat} {p : Program} {l : Launch} {e : Env} {s : State} {m : MethodId} {args : Array Value} {below : List Frame} {meth : Method} {c : Code} {D : va_G} {A : Nat → Prop} {ad : Nat → Nat} {cy : Nat → ClassId} (hC : zC p m c cX3_drawTiles 14 s args wzX3_drawTiles RX3 meth none)  {res : zSt} {H : Heap} {locs : List Loc} {σ : zSt} {ls : Array Slot} {x1 : Int32} {x2 : Int32} {x3 : Int32} {x5 : Int32} (hI : zI st D (tC cy) (wC ad cy σ) A s H locs) (hl : lv_has ls 14 [(0, .ref (ad 3)), (1, .int x1), (2, .int x2), (3, .int x3), (5, .int x5)]) (hf : fX3_drawTiles_87  σ x1 x2 x3 x5 = some res) : W p l e rmX3_drawTiles s m args below meth c H locs 0 0 (zQu below args s D (tC cy) (wC ad cy) A res) (F0 m 87 ls []) := by
  have hx := hC.1
  have hb := hC.2.1
  unfold fX3_drawTiles_87 at hf
  refine lv_aload_n hx hb dX3_drawTiles_87 rfl (lv_at hl 0 rfl) ?_
  refine z_get hC hI hinX3_drawTiles_X30 3 (wC_e3 ad cy σ) rfl 0 (by decide) (List.mem_cons_of_mem _ zw4_22) rfl dX3_drawTiles_88 ?_
  refine lv_bipush (v := 8) hx hb dX3_drawTiles_91 (by decide) ?_
  obtain ⟨σ10, v11, g10, hf⟩ := zbi_use hf
  refine z_callVi (As := [.int 8]) (rest := []) hC hI (cX9_held_met st l D ad cy σ 8 _ g10) (zgV zw35_21 zw35_13 zw35_14 zw2_1 zw35_15) rfl ⟨rfl, rfl⟩ 1 hdX9_held ⟨Nat.le_of_ble_eq_true rfl, Nat.le_of_ble_eq_true rfl⟩ rfl rfl (wC_e2 ad cy σ) rfl hl rfl (Nat.le_of_ble_eq_true rfl) dX3_drawTiles_93 ⟨Nat.zero_le _, Nat.zero_le _⟩ (fun H locs hI => ?_)
  exact bX3_drawTiles_96 hC  hI hl hf
set_option maxRecDepth 20000 in
set_option maxHeartbeats 4000000 in
theorem bX3_drawTiles_68 {st : Nat → Nat} {p : Program} {l : Launch} {e : Env} {s : State} {m : MethodId} {args : Array Value} {below : List Frame} {meth : Method} {c : Code} {D : va_G} {A : Nat → Prop} {ad : Nat → Nat} {cy : Nat → ClassId} (hC : zC p m c cX3_drawTiles 14 s args wzX3_drawTiles RX3 meth none)  {res : zSt} {H : Heap} {locs : List Loc} {σ : zSt} {ls : Array Slot} {x1 : Int32} {x2 : Int32} {x3 : Int32} {s0 : Int32} (hI : zI st D (tC cy) (wC ad cy σ) A s H locs) (hl : lv_has ls 14 [(0, .ref (ad 3)), (1, .int x1), (2, .int x2), (3, .int x3)]) (hf : fX3_drawTiles_68  σ x1 x2 x3 s0 = some res) : W p l e rmX3_drawTiles s m args below meth c H locs 0 0 (zQu below args s D (tC cy) (wC ad cy) A res) (F0 m 68 ls [.int s0]) := by
  have hx := hC.1
  have hb := hC.2.1
  unfold fX3_drawTiles_68 at hf
  refine lv_istore (lv' := [(5, .int s0), (0, .ref (ad 3)), (1, .int x1), (2, .int x2), (3, .int x3)]) hx hb dX3_drawTiles_68 hl (by decide) rfl (fun ls hl => ?_)
  refine lv_iload_n hx hb dX3_drawTiles_70 rfl (lv_at hl 2 rfl) ?_
  refine lv_bipush (v := 16) hx hb dX3_drawTiles_71 (by decide) ?_
  refine lv_icmp_ge (tgt := 87) hx hb dX3_drawTiles_73 (by decide) (fun q => ?_) (fun q => ?_)
  · replace hf := zif_t q hf
    exact bX3_drawTiles_87 hC  hI (lv_sub hl [1, 2, 3, 4, 0] rfl) hf
  replace hf := zif_f q hf
  refine lv_iload_n hx hb dX3_drawTiles_76 rfl (lv_at hl 4 rfl) ?_
  refine lv_bipush (v := 64) hx hb dX3_drawTiles_77 (by decide) ?_
  refine lv_iand hx hb dX3_drawTiles_79 ?_
  refine lv_if_eq (tgt := 87) hx hb dX3_drawTiles_80 (by decide) (fun q => ?_) (fun q => ?_)
  · replace hf := zif_t q hf
    exact bX3_drawTiles_87 hC  hI (lv_sub hl [1, 2, 3, 4, 0] rfl) hf
  replace hf := zif_f q hf
  refine lv_iconst (v := 0) hx hb dX3_drawTiles_83 (by decide) ?_
  refine lv_goto (tgt := 96) hx hb dX3_drawTiles_84 (by decide) ?_
  exact bX3_drawTiles_96 hC  hI (lv_sub hl [1, 2, 3, 4, 0] rfl) hf
set_option maxRecDepth 20000 in
set_option maxHeartbeats 4000000 in
theorem bX3_drawTiles_18 {st : Nat → Nat} {p : Program} {l : Launch} {e : Env} {s : State} {m : MethodId} {args : Array Value} {below : List Frame} {meth : Method} {c : Code} {D : va_G} {A : Nat → Prop} {ad : Nat → Nat} {cy : Nat → ClassId} (hC : zC p m c cX3_drawTiles 14 s args wzX3_drawTiles RX3 meth none)  {res : zSt} {H : Heap} {locs : List Loc} {σ : zSt} {ls : Array Slot} {x1 : Int32} {s0 : Int32} (hI : zI st D (tC cy) (wC ad cy σ) A s H locs) (hl : lv_has ls 14 [(0, .ref (ad 3)), (1, .int x1)]) (hf : fX3_drawTiles_18  σ x1 s0 = some res) : W p l e rmX3_drawTiles s m args below meth c H locs 0 0 (zQu below args s D (tC cy) (wC ad cy) A res) (F0 m 18 ls [.int s0]) := by
  have hx := hC.1
  have hb := hC.2.1
  unfold fX3_drawTiles_18 at hf
  refine lv_istore_n (lv' := [(2, .int s0), (0, .ref (ad 3)), (1, .int x1)]) hx hb dX3_drawTiles_18 rfl hl (by decide) rfl (fun ls hl => ?_)
  refine lv_aload_n hx hb dX3_drawTiles_19 rfl (lv_at hl 1 rfl) ?_
  refine z_get hC hI hinX3_drawTiles_X30 3 (wC_e3 ad cy σ) rfl 0 (by decide) (List.mem_cons_of_mem _ zw4_22) rfl dX3_drawTiles_20 ?_
  refine lv_iconst (v := 0) hx hb dX3_drawTiles_23 (by decide) ?_
  obtain ⟨σ12, v13, g12, hf⟩ := zbi_use hf
  refine z_callVi (As := [.int 0]) (rest := []) hC hI (cX9_held_met st l D ad cy σ 0 _ g12) (zgV zw35_21 zw35_13 zw35_14 zw2_1 zw35_15) rfl ⟨rfl, rfl⟩ 1 hdX9_held ⟨Nat.le_of_ble_eq_true rfl, Nat.le_of_ble_eq_true rfl⟩ rfl rfl (wC_e2 ad cy σ) rfl hl rfl (Nat.le_of_ble_eq_true rfl) dX3_drawTiles_24 ⟨Nat.zero_le _, Nat.zero_le _⟩ (fun H locs hI => ?_)
  refine lv_istore_n (lv' := [(3, .int v13), (2, .int s0), (0, .ref (ad 3)), (1, .int x1)]) hx hb dX3_drawTiles_27 rfl hl (by decide) rfl (fun ls hl => ?_)
  refine lv_aload_n hx hb dX3_drawTiles_28 rfl (lv_at hl 2 rfl) ?_
  refine z_get hC hI hinX3_drawTiles_X30 3 (wC_e3 ad cy σ12) rfl 0 (by decide) (List.mem_cons_of_mem _ zw4_22) rfl dX3_drawTiles_29 ?_
  refine lv_iconst (v := 2) hx hb dX3_drawTiles_32 (by decide) ?_
  obtain ⟨σ14, v15, g14, hf⟩ := zbi_use hf
  refine z_callVi (As := [.int 2]) (rest := []) hC hI (cX9_held_met st l D ad cy σ12 2 _ g14) (zgV zw35_21 zw35_13 zw35_14 zw2_1 zw35_15) rfl ⟨rfl, rfl⟩ 1 hdX9_held ⟨Nat.le_of_ble_eq_true rfl, Nat.le_of_ble_eq_true rfl⟩ rfl rfl (wC_e2 ad cy σ12) rfl hl rfl (Nat.le_of_ble_eq_true rfl) dX3_drawTiles_33 ⟨Nat.zero_le _, Nat.zero_le _⟩ (fun H locs hI => ?_)
  refine lv_istore (lv' := [(4, .int v15), (3, .int v13), (2, .int s0), (0, .ref (ad 3)), (1, .int x1)]) hx hb dX3_drawTiles_36 hl (by decide) rfl (fun ls hl => ?_)
  refine lv_iload_n hx hb dX3_drawTiles_38 rfl (lv_at hl 2 rfl) ?_
  refine lv_if_eq (tgt := 59) hx hb dX3_drawTiles_39 (by decide) (fun q => ?_) (fun q => ?_)
  · replace hf := zif_t q hf
    refine lv_sipush (v := 1024) hx hb dX3_drawTiles_59 (by decide) ?_
    refine lv_iload hx hb dX3_drawTiles_62 (lv_at hl 0 rfl) ?_
    refine lv_bipush (v := 14) hx hb dX3_drawTiles_64 (by decide) ?_
    refine lv_iand hx hb dX3_drawTiles_66 ?_
    refine lv_imul hx hb dX3_drawTiles_67 ?_
    exact bX3_drawTiles_68 hC  hI (lv_sub hl [3, 4, 2, 1] rfl) hf
  replace hf := zif_f q hf
  refine lv_sipush (v := 4096) hx hb dX3_drawTiles_42 (by decide) ?_
  refine lv_iload hx hb dX3_drawTiles_45 (lv_at hl 0 rfl) ?_
  refine lv_iconst (v := 2) hx hb dX3_drawTiles_47 (by decide) ?_
  refine lv_ishr hx hb dX3_drawTiles_48 ?_
  refine lv_iconst (v := 3) hx hb dX3_drawTiles_49 (by decide) ?_
  refine lv_iand hx hb dX3_drawTiles_50 ?_
  refine lv_imul hx hb dX3_drawTiles_51 ?_
  refine lv_sipush (v := 1792) hx hb dX3_drawTiles_52 (by decide) ?_
  refine lv_iadd hx hb dX3_drawTiles_55 ?_
  refine lv_goto (tgt := 68) hx hb dX3_drawTiles_56 (by decide) ?_
  exact bX3_drawTiles_68 hC  hI (lv_sub hl [3, 4, 2, 1] rfl) hf
set_option maxRecDepth 20000 in
set_option maxHeartbeats 4000000 in
theorem bX3_drawTiles {st : Nat → Nat} {p : Program} {l : Launch} {e : Env} {s : State} {m : MethodId} {args : Array Value} {below : List Frame} {meth : Method} {c : Code} {D : va_G} {A : Nat → Prop} {ad : Nat → Nat} {cy : Nat → ClassId} (hC : zC p m c cX3_drawTiles 14 s args wzX3_drawTiles RX3 meth none)  {res : zSt} {H : Heap} {locs : List Loc} {σ : zSt} {ls : Array Slot} {x1 : Int32} (hI : zI st D (tC cy) (wC ad cy σ) A s H locs) (hl : lv_has ls 14 [(0, .ref (ad 3)), (1, .int x1)]) (hf : fX3_drawTiles  σ x1 = some res) : W p l e rmX3_drawTiles s m args below meth c H locs 0 0 (zQu below args s D (tC cy) (wC ad cy) A res) (F0 m 0 ls []) := by
  have hx := hC.1
  have hb := hC.2.1
  unfold fX3_drawTiles at hf
  refine lv_aload_n hx hb dX3_drawTiles_0 rfl (lv_at hl 0 rfl) ?_
  refine z_get hC hI hinX3_drawTiles_X30 3 (wC_e3 ad cy σ) rfl 0 (by decide) (List.mem_cons_of_mem _ zw4_22) rfl dX3_drawTiles_1 ?_
  obtain ⟨σ16, v17, g16, hf⟩ := zbi_use hf
  refine z_callVi (As := []) (rest := []) hC hI (cX9_height_met st l D ad cy σ  _ g16) (zgV zw36_9 zw25_17 zw25_18 zw2_1 zw25_19) rfl ⟨rfl, rfl⟩ 0 hdX9_height ⟨Nat.le_of_ble_eq_true rfl, Nat.le_of_ble_eq_true rfl⟩ rfl rfl (wC_e2 ad cy σ) rfl hl rfl (Nat.le_of_ble_eq_true rfl) dX3_drawTiles_4 ⟨Nat.zero_le _, Nat.zero_le _⟩ (fun H locs hI => ?_)
  refine lv_sipush (v := 192) hx hb dX3_drawTiles_7 (by decide) ?_
  refine lv_icmp_eq (tgt := 17) hx hb dX3_drawTiles_10 (by decide) (fun q => ?_) (fun q => ?_)
  · replace hf := zif_t q hf
    refine lv_iconst (v := 0) hx hb dX3_drawTiles_17 (by decide) ?_
    exact bX3_drawTiles_18 hC  hI hl hf
  replace hf := zif_f q hf
  refine lv_iconst (v := 1) hx hb dX3_drawTiles_13 (by decide) ?_
  refine lv_goto (tgt := 18) hx hb dX3_drawTiles_14 (by decide) ?_
  exact bX3_drawTiles_18 hC  hI hl hf
set_option maxRecDepth 20000 in
theorem cX3_drawTiles_met (st : Nat → Nat) (l : Launch) (D : va_G) (ad : Nat → Nat) (cy : Nat → ClassId) (σ : zSt) (x1 : Int32) (res : zSt) (hf : fX3_drawTiles σ x1 = some res) (sz : Nat) : zMu st l yX3_drawTiles wzX3_drawTiles rmX3_drawTiles [.ref (ad 3), .int x1] D (tC cy) (wC ad cy) sz σ res :=
  zMu.of (cc := cX3_drawTiles) (maxL := 14) (ret := none) (by decide) rfl (Nat.le_of_ble_eq_true rfl) (fun p e s m args below meth c hC A hI ls hl => bX3_drawTiles hC hI hl hf)
theorem hdX3_drawTiles : yX3_drawTiles.cls = RX3 ∧ yX3_drawTiles.cls ≠ "java/lang/invoke/MethodHandle" ∧ yX3_drawTiles.cls ≠ "java/lang/invoke/VarHandle" ∧ (parseMethodDescriptor yX3_drawTiles.desc).map (fun d => d.parameters.length) = some 1 := by decide +kernel
noncomputable def rmJ7_fill_53178_k28 : Room := { frames := 0, cells := 0, slots := 0, locals := 0 }
noncomputable def fJ7_fill_53178_k28_5_body (k5 : zSt → Int32 → Int32 → Int32 → Option (zSt)) (σ : zSt) (x1 : Int32) (x2 : Int32) (x3 : Int32) : Option (zSt) :=
  if x3 ≤ x2 then some σ else
  zck (zin x2 256) (zbv (zsi σ 28 (x2.toNatClampNeg) x1) (fun σ1 =>
  zbv (x2 + 1) (fun v2 =>
  k5 σ1 x1 v2 x3)))
noncomputable def fJ7_fill_53178_k28_5  : Nat → zSt → Int32 → Int32 → Int32 → Option (zSt)
  | 0, _, _, _, _ => none
  | n + 1, σ, x1, x2, x3 => fJ7_fill_53178_k28_5_body (fJ7_fill_53178_k28_5  n) σ x1 x2 x3
noncomputable def fJ7_fill_53178_k28  (σ : zSt) (x1 : Int32) : Option (zSt) :=
  fJ7_fill_53178_k28_5 zfuel σ x1 0 256
set_option maxRecDepth 20000 in
set_option maxHeartbeats 4000000 in
theorem bJ7_fill_53178_k28_5_body {st : Nat → Nat} {p : Program} {l : Launch} {e : Env} {s : State} {m : MethodId} {args : Array Value} {below : List Frame} {meth : Method} {c : Code} {D : va_G} {A : Nat → Prop} {ad : Nat → Nat} {cy : Nat → ClassId} (hC : zC p m c cJ7_fill_53178 4 s args wzJ7_fill_53178 RJ7 meth none) {k5 : zSt → Int32 → Int32 → Int32 → Option (zSt)} {res : zSt} (hk5 : ∀ (H : Heap) (locs : List Loc) (σ : zSt) (ls : Array Slot) (x1 : Int32) (x2 : Int32) (x3 : Int32), zI st D (tC cy) (wC ad cy σ) A s H locs → lv_has ls 4 [(0, .ref (ad 28)), (1, .int x1), (2, .int x2), (3, .int x3)] → k5 σ x1 x2 x3 = some res → W p l e rmJ7_fill_53178_k28 s m args below meth c H locs 0 0 (zQu below args s D (tC cy) (wC ad cy) A res) (F0 m 5 ls [])) {H : Heap} {locs : List Loc} {σ : zSt} {ls : Array Slot} {x1 : Int32} {x2 : Int32} {x3 : Int32} (hI : zI st D (tC cy) (wC ad cy σ) A s H locs) (hl : lv_has ls 4 [(0, .ref (ad 28)), (1, .int x1), (2, .int x2), (3, .int x3)]) (hf : fJ7_fill_53178_k28_5_body k5 σ x1 x2 x3 = some res) : W p l e rmJ7_fill_53178_k28 s m args below meth c H locs 0 0 (zQu below args s D (tC cy) (wC ad cy) A res) (F0 m 5 ls []) := by
  have hx := hC.1
  have hb := hC.2.1
  unfold fJ7_fill_53178_k28_5_body at hf
  refine lv_iload_n hx hb dJ7_fill_53178_5 rfl (lv_at hl 2 rfl) ?_
  refine lv_iload_n hx hb dJ7_fill_53178_6 rfl (lv_at hl 3 rfl) ?_
  refine lv_icmp_ge (tgt := 20) hx hb dJ7_fill_53178_7 (by decide) (fun q => ?_) (fun q => ?_)
  · replace hf := zif_t q hf
    exact z_return hC hI hf dJ7_fill_53178_20
  replace hf := zif_f q hf
  refine lv_aload_n hx hb dJ7_fill_53178_10 rfl (lv_at hl 0 rfl) ?_
  refine lv_iload_n hx hb dJ7_fill_53178_11 rfl (lv_at hl 2 rfl) ?_
  refine lv_iload_n hx hb dJ7_fill_53178_12 rfl (lv_at hl 1 rfl) ?_
  obtain ⟨q, hf⟩ := zck_use hf
  obtain ⟨σ1, eσ1⟩ : ∃ z, z = zsi σ 28 (x2.toNatClampNeg) x1 := ⟨_, rfl⟩
  replace hf := zbv_use eσ1 hf
  refine z_iast hC hI 28 15 (wC_e28 ad cy σ) (tC_t28 cy) q ((wC_s28 ad cy σ _ _).trans (congrArg (wC ad cy) eσ1.symm)) dJ7_fill_53178_13 (fun H locs hI => ?_)
  obtain ⟨v2, ev2⟩ : ∃ z : Int32, z = x2 + 1 := ⟨_, rfl⟩
  replace hf := zbv_use ev2 hf
  refine lv_iinc (v := v2) (lv' := [(2, .int v2), (0, .ref (ad 28)), (1, .int x1), (3, .int x3)]) hx hb dJ7_fill_53178_14 hl (k := 2) rfl (by rw [ev2]; rfl) (by decide) rfl (fun ls hl => ?_)
  refine lv_goto (tgt := 5) hx hb dJ7_fill_53178_17 (by decide) ?_
  exact hk5 _ _ _ _ _ _ _ hI (lv_sub hl [1, 2, 0, 3] rfl) hf
theorem blJ7_fill_53178_k28_5 {st : Nat → Nat} {p : Program} {l : Launch} {e : Env} {s : State} {m : MethodId} {args : Array Value} {below : List Frame} {meth : Method} {c : Code} {D : va_G} {A : Nat → Prop} {ad : Nat → Nat} {cy : Nat → ClassId} (hC : zC p m c cJ7_fill_53178 4 s args wzJ7_fill_53178 RJ7 meth none)  {res : zSt} : ∀ (n : Nat) (H : Heap) (locs : List Loc) (σ : zSt) (ls : Array Slot) (x1 : Int32) (x2 : Int32) (x3 : Int32), zI st D (tC cy) (wC ad cy σ) A s H locs → lv_has ls 4 [(0, .ref (ad 28)), (1, .int x1), (2, .int x2), (3, .int x3)] → fJ7_fill_53178_k28_5  n σ x1 x2 x3 = some res → W p l e rmJ7_fill_53178_k28 s m args below meth c H locs 0 0 (zQu below args s D (tC cy) (wC ad cy) A res) (F0 m 5 ls []) := by
  intro n
  induction n with
  | zero => intro H locs σ ls x1 x2 x3 hI hl hf; cases hf
  | succ n ih => intro H locs σ ls x1 x2 x3 hI hl hf; exact bJ7_fill_53178_k28_5_body hC ih hI hl hf
set_option maxRecDepth 20000 in
set_option maxHeartbeats 4000000 in
theorem bJ7_fill_53178_k28 {st : Nat → Nat} {p : Program} {l : Launch} {e : Env} {s : State} {m : MethodId} {args : Array Value} {below : List Frame} {meth : Method} {c : Code} {D : va_G} {A : Nat → Prop} {ad : Nat → Nat} {cy : Nat → ClassId} (hC : zC p m c cJ7_fill_53178 4 s args wzJ7_fill_53178 RJ7 meth none)  {res : zSt} {H : Heap} {locs : List Loc} {σ : zSt} {ls : Array Slot} {x1 : Int32} (hI : zI st D (tC cy) (wC ad cy σ) A s H locs) (hl : lv_has ls 4 [(0, .ref (ad 28)), (1, .int x1)]) (hf : fJ7_fill_53178_k28  σ x1 = some res) : W p l e rmJ7_fill_53178_k28 s m args below meth c H locs 0 0 (zQu below args s D (tC cy) (wC ad cy) A res) (F0 m 0 ls []) := by
  have hx := hC.1
  have hb := hC.2.1
  unfold fJ7_fill_53178_k28 at hf
  refine lv_iconst (v := 0) hx hb dJ7_fill_53178_0 (by decide) ?_
  refine lv_istore_n (lv' := [(2, .int 0), (0, .ref (ad 28)), (1, .int x1)]) hx hb dJ7_fill_53178_1 rfl hl (by decide) rfl (fun ls hl => ?_)
  refine lv_aload_n hx hb dJ7_fill_53178_2 rfl (lv_at hl 1 rfl) ?_
  refine z_alen (v := 256) hC hI 28 15 (wC_e28 ad cy σ) (tC_t28 cy) rfl dJ7_fill_53178_3 ?_
  refine lv_istore_n (lv' := [(3, .int 256), (2, .int 0), (0, .ref (ad 28)), (1, .int x1)]) hx hb dJ7_fill_53178_4 rfl hl (by decide) rfl (fun ls hl => ?_)
  exact blJ7_fill_53178_k28_5 hC  zfuel _ _ _ _ _ _ _ hI (lv_sub hl [2, 3, 1, 0] rfl) hf
set_option maxRecDepth 20000 in
theorem cJ7_fill_53178_k28_met (st : Nat → Nat) (l : Launch) (D : va_G) (ad : Nat → Nat) (cy : Nat → ClassId) (σ : zSt) (x1 : Int32) (res : zSt) (hf : fJ7_fill_53178_k28 σ x1 = some res) (sz : Nat) : zMu st l yJ7_fill_53178 wzJ7_fill_53178 rmJ7_fill_53178_k28 [.ref (ad 28), .int x1] D (tC cy) (wC ad cy) sz σ res :=
  zMu.of (cc := cJ7_fill_53178) (maxL := 4) (ret := none) (by decide) rfl (Nat.le_of_ble_eq_true rfl) (fun p e s m args below meth c hC A hI ls hl => bJ7_fill_53178_k28 hC hI hl hf)
theorem hdJ7_fill_53178_k28 : yJ7_fill_53178.cls ≠ "java/lang/invoke/MethodHandle" ∧ yJ7_fill_53178.cls ≠ "java/lang/invoke/VarHandle" ∧ (parseMethodDescriptor yJ7_fill_53178.desc).map (fun d => d.parameters.length) = some 2 := by decide +kernel
noncomputable def rmX3_rowOfSprite : Room := { frames := 1, cells := 0, slots := 0, locals := 21 }
noncomputable def wzX3_rowOfSprite : List Cond := .code yX3_rowOfSprite cX3_rowOfSprite 5 (some .int) :: wsL_law
theorem hinX3_rowOfSprite_X30 : ∀ w ∈ wsX30, w ∈ wzX3_rowOfSprite := fun w h => List.mem_cons_of_mem _ (inlX3 w h)
noncomputable def fX3_rowOfSprite_56  (σ : zSt) (s0 : Int32) : Option (zSt × Int32) :=
  some (σ, s0)
noncomputable def fX3_rowOfSprite_47  (σ : zSt) (x4 : Int32) (s0 : Int32) (s1 : Int32) : Option (zSt × Int32) :=
  if s0 ≤ s1 then fX3_rowOfSprite_56 σ (-1) else
  fX3_rowOfSprite_56 σ x4
noncomputable def fX3_rowOfSprite_32  (σ : zSt) (x3 : Int32) (x4 : Int32) : Option (zSt × Int32) :=
  if (x3 &&& 2) = 0 then fX3_rowOfSprite_47 σ x4 8 x4 else
  fX3_rowOfSprite_47 σ x4 16 x4
noncomputable def fX3_rowOfSprite  (σ : zSt) (x1 : Int32) (x2 : Int32) : Option (zSt × Int32) :=
  zbi (fX9_held σ 1) (fun σ1 v2 =>
  zbv (((x1 - x2) - 1) &&& 255) (fun v3 =>
  if (v2 &&& 1) = 0 then fX3_rowOfSprite_32 σ1 v2 v3 else
  zbv (v3 >>> ((1 : Int32) &&& 31)) (fun v4 =>
  fX3_rowOfSprite_32 σ1 v2 v4)))
set_option maxRecDepth 20000 in
set_option maxHeartbeats 4000000 in
theorem bX3_rowOfSprite_56 {st : Nat → Nat} {p : Program} {l : Launch} {e : Env} {s : State} {m : MethodId} {args : Array Value} {below : List Frame} {meth : Method} {c : Code} {D : va_G} {A : Nat → Prop} {ad : Nat → Nat} {cy : Nat → ClassId} (hC : zC p m c cX3_rowOfSprite 5 s args wzX3_rowOfSprite RX3 meth (some .int))  {res : zSt × Int32} {H : Heap} {locs : List Loc} {σ : zSt} {ls : Array Slot} {s0 : Int32} (hI : zI st D (tC cy) (wC ad cy σ) A s H locs) (hl : lv_has ls 5 []) (hf : fX3_rowOfSprite_56  σ s0 = some res) : W p l e rmX3_rowOfSprite s m args below meth c H locs 0 0 (zQi below args s D (tC cy) (wC ad cy) A res) (F0 m 56 ls [.int s0]) := by
  have hx := hC.1
  have hb := hC.2.1
  unfold fX3_rowOfSprite_56 at hf
  exact z_ireturn hC hI hf dX3_rowOfSprite_56
set_option maxRecDepth 20000 in
set_option maxHeartbeats 4000000 in
theorem bX3_rowOfSprite_47 {st : Nat → Nat} {p : Program} {l : Launch} {e : Env} {s : State} {m : MethodId} {args : Array Value} {below : List Frame} {meth : Method} {c : Code} {D : va_G} {A : Nat → Prop} {ad : Nat → Nat} {cy : Nat → ClassId} (hC : zC p m c cX3_rowOfSprite 5 s args wzX3_rowOfSprite RX3 meth (some .int))  {res : zSt × Int32} {H : Heap} {locs : List Loc} {σ : zSt} {ls : Array Slot} {x4 : Int32} {s0 : Int32} {s1 : Int32} (hI : zI st D (tC cy) (wC ad cy σ) A s H locs) (hl : lv_has ls 5 [(4, .int x4)]) (hf : fX3_rowOfSprite_47  σ x4 s0 s1 = some res) : W p l e rmX3_rowOfSprite s m args below meth c H locs 0 0 (zQi below args s D (tC cy) (wC ad cy) A res) (F0 m 47 ls [.int s0, .int s1]) := by
  have hx := hC.1
  have hb := hC.2.1
  unfold fX3_rowOfSprite_47 at hf
  refine lv_icmp_ge (tgt := 55) hx hb dX3_rowOfSprite_47 (by decide) (fun q => ?_) (fun q => ?_)
  · replace hf := zif_t q hf
    refine lv_iconst (v := (-1)) hx hb dX3_rowOfSprite_55 (by decide) ?_
    exact bX3_rowOfSprite_56 hC  hI (lv_sub hl [] rfl) hf
  replace hf := zif_f q hf
  refine lv_iload hx hb dX3_rowOfSprite_50 (lv_at hl 0 rfl) ?_
  refine lv_goto (tgt := 56) hx hb dX3_rowOfSprite_52 (by decide) ?_
  exact bX3_rowOfSprite_56 hC  hI (lv_sub hl [] rfl) hf
set_option maxRecDepth 20000 in
set_option maxHeartbeats 4000000 in
theorem bX3_rowOfSprite_32 {st : Nat → Nat} {p : Program} {l : Launch} {e : Env} {s : State} {m : MethodId} {args : Array Value} {below : List Frame} {meth : Method} {c : Code} {D : va_G} {A : Nat → Prop} {ad : Nat → Nat} {cy : Nat → ClassId} (hC : zC p m c cX3_rowOfSprite 5 s args wzX3_rowOfSprite RX3 meth (some .int))  {res : zSt × Int32} {H : Heap} {locs : List Loc} {σ : zSt} {ls : Array Slot} {x3 : Int32} {x4 : Int32} (hI : zI st D (tC cy) (wC ad cy σ) A s H locs) (hl : lv_has ls 5 [(3, .int x3), (4, .int x4)]) (hf : fX3_rowOfSprite_32  σ x3 x4 = some res) : W p l e rmX3_rowOfSprite s m args below meth c H locs 0 0 (zQi below args s D (tC cy) (wC ad cy) A res) (F0 m 32 ls []) := by
  have hx := hC.1
  have hb := hC.2.1
  unfold fX3_rowOfSprite_32 at hf
  refine lv_iload hx hb dX3_rowOfSprite_32 (lv_at hl 1 rfl) ?_
  refine lv_iload_n hx hb dX3_rowOfSprite_34 rfl (lv_at hl 0 rfl) ?_
  refine lv_iconst (v := 2) hx hb dX3_rowOfSprite_35 (by decide) ?_
  refine lv_iand hx hb dX3_rowOfSprite_36 ?_
  refine lv_if_eq (tgt := 45) hx hb dX3_rowOfSprite_37 (by decide) (fun q => ?_) (fun q => ?_)
  · replace hf := zif_t q hf
    refine lv_bipush (v := 8) hx hb dX3_rowOfSprite_45 (by decide) ?_
    exact bX3_rowOfSprite_47 hC  hI (lv_sub hl [1] rfl) hf
  replace hf := zif_f q hf
  refine lv_bipush (v := 16) hx hb dX3_rowOfSprite_40 (by decide) ?_
  refine lv_goto (tgt := 47) hx hb dX3_rowOfSprite_42 (by decide) ?_
  exact bX3_rowOfSprite_47 hC  hI (lv_sub hl [1] rfl) hf
set_option maxRecDepth 20000 in
set_option maxHeartbeats 4000000 in
theorem bX3_rowOfSprite {st : Nat → Nat} {p : Program} {l : Launch} {e : Env} {s : State} {m : MethodId} {args : Array Value} {below : List Frame} {meth : Method} {c : Code} {D : va_G} {A : Nat → Prop} {ad : Nat → Nat} {cy : Nat → ClassId} (hC : zC p m c cX3_rowOfSprite 5 s args wzX3_rowOfSprite RX3 meth (some .int))  {res : zSt × Int32} {H : Heap} {locs : List Loc} {σ : zSt} {ls : Array Slot} {x1 : Int32} {x2 : Int32} (hI : zI st D (tC cy) (wC ad cy σ) A s H locs) (hl : lv_has ls 5 [(0, .ref (ad 3)), (1, .int x1), (2, .int x2)]) (hf : fX3_rowOfSprite  σ x1 x2 = some res) : W p l e rmX3_rowOfSprite s m args below meth c H locs 0 0 (zQi below args s D (tC cy) (wC ad cy) A res) (F0 m 0 ls []) := by
  have hx := hC.1
  have hb := hC.2.1
  unfold fX3_rowOfSprite at hf
  refine lv_aload_n hx hb dX3_rowOfSprite_0 rfl (lv_at hl 0 rfl) ?_
  refine z_get hC hI hinX3_rowOfSprite_X30 3 (wC_e3 ad cy σ) rfl 0 (by decide) (List.mem_cons_of_mem _ zw4_22) rfl dX3_rowOfSprite_1 ?_
  refine lv_iconst (v := 1) hx hb dX3_rowOfSprite_4 (by decide) ?_
  obtain ⟨σ1, v2, g1, hf⟩ := zbi_use hf
  refine z_callVi (As := [.int 1]) (rest := []) hC hI (cX9_held_met st l D ad cy σ 1 _ g1) (zgV zw35_21 zw35_13 zw35_14 zw2_1 zw35_15) rfl ⟨rfl, rfl⟩ 1 hdX9_held ⟨Nat.le_of_ble_eq_true rfl, Nat.le_of_ble_eq_true rfl⟩ rfl rfl (wC_e2 ad cy σ) rfl hl rfl (Nat.le_of_ble_eq_true rfl) dX3_rowOfSprite_5 ⟨Nat.zero_le _, Nat.zero_le _⟩ (fun H locs hI => ?_)
  refine lv_istore_n (lv' := [(3, .int v2), (0, .ref (ad 3)), (1, .int x1), (2, .int x2)]) hx hb dX3_rowOfSprite_8 rfl hl (by decide) rfl (fun ls hl => ?_)
  refine lv_iload_n hx hb dX3_rowOfSprite_9 rfl (lv_at hl 2 rfl) ?_
  refine lv_iload_n hx hb dX3_rowOfSprite_10 rfl (lv_at hl 3 rfl) ?_
  refine lv_isub hx hb dX3_rowOfSprite_11 ?_
  refine lv_iconst (v := 1) hx hb dX3_rowOfSprite_12 (by decide) ?_
  refine lv_isub hx hb dX3_rowOfSprite_13 ?_
  refine lv_sipush (v := 255) hx hb dX3_rowOfSprite_14 (by decide) ?_
  refine lv_iand hx hb dX3_rowOfSprite_17 ?_
  refine lv_topi (fun v3 ev3 => ?_)
  replace hf := zbv_use ev3 hf
  refine lv_istore (lv' := [(4, .int v3), (3, .int v2), (0, .ref (ad 3)), (1, .int x1), (2, .int x2)]) hx hb dX3_rowOfSprite_18 hl (by decide) rfl (fun ls hl => ?_)
  refine lv_iload_n hx hb dX3_rowOfSprite_20 rfl (lv_at hl 1 rfl) ?_
  refine lv_iconst (v := 1) hx hb dX3_rowOfSprite_21 (by decide) ?_
  refine lv_iand hx hb dX3_rowOfSprite_22 ?_
  refine lv_if_eq (tgt := 32) hx hb dX3_rowOfSprite_23 (by decide) (fun q => ?_) (fun q => ?_)
  · replace hf := zif_t q hf
    exact bX3_rowOfSprite_32 hC  hI (lv_sub hl [1, 0] rfl) hf
  replace hf := zif_f q hf
  refine lv_iload hx hb dX3_rowOfSprite_26 (lv_at hl 0 rfl) ?_
  refine lv_iconst (v := 1) hx hb dX3_rowOfSprite_28 (by decide) ?_
  refine lv_ishr hx hb dX3_rowOfSprite_29 ?_
  refine lv_topi (fun v4 ev4 => ?_)
  replace hf := zbv_use ev4 hf
  refine lv_istore (lv' := [(4, .int v4), (3, .int v2), (0, .ref (ad 3)), (1, .int x1), (2, .int x2)]) hx hb dX3_rowOfSprite_30 hl (by decide) rfl (fun ls hl => ?_)
  exact bX3_rowOfSprite_32 hC  hI (lv_sub hl [1, 0] rfl) hf
set_option maxRecDepth 20000 in
theorem cX3_rowOfSprite_met (st : Nat → Nat) (l : Launch) (D : va_G) (ad : Nat → Nat) (cy : Nat → ClassId) (σ : zSt) (x1 : Int32) (x2 : Int32) (res : zSt × Int32) (hf : fX3_rowOfSprite σ x1 x2 = some res) (sz : Nat) : zMi st l yX3_rowOfSprite wzX3_rowOfSprite rmX3_rowOfSprite [.ref (ad 3), .int x1, .int x2] D (tC cy) (wC ad cy) sz σ res :=
  zMi.of (cc := cX3_rowOfSprite) (maxL := 5) (ret := (some .int)) (by decide) rfl (Nat.le_of_ble_eq_true rfl) (fun p e s m args below meth c hC A hI ls hl => bX3_rowOfSprite hC hI hl hf)
theorem hdX3_rowOfSprite : yX3_rowOfSprite.cls = RX3 ∧ yX3_rowOfSprite.cls ≠ "java/lang/invoke/MethodHandle" ∧ yX3_rowOfSprite.cls ≠ "java/lang/invoke/VarHandle" ∧ (parseMethodDescriptor yX3_rowOfSprite.desc).map (fun d => d.parameters.length) = some 2 := by decide +kernel
noncomputable def rmX9_mark : Room := { frames := 0, cells := 0, slots := 0, locals := 0 }
noncomputable def wzX9_mark : List Cond := .code yX9_mark cX9_mark 2 none :: wsL_law
theorem hinX9_mark_X90 : ∀ w ∈ wsX90, w ∈ wzX9_mark := fun w h => List.mem_cons_of_mem _ (inlX9 w h)
noncomputable def fX9_mark  (σ : zSt) (x1 : Int32) : Option (zSt) :=
  zck (zin 15 96) (
  zck (zin 15 96) (zbv (zsi σ 23 ((15 : Int32).toNatClampNeg) ((zgi σ 23 (15 : Int32).toNatClampNeg) ||| x1)) (fun σ1 =>
  some σ1)))
set_option maxRecDepth 20000 in
set_option maxHeartbeats 4000000 in
theorem bX9_mark {st : Nat → Nat} {p : Program} {l : Launch} {e : Env} {s : State} {m : MethodId} {args : Array Value} {below : List Frame} {meth : Method} {c : Code} {D : va_G} {A : Nat → Prop} {ad : Nat → Nat} {cy : Nat → ClassId} (hC : zC p m c cX9_mark 2 s args wzX9_mark RX9 meth none)  {res : zSt} {H : Heap} {locs : List Loc} {σ : zSt} {ls : Array Slot} {x1 : Int32} (hI : zI st D (tC cy) (wC ad cy σ) A s H locs) (hl : lv_has ls 2 [(0, .ref (ad 2)), (1, .int x1)]) (hf : fX9_mark  σ x1 = some res) : W p l e rmX9_mark s m args below meth c H locs 0 0 (zQu below args s D (tC cy) (wC ad cy) A res) (F0 m 0 ls []) := by
  have hx := hC.1
  have hb := hC.2.1
  unfold fX9_mark at hf
  refine lv_aload_n hx hb dX9_mark_0 rfl (lv_at hl 0 rfl) ?_
  refine z_get hC hI hinX9_mark_X90 2 (wC_e2 ad cy σ) rfl 4 (by decide) (List.mem_cons_of_mem _ zw4_8) rfl dX9_mark_1 ?_
  refine lv_bipush (v := 15) hx hb dX9_mark_4 (by decide) ?_
  refine lv_dup2_11 hx hb dX9_mark_6 rfl rfl ?_
  obtain ⟨q, hf⟩ := zck_use hf
  refine z_iald hC hI 23 10 (wC_e23 ad cy σ) (tC_t23 cy) q dX9_mark_7 ?_
  refine lv_iload_n hx hb dX9_mark_8 rfl (lv_at hl 1 rfl) ?_
  refine lv_ior hx hb dX9_mark_9 ?_
  obtain ⟨q, hf⟩ := zck_use hf
  obtain ⟨σ1, eσ1⟩ : ∃ z, z = zsi σ 23 ((15 : Int32).toNatClampNeg) ((zgi σ 23 (15 : Int32).toNatClampNeg) ||| x1) := ⟨_, rfl⟩
  replace hf := zbv_use eσ1 hf
  refine z_iast hC hI 23 10 (wC_e23 ad cy σ) (tC_t23 cy) q ((wC_s23 ad cy σ _ _).trans (congrArg (wC ad cy) eσ1.symm)) dX9_mark_10 (fun H locs hI => ?_)
  exact z_return hC hI hf dX9_mark_11
set_option maxRecDepth 20000 in
theorem cX9_mark_met (st : Nat → Nat) (l : Launch) (D : va_G) (ad : Nat → Nat) (cy : Nat → ClassId) (σ : zSt) (x1 : Int32) (res : zSt) (hf : fX9_mark σ x1 = some res) (sz : Nat) : zMu st l yX9_mark wzX9_mark rmX9_mark [.ref (ad 2), .int x1] D (tC cy) (wC ad cy) sz σ res :=
  zMu.of (cc := cX9_mark) (maxL := 2) (ret := none) (by decide) rfl (Nat.le_of_ble_eq_true rfl) (fun p e s m args below meth c hC A hI ls hl => bX9_mark hC hI hl hf)
theorem hdX9_mark : yX9_mark.cls = RX9 ∧ yX9_mark.cls ≠ "java/lang/invoke/MethodHandle" ∧ yX9_mark.cls ≠ "java/lang/invoke/VarHandle" ∧ (parseMethodDescriptor yX9_mark.desc).map (fun d => d.parameters.length) = some 1 := by decide +kernel
end ZJN0
section ZJN1
noncomputable def kn_cX3_draw : Nat := 0xb1d9ffa70104844f2e7e1f102e04151100b42a1700b42a600415680001111b0a00b42a2500a200011104150436035e00b61c2a5b00b61d2a5800b61b2a08009f041c5400b61b1c2a1800a75100b81d0810031100b42a2600997e20103e00b6031a00b42a4e00b61b2a4a00b61b2a2900a0071c4300a74400b81d1100b42a0e009a7e40103e00b6041a00b42a3e607e0f103e00b607101a00b42a030400a710100800a0071c3d4100b61a00b42ab10400a1f000111b0a009b1b3c3e00b614101a00b42a
theorem zk_cX3_draw : zkd cX3_draw.data.toList kn_cX3_draw = true := by decide +kernel
theorem zn_cX3_draw : cX3_draw.data.toList.length = 195 := by decide +kernel
theorem dX3_draw_0 : decode cX3_draw 0 = .ok (.aload_n 0, 1) := zo_42 (zkb zk_cX3_draw zn_cX3_draw rfl)
theorem dX3_draw_1 : decode cX3_draw 1 = .ok (.getfield 26, 3) := zo_180 (b1 := 0) (b2 := 26) (zkb3 zk_cX3_draw zn_cX3_draw rfl) rfl
theorem dX3_draw_4 : decode cX3_draw 4 = .ok (.bipush 20, 2) := zo_16 (b1 := 20) (zkb2 zk_cX3_draw zn_cX3_draw rfl) rfl
theorem dX3_draw_6 : decode cX3_draw 6 = .ok (.invokevirtual 62, 3) := zo_182 (b1 := 0) (b2 := 62) (zkb3 zk_cX3_draw zn_cX3_draw rfl) rfl
theorem dX3_draw_9 : decode cX3_draw 9 = .ok (.istore_n 1, 1) := zo_60 (zkb zk_cX3_draw zn_cX3_draw rfl)
theorem dX3_draw_10 : decode cX3_draw 10 = .ok (.iload_n 1, 1) := zo_27 (zkb zk_cX3_draw zn_cX3_draw rfl)
theorem dX3_draw_11 : decode cX3_draw 11 = .ok (.ifCond .lt 10, 3) := zo_155 (b1 := 0) (b2 := 10) (zkb3 zk_cX3_draw zn_cX3_draw rfl) rfl
theorem dX3_draw_14 : decode cX3_draw 14 = .ok (.iload_n 1, 1) := zo_27 (zkb zk_cX3_draw zn_cX3_draw rfl)
theorem dX3_draw_15 : decode cX3_draw 15 = .ok (.sipush 240, 3) := zo_17 (b1 := 0) (b2 := 240) (zkb3 zk_cX3_draw zn_cX3_draw rfl) rfl
theorem dX3_draw_18 : decode cX3_draw 18 = .ok (.if_icmp .lt 4, 3) := zo_161 (b1 := 0) (b2 := 4) (zkb3 zk_cX3_draw zn_cX3_draw rfl) rfl
theorem dX3_draw_21 : decode cX3_draw 21 = .ok (.return_, 1) := zo_177 (zkb zk_cX3_draw zn_cX3_draw rfl)
theorem dX3_draw_22 : decode cX3_draw 22 = .ok (.aload_n 0, 1) := zo_42 (zkb zk_cX3_draw zn_cX3_draw rfl)
theorem dX3_draw_23 : decode cX3_draw 23 = .ok (.getfield 26, 3) := zo_180 (b1 := 0) (b2 := 26) (zkb3 zk_cX3_draw zn_cX3_draw rfl) rfl
theorem dX3_draw_26 : decode cX3_draw 26 = .ok (.invokevirtual 65, 3) := zo_182 (b1 := 0) (b2 := 65) (zkb3 zk_cX3_draw zn_cX3_draw rfl) rfl
theorem dX3_draw_29 : decode cX3_draw 29 = .ok (.istore_n 2, 1) := zo_61 (zkb zk_cX3_draw zn_cX3_draw rfl)
theorem dX3_draw_30 : decode cX3_draw 30 = .ok (.iload_n 2, 1) := zo_28 (zkb zk_cX3_draw zn_cX3_draw rfl)
theorem dX3_draw_31 : decode cX3_draw 31 = .ok (.iconst 4, 1) := zo_7 (zkb zk_cX3_draw zn_cX3_draw rfl)
theorem dX3_draw_32 : decode cX3_draw 32 = .ok (.if_icmp .ne 8, 3) := zo_160 (b1 := 0) (b2 := 8) (zkb3 zk_cX3_draw zn_cX3_draw rfl) rfl
theorem dX3_draw_35 : decode cX3_draw 35 = .ok (.bipush 16, 2) := zo_16 (b1 := 16) (zkb2 zk_cX3_draw zn_cX3_draw rfl) rfl
theorem dX3_draw_37 : decode cX3_draw 37 = .ok (.goto 4, 3) := zo_167 (b1 := 0) (b2 := 4) (zkb3 zk_cX3_draw zn_cX3_draw rfl) rfl
theorem dX3_draw_40 : decode cX3_draw 40 = .ok (.iconst 0, 1) := zo_3 (zkb zk_cX3_draw zn_cX3_draw rfl)
theorem dX3_draw_41 : decode cX3_draw 41 = .ok (.aload_n 0, 1) := zo_42 (zkb zk_cX3_draw zn_cX3_draw rfl)
theorem dX3_draw_42 : decode cX3_draw 42 = .ok (.getfield 26, 3) := zo_180 (b1 := 0) (b2 := 26) (zkb3 zk_cX3_draw zn_cX3_draw rfl) rfl
theorem dX3_draw_45 : decode cX3_draw 45 = .ok (.bipush 7, 2) := zo_16 (b1 := 7) (zkb2 zk_cX3_draw zn_cX3_draw rfl) rfl
theorem dX3_draw_47 : decode cX3_draw 47 = .ok (.invokevirtual 62, 3) := zo_182 (b1 := 0) (b2 := 62) (zkb3 zk_cX3_draw zn_cX3_draw rfl) rfl
theorem dX3_draw_50 : decode cX3_draw 50 = .ok (.bipush 15, 2) := zo_16 (b1 := 15) (zkb2 zk_cX3_draw zn_cX3_draw rfl) rfl
theorem dX3_draw_52 : decode cX3_draw 52 = .ok (.iand, 1) := zo_126 (zkb zk_cX3_draw zn_cX3_draw rfl)
theorem dX3_draw_53 : decode cX3_draw 53 = .ok (.iadd, 1) := zo_96 (zkb zk_cX3_draw zn_cX3_draw rfl)
theorem dX3_draw_54 : decode cX3_draw 54 = .ok (.istore_n 3, 1) := zo_62 (zkb zk_cX3_draw zn_cX3_draw rfl)
theorem dX3_draw_55 : decode cX3_draw 55 = .ok (.aload_n 0, 1) := zo_42 (zkb zk_cX3_draw zn_cX3_draw rfl)
theorem dX3_draw_56 : decode cX3_draw 56 = .ok (.getfield 26, 3) := zo_180 (b1 := 0) (b2 := 26) (zkb3 zk_cX3_draw zn_cX3_draw rfl) rfl
theorem dX3_draw_59 : decode cX3_draw 59 = .ok (.iconst 1, 1) := zo_4 (zkb zk_cX3_draw zn_cX3_draw rfl)
theorem dX3_draw_60 : decode cX3_draw 60 = .ok (.invokevirtual 62, 3) := zo_182 (b1 := 0) (b2 := 62) (zkb3 zk_cX3_draw zn_cX3_draw rfl) rfl
theorem dX3_draw_63 : decode cX3_draw 63 = .ok (.bipush 64, 2) := zo_16 (b1 := 64) (zkb2 zk_cX3_draw zn_cX3_draw rfl) rfl
theorem dX3_draw_65 : decode cX3_draw 65 = .ok (.iand, 1) := zo_126 (zkb zk_cX3_draw zn_cX3_draw rfl)
theorem dX3_draw_66 : decode cX3_draw 66 = .ok (.ifCond .ne 14, 3) := zo_154 (b1 := 0) (b2 := 14) (zkb3 zk_cX3_draw zn_cX3_draw rfl) rfl
theorem dX3_draw_69 : decode cX3_draw 69 = .ok (.aload_n 0, 1) := zo_42 (zkb zk_cX3_draw zn_cX3_draw rfl)
theorem dX3_draw_70 : decode cX3_draw 70 = .ok (.getfield 17, 3) := zo_180 (b1 := 0) (b2 := 17) (zkb3 zk_cX3_draw zn_cX3_draw rfl) rfl
theorem dX3_draw_73 : decode cX3_draw 73 = .ok (.iload_n 3, 1) := zo_29 (zkb zk_cX3_draw zn_cX3_draw rfl)
theorem dX3_draw_74 : decode cX3_draw 74 = .ok (.invokestatic 68, 3) := zo_184 (b1 := 0) (b2 := 68) (zkb3 zk_cX3_draw zn_cX3_draw rfl) rfl
theorem dX3_draw_77 : decode cX3_draw 77 = .ok (.goto 67, 3) := zo_167 (b1 := 0) (b2 := 67) (zkb3 zk_cX3_draw zn_cX3_draw rfl) rfl
theorem dX3_draw_80 : decode cX3_draw 80 = .ok (.iload_n 2, 1) := zo_28 (zkb zk_cX3_draw zn_cX3_draw rfl)
theorem dX3_draw_81 : decode cX3_draw 81 = .ok (.iconst 4, 1) := zo_7 (zkb zk_cX3_draw zn_cX3_draw rfl)
theorem dX3_draw_82 : decode cX3_draw 82 = .ok (.if_icmp .ne 41, 3) := zo_160 (b1 := 0) (b2 := 41) (zkb3 zk_cX3_draw zn_cX3_draw rfl) rfl
theorem dX3_draw_85 : decode cX3_draw 85 = .ok (.aload_n 0, 1) := zo_42 (zkb zk_cX3_draw zn_cX3_draw rfl)
theorem dX3_draw_86 : decode cX3_draw 86 = .ok (.iload_n 1, 1) := zo_27 (zkb zk_cX3_draw zn_cX3_draw rfl)
theorem dX3_draw_87 : decode cX3_draw 87 = .ok (.invokevirtual 74, 3) := zo_182 (b1 := 0) (b2 := 74) (zkb3 zk_cX3_draw zn_cX3_draw rfl) rfl
theorem dX3_draw_90 : decode cX3_draw 90 = .ok (.aload_n 0, 1) := zo_42 (zkb zk_cX3_draw zn_cX3_draw rfl)
theorem dX3_draw_91 : decode cX3_draw 91 = .ok (.iload_n 1, 1) := zo_27 (zkb zk_cX3_draw zn_cX3_draw rfl)
theorem dX3_draw_92 : decode cX3_draw 92 = .ok (.invokevirtual 78, 3) := zo_182 (b1 := 0) (b2 := 78) (zkb3 zk_cX3_draw zn_cX3_draw rfl) rfl
theorem dX3_draw_95 : decode cX3_draw 95 = .ok (.aload_n 0, 1) := zo_42 (zkb zk_cX3_draw zn_cX3_draw rfl)
theorem dX3_draw_96 : decode cX3_draw 96 = .ok (.getfield 26, 3) := zo_180 (b1 := 0) (b2 := 26) (zkb3 zk_cX3_draw zn_cX3_draw rfl) rfl
theorem dX3_draw_99 : decode cX3_draw 99 = .ok (.iconst 0, 1) := zo_3 (zkb zk_cX3_draw zn_cX3_draw rfl)
theorem dX3_draw_100 : decode cX3_draw 100 = .ok (.invokevirtual 62, 3) := zo_182 (b1 := 0) (b2 := 62) (zkb3 zk_cX3_draw zn_cX3_draw rfl) rfl
theorem dX3_draw_103 : decode cX3_draw 103 = .ok (.bipush 32, 2) := zo_16 (b1 := 32) (zkb2 zk_cX3_draw zn_cX3_draw rfl) rfl
theorem dX3_draw_105 : decode cX3_draw 105 = .ok (.iand, 1) := zo_126 (zkb zk_cX3_draw zn_cX3_draw rfl)
theorem dX3_draw_106 : decode cX3_draw 106 = .ok (.ifCond .eq 38, 3) := zo_153 (b1 := 0) (b2 := 38) (zkb3 zk_cX3_draw zn_cX3_draw rfl) rfl
theorem dX3_draw_109 : decode cX3_draw 109 = .ok (.aload_n 0, 1) := zo_42 (zkb zk_cX3_draw zn_cX3_draw rfl)
theorem dX3_draw_110 : decode cX3_draw 110 = .ok (.getfield 17, 3) := zo_180 (b1 := 0) (b2 := 17) (zkb3 zk_cX3_draw zn_cX3_draw rfl) rfl
theorem dX3_draw_113 : decode cX3_draw 113 = .ok (.iconst 0, 1) := zo_3 (zkb zk_cX3_draw zn_cX3_draw rfl)
theorem dX3_draw_114 : decode cX3_draw 114 = .ok (.bipush 8, 2) := zo_16 (b1 := 8) (zkb2 zk_cX3_draw zn_cX3_draw rfl) rfl
theorem dX3_draw_116 : decode cX3_draw 116 = .ok (.iload_n 3, 1) := zo_29 (zkb zk_cX3_draw zn_cX3_draw rfl)
theorem dX3_draw_117 : decode cX3_draw 117 = .ok (.invokestatic 81, 3) := zo_184 (b1 := 0) (b2 := 81) (zkb3 zk_cX3_draw zn_cX3_draw rfl) rfl
theorem dX3_draw_120 : decode cX3_draw 120 = .ok (.goto 24, 3) := zo_167 (b1 := 0) (b2 := 24) (zkb3 zk_cX3_draw zn_cX3_draw rfl) rfl
theorem dX3_draw_123 : decode cX3_draw 123 = .ok (.aload_n 0, 1) := zo_42 (zkb zk_cX3_draw zn_cX3_draw rfl)
theorem dX3_draw_124 : decode cX3_draw 124 = .ok (.iload_n 2, 1) := zo_28 (zkb zk_cX3_draw zn_cX3_draw rfl)
theorem dX3_draw_125 : decode cX3_draw 125 = .ok (.iload_n 1, 1) := zo_27 (zkb zk_cX3_draw zn_cX3_draw rfl)
theorem dX3_draw_126 : decode cX3_draw 126 = .ok (.invokevirtual 84, 3) := zo_182 (b1 := 0) (b2 := 84) (zkb3 zk_cX3_draw zn_cX3_draw rfl) rfl
theorem dX3_draw_129 : decode cX3_draw 129 = .ok (.iload_n 2, 1) := zo_28 (zkb zk_cX3_draw zn_cX3_draw rfl)
theorem dX3_draw_130 : decode cX3_draw 130 = .ok (.iconst 1, 1) := zo_4 (zkb zk_cX3_draw zn_cX3_draw rfl)
theorem dX3_draw_131 : decode cX3_draw 131 = .ok (.if_icmp .eq 8, 3) := zo_159 (b1 := 0) (b2 := 8) (zkb3 zk_cX3_draw zn_cX3_draw rfl) rfl
theorem dX3_draw_134 : decode cX3_draw 134 = .ok (.aload_n 0, 1) := zo_42 (zkb zk_cX3_draw zn_cX3_draw rfl)
theorem dX3_draw_135 : decode cX3_draw 135 = .ok (.iload_n 1, 1) := zo_27 (zkb zk_cX3_draw zn_cX3_draw rfl)
theorem dX3_draw_136 : decode cX3_draw 136 = .ok (.invokevirtual 88, 3) := zo_182 (b1 := 0) (b2 := 88) (zkb3 zk_cX3_draw zn_cX3_draw rfl) rfl
theorem dX3_draw_139 : decode cX3_draw 139 = .ok (.aload_n 0, 1) := zo_42 (zkb zk_cX3_draw zn_cX3_draw rfl)
theorem dX3_draw_140 : decode cX3_draw 140 = .ok (.iload_n 3, 1) := zo_29 (zkb zk_cX3_draw zn_cX3_draw rfl)
theorem dX3_draw_141 : decode cX3_draw 141 = .ok (.invokevirtual 91, 3) := zo_182 (b1 := 0) (b2 := 91) (zkb3 zk_cX3_draw zn_cX3_draw rfl) rfl
theorem dX3_draw_144 : decode cX3_draw 144 = .ok (.aload_n 0, 1) := zo_42 (zkb zk_cX3_draw zn_cX3_draw rfl)
theorem dX3_draw_145 : decode cX3_draw 145 = .ok (.iload_n 2, 1) := zo_28 (zkb zk_cX3_draw zn_cX3_draw rfl)
theorem dX3_draw_146 : decode cX3_draw 146 = .ok (.invokevirtual 94, 3) := zo_182 (b1 := 0) (b2 := 94) (zkb3 zk_cX3_draw zn_cX3_draw rfl) rfl
theorem dX3_draw_149 : decode cX3_draw 149 = .ok (.iconst 0, 1) := zo_3 (zkb zk_cX3_draw zn_cX3_draw rfl)
theorem dX3_draw_150 : decode cX3_draw 150 = .ok (.istore 4, 2) := zo_54 (b1 := 4) (zkb2 zk_cX3_draw zn_cX3_draw rfl)
theorem dX3_draw_152 : decode cX3_draw 152 = .ok (.iload 4, 2) := zo_21 (b1 := 4) (zkb2 zk_cX3_draw zn_cX3_draw rfl)
theorem dX3_draw_154 : decode cX3_draw 154 = .ok (.sipush 256, 3) := zo_17 (b1 := 1) (b2 := 0) (zkb3 zk_cX3_draw zn_cX3_draw rfl) rfl
theorem dX3_draw_157 : decode cX3_draw 157 = .ok (.if_icmp .ge 37, 3) := zo_162 (b1 := 0) (b2 := 37) (zkb3 zk_cX3_draw zn_cX3_draw rfl) rfl
theorem dX3_draw_160 : decode cX3_draw 160 = .ok (.aload_n 0, 1) := zo_42 (zkb zk_cX3_draw zn_cX3_draw rfl)
theorem dX3_draw_161 : decode cX3_draw 161 = .ok (.getfield 10, 3) := zo_180 (b1 := 0) (b2 := 10) (zkb3 zk_cX3_draw zn_cX3_draw rfl) rfl
theorem dX3_draw_164 : decode cX3_draw 164 = .ok (.iload_n 1, 1) := zo_27 (zkb zk_cX3_draw zn_cX3_draw rfl)
theorem dX3_draw_165 : decode cX3_draw 165 = .ok (.sipush 256, 3) := zo_17 (b1 := 1) (b2 := 0) (zkb3 zk_cX3_draw zn_cX3_draw rfl) rfl
theorem dX3_draw_168 : decode cX3_draw 168 = .ok (.imul, 1) := zo_104 (zkb zk_cX3_draw zn_cX3_draw rfl)
theorem dX3_draw_169 : decode cX3_draw 169 = .ok (.iload 4, 2) := zo_21 (b1 := 4) (zkb2 zk_cX3_draw zn_cX3_draw rfl)
theorem dX3_draw_171 : decode cX3_draw 171 = .ok (.iadd, 1) := zo_96 (zkb zk_cX3_draw zn_cX3_draw rfl)
theorem dX3_draw_172 : decode cX3_draw 172 = .ok (.aload_n 0, 1) := zo_42 (zkb zk_cX3_draw zn_cX3_draw rfl)
theorem dX3_draw_173 : decode cX3_draw 173 = .ok (.getfield 23, 3) := zo_180 (b1 := 0) (b2 := 23) (zkb3 zk_cX3_draw zn_cX3_draw rfl) rfl
theorem dX3_draw_176 : decode cX3_draw 176 = .ok (.aload_n 0, 1) := zo_42 (zkb zk_cX3_draw zn_cX3_draw rfl)
theorem dX3_draw_177 : decode cX3_draw 177 = .ok (.getfield 17, 3) := zo_180 (b1 := 0) (b2 := 17) (zkb3 zk_cX3_draw zn_cX3_draw rfl) rfl
theorem dX3_draw_180 : decode cX3_draw 180 = .ok (.iload 4, 2) := zo_21 (b1 := 4) (zkb2 zk_cX3_draw zn_cX3_draw rfl)
theorem dX3_draw_182 : decode cX3_draw 182 = .ok (.iaload, 1) := zo_46 (zkb zk_cX3_draw zn_cX3_draw rfl)
theorem dX3_draw_183 : decode cX3_draw 183 = .ok (.bipush 31, 2) := zo_16 (b1 := 31) (zkb2 zk_cX3_draw zn_cX3_draw rfl) rfl
theorem dX3_draw_185 : decode cX3_draw 185 = .ok (.iand, 1) := zo_126 (zkb zk_cX3_draw zn_cX3_draw rfl)
theorem dX3_draw_186 : decode cX3_draw 186 = .ok (.iaload, 1) := zo_46 (zkb zk_cX3_draw zn_cX3_draw rfl)
theorem dX3_draw_187 : decode cX3_draw 187 = .ok (.iastore, 1) := zo_79 (zkb zk_cX3_draw zn_cX3_draw rfl)
theorem dX3_draw_188 : decode cX3_draw 188 = .ok (.iinc 4 1, 3) := zo_132 (b1 := 4) (b2 := 1) (zkb3 zk_cX3_draw zn_cX3_draw rfl) rfl
theorem dX3_draw_191 : decode cX3_draw 191 = .ok (.goto (-39), 3) := zo_167 (b1 := 255) (b2 := 217) (zkb3 zk_cX3_draw zn_cX3_draw rfl) rfl
theorem dX3_draw_194 : decode cX3_draw 194 = .ok (.return_, 1) := zo_177 (zkb zk_cX3_draw zn_cX3_draw rfl)
noncomputable def kn_cX3_fillBack : Nat := 0xb1e6ffa70102844f1b1c1100b42a0a009a2e1c1100b42a1900a20001111c3d03
theorem zk_cX3_fillBack : zkd cX3_fillBack.data.toList kn_cX3_fillBack = true := by decide +kernel
theorem zn_cX3_fillBack : cX3_fillBack.data.toList.length = 32 := by decide +kernel
theorem dX3_fillBack_0 : decode cX3_fillBack 0 = .ok (.iconst 0, 1) := zo_3 (zkb zk_cX3_fillBack zn_cX3_fillBack rfl)
theorem dX3_fillBack_1 : decode cX3_fillBack 1 = .ok (.istore_n 2, 1) := zo_61 (zkb zk_cX3_fillBack zn_cX3_fillBack rfl)
theorem dX3_fillBack_2 : decode cX3_fillBack 2 = .ok (.iload_n 2, 1) := zo_28 (zkb zk_cX3_fillBack zn_cX3_fillBack rfl)
theorem dX3_fillBack_3 : decode cX3_fillBack 3 = .ok (.sipush 256, 3) := zo_17 (b1 := 1) (b2 := 0) (zkb3 zk_cX3_fillBack zn_cX3_fillBack rfl) rfl
theorem dX3_fillBack_6 : decode cX3_fillBack 6 = .ok (.if_icmp .ge 25, 3) := zo_162 (b1 := 0) (b2 := 25) (zkb3 zk_cX3_fillBack zn_cX3_fillBack rfl) rfl
theorem dX3_fillBack_9 : decode cX3_fillBack 9 = .ok (.aload_n 0, 1) := zo_42 (zkb zk_cX3_fillBack zn_cX3_fillBack rfl)
theorem dX3_fillBack_10 : decode cX3_fillBack 10 = .ok (.getfield 17, 3) := zo_180 (b1 := 0) (b2 := 17) (zkb3 zk_cX3_fillBack zn_cX3_fillBack rfl) rfl
theorem dX3_fillBack_13 : decode cX3_fillBack 13 = .ok (.iload_n 2, 1) := zo_28 (zkb zk_cX3_fillBack zn_cX3_fillBack rfl)
theorem dX3_fillBack_14 : decode cX3_fillBack 14 = .ok (.iaload, 1) := zo_46 (zkb zk_cX3_fillBack zn_cX3_fillBack rfl)
theorem dX3_fillBack_15 : decode cX3_fillBack 15 = .ok (.ifCond .ne 10, 3) := zo_154 (b1 := 0) (b2 := 10) (zkb3 zk_cX3_fillBack zn_cX3_fillBack rfl) rfl
theorem dX3_fillBack_18 : decode cX3_fillBack 18 = .ok (.aload_n 0, 1) := zo_42 (zkb zk_cX3_fillBack zn_cX3_fillBack rfl)
theorem dX3_fillBack_19 : decode cX3_fillBack 19 = .ok (.getfield 17, 3) := zo_180 (b1 := 0) (b2 := 17) (zkb3 zk_cX3_fillBack zn_cX3_fillBack rfl) rfl
theorem dX3_fillBack_22 : decode cX3_fillBack 22 = .ok (.iload_n 2, 1) := zo_28 (zkb zk_cX3_fillBack zn_cX3_fillBack rfl)
theorem dX3_fillBack_23 : decode cX3_fillBack 23 = .ok (.iload_n 1, 1) := zo_27 (zkb zk_cX3_fillBack zn_cX3_fillBack rfl)
theorem dX3_fillBack_24 : decode cX3_fillBack 24 = .ok (.iastore, 1) := zo_79 (zkb zk_cX3_fillBack zn_cX3_fillBack rfl)
theorem dX3_fillBack_25 : decode cX3_fillBack 25 = .ok (.iinc 2 1, 3) := zo_132 (b1 := 2) (b2 := 1) (zkb3 zk_cX3_fillBack zn_cX3_fillBack rfl) rfl
theorem dX3_fillBack_28 : decode cX3_fillBack 28 = .ok (.goto (-26), 3) := zo_167 (b1 := 255) (b2 := 230) (zkb3 zk_cX3_fillBack zn_cX3_fillBack rfl) rfl
theorem dX3_fillBack_31 : decode cX3_fillBack 31 = .ok (.return_, 1) := zo_177 (zkb zk_cX3_fillBack zn_cX3_fillBack rfl)
noncomputable def kn_cX3_drawSprites : Nat := 0xb1ccffa70105844f602e05151400b42a101005151100b42a14009a7e0001112e05151100b42a22009e2e05151400b42a3200a20001110515053603a6ffa70105847e00b607156068051505608000111c2a1900a77b00b640101a00b42a0f00a40810041501048429009b071507367800b606151b2a3d00a70600a0d0001106150e00991d06367100b66005151c1a00b42a5900a2401005150536030436033e030400a7040700a0c000112800b61a00b42a3d687e3f107a043e00b6081a00b42a0001114400b8031400b42a
theorem zk_cX3_drawSprites : zkd cX3_drawSprites.data.toList kn_cX3_drawSprites = true := by decide +kernel
theorem zn_cX3_drawSprites : cX3_drawSprites.data.toList.length = 203 := by decide +kernel
theorem dX3_drawSprites_0 : decode cX3_drawSprites 0 = .ok (.aload_n 0, 1) := zo_42 (zkb zk_cX3_drawSprites zn_cX3_drawSprites rfl)
theorem dX3_drawSprites_1 : decode cX3_drawSprites 1 = .ok (.getfield 20, 3) := zo_180 (b1 := 0) (b2 := 20) (zkb3 zk_cX3_drawSprites zn_cX3_drawSprites rfl) rfl
theorem dX3_drawSprites_4 : decode cX3_drawSprites 4 = .ok (.iconst 0, 1) := zo_3 (zkb zk_cX3_drawSprites zn_cX3_drawSprites rfl)
theorem dX3_drawSprites_5 : decode cX3_drawSprites 5 = .ok (.invokestatic 68, 3) := zo_184 (b1 := 0) (b2 := 68) (zkb3 zk_cX3_drawSprites zn_cX3_drawSprites rfl) rfl
theorem dX3_drawSprites_8 : decode cX3_drawSprites 8 = .ok (.sipush 256, 3) := zo_17 (b1 := 1) (b2 := 0) (zkb3 zk_cX3_drawSprites zn_cX3_drawSprites rfl) rfl
theorem dX3_drawSprites_11 : decode cX3_drawSprites 11 = .ok (.aload_n 0, 1) := zo_42 (zkb zk_cX3_drawSprites zn_cX3_drawSprites rfl)
theorem dX3_drawSprites_12 : decode cX3_drawSprites 12 = .ok (.getfield 26, 3) := zo_180 (b1 := 0) (b2 := 26) (zkb3 zk_cX3_drawSprites zn_cX3_drawSprites rfl) rfl
theorem dX3_drawSprites_15 : decode cX3_drawSprites 15 = .ok (.iconst 5, 1) := zo_8 (zkb zk_cX3_drawSprites zn_cX3_drawSprites rfl)
theorem dX3_drawSprites_16 : decode cX3_drawSprites 16 = .ok (.invokevirtual 62, 3) := zo_182 (b1 := 0) (b2 := 62) (zkb3 zk_cX3_drawSprites zn_cX3_drawSprites rfl) rfl
theorem dX3_drawSprites_19 : decode cX3_drawSprites 19 = .ok (.iconst 1, 1) := zo_4 (zkb zk_cX3_drawSprites zn_cX3_drawSprites rfl)
theorem dX3_drawSprites_20 : decode cX3_drawSprites 20 = .ok (.ishr, 1) := zo_122 (zkb zk_cX3_drawSprites zn_cX3_drawSprites rfl)
theorem dX3_drawSprites_21 : decode cX3_drawSprites 21 = .ok (.bipush 63, 2) := zo_16 (b1 := 63) (zkb2 zk_cX3_drawSprites zn_cX3_drawSprites rfl) rfl
theorem dX3_drawSprites_23 : decode cX3_drawSprites 23 = .ok (.iand, 1) := zo_126 (zkb zk_cX3_drawSprites zn_cX3_drawSprites rfl)
theorem dX3_drawSprites_24 : decode cX3_drawSprites 24 = .ok (.imul, 1) := zo_104 (zkb zk_cX3_drawSprites zn_cX3_drawSprites rfl)
theorem dX3_drawSprites_25 : decode cX3_drawSprites 25 = .ok (.istore_n 2, 1) := zo_61 (zkb zk_cX3_drawSprites zn_cX3_drawSprites rfl)
theorem dX3_drawSprites_26 : decode cX3_drawSprites 26 = .ok (.aload_n 0, 1) := zo_42 (zkb zk_cX3_drawSprites zn_cX3_drawSprites rfl)
theorem dX3_drawSprites_27 : decode cX3_drawSprites 27 = .ok (.getfield 26, 3) := zo_180 (b1 := 0) (b2 := 26) (zkb3 zk_cX3_drawSprites zn_cX3_drawSprites rfl) rfl
theorem dX3_drawSprites_30 : decode cX3_drawSprites 30 = .ok (.invokevirtual 40, 3) := zo_182 (b1 := 0) (b2 := 40) (zkb3 zk_cX3_drawSprites zn_cX3_drawSprites rfl) rfl
theorem dX3_drawSprites_33 : decode cX3_drawSprites 33 = .ok (.sipush 192, 3) := zo_17 (b1 := 0) (b2 := 192) (zkb3 zk_cX3_drawSprites zn_cX3_drawSprites rfl) rfl
theorem dX3_drawSprites_36 : decode cX3_drawSprites 36 = .ok (.if_icmp .ne 7, 3) := zo_160 (b1 := 0) (b2 := 7) (zkb3 zk_cX3_drawSprites zn_cX3_drawSprites rfl) rfl
theorem dX3_drawSprites_39 : decode cX3_drawSprites 39 = .ok (.iconst 1, 1) := zo_4 (zkb zk_cX3_drawSprites zn_cX3_drawSprites rfl)
theorem dX3_drawSprites_40 : decode cX3_drawSprites 40 = .ok (.goto 4, 3) := zo_167 (b1 := 0) (b2 := 4) (zkb3 zk_cX3_drawSprites zn_cX3_drawSprites rfl) rfl
theorem dX3_drawSprites_43 : decode cX3_drawSprites 43 = .ok (.iconst 0, 1) := zo_3 (zkb zk_cX3_drawSprites zn_cX3_drawSprites rfl)
theorem dX3_drawSprites_44 : decode cX3_drawSprites 44 = .ok (.istore_n 3, 1) := zo_62 (zkb zk_cX3_drawSprites zn_cX3_drawSprites rfl)
theorem dX3_drawSprites_45 : decode cX3_drawSprites 45 = .ok (.iconst 0, 1) := zo_3 (zkb zk_cX3_drawSprites zn_cX3_drawSprites rfl)
theorem dX3_drawSprites_46 : decode cX3_drawSprites 46 = .ok (.istore 4, 2) := zo_54 (b1 := 4) (zkb2 zk_cX3_drawSprites zn_cX3_drawSprites rfl)
theorem dX3_drawSprites_48 : decode cX3_drawSprites 48 = .ok (.iconst 0, 1) := zo_3 (zkb zk_cX3_drawSprites zn_cX3_drawSprites rfl)
theorem dX3_drawSprites_49 : decode cX3_drawSprites 49 = .ok (.istore 5, 2) := zo_54 (b1 := 5) (zkb2 zk_cX3_drawSprites zn_cX3_drawSprites rfl)
theorem dX3_drawSprites_51 : decode cX3_drawSprites 51 = .ok (.iload 5, 2) := zo_21 (b1 := 5) (zkb2 zk_cX3_drawSprites zn_cX3_drawSprites rfl)
theorem dX3_drawSprites_53 : decode cX3_drawSprites 53 = .ok (.bipush 64, 2) := zo_16 (b1 := 64) (zkb2 zk_cX3_drawSprites zn_cX3_drawSprites rfl) rfl
theorem dX3_drawSprites_55 : decode cX3_drawSprites 55 = .ok (.if_icmp .ge 89, 3) := zo_162 (b1 := 0) (b2 := 89) (zkb3 zk_cX3_drawSprites zn_cX3_drawSprites rfl) rfl
theorem dX3_drawSprites_58 : decode cX3_drawSprites 58 = .ok (.aload_n 0, 1) := zo_42 (zkb zk_cX3_drawSprites zn_cX3_drawSprites rfl)
theorem dX3_drawSprites_59 : decode cX3_drawSprites 59 = .ok (.getfield 26, 3) := zo_180 (b1 := 0) (b2 := 26) (zkb3 zk_cX3_drawSprites zn_cX3_drawSprites rfl) rfl
theorem dX3_drawSprites_62 : decode cX3_drawSprites 62 = .ok (.iload_n 2, 1) := zo_28 (zkb zk_cX3_drawSprites zn_cX3_drawSprites rfl)
theorem dX3_drawSprites_63 : decode cX3_drawSprites 63 = .ok (.iload 5, 2) := zo_21 (b1 := 5) (zkb2 zk_cX3_drawSprites zn_cX3_drawSprites rfl)
theorem dX3_drawSprites_65 : decode cX3_drawSprites 65 = .ok (.iadd, 1) := zo_96 (zkb zk_cX3_drawSprites zn_cX3_drawSprites rfl)
theorem dX3_drawSprites_66 : decode cX3_drawSprites 66 = .ok (.invokevirtual 113, 3) := zo_182 (b1 := 0) (b2 := 113) (zkb3 zk_cX3_drawSprites zn_cX3_drawSprites rfl) rfl
theorem dX3_drawSprites_69 : decode cX3_drawSprites 69 = .ok (.istore 6, 2) := zo_54 (b1 := 6) (zkb2 zk_cX3_drawSprites zn_cX3_drawSprites rfl)
theorem dX3_drawSprites_71 : decode cX3_drawSprites 71 = .ok (.iload_n 3, 1) := zo_29 (zkb zk_cX3_drawSprites zn_cX3_drawSprites rfl)
theorem dX3_drawSprites_72 : decode cX3_drawSprites 72 = .ok (.ifCond .eq 14, 3) := zo_153 (b1 := 0) (b2 := 14) (zkb3 zk_cX3_drawSprites zn_cX3_drawSprites rfl) rfl
theorem dX3_drawSprites_75 : decode cX3_drawSprites 75 = .ok (.iload 6, 2) := zo_21 (b1 := 6) (zkb2 zk_cX3_drawSprites zn_cX3_drawSprites rfl)
theorem dX3_drawSprites_77 : decode cX3_drawSprites 77 = .ok (.sipush 208, 3) := zo_17 (b1 := 0) (b2 := 208) (zkb3 zk_cX3_drawSprites zn_cX3_drawSprites rfl) rfl
theorem dX3_drawSprites_80 : decode cX3_drawSprites 80 = .ok (.if_icmp .ne 6, 3) := zo_160 (b1 := 0) (b2 := 6) (zkb3 zk_cX3_drawSprites zn_cX3_drawSprites rfl) rfl
theorem dX3_drawSprites_83 : decode cX3_drawSprites 83 = .ok (.goto 61, 3) := zo_167 (b1 := 0) (b2 := 61) (zkb3 zk_cX3_drawSprites zn_cX3_drawSprites rfl) rfl
theorem dX3_drawSprites_86 : decode cX3_drawSprites 86 = .ok (.aload_n 0, 1) := zo_42 (zkb zk_cX3_drawSprites zn_cX3_drawSprites rfl)
theorem dX3_drawSprites_87 : decode cX3_drawSprites 87 = .ok (.iload_n 1, 1) := zo_27 (zkb zk_cX3_drawSprites zn_cX3_drawSprites rfl)
theorem dX3_drawSprites_88 : decode cX3_drawSprites 88 = .ok (.iload 6, 2) := zo_21 (b1 := 6) (zkb2 zk_cX3_drawSprites zn_cX3_drawSprites rfl)
theorem dX3_drawSprites_90 : decode cX3_drawSprites 90 = .ok (.invokevirtual 120, 3) := zo_182 (b1 := 0) (b2 := 120) (zkb3 zk_cX3_drawSprites zn_cX3_drawSprites rfl) rfl
theorem dX3_drawSprites_93 : decode cX3_drawSprites 93 = .ok (.istore 7, 2) := zo_54 (b1 := 7) (zkb2 zk_cX3_drawSprites zn_cX3_drawSprites rfl)
theorem dX3_drawSprites_95 : decode cX3_drawSprites 95 = .ok (.iload 7, 2) := zo_21 (b1 := 7) (zkb2 zk_cX3_drawSprites zn_cX3_drawSprites rfl)
theorem dX3_drawSprites_97 : decode cX3_drawSprites 97 = .ok (.ifCond .lt 41, 3) := zo_155 (b1 := 0) (b2 := 41) (zkb3 zk_cX3_drawSprites zn_cX3_drawSprites rfl) rfl
theorem dX3_drawSprites_100 : decode cX3_drawSprites 100 = .ok (.iinc 4 1, 3) := zo_132 (b1 := 4) (b2 := 1) (zkb3 zk_cX3_drawSprites zn_cX3_drawSprites rfl) rfl
theorem dX3_drawSprites_103 : decode cX3_drawSprites 103 = .ok (.iload 4, 2) := zo_21 (b1 := 4) (zkb2 zk_cX3_drawSprites zn_cX3_drawSprites rfl)
theorem dX3_drawSprites_105 : decode cX3_drawSprites 105 = .ok (.bipush 8, 2) := zo_16 (b1 := 8) (zkb2 zk_cX3_drawSprites zn_cX3_drawSprites rfl) rfl
theorem dX3_drawSprites_107 : decode cX3_drawSprites 107 = .ok (.if_icmp .le 15, 3) := zo_164 (b1 := 0) (b2 := 15) (zkb3 zk_cX3_drawSprites zn_cX3_drawSprites rfl) rfl
theorem dX3_drawSprites_110 : decode cX3_drawSprites 110 = .ok (.aload_n 0, 1) := zo_42 (zkb zk_cX3_drawSprites zn_cX3_drawSprites rfl)
theorem dX3_drawSprites_111 : decode cX3_drawSprites 111 = .ok (.getfield 26, 3) := zo_180 (b1 := 0) (b2 := 26) (zkb3 zk_cX3_drawSprites zn_cX3_drawSprites rfl) rfl
theorem dX3_drawSprites_114 : decode cX3_drawSprites 114 = .ok (.bipush 64, 2) := zo_16 (b1 := 64) (zkb2 zk_cX3_drawSprites zn_cX3_drawSprites rfl) rfl
theorem dX3_drawSprites_116 : decode cX3_drawSprites 116 = .ok (.invokevirtual 123, 3) := zo_182 (b1 := 0) (b2 := 123) (zkb3 zk_cX3_drawSprites zn_cX3_drawSprites rfl) rfl
theorem dX3_drawSprites_119 : decode cX3_drawSprites 119 = .ok (.goto 25, 3) := zo_167 (b1 := 0) (b2 := 25) (zkb3 zk_cX3_drawSprites zn_cX3_drawSprites rfl) rfl
theorem dX3_drawSprites_122 : decode cX3_drawSprites 122 = .ok (.aload_n 0, 1) := zo_42 (zkb zk_cX3_drawSprites zn_cX3_drawSprites rfl)
theorem dX3_drawSprites_123 : decode cX3_drawSprites 123 = .ok (.iload_n 2, 1) := zo_28 (zkb zk_cX3_drawSprites zn_cX3_drawSprites rfl)
theorem dX3_drawSprites_124 : decode cX3_drawSprites 124 = .ok (.sipush 128, 3) := zo_17 (b1 := 0) (b2 := 128) (zkb3 zk_cX3_drawSprites zn_cX3_drawSprites rfl) rfl
theorem dX3_drawSprites_127 : decode cX3_drawSprites 127 = .ok (.iadd, 1) := zo_96 (zkb zk_cX3_drawSprites zn_cX3_drawSprites rfl)
theorem dX3_drawSprites_128 : decode cX3_drawSprites 128 = .ok (.iconst 2, 1) := zo_5 (zkb zk_cX3_drawSprites zn_cX3_drawSprites rfl)
theorem dX3_drawSprites_129 : decode cX3_drawSprites 129 = .ok (.iload 5, 2) := zo_21 (b1 := 5) (zkb2 zk_cX3_drawSprites zn_cX3_drawSprites rfl)
theorem dX3_drawSprites_131 : decode cX3_drawSprites 131 = .ok (.imul, 1) := zo_104 (zkb zk_cX3_drawSprites zn_cX3_drawSprites rfl)
theorem dX3_drawSprites_132 : decode cX3_drawSprites 132 = .ok (.iadd, 1) := zo_96 (zkb zk_cX3_drawSprites zn_cX3_drawSprites rfl)
theorem dX3_drawSprites_133 : decode cX3_drawSprites 133 = .ok (.iload 7, 2) := zo_21 (b1 := 7) (zkb2 zk_cX3_drawSprites zn_cX3_drawSprites rfl)
theorem dX3_drawSprites_135 : decode cX3_drawSprites 135 = .ok (.invokevirtual 126, 3) := zo_182 (b1 := 0) (b2 := 126) (zkb3 zk_cX3_drawSprites zn_cX3_drawSprites rfl) rfl
theorem dX3_drawSprites_138 : decode cX3_drawSprites 138 = .ok (.iinc 5 1, 3) := zo_132 (b1 := 5) (b2 := 1) (zkb3 zk_cX3_drawSprites zn_cX3_drawSprites rfl) rfl
theorem dX3_drawSprites_141 : decode cX3_drawSprites 141 = .ok (.goto (-90), 3) := zo_167 (b1 := 255) (b2 := 166) (zkb3 zk_cX3_drawSprites zn_cX3_drawSprites rfl) rfl
theorem dX3_drawSprites_144 : decode cX3_drawSprites 144 = .ok (.iconst 0, 1) := zo_3 (zkb zk_cX3_drawSprites zn_cX3_drawSprites rfl)
theorem dX3_drawSprites_145 : decode cX3_drawSprites 145 = .ok (.istore 5, 2) := zo_54 (b1 := 5) (zkb2 zk_cX3_drawSprites zn_cX3_drawSprites rfl)
theorem dX3_drawSprites_147 : decode cX3_drawSprites 147 = .ok (.iload 5, 2) := zo_21 (b1 := 5) (zkb2 zk_cX3_drawSprites zn_cX3_drawSprites rfl)
theorem dX3_drawSprites_149 : decode cX3_drawSprites 149 = .ok (.sipush 256, 3) := zo_17 (b1 := 1) (b2 := 0) (zkb3 zk_cX3_drawSprites zn_cX3_drawSprites rfl) rfl
theorem dX3_drawSprites_152 : decode cX3_drawSprites 152 = .ok (.if_icmp .ge 50, 3) := zo_162 (b1 := 0) (b2 := 50) (zkb3 zk_cX3_drawSprites zn_cX3_drawSprites rfl) rfl
theorem dX3_drawSprites_155 : decode cX3_drawSprites 155 = .ok (.aload_n 0, 1) := zo_42 (zkb zk_cX3_drawSprites zn_cX3_drawSprites rfl)
theorem dX3_drawSprites_156 : decode cX3_drawSprites 156 = .ok (.getfield 20, 3) := zo_180 (b1 := 0) (b2 := 20) (zkb3 zk_cX3_drawSprites zn_cX3_drawSprites rfl) rfl
theorem dX3_drawSprites_159 : decode cX3_drawSprites 159 = .ok (.iload 5, 2) := zo_21 (b1 := 5) (zkb2 zk_cX3_drawSprites zn_cX3_drawSprites rfl)
theorem dX3_drawSprites_161 : decode cX3_drawSprites 161 = .ok (.iaload, 1) := zo_46 (zkb zk_cX3_drawSprites zn_cX3_drawSprites rfl)
theorem dX3_drawSprites_162 : decode cX3_drawSprites 162 = .ok (.ifCond .le 34, 3) := zo_158 (b1 := 0) (b2 := 34) (zkb3 zk_cX3_drawSprites zn_cX3_drawSprites rfl) rfl
theorem dX3_drawSprites_165 : decode cX3_drawSprites 165 = .ok (.aload_n 0, 1) := zo_42 (zkb zk_cX3_drawSprites zn_cX3_drawSprites rfl)
theorem dX3_drawSprites_166 : decode cX3_drawSprites 166 = .ok (.getfield 17, 3) := zo_180 (b1 := 0) (b2 := 17) (zkb3 zk_cX3_drawSprites zn_cX3_drawSprites rfl) rfl
theorem dX3_drawSprites_169 : decode cX3_drawSprites 169 = .ok (.iload 5, 2) := zo_21 (b1 := 5) (zkb2 zk_cX3_drawSprites zn_cX3_drawSprites rfl)
theorem dX3_drawSprites_171 : decode cX3_drawSprites 171 = .ok (.iaload, 1) := zo_46 (zkb zk_cX3_drawSprites zn_cX3_drawSprites rfl)
theorem dX3_drawSprites_172 : decode cX3_drawSprites 172 = .ok (.sipush 256, 3) := zo_17 (b1 := 1) (b2 := 0) (zkb3 zk_cX3_drawSprites zn_cX3_drawSprites rfl) rfl
theorem dX3_drawSprites_175 : decode cX3_drawSprites 175 = .ok (.iand, 1) := zo_126 (zkb zk_cX3_drawSprites zn_cX3_drawSprites rfl)
theorem dX3_drawSprites_176 : decode cX3_drawSprites 176 = .ok (.ifCond .ne 20, 3) := zo_154 (b1 := 0) (b2 := 20) (zkb3 zk_cX3_drawSprites zn_cX3_drawSprites rfl) rfl
theorem dX3_drawSprites_179 : decode cX3_drawSprites 179 = .ok (.aload_n 0, 1) := zo_42 (zkb zk_cX3_drawSprites zn_cX3_drawSprites rfl)
theorem dX3_drawSprites_180 : decode cX3_drawSprites 180 = .ok (.getfield 17, 3) := zo_180 (b1 := 0) (b2 := 17) (zkb3 zk_cX3_drawSprites zn_cX3_drawSprites rfl) rfl
theorem dX3_drawSprites_183 : decode cX3_drawSprites 183 = .ok (.iload 5, 2) := zo_21 (b1 := 5) (zkb2 zk_cX3_drawSprites zn_cX3_drawSprites rfl)
theorem dX3_drawSprites_185 : decode cX3_drawSprites 185 = .ok (.bipush 16, 2) := zo_16 (b1 := 16) (zkb2 zk_cX3_drawSprites zn_cX3_drawSprites rfl) rfl
theorem dX3_drawSprites_187 : decode cX3_drawSprites 187 = .ok (.aload_n 0, 1) := zo_42 (zkb zk_cX3_drawSprites zn_cX3_drawSprites rfl)
theorem dX3_drawSprites_188 : decode cX3_drawSprites 188 = .ok (.getfield 20, 3) := zo_180 (b1 := 0) (b2 := 20) (zkb3 zk_cX3_drawSprites zn_cX3_drawSprites rfl) rfl
theorem dX3_drawSprites_191 : decode cX3_drawSprites 191 = .ok (.iload 5, 2) := zo_21 (b1 := 5) (zkb2 zk_cX3_drawSprites zn_cX3_drawSprites rfl)
theorem dX3_drawSprites_193 : decode cX3_drawSprites 193 = .ok (.iaload, 1) := zo_46 (zkb zk_cX3_drawSprites zn_cX3_drawSprites rfl)
theorem dX3_drawSprites_194 : decode cX3_drawSprites 194 = .ok (.iadd, 1) := zo_96 (zkb zk_cX3_drawSprites zn_cX3_drawSprites rfl)
theorem dX3_drawSprites_195 : decode cX3_drawSprites 195 = .ok (.iastore, 1) := zo_79 (zkb zk_cX3_drawSprites zn_cX3_drawSprites rfl)
theorem dX3_drawSprites_196 : decode cX3_drawSprites 196 = .ok (.iinc 5 1, 3) := zo_132 (b1 := 5) (b2 := 1) (zkb3 zk_cX3_drawSprites zn_cX3_drawSprites rfl) rfl
theorem dX3_drawSprites_199 : decode cX3_drawSprites 199 = .ok (.goto (-52), 3) := zo_167 (b1 := 255) (b2 := 204) (zkb3 zk_cX3_drawSprites zn_cX3_drawSprites rfl) rfl
theorem dX3_drawSprites_202 : decode cX3_drawSprites 202 = .ok (.return_, 1) := zo_177 (zkb zk_cX3_drawSprites zn_cX3_drawSprites rfl)
noncomputable def kn_cX3_drawSprite : Nat := 0xb1aeffa70107844f091508151400b42a0c00a77b00b620101a00b42a0f009e2e08151400b42a2200a200011108152a009b08152f009e091509366e00b87a061507156b00b42a08366007151d4e00a2780615081007150736037400b660681c076804150500a77efe1004150b00997e05051520102a06367e04051505363e00b6041a00b42a043660030400a70001110900997e073e00b606101a00b42a7100b660041b1a00b42a3e64030400a708100800997e08103e00b6031a00b42a7100b61b1a00b42a
theorem zk_cX3_drawSprite : zkd cX3_drawSprite.data.toList kn_cX3_drawSprite = true := by decide +kernel
theorem zn_cX3_drawSprite : cX3_drawSprite.data.toList.length = 197 := by decide +kernel
theorem dX3_drawSprite_0 : decode cX3_drawSprite 0 = .ok (.aload_n 0, 1) := zo_42 (zkb zk_cX3_drawSprite zn_cX3_drawSprite rfl)
theorem dX3_drawSprite_1 : decode cX3_drawSprite 1 = .ok (.getfield 26, 3) := zo_180 (b1 := 0) (b2 := 26) (zkb3 zk_cX3_drawSprite zn_cX3_drawSprite rfl) rfl
theorem dX3_drawSprite_4 : decode cX3_drawSprite 4 = .ok (.iload_n 1, 1) := zo_27 (zkb zk_cX3_drawSprite zn_cX3_drawSprite rfl)
theorem dX3_drawSprite_5 : decode cX3_drawSprite 5 = .ok (.invokevirtual 113, 3) := zo_182 (b1 := 0) (b2 := 113) (zkb3 zk_cX3_drawSprite zn_cX3_drawSprite rfl) rfl
theorem dX3_drawSprite_8 : decode cX3_drawSprite 8 = .ok (.aload_n 0, 1) := zo_42 (zkb zk_cX3_drawSprite zn_cX3_drawSprite rfl)
theorem dX3_drawSprite_9 : decode cX3_drawSprite 9 = .ok (.getfield 26, 3) := zo_180 (b1 := 0) (b2 := 26) (zkb3 zk_cX3_drawSprite zn_cX3_drawSprite rfl) rfl
theorem dX3_drawSprite_12 : decode cX3_drawSprite 12 = .ok (.iconst 0, 1) := zo_3 (zkb zk_cX3_drawSprite zn_cX3_drawSprite rfl)
theorem dX3_drawSprite_13 : decode cX3_drawSprite 13 = .ok (.invokevirtual 62, 3) := zo_182 (b1 := 0) (b2 := 62) (zkb3 zk_cX3_drawSprite zn_cX3_drawSprite rfl) rfl
theorem dX3_drawSprite_16 : decode cX3_drawSprite 16 = .ok (.bipush 8, 2) := zo_16 (b1 := 8) (zkb2 zk_cX3_drawSprite zn_cX3_drawSprite rfl) rfl
theorem dX3_drawSprite_18 : decode cX3_drawSprite 18 = .ok (.iand, 1) := zo_126 (zkb zk_cX3_drawSprite zn_cX3_drawSprite rfl)
theorem dX3_drawSprite_19 : decode cX3_drawSprite 19 = .ok (.ifCond .eq 8, 3) := zo_153 (b1 := 0) (b2 := 8) (zkb3 zk_cX3_drawSprite zn_cX3_drawSprite rfl) rfl
theorem dX3_drawSprite_22 : decode cX3_drawSprite 22 = .ok (.bipush 8, 2) := zo_16 (b1 := 8) (zkb2 zk_cX3_drawSprite zn_cX3_drawSprite rfl) rfl
theorem dX3_drawSprite_24 : decode cX3_drawSprite 24 = .ok (.goto 4, 3) := zo_167 (b1 := 0) (b2 := 4) (zkb3 zk_cX3_drawSprite zn_cX3_drawSprite rfl) rfl
theorem dX3_drawSprite_27 : decode cX3_drawSprite 27 = .ok (.iconst 0, 1) := zo_3 (zkb zk_cX3_drawSprite zn_cX3_drawSprite rfl)
theorem dX3_drawSprite_28 : decode cX3_drawSprite 28 = .ok (.isub, 1) := zo_100 (zkb zk_cX3_drawSprite zn_cX3_drawSprite rfl)
theorem dX3_drawSprite_29 : decode cX3_drawSprite 29 = .ok (.istore_n 3, 1) := zo_62 (zkb zk_cX3_drawSprite zn_cX3_drawSprite rfl)
theorem dX3_drawSprite_30 : decode cX3_drawSprite 30 = .ok (.aload_n 0, 1) := zo_42 (zkb zk_cX3_drawSprite zn_cX3_drawSprite rfl)
theorem dX3_drawSprite_31 : decode cX3_drawSprite 31 = .ok (.getfield 26, 3) := zo_180 (b1 := 0) (b2 := 26) (zkb3 zk_cX3_drawSprite zn_cX3_drawSprite rfl) rfl
theorem dX3_drawSprite_34 : decode cX3_drawSprite 34 = .ok (.iload_n 1, 1) := zo_27 (zkb zk_cX3_drawSprite zn_cX3_drawSprite rfl)
theorem dX3_drawSprite_35 : decode cX3_drawSprite 35 = .ok (.iconst 1, 1) := zo_4 (zkb zk_cX3_drawSprite zn_cX3_drawSprite rfl)
theorem dX3_drawSprite_36 : decode cX3_drawSprite 36 = .ok (.iadd, 1) := zo_96 (zkb zk_cX3_drawSprite zn_cX3_drawSprite rfl)
theorem dX3_drawSprite_37 : decode cX3_drawSprite 37 = .ok (.invokevirtual 113, 3) := zo_182 (b1 := 0) (b2 := 113) (zkb3 zk_cX3_drawSprite zn_cX3_drawSprite rfl) rfl
theorem dX3_drawSprite_40 : decode cX3_drawSprite 40 = .ok (.aload_n 0, 1) := zo_42 (zkb zk_cX3_drawSprite zn_cX3_drawSprite rfl)
theorem dX3_drawSprite_41 : decode cX3_drawSprite 41 = .ok (.getfield 26, 3) := zo_180 (b1 := 0) (b2 := 26) (zkb3 zk_cX3_drawSprite zn_cX3_drawSprite rfl) rfl
theorem dX3_drawSprite_44 : decode cX3_drawSprite 44 = .ok (.bipush 6, 2) := zo_16 (b1 := 6) (zkb2 zk_cX3_drawSprite zn_cX3_drawSprite rfl) rfl
theorem dX3_drawSprite_46 : decode cX3_drawSprite 46 = .ok (.invokevirtual 62, 3) := zo_182 (b1 := 0) (b2 := 62) (zkb3 zk_cX3_drawSprite zn_cX3_drawSprite rfl) rfl
theorem dX3_drawSprite_49 : decode cX3_drawSprite 49 = .ok (.iconst 4, 1) := zo_7 (zkb zk_cX3_drawSprite zn_cX3_drawSprite rfl)
theorem dX3_drawSprite_50 : decode cX3_drawSprite 50 = .ok (.iand, 1) := zo_126 (zkb zk_cX3_drawSprite zn_cX3_drawSprite rfl)
theorem dX3_drawSprite_51 : decode cX3_drawSprite 51 = .ok (.ifCond .eq 9, 3) := zo_153 (b1 := 0) (b2 := 9) (zkb3 zk_cX3_drawSprite zn_cX3_drawSprite rfl) rfl
theorem dX3_drawSprite_54 : decode cX3_drawSprite 54 = .ok (.sipush 256, 3) := zo_17 (b1 := 1) (b2 := 0) (zkb3 zk_cX3_drawSprite zn_cX3_drawSprite rfl) rfl
theorem dX3_drawSprite_57 : decode cX3_drawSprite 57 = .ok (.goto 4, 3) := zo_167 (b1 := 0) (b2 := 4) (zkb3 zk_cX3_drawSprite zn_cX3_drawSprite rfl) rfl
theorem dX3_drawSprite_60 : decode cX3_drawSprite 60 = .ok (.iconst 0, 1) := zo_3 (zkb zk_cX3_drawSprite zn_cX3_drawSprite rfl)
theorem dX3_drawSprite_61 : decode cX3_drawSprite 61 = .ok (.iadd, 1) := zo_96 (zkb zk_cX3_drawSprite zn_cX3_drawSprite rfl)
theorem dX3_drawSprite_62 : decode cX3_drawSprite 62 = .ok (.istore 4, 2) := zo_54 (b1 := 4) (zkb2 zk_cX3_drawSprite zn_cX3_drawSprite rfl)
theorem dX3_drawSprite_64 : decode cX3_drawSprite 64 = .ok (.aload_n 0, 1) := zo_42 (zkb zk_cX3_drawSprite zn_cX3_drawSprite rfl)
theorem dX3_drawSprite_65 : decode cX3_drawSprite 65 = .ok (.getfield 26, 3) := zo_180 (b1 := 0) (b2 := 26) (zkb3 zk_cX3_drawSprite zn_cX3_drawSprite rfl) rfl
theorem dX3_drawSprite_68 : decode cX3_drawSprite 68 = .ok (.iconst 1, 1) := zo_4 (zkb zk_cX3_drawSprite zn_cX3_drawSprite rfl)
theorem dX3_drawSprite_69 : decode cX3_drawSprite 69 = .ok (.invokevirtual 62, 3) := zo_182 (b1 := 0) (b2 := 62) (zkb3 zk_cX3_drawSprite zn_cX3_drawSprite rfl) rfl
theorem dX3_drawSprite_72 : decode cX3_drawSprite 72 = .ok (.istore 5, 2) := zo_54 (b1 := 5) (zkb2 zk_cX3_drawSprite zn_cX3_drawSprite rfl)
theorem dX3_drawSprite_74 : decode cX3_drawSprite 74 = .ok (.iload 5, 2) := zo_21 (b1 := 5) (zkb2 zk_cX3_drawSprite zn_cX3_drawSprite rfl)
theorem dX3_drawSprite_76 : decode cX3_drawSprite 76 = .ok (.iconst 1, 1) := zo_4 (zkb zk_cX3_drawSprite zn_cX3_drawSprite rfl)
theorem dX3_drawSprite_77 : decode cX3_drawSprite 77 = .ok (.iand, 1) := zo_126 (zkb zk_cX3_drawSprite zn_cX3_drawSprite rfl)
theorem dX3_drawSprite_78 : decode cX3_drawSprite 78 = .ok (.istore 6, 2) := zo_54 (b1 := 6) (zkb2 zk_cX3_drawSprite zn_cX3_drawSprite rfl)
theorem dX3_drawSprite_80 : decode cX3_drawSprite 80 = .ok (.aload_n 0, 1) := zo_42 (zkb zk_cX3_drawSprite zn_cX3_drawSprite rfl)
theorem dX3_drawSprite_81 : decode cX3_drawSprite 81 = .ok (.bipush 32, 2) := zo_16 (b1 := 32) (zkb2 zk_cX3_drawSprite zn_cX3_drawSprite rfl) rfl
theorem dX3_drawSprite_83 : decode cX3_drawSprite 83 = .ok (.iload 5, 2) := zo_21 (b1 := 5) (zkb2 zk_cX3_drawSprite zn_cX3_drawSprite rfl)
theorem dX3_drawSprite_85 : decode cX3_drawSprite 85 = .ok (.iconst 2, 1) := zo_5 (zkb zk_cX3_drawSprite zn_cX3_drawSprite rfl)
theorem dX3_drawSprite_86 : decode cX3_drawSprite 86 = .ok (.iand, 1) := zo_126 (zkb zk_cX3_drawSprite zn_cX3_drawSprite rfl)
theorem dX3_drawSprite_87 : decode cX3_drawSprite 87 = .ok (.ifCond .eq 11, 3) := zo_153 (b1 := 0) (b2 := 11) (zkb3 zk_cX3_drawSprite zn_cX3_drawSprite rfl) rfl
theorem dX3_drawSprite_90 : decode cX3_drawSprite 90 = .ok (.iload 4, 2) := zo_21 (b1 := 4) (zkb2 zk_cX3_drawSprite zn_cX3_drawSprite rfl)
theorem dX3_drawSprite_92 : decode cX3_drawSprite 92 = .ok (.bipush (-2), 2) := zo_16 (b1 := 254) (zkb2 zk_cX3_drawSprite zn_cX3_drawSprite rfl) rfl
theorem dX3_drawSprite_94 : decode cX3_drawSprite 94 = .ok (.iand, 1) := zo_126 (zkb zk_cX3_drawSprite zn_cX3_drawSprite rfl)
theorem dX3_drawSprite_95 : decode cX3_drawSprite 95 = .ok (.goto 5, 3) := zo_167 (b1 := 0) (b2 := 5) (zkb3 zk_cX3_drawSprite zn_cX3_drawSprite rfl) rfl
theorem dX3_drawSprite_98 : decode cX3_drawSprite 98 = .ok (.iload 4, 2) := zo_21 (b1 := 4) (zkb2 zk_cX3_drawSprite zn_cX3_drawSprite rfl)
theorem dX3_drawSprite_100 : decode cX3_drawSprite 100 = .ok (.imul, 1) := zo_104 (zkb zk_cX3_drawSprite zn_cX3_drawSprite rfl)
theorem dX3_drawSprite_101 : decode cX3_drawSprite 101 = .ok (.iconst 4, 1) := zo_7 (zkb zk_cX3_drawSprite zn_cX3_drawSprite rfl)
theorem dX3_drawSprite_102 : decode cX3_drawSprite 102 = .ok (.iload_n 2, 1) := zo_28 (zkb zk_cX3_drawSprite zn_cX3_drawSprite rfl)
theorem dX3_drawSprite_103 : decode cX3_drawSprite 103 = .ok (.imul, 1) := zo_104 (zkb zk_cX3_drawSprite zn_cX3_drawSprite rfl)
theorem dX3_drawSprite_104 : decode cX3_drawSprite 104 = .ok (.iadd, 1) := zo_96 (zkb zk_cX3_drawSprite zn_cX3_drawSprite rfl)
theorem dX3_drawSprite_105 : decode cX3_drawSprite 105 = .ok (.invokevirtual 116, 3) := zo_182 (b1 := 0) (b2 := 116) (zkb3 zk_cX3_drawSprite zn_cX3_drawSprite rfl) rfl
theorem dX3_drawSprite_108 : decode cX3_drawSprite 108 = .ok (.iconst 0, 1) := zo_3 (zkb zk_cX3_drawSprite zn_cX3_drawSprite rfl)
theorem dX3_drawSprite_109 : decode cX3_drawSprite 109 = .ok (.istore 7, 2) := zo_54 (b1 := 7) (zkb2 zk_cX3_drawSprite zn_cX3_drawSprite rfl)
theorem dX3_drawSprite_111 : decode cX3_drawSprite 111 = .ok (.iload 7, 2) := zo_21 (b1 := 7) (zkb2 zk_cX3_drawSprite zn_cX3_drawSprite rfl)
theorem dX3_drawSprite_113 : decode cX3_drawSprite 113 = .ok (.bipush 8, 2) := zo_16 (b1 := 8) (zkb2 zk_cX3_drawSprite zn_cX3_drawSprite rfl) rfl
theorem dX3_drawSprite_115 : decode cX3_drawSprite 115 = .ok (.iload 6, 2) := zo_21 (b1 := 6) (zkb2 zk_cX3_drawSprite zn_cX3_drawSprite rfl)
theorem dX3_drawSprite_117 : decode cX3_drawSprite 117 = .ok (.ishl, 1) := zo_120 (zkb zk_cX3_drawSprite zn_cX3_drawSprite rfl)
theorem dX3_drawSprite_118 : decode cX3_drawSprite 118 = .ok (.if_icmp .ge 78, 3) := zo_162 (b1 := 0) (b2 := 78) (zkb3 zk_cX3_drawSprite zn_cX3_drawSprite rfl) rfl
theorem dX3_drawSprite_121 : decode cX3_drawSprite 121 = .ok (.iload_n 3, 1) := zo_29 (zkb zk_cX3_drawSprite zn_cX3_drawSprite rfl)
theorem dX3_drawSprite_122 : decode cX3_drawSprite 122 = .ok (.iload 7, 2) := zo_21 (b1 := 7) (zkb2 zk_cX3_drawSprite zn_cX3_drawSprite rfl)
theorem dX3_drawSprite_124 : decode cX3_drawSprite 124 = .ok (.iadd, 1) := zo_96 (zkb zk_cX3_drawSprite zn_cX3_drawSprite rfl)
theorem dX3_drawSprite_125 : decode cX3_drawSprite 125 = .ok (.istore 8, 2) := zo_54 (b1 := 8) (zkb2 zk_cX3_drawSprite zn_cX3_drawSprite rfl)
theorem dX3_drawSprite_127 : decode cX3_drawSprite 127 = .ok (.aload_n 0, 1) := zo_42 (zkb zk_cX3_drawSprite zn_cX3_drawSprite rfl)
theorem dX3_drawSprite_128 : decode cX3_drawSprite 128 = .ok (.getfield 107, 3) := zo_180 (b1 := 0) (b2 := 107) (zkb3 zk_cX3_drawSprite zn_cX3_drawSprite rfl) rfl
theorem dX3_drawSprite_131 : decode cX3_drawSprite 131 = .ok (.iload 7, 2) := zo_21 (b1 := 7) (zkb2 zk_cX3_drawSprite zn_cX3_drawSprite rfl)
theorem dX3_drawSprite_133 : decode cX3_drawSprite 133 = .ok (.iload 6, 2) := zo_21 (b1 := 6) (zkb2 zk_cX3_drawSprite zn_cX3_drawSprite rfl)
theorem dX3_drawSprite_135 : decode cX3_drawSprite 135 = .ok (.ishr, 1) := zo_122 (zkb zk_cX3_drawSprite zn_cX3_drawSprite rfl)
theorem dX3_drawSprite_136 : decode cX3_drawSprite 136 = .ok (.invokestatic 110, 3) := zo_184 (b1 := 0) (b2 := 110) (zkb3 zk_cX3_drawSprite zn_cX3_drawSprite rfl) rfl
theorem dX3_drawSprite_139 : decode cX3_drawSprite 139 = .ok (.istore 9, 2) := zo_54 (b1 := 9) (zkb2 zk_cX3_drawSprite zn_cX3_drawSprite rfl)
theorem dX3_drawSprite_141 : decode cX3_drawSprite 141 = .ok (.iload 9, 2) := zo_21 (b1 := 9) (zkb2 zk_cX3_drawSprite zn_cX3_drawSprite rfl)
theorem dX3_drawSprite_143 : decode cX3_drawSprite 143 = .ok (.ifCond .le 47, 3) := zo_158 (b1 := 0) (b2 := 47) (zkb3 zk_cX3_drawSprite zn_cX3_drawSprite rfl) rfl
theorem dX3_drawSprite_146 : decode cX3_drawSprite 146 = .ok (.iload 8, 2) := zo_21 (b1 := 8) (zkb2 zk_cX3_drawSprite zn_cX3_drawSprite rfl)
theorem dX3_drawSprite_148 : decode cX3_drawSprite 148 = .ok (.ifCond .lt 42, 3) := zo_155 (b1 := 0) (b2 := 42) (zkb3 zk_cX3_drawSprite zn_cX3_drawSprite rfl) rfl
theorem dX3_drawSprite_151 : decode cX3_drawSprite 151 = .ok (.iload 8, 2) := zo_21 (b1 := 8) (zkb2 zk_cX3_drawSprite zn_cX3_drawSprite rfl)
theorem dX3_drawSprite_153 : decode cX3_drawSprite 153 = .ok (.sipush 256, 3) := zo_17 (b1 := 1) (b2 := 0) (zkb3 zk_cX3_drawSprite zn_cX3_drawSprite rfl) rfl
theorem dX3_drawSprite_156 : decode cX3_drawSprite 156 = .ok (.if_icmp .ge 34, 3) := zo_162 (b1 := 0) (b2 := 34) (zkb3 zk_cX3_drawSprite zn_cX3_drawSprite rfl) rfl
theorem dX3_drawSprite_159 : decode cX3_drawSprite 159 = .ok (.aload_n 0, 1) := zo_42 (zkb zk_cX3_drawSprite zn_cX3_drawSprite rfl)
theorem dX3_drawSprite_160 : decode cX3_drawSprite 160 = .ok (.getfield 20, 3) := zo_180 (b1 := 0) (b2 := 20) (zkb3 zk_cX3_drawSprite zn_cX3_drawSprite rfl) rfl
theorem dX3_drawSprite_163 : decode cX3_drawSprite 163 = .ok (.iload 8, 2) := zo_21 (b1 := 8) (zkb2 zk_cX3_drawSprite zn_cX3_drawSprite rfl)
theorem dX3_drawSprite_165 : decode cX3_drawSprite 165 = .ok (.iaload, 1) := zo_46 (zkb zk_cX3_drawSprite zn_cX3_drawSprite rfl)
theorem dX3_drawSprite_166 : decode cX3_drawSprite 166 = .ok (.ifCond .le 15, 3) := zo_158 (b1 := 0) (b2 := 15) (zkb3 zk_cX3_drawSprite zn_cX3_drawSprite rfl) rfl
theorem dX3_drawSprite_169 : decode cX3_drawSprite 169 = .ok (.aload_n 0, 1) := zo_42 (zkb zk_cX3_drawSprite zn_cX3_drawSprite rfl)
theorem dX3_drawSprite_170 : decode cX3_drawSprite 170 = .ok (.getfield 26, 3) := zo_180 (b1 := 0) (b2 := 26) (zkb3 zk_cX3_drawSprite zn_cX3_drawSprite rfl) rfl
theorem dX3_drawSprite_173 : decode cX3_drawSprite 173 = .ok (.bipush 32, 2) := zo_16 (b1 := 32) (zkb2 zk_cX3_drawSprite zn_cX3_drawSprite rfl) rfl
theorem dX3_drawSprite_175 : decode cX3_drawSprite 175 = .ok (.invokevirtual 123, 3) := zo_182 (b1 := 0) (b2 := 123) (zkb3 zk_cX3_drawSprite zn_cX3_drawSprite rfl) rfl
theorem dX3_drawSprite_178 : decode cX3_drawSprite 178 = .ok (.goto 12, 3) := zo_167 (b1 := 0) (b2 := 12) (zkb3 zk_cX3_drawSprite zn_cX3_drawSprite rfl) rfl
theorem dX3_drawSprite_181 : decode cX3_drawSprite 181 = .ok (.aload_n 0, 1) := zo_42 (zkb zk_cX3_drawSprite zn_cX3_drawSprite rfl)
theorem dX3_drawSprite_182 : decode cX3_drawSprite 182 = .ok (.getfield 20, 3) := zo_180 (b1 := 0) (b2 := 20) (zkb3 zk_cX3_drawSprite zn_cX3_drawSprite rfl) rfl
theorem dX3_drawSprite_185 : decode cX3_drawSprite 185 = .ok (.iload 8, 2) := zo_21 (b1 := 8) (zkb2 zk_cX3_drawSprite zn_cX3_drawSprite rfl)
theorem dX3_drawSprite_187 : decode cX3_drawSprite 187 = .ok (.iload 9, 2) := zo_21 (b1 := 9) (zkb2 zk_cX3_drawSprite zn_cX3_drawSprite rfl)
theorem dX3_drawSprite_189 : decode cX3_drawSprite 189 = .ok (.iastore, 1) := zo_79 (zkb zk_cX3_drawSprite zn_cX3_drawSprite rfl)
theorem dX3_drawSprite_190 : decode cX3_drawSprite 190 = .ok (.iinc 7 1, 3) := zo_132 (b1 := 7) (b2 := 1) (zkb3 zk_cX3_drawSprite zn_cX3_drawSprite rfl) rfl
theorem dX3_drawSprite_193 : decode cX3_drawSprite 193 = .ok (.goto (-82), 3) := zo_167 (b1 := 255) (b2 := 174) (zkb3 zk_cX3_drawSprite zn_cX3_drawSprite rfl) rfl
theorem dX3_drawSprite_196 : decode cX3_drawSprite 196 = .ok (.return_, 1) := zo_177 (zkb zk_cX3_drawSprite zn_cX3_drawSprite rfl)
noncomputable def kn_cX3_drawOld : Nat := 0xb177ffa70104848e00b61c051568041508102a0f00a78b00b67e07101c60687a06101c000111051568041508102a2a00a78700b67100b6607a060515683e00b6061a00b42a40101a00b42a8400b61c05152a68041508102a43000000020000001900000000000000020000005e000000ab1b05367100b660041560687a061c20101d1a00b42a8800a220100415043603b18100b61c1d2a0a00a0041b3e687e0f103e00b6051a00b42a000411
theorem zk_cX3_drawOld : zkd cX3_drawOld.data.toList kn_cX3_drawOld = true := by decide +kernel
theorem zn_cX3_drawOld : cX3_drawOld.data.toList.length = 172 := by decide +kernel
theorem dX3_drawOld_0 : decode cX3_drawOld 0 = .ok (.sipush 1024, 3) := zo_17 (b1 := 4) (b2 := 0) (zkb3 zk_cX3_drawOld zn_cX3_drawOld rfl) rfl
theorem dX3_drawOld_3 : decode cX3_drawOld 3 = .ok (.aload_n 0, 1) := zo_42 (zkb zk_cX3_drawOld zn_cX3_drawOld rfl)
theorem dX3_drawOld_4 : decode cX3_drawOld 4 = .ok (.getfield 26, 3) := zo_180 (b1 := 0) (b2 := 26) (zkb3 zk_cX3_drawOld zn_cX3_drawOld rfl) rfl
theorem dX3_drawOld_7 : decode cX3_drawOld 7 = .ok (.iconst 2, 1) := zo_5 (zkb zk_cX3_drawOld zn_cX3_drawOld rfl)
theorem dX3_drawOld_8 : decode cX3_drawOld 8 = .ok (.invokevirtual 62, 3) := zo_182 (b1 := 0) (b2 := 62) (zkb3 zk_cX3_drawOld zn_cX3_drawOld rfl) rfl
theorem dX3_drawOld_11 : decode cX3_drawOld 11 = .ok (.bipush 15, 2) := zo_16 (b1 := 15) (zkb2 zk_cX3_drawOld zn_cX3_drawOld rfl) rfl
theorem dX3_drawOld_13 : decode cX3_drawOld 13 = .ok (.iand, 1) := zo_126 (zkb zk_cX3_drawOld zn_cX3_drawOld rfl)
theorem dX3_drawOld_14 : decode cX3_drawOld 14 = .ok (.imul, 1) := zo_104 (zkb zk_cX3_drawOld zn_cX3_drawOld rfl)
theorem dX3_drawOld_15 : decode cX3_drawOld 15 = .ok (.istore_n 3, 1) := zo_62 (zkb zk_cX3_drawOld zn_cX3_drawOld rfl)
theorem dX3_drawOld_16 : decode cX3_drawOld 16 = .ok (.iload_n 1, 1) := zo_27 (zkb zk_cX3_drawOld zn_cX3_drawOld rfl)
theorem dX3_drawOld_17 : decode cX3_drawOld 17 = .ok (.iconst 1, 1) := zo_4 (zkb zk_cX3_drawOld zn_cX3_drawOld rfl)
theorem dX3_drawOld_18 : decode cX3_drawOld 18 = .ok (.if_icmp .ne 10, 3) := zo_160 (b1 := 0) (b2 := 10) (zkb3 zk_cX3_drawOld zn_cX3_drawOld rfl) rfl
theorem dX3_drawOld_21 : decode cX3_drawOld 21 = .ok (.aload_n 0, 1) := zo_42 (zkb zk_cX3_drawOld zn_cX3_drawOld rfl)
theorem dX3_drawOld_22 : decode cX3_drawOld 22 = .ok (.iload_n 3, 1) := zo_29 (zkb zk_cX3_drawOld zn_cX3_drawOld rfl)
theorem dX3_drawOld_23 : decode cX3_drawOld 23 = .ok (.iload_n 2, 1) := zo_28 (zkb zk_cX3_drawOld zn_cX3_drawOld rfl)
theorem dX3_drawOld_24 : decode cX3_drawOld 24 = .ok (.invokevirtual 129, 3) := zo_182 (b1 := 0) (b2 := 129) (zkb3 zk_cX3_drawOld zn_cX3_drawOld rfl) rfl
theorem dX3_drawOld_27 : decode cX3_drawOld 27 = .ok (.return_, 1) := zo_177 (zkb zk_cX3_drawOld zn_cX3_drawOld rfl)
theorem dX3_drawOld_28 : decode cX3_drawOld 28 = .ok (.iconst 0, 1) := zo_3 (zkb zk_cX3_drawOld zn_cX3_drawOld rfl)
theorem dX3_drawOld_29 : decode cX3_drawOld 29 = .ok (.istore 4, 2) := zo_54 (b1 := 4) (zkb2 zk_cX3_drawOld zn_cX3_drawOld rfl)
theorem dX3_drawOld_31 : decode cX3_drawOld 31 = .ok (.iload 4, 2) := zo_21 (b1 := 4) (zkb2 zk_cX3_drawOld zn_cX3_drawOld rfl)
theorem dX3_drawOld_33 : decode cX3_drawOld 33 = .ok (.bipush 32, 2) := zo_16 (b1 := 32) (zkb2 zk_cX3_drawOld zn_cX3_drawOld rfl) rfl
theorem dX3_drawOld_35 : decode cX3_drawOld 35 = .ok (.if_icmp .ge 136, 3) := zo_162 (b1 := 0) (b2 := 136) (zkb3 zk_cX3_drawOld zn_cX3_drawOld rfl) rfl
theorem dX3_drawOld_38 : decode cX3_drawOld 38 = .ok (.aload_n 0, 1) := zo_42 (zkb zk_cX3_drawOld zn_cX3_drawOld rfl)
theorem dX3_drawOld_39 : decode cX3_drawOld 39 = .ok (.getfield 26, 3) := zo_180 (b1 := 0) (b2 := 26) (zkb3 zk_cX3_drawOld zn_cX3_drawOld rfl) rfl
theorem dX3_drawOld_42 : decode cX3_drawOld 42 = .ok (.iload_n 3, 1) := zo_29 (zkb zk_cX3_drawOld zn_cX3_drawOld rfl)
theorem dX3_drawOld_43 : decode cX3_drawOld 43 = .ok (.bipush 32, 2) := zo_16 (b1 := 32) (zkb2 zk_cX3_drawOld zn_cX3_drawOld rfl) rfl
theorem dX3_drawOld_45 : decode cX3_drawOld 45 = .ok (.iload_n 2, 1) := zo_28 (zkb zk_cX3_drawOld zn_cX3_drawOld rfl)
theorem dX3_drawOld_46 : decode cX3_drawOld 46 = .ok (.iconst 3, 1) := zo_6 (zkb zk_cX3_drawOld zn_cX3_drawOld rfl)
theorem dX3_drawOld_47 : decode cX3_drawOld 47 = .ok (.ishr, 1) := zo_122 (zkb zk_cX3_drawOld zn_cX3_drawOld rfl)
theorem dX3_drawOld_48 : decode cX3_drawOld 48 = .ok (.imul, 1) := zo_104 (zkb zk_cX3_drawOld zn_cX3_drawOld rfl)
theorem dX3_drawOld_49 : decode cX3_drawOld 49 = .ok (.iadd, 1) := zo_96 (zkb zk_cX3_drawOld zn_cX3_drawOld rfl)
theorem dX3_drawOld_50 : decode cX3_drawOld 50 = .ok (.iload 4, 2) := zo_21 (b1 := 4) (zkb2 zk_cX3_drawOld zn_cX3_drawOld rfl)
theorem dX3_drawOld_52 : decode cX3_drawOld 52 = .ok (.iadd, 1) := zo_96 (zkb zk_cX3_drawOld zn_cX3_drawOld rfl)
theorem dX3_drawOld_53 : decode cX3_drawOld 53 = .ok (.invokevirtual 113, 3) := zo_182 (b1 := 0) (b2 := 113) (zkb3 zk_cX3_drawOld zn_cX3_drawOld rfl) rfl
theorem dX3_drawOld_56 : decode cX3_drawOld 56 = .ok (.istore 5, 2) := zo_54 (b1 := 5) (zkb2 zk_cX3_drawOld zn_cX3_drawOld rfl)
theorem dX3_drawOld_58 : decode cX3_drawOld 58 = .ok (.iload_n 1, 1) := zo_27 (zkb zk_cX3_drawOld zn_cX3_drawOld rfl)
theorem dX3_drawOld_59 : decode cX3_drawOld 59 = .ok (.lookupswitch 94 #[(0, 25), (2, 67)], 25) := by decide +kernel
theorem dX3_drawOld_84 : decode cX3_drawOld 84 = .ok (.aload_n 0, 1) := zo_42 (zkb zk_cX3_drawOld zn_cX3_drawOld rfl)
theorem dX3_drawOld_85 : decode cX3_drawOld 85 = .ok (.bipush 8, 2) := zo_16 (b1 := 8) (zkb2 zk_cX3_drawOld zn_cX3_drawOld rfl) rfl
theorem dX3_drawOld_87 : decode cX3_drawOld 87 = .ok (.iload 4, 2) := zo_21 (b1 := 4) (zkb2 zk_cX3_drawOld zn_cX3_drawOld rfl)
theorem dX3_drawOld_89 : decode cX3_drawOld 89 = .ok (.imul, 1) := zo_104 (zkb zk_cX3_drawOld zn_cX3_drawOld rfl)
theorem dX3_drawOld_90 : decode cX3_drawOld 90 = .ok (.aload_n 0, 1) := zo_42 (zkb zk_cX3_drawOld zn_cX3_drawOld rfl)
theorem dX3_drawOld_91 : decode cX3_drawOld 91 = .ok (.iload 5, 2) := zo_21 (b1 := 5) (zkb2 zk_cX3_drawOld zn_cX3_drawOld rfl)
theorem dX3_drawOld_93 : decode cX3_drawOld 93 = .ok (.iload_n 2, 1) := zo_28 (zkb zk_cX3_drawOld zn_cX3_drawOld rfl)
theorem dX3_drawOld_94 : decode cX3_drawOld 94 = .ok (.invokevirtual 132, 3) := zo_182 (b1 := 0) (b2 := 132) (zkb3 zk_cX3_drawOld zn_cX3_drawOld rfl) rfl
theorem dX3_drawOld_97 : decode cX3_drawOld 97 = .ok (.aload_n 0, 1) := zo_42 (zkb zk_cX3_drawOld zn_cX3_drawOld rfl)
theorem dX3_drawOld_98 : decode cX3_drawOld 98 = .ok (.getfield 26, 3) := zo_180 (b1 := 0) (b2 := 26) (zkb3 zk_cX3_drawOld zn_cX3_drawOld rfl) rfl
theorem dX3_drawOld_101 : decode cX3_drawOld 101 = .ok (.bipush 64, 2) := zo_16 (b1 := 64) (zkb2 zk_cX3_drawOld zn_cX3_drawOld rfl) rfl
theorem dX3_drawOld_103 : decode cX3_drawOld 103 = .ok (.aload_n 0, 1) := zo_42 (zkb zk_cX3_drawOld zn_cX3_drawOld rfl)
theorem dX3_drawOld_104 : decode cX3_drawOld 104 = .ok (.getfield 26, 3) := zo_180 (b1 := 0) (b2 := 26) (zkb3 zk_cX3_drawOld zn_cX3_drawOld rfl) rfl
theorem dX3_drawOld_107 : decode cX3_drawOld 107 = .ok (.iconst 3, 1) := zo_6 (zkb zk_cX3_drawOld zn_cX3_drawOld rfl)
theorem dX3_drawOld_108 : decode cX3_drawOld 108 = .ok (.invokevirtual 62, 3) := zo_182 (b1 := 0) (b2 := 62) (zkb3 zk_cX3_drawOld zn_cX3_drawOld rfl) rfl
theorem dX3_drawOld_111 : decode cX3_drawOld 111 = .ok (.imul, 1) := zo_104 (zkb zk_cX3_drawOld zn_cX3_drawOld rfl)
theorem dX3_drawOld_112 : decode cX3_drawOld 112 = .ok (.iload 5, 2) := zo_21 (b1 := 5) (zkb2 zk_cX3_drawOld zn_cX3_drawOld rfl)
theorem dX3_drawOld_114 : decode cX3_drawOld 114 = .ok (.iconst 3, 1) := zo_6 (zkb zk_cX3_drawOld zn_cX3_drawOld rfl)
theorem dX3_drawOld_115 : decode cX3_drawOld 115 = .ok (.ishr, 1) := zo_122 (zkb zk_cX3_drawOld zn_cX3_drawOld rfl)
theorem dX3_drawOld_116 : decode cX3_drawOld 116 = .ok (.iadd, 1) := zo_96 (zkb zk_cX3_drawOld zn_cX3_drawOld rfl)
theorem dX3_drawOld_117 : decode cX3_drawOld 117 = .ok (.invokevirtual 113, 3) := zo_182 (b1 := 0) (b2 := 113) (zkb3 zk_cX3_drawOld zn_cX3_drawOld rfl) rfl
theorem dX3_drawOld_120 : decode cX3_drawOld 120 = .ok (.invokevirtual 135, 3) := zo_182 (b1 := 0) (b2 := 135) (zkb3 zk_cX3_drawOld zn_cX3_drawOld rfl) rfl
theorem dX3_drawOld_123 : decode cX3_drawOld 123 = .ok (.goto 42, 3) := zo_167 (b1 := 0) (b2 := 42) (zkb3 zk_cX3_drawOld zn_cX3_drawOld rfl) rfl
theorem dX3_drawOld_126 : decode cX3_drawOld 126 = .ok (.aload_n 0, 1) := zo_42 (zkb zk_cX3_drawOld zn_cX3_drawOld rfl)
theorem dX3_drawOld_127 : decode cX3_drawOld 127 = .ok (.bipush 8, 2) := zo_16 (b1 := 8) (zkb2 zk_cX3_drawOld zn_cX3_drawOld rfl) rfl
theorem dX3_drawOld_129 : decode cX3_drawOld 129 = .ok (.iload 4, 2) := zo_21 (b1 := 4) (zkb2 zk_cX3_drawOld zn_cX3_drawOld rfl)
theorem dX3_drawOld_131 : decode cX3_drawOld 131 = .ok (.imul, 1) := zo_104 (zkb zk_cX3_drawOld zn_cX3_drawOld rfl)
theorem dX3_drawOld_132 : decode cX3_drawOld 132 = .ok (.iload 5, 2) := zo_21 (b1 := 5) (zkb2 zk_cX3_drawOld zn_cX3_drawOld rfl)
theorem dX3_drawOld_134 : decode cX3_drawOld 134 = .ok (.sipush 256, 3) := zo_17 (b1 := 1) (b2 := 0) (zkb3 zk_cX3_drawOld zn_cX3_drawOld rfl) rfl
theorem dX3_drawOld_137 : decode cX3_drawOld 137 = .ok (.iload_n 2, 1) := zo_28 (zkb zk_cX3_drawOld zn_cX3_drawOld rfl)
theorem dX3_drawOld_138 : decode cX3_drawOld 138 = .ok (.bipush 6, 2) := zo_16 (b1 := 6) (zkb2 zk_cX3_drawOld zn_cX3_drawOld rfl) rfl
theorem dX3_drawOld_140 : decode cX3_drawOld 140 = .ok (.ishr, 1) := zo_122 (zkb zk_cX3_drawOld zn_cX3_drawOld rfl)
theorem dX3_drawOld_141 : decode cX3_drawOld 141 = .ok (.imul, 1) := zo_104 (zkb zk_cX3_drawOld zn_cX3_drawOld rfl)
theorem dX3_drawOld_142 : decode cX3_drawOld 142 = .ok (.iadd, 1) := zo_96 (zkb zk_cX3_drawOld zn_cX3_drawOld rfl)
theorem dX3_drawOld_143 : decode cX3_drawOld 143 = .ok (.iload_n 2, 1) := zo_28 (zkb zk_cX3_drawOld zn_cX3_drawOld rfl)
theorem dX3_drawOld_144 : decode cX3_drawOld 144 = .ok (.bipush 7, 2) := zo_16 (b1 := 7) (zkb2 zk_cX3_drawOld zn_cX3_drawOld rfl) rfl
theorem dX3_drawOld_146 : decode cX3_drawOld 146 = .ok (.iand, 1) := zo_126 (zkb zk_cX3_drawOld zn_cX3_drawOld rfl)
theorem dX3_drawOld_147 : decode cX3_drawOld 147 = .ok (.invokevirtual 139, 3) := zo_182 (b1 := 0) (b2 := 139) (zkb3 zk_cX3_drawOld zn_cX3_drawOld rfl) rfl
theorem dX3_drawOld_150 : decode cX3_drawOld 150 = .ok (.goto 15, 3) := zo_167 (b1 := 0) (b2 := 15) (zkb3 zk_cX3_drawOld zn_cX3_drawOld rfl) rfl
theorem dX3_drawOld_153 : decode cX3_drawOld 153 = .ok (.aload_n 0, 1) := zo_42 (zkb zk_cX3_drawOld zn_cX3_drawOld rfl)
theorem dX3_drawOld_154 : decode cX3_drawOld 154 = .ok (.bipush 8, 2) := zo_16 (b1 := 8) (zkb2 zk_cX3_drawOld zn_cX3_drawOld rfl) rfl
theorem dX3_drawOld_156 : decode cX3_drawOld 156 = .ok (.iload 4, 2) := zo_21 (b1 := 4) (zkb2 zk_cX3_drawOld zn_cX3_drawOld rfl)
theorem dX3_drawOld_158 : decode cX3_drawOld 158 = .ok (.imul, 1) := zo_104 (zkb zk_cX3_drawOld zn_cX3_drawOld rfl)
theorem dX3_drawOld_159 : decode cX3_drawOld 159 = .ok (.iload 5, 2) := zo_21 (b1 := 5) (zkb2 zk_cX3_drawOld zn_cX3_drawOld rfl)
theorem dX3_drawOld_161 : decode cX3_drawOld 161 = .ok (.iload_n 2, 1) := zo_28 (zkb zk_cX3_drawOld zn_cX3_drawOld rfl)
theorem dX3_drawOld_162 : decode cX3_drawOld 162 = .ok (.invokevirtual 142, 3) := zo_182 (b1 := 0) (b2 := 142) (zkb3 zk_cX3_drawOld zn_cX3_drawOld rfl) rfl
theorem dX3_drawOld_165 : decode cX3_drawOld 165 = .ok (.iinc 4 1, 3) := zo_132 (b1 := 4) (b2 := 1) (zkb3 zk_cX3_drawOld zn_cX3_drawOld rfl) rfl
theorem dX3_drawOld_168 : decode cX3_drawOld 168 = .ok (.goto (-137), 3) := zo_167 (b1 := 255) (b2 := 119) (zkb3 zk_cX3_drawOld zn_cX3_drawOld rfl) rfl
theorem dX3_drawOld_171 : decode cX3_drawOld 171 = .ok (.return_, 1) := zo_177 (zkb zk_cX3_drawOld zn_cX3_drawOld rfl)
noncomputable def kn_cX3_patternAt : Nat := 0xac7100b6607e07101c60681b0810687e07103e00b6071a00b42a0008111a00b42a
theorem zk_cX3_patternAt : zkd cX3_patternAt.data.toList kn_cX3_patternAt = true := by decide +kernel
theorem zn_cX3_patternAt : cX3_patternAt.data.toList.length = 33 := by decide +kernel
theorem dX3_patternAt_0 : decode cX3_patternAt 0 = .ok (.aload_n 0, 1) := zo_42 (zkb zk_cX3_patternAt zn_cX3_patternAt rfl)
theorem dX3_patternAt_1 : decode cX3_patternAt 1 = .ok (.getfield 26, 3) := zo_180 (b1 := 0) (b2 := 26) (zkb3 zk_cX3_patternAt zn_cX3_patternAt rfl) rfl
theorem dX3_patternAt_4 : decode cX3_patternAt 4 = .ok (.sipush 2048, 3) := zo_17 (b1 := 8) (b2 := 0) (zkb3 zk_cX3_patternAt zn_cX3_patternAt rfl) rfl
theorem dX3_patternAt_7 : decode cX3_patternAt 7 = .ok (.aload_n 0, 1) := zo_42 (zkb zk_cX3_patternAt zn_cX3_patternAt rfl)
theorem dX3_patternAt_8 : decode cX3_patternAt 8 = .ok (.getfield 26, 3) := zo_180 (b1 := 0) (b2 := 26) (zkb3 zk_cX3_patternAt zn_cX3_patternAt rfl) rfl
theorem dX3_patternAt_11 : decode cX3_patternAt 11 = .ok (.iconst 4, 1) := zo_7 (zkb zk_cX3_patternAt zn_cX3_patternAt rfl)
theorem dX3_patternAt_12 : decode cX3_patternAt 12 = .ok (.invokevirtual 62, 3) := zo_182 (b1 := 0) (b2 := 62) (zkb3 zk_cX3_patternAt zn_cX3_patternAt rfl) rfl
theorem dX3_patternAt_15 : decode cX3_patternAt 15 = .ok (.bipush 7, 2) := zo_16 (b1 := 7) (zkb2 zk_cX3_patternAt zn_cX3_patternAt rfl) rfl
theorem dX3_patternAt_17 : decode cX3_patternAt 17 = .ok (.iand, 1) := zo_126 (zkb zk_cX3_patternAt zn_cX3_patternAt rfl)
theorem dX3_patternAt_18 : decode cX3_patternAt 18 = .ok (.imul, 1) := zo_104 (zkb zk_cX3_patternAt zn_cX3_patternAt rfl)
theorem dX3_patternAt_19 : decode cX3_patternAt 19 = .ok (.bipush 8, 2) := zo_16 (b1 := 8) (zkb2 zk_cX3_patternAt zn_cX3_patternAt rfl) rfl
theorem dX3_patternAt_21 : decode cX3_patternAt 21 = .ok (.iload_n 1, 1) := zo_27 (zkb zk_cX3_patternAt zn_cX3_patternAt rfl)
theorem dX3_patternAt_22 : decode cX3_patternAt 22 = .ok (.imul, 1) := zo_104 (zkb zk_cX3_patternAt zn_cX3_patternAt rfl)
theorem dX3_patternAt_23 : decode cX3_patternAt 23 = .ok (.iadd, 1) := zo_96 (zkb zk_cX3_patternAt zn_cX3_patternAt rfl)
theorem dX3_patternAt_24 : decode cX3_patternAt 24 = .ok (.iload_n 2, 1) := zo_28 (zkb zk_cX3_patternAt zn_cX3_patternAt rfl)
theorem dX3_patternAt_25 : decode cX3_patternAt 25 = .ok (.bipush 7, 2) := zo_16 (b1 := 7) (zkb2 zk_cX3_patternAt zn_cX3_patternAt rfl) rfl
theorem dX3_patternAt_27 : decode cX3_patternAt 27 = .ok (.iand, 1) := zo_126 (zkb zk_cX3_patternAt zn_cX3_patternAt rfl)
theorem dX3_patternAt_28 : decode cX3_patternAt 28 = .ok (.iadd, 1) := zo_96 (zkb zk_cX3_patternAt zn_cX3_patternAt rfl)
theorem dX3_patternAt_29 : decode cX3_patternAt 29 = .ok (.invokevirtual 113, 3) := zo_182 (b1 := 0) (b2 := 113) (zkb3 zk_cX3_patternAt zn_cX3_patternAt rfl) rfl
theorem dX3_patternAt_32 : decode cX3_patternAt 32 = .ok (.ireturn, 1) := zo_172 (zkb zk_cX3_patternAt zn_cX3_patternAt rfl)
noncomputable def kn_cX3_drawText : Nat := 0xb1a6ffa7010484cfffa70106844f7e0f101d0700a77a071d0900997e047a6406150710051560061560680415061008101100b42a3000a20610061506360305368400b61c7100b660041560687a061c28101b1a00b42a2a5900a2281004150436034400b8031100b42a3e3e00b607101a00b42a
theorem zk_cX3_drawText : zkd cX3_drawText.data.toList kn_cX3_drawText = true := by decide +kernel
theorem zn_cX3_drawText : cX3_drawText.data.toList.length = 115 := by decide +kernel
theorem dX3_drawText_0 : decode cX3_drawText 0 = .ok (.aload_n 0, 1) := zo_42 (zkb zk_cX3_drawText zn_cX3_drawText rfl)
theorem dX3_drawText_1 : decode cX3_drawText 1 = .ok (.getfield 26, 3) := zo_180 (b1 := 0) (b2 := 26) (zkb3 zk_cX3_drawText zn_cX3_drawText rfl) rfl
theorem dX3_drawText_4 : decode cX3_drawText 4 = .ok (.bipush 7, 2) := zo_16 (b1 := 7) (zkb2 zk_cX3_drawText zn_cX3_drawText rfl) rfl
theorem dX3_drawText_6 : decode cX3_drawText 6 = .ok (.invokevirtual 62, 3) := zo_182 (b1 := 0) (b2 := 62) (zkb3 zk_cX3_drawText zn_cX3_drawText rfl) rfl
theorem dX3_drawText_9 : decode cX3_drawText 9 = .ok (.istore_n 3, 1) := zo_62 (zkb zk_cX3_drawText zn_cX3_drawText rfl)
theorem dX3_drawText_10 : decode cX3_drawText 10 = .ok (.aload_n 0, 1) := zo_42 (zkb zk_cX3_drawText zn_cX3_drawText rfl)
theorem dX3_drawText_11 : decode cX3_drawText 11 = .ok (.getfield 17, 3) := zo_180 (b1 := 0) (b2 := 17) (zkb3 zk_cX3_drawText zn_cX3_drawText rfl) rfl
theorem dX3_drawText_14 : decode cX3_drawText 14 = .ok (.iconst 0, 1) := zo_3 (zkb zk_cX3_drawText zn_cX3_drawText rfl)
theorem dX3_drawText_15 : decode cX3_drawText 15 = .ok (.invokestatic 68, 3) := zo_184 (b1 := 0) (b2 := 68) (zkb3 zk_cX3_drawText zn_cX3_drawText rfl) rfl
theorem dX3_drawText_18 : decode cX3_drawText 18 = .ok (.iconst 0, 1) := zo_3 (zkb zk_cX3_drawText zn_cX3_drawText rfl)
theorem dX3_drawText_19 : decode cX3_drawText 19 = .ok (.istore 4, 2) := zo_54 (b1 := 4) (zkb2 zk_cX3_drawText zn_cX3_drawText rfl)
theorem dX3_drawText_21 : decode cX3_drawText 21 = .ok (.iload 4, 2) := zo_21 (b1 := 4) (zkb2 zk_cX3_drawText zn_cX3_drawText rfl)
theorem dX3_drawText_23 : decode cX3_drawText 23 = .ok (.bipush 40, 2) := zo_16 (b1 := 40) (zkb2 zk_cX3_drawText zn_cX3_drawText rfl) rfl
theorem dX3_drawText_25 : decode cX3_drawText 25 = .ok (.if_icmp .ge 89, 3) := zo_162 (b1 := 0) (b2 := 89) (zkb3 zk_cX3_drawText zn_cX3_drawText rfl) rfl
theorem dX3_drawText_28 : decode cX3_drawText 28 = .ok (.aload_n 0, 1) := zo_42 (zkb zk_cX3_drawText zn_cX3_drawText rfl)
theorem dX3_drawText_29 : decode cX3_drawText 29 = .ok (.aload_n 0, 1) := zo_42 (zkb zk_cX3_drawText zn_cX3_drawText rfl)
theorem dX3_drawText_30 : decode cX3_drawText 30 = .ok (.getfield 26, 3) := zo_180 (b1 := 0) (b2 := 26) (zkb3 zk_cX3_drawText zn_cX3_drawText rfl) rfl
theorem dX3_drawText_33 : decode cX3_drawText 33 = .ok (.iload_n 1, 1) := zo_27 (zkb zk_cX3_drawText zn_cX3_drawText rfl)
theorem dX3_drawText_34 : decode cX3_drawText 34 = .ok (.bipush 40, 2) := zo_16 (b1 := 40) (zkb2 zk_cX3_drawText zn_cX3_drawText rfl) rfl
theorem dX3_drawText_36 : decode cX3_drawText 36 = .ok (.iload_n 2, 1) := zo_28 (zkb zk_cX3_drawText zn_cX3_drawText rfl)
theorem dX3_drawText_37 : decode cX3_drawText 37 = .ok (.iconst 3, 1) := zo_6 (zkb zk_cX3_drawText zn_cX3_drawText rfl)
theorem dX3_drawText_38 : decode cX3_drawText 38 = .ok (.ishr, 1) := zo_122 (zkb zk_cX3_drawText zn_cX3_drawText rfl)
theorem dX3_drawText_39 : decode cX3_drawText 39 = .ok (.imul, 1) := zo_104 (zkb zk_cX3_drawText zn_cX3_drawText rfl)
theorem dX3_drawText_40 : decode cX3_drawText 40 = .ok (.iadd, 1) := zo_96 (zkb zk_cX3_drawText zn_cX3_drawText rfl)
theorem dX3_drawText_41 : decode cX3_drawText 41 = .ok (.iload 4, 2) := zo_21 (b1 := 4) (zkb2 zk_cX3_drawText zn_cX3_drawText rfl)
theorem dX3_drawText_43 : decode cX3_drawText 43 = .ok (.iadd, 1) := zo_96 (zkb zk_cX3_drawText zn_cX3_drawText rfl)
theorem dX3_drawText_44 : decode cX3_drawText 44 = .ok (.invokevirtual 113, 3) := zo_182 (b1 := 0) (b2 := 113) (zkb3 zk_cX3_drawText zn_cX3_drawText rfl) rfl
theorem dX3_drawText_47 : decode cX3_drawText 47 = .ok (.iload_n 2, 1) := zo_28 (zkb zk_cX3_drawText zn_cX3_drawText rfl)
theorem dX3_drawText_48 : decode cX3_drawText 48 = .ok (.invokevirtual 132, 3) := zo_182 (b1 := 0) (b2 := 132) (zkb3 zk_cX3_drawText zn_cX3_drawText rfl) rfl
theorem dX3_drawText_51 : decode cX3_drawText 51 = .ok (.istore 5, 2) := zo_54 (b1 := 5) (zkb2 zk_cX3_drawText zn_cX3_drawText rfl)
theorem dX3_drawText_53 : decode cX3_drawText 53 = .ok (.iconst 0, 1) := zo_3 (zkb zk_cX3_drawText zn_cX3_drawText rfl)
theorem dX3_drawText_54 : decode cX3_drawText 54 = .ok (.istore 6, 2) := zo_54 (b1 := 6) (zkb2 zk_cX3_drawText zn_cX3_drawText rfl)
theorem dX3_drawText_56 : decode cX3_drawText 56 = .ok (.iload 6, 2) := zo_21 (b1 := 6) (zkb2 zk_cX3_drawText zn_cX3_drawText rfl)
theorem dX3_drawText_58 : decode cX3_drawText 58 = .ok (.bipush 6, 2) := zo_16 (b1 := 6) (zkb2 zk_cX3_drawText zn_cX3_drawText rfl) rfl
theorem dX3_drawText_60 : decode cX3_drawText 60 = .ok (.if_icmp .ge 48, 3) := zo_162 (b1 := 0) (b2 := 48) (zkb3 zk_cX3_drawText zn_cX3_drawText rfl) rfl
theorem dX3_drawText_63 : decode cX3_drawText 63 = .ok (.aload_n 0, 1) := zo_42 (zkb zk_cX3_drawText zn_cX3_drawText rfl)
theorem dX3_drawText_64 : decode cX3_drawText 64 = .ok (.getfield 17, 3) := zo_180 (b1 := 0) (b2 := 17) (zkb3 zk_cX3_drawText zn_cX3_drawText rfl) rfl
theorem dX3_drawText_67 : decode cX3_drawText 67 = .ok (.bipush 8, 2) := zo_16 (b1 := 8) (zkb2 zk_cX3_drawText zn_cX3_drawText rfl) rfl
theorem dX3_drawText_69 : decode cX3_drawText 69 = .ok (.bipush 6, 2) := zo_16 (b1 := 6) (zkb2 zk_cX3_drawText zn_cX3_drawText rfl) rfl
theorem dX3_drawText_71 : decode cX3_drawText 71 = .ok (.iload 4, 2) := zo_21 (b1 := 4) (zkb2 zk_cX3_drawText zn_cX3_drawText rfl)
theorem dX3_drawText_73 : decode cX3_drawText 73 = .ok (.imul, 1) := zo_104 (zkb zk_cX3_drawText zn_cX3_drawText rfl)
theorem dX3_drawText_74 : decode cX3_drawText 74 = .ok (.iadd, 1) := zo_96 (zkb zk_cX3_drawText zn_cX3_drawText rfl)
theorem dX3_drawText_75 : decode cX3_drawText 75 = .ok (.iload 6, 2) := zo_21 (b1 := 6) (zkb2 zk_cX3_drawText zn_cX3_drawText rfl)
theorem dX3_drawText_77 : decode cX3_drawText 77 = .ok (.iadd, 1) := zo_96 (zkb zk_cX3_drawText zn_cX3_drawText rfl)
theorem dX3_drawText_78 : decode cX3_drawText 78 = .ok (.iload 5, 2) := zo_21 (b1 := 5) (zkb2 zk_cX3_drawText zn_cX3_drawText rfl)
theorem dX3_drawText_80 : decode cX3_drawText 80 = .ok (.bipush 7, 2) := zo_16 (b1 := 7) (zkb2 zk_cX3_drawText zn_cX3_drawText rfl) rfl
theorem dX3_drawText_82 : decode cX3_drawText 82 = .ok (.iload 6, 2) := zo_21 (b1 := 6) (zkb2 zk_cX3_drawText zn_cX3_drawText rfl)
theorem dX3_drawText_84 : decode cX3_drawText 84 = .ok (.isub, 1) := zo_100 (zkb zk_cX3_drawText zn_cX3_drawText rfl)
theorem dX3_drawText_85 : decode cX3_drawText 85 = .ok (.ishr, 1) := zo_122 (zkb zk_cX3_drawText zn_cX3_drawText rfl)
theorem dX3_drawText_86 : decode cX3_drawText 86 = .ok (.iconst 1, 1) := zo_4 (zkb zk_cX3_drawText zn_cX3_drawText rfl)
theorem dX3_drawText_87 : decode cX3_drawText 87 = .ok (.iand, 1) := zo_126 (zkb zk_cX3_drawText zn_cX3_drawText rfl)
theorem dX3_drawText_88 : decode cX3_drawText 88 = .ok (.ifCond .eq 9, 3) := zo_153 (b1 := 0) (b2 := 9) (zkb3 zk_cX3_drawText zn_cX3_drawText rfl) rfl
theorem dX3_drawText_91 : decode cX3_drawText 91 = .ok (.iload_n 3, 1) := zo_29 (zkb zk_cX3_drawText zn_cX3_drawText rfl)
theorem dX3_drawText_92 : decode cX3_drawText 92 = .ok (.iconst 4, 1) := zo_7 (zkb zk_cX3_drawText zn_cX3_drawText rfl)
theorem dX3_drawText_93 : decode cX3_drawText 93 = .ok (.ishr, 1) := zo_122 (zkb zk_cX3_drawText zn_cX3_drawText rfl)
theorem dX3_drawText_94 : decode cX3_drawText 94 = .ok (.goto 7, 3) := zo_167 (b1 := 0) (b2 := 7) (zkb3 zk_cX3_drawText zn_cX3_drawText rfl) rfl
theorem dX3_drawText_97 : decode cX3_drawText 97 = .ok (.iload_n 3, 1) := zo_29 (zkb zk_cX3_drawText zn_cX3_drawText rfl)
theorem dX3_drawText_98 : decode cX3_drawText 98 = .ok (.bipush 15, 2) := zo_16 (b1 := 15) (zkb2 zk_cX3_drawText zn_cX3_drawText rfl) rfl
theorem dX3_drawText_100 : decode cX3_drawText 100 = .ok (.iand, 1) := zo_126 (zkb zk_cX3_drawText zn_cX3_drawText rfl)
theorem dX3_drawText_101 : decode cX3_drawText 101 = .ok (.iastore, 1) := zo_79 (zkb zk_cX3_drawText zn_cX3_drawText rfl)
theorem dX3_drawText_102 : decode cX3_drawText 102 = .ok (.iinc 6 1, 3) := zo_132 (b1 := 6) (b2 := 1) (zkb3 zk_cX3_drawText zn_cX3_drawText rfl) rfl
theorem dX3_drawText_105 : decode cX3_drawText 105 = .ok (.goto (-49), 3) := zo_167 (b1 := 255) (b2 := 207) (zkb3 zk_cX3_drawText zn_cX3_drawText rfl) rfl
theorem dX3_drawText_108 : decode cX3_drawText 108 = .ok (.iinc 4 1, 3) := zo_132 (b1 := 4) (b2 := 1) (zkb3 zk_cX3_drawText zn_cX3_drawText rfl) rfl
theorem dX3_drawText_111 : decode cX3_drawText 111 = .ok (.goto (-90), 3) := zo_167 (b1 := 255) (b2 := 166) (zkb3 zk_cX3_drawText zn_cX3_drawText rfl) rfl
theorem dX3_drawText_114 : decode cX3_drawText 114 = .ok (.return_, 1) := zo_177 (zkb zk_cX3_drawText zn_cX3_drawText rfl)
noncomputable def kn_cX3_drawPattern : Nat := 0xb1cdffa70104844f7e0f101d0700a77a071d0900997e047a64041507101c6004151b1100b42a2800a20001116004151b3200a208100415043603
theorem zk_cX3_drawPattern : zkd cX3_drawPattern.data.toList kn_cX3_drawPattern = true := by decide +kernel
theorem zn_cX3_drawPattern : cX3_drawPattern.data.toList.length = 58 := by decide +kernel
theorem dX3_drawPattern_0 : decode cX3_drawPattern 0 = .ok (.iconst 0, 1) := zo_3 (zkb zk_cX3_drawPattern zn_cX3_drawPattern rfl)
theorem dX3_drawPattern_1 : decode cX3_drawPattern 1 = .ok (.istore 4, 2) := zo_54 (b1 := 4) (zkb2 zk_cX3_drawPattern zn_cX3_drawPattern rfl)
theorem dX3_drawPattern_3 : decode cX3_drawPattern 3 = .ok (.iload 4, 2) := zo_21 (b1 := 4) (zkb2 zk_cX3_drawPattern zn_cX3_drawPattern rfl)
theorem dX3_drawPattern_5 : decode cX3_drawPattern 5 = .ok (.bipush 8, 2) := zo_16 (b1 := 8) (zkb2 zk_cX3_drawPattern zn_cX3_drawPattern rfl) rfl
theorem dX3_drawPattern_7 : decode cX3_drawPattern 7 = .ok (.if_icmp .ge 50, 3) := zo_162 (b1 := 0) (b2 := 50) (zkb3 zk_cX3_drawPattern zn_cX3_drawPattern rfl) rfl
theorem dX3_drawPattern_10 : decode cX3_drawPattern 10 = .ok (.iload_n 1, 1) := zo_27 (zkb zk_cX3_drawPattern zn_cX3_drawPattern rfl)
theorem dX3_drawPattern_11 : decode cX3_drawPattern 11 = .ok (.iload 4, 2) := zo_21 (b1 := 4) (zkb2 zk_cX3_drawPattern zn_cX3_drawPattern rfl)
theorem dX3_drawPattern_13 : decode cX3_drawPattern 13 = .ok (.iadd, 1) := zo_96 (zkb zk_cX3_drawPattern zn_cX3_drawPattern rfl)
theorem dX3_drawPattern_14 : decode cX3_drawPattern 14 = .ok (.sipush 256, 3) := zo_17 (b1 := 1) (b2 := 0) (zkb3 zk_cX3_drawPattern zn_cX3_drawPattern rfl) rfl
theorem dX3_drawPattern_17 : decode cX3_drawPattern 17 = .ok (.if_icmp .ge 40, 3) := zo_162 (b1 := 0) (b2 := 40) (zkb3 zk_cX3_drawPattern zn_cX3_drawPattern rfl) rfl
theorem dX3_drawPattern_20 : decode cX3_drawPattern 20 = .ok (.aload_n 0, 1) := zo_42 (zkb zk_cX3_drawPattern zn_cX3_drawPattern rfl)
theorem dX3_drawPattern_21 : decode cX3_drawPattern 21 = .ok (.getfield 17, 3) := zo_180 (b1 := 0) (b2 := 17) (zkb3 zk_cX3_drawPattern zn_cX3_drawPattern rfl) rfl
theorem dX3_drawPattern_24 : decode cX3_drawPattern 24 = .ok (.iload_n 1, 1) := zo_27 (zkb zk_cX3_drawPattern zn_cX3_drawPattern rfl)
theorem dX3_drawPattern_25 : decode cX3_drawPattern 25 = .ok (.iload 4, 2) := zo_21 (b1 := 4) (zkb2 zk_cX3_drawPattern zn_cX3_drawPattern rfl)
theorem dX3_drawPattern_27 : decode cX3_drawPattern 27 = .ok (.iadd, 1) := zo_96 (zkb zk_cX3_drawPattern zn_cX3_drawPattern rfl)
theorem dX3_drawPattern_28 : decode cX3_drawPattern 28 = .ok (.iload_n 2, 1) := zo_28 (zkb zk_cX3_drawPattern zn_cX3_drawPattern rfl)
theorem dX3_drawPattern_29 : decode cX3_drawPattern 29 = .ok (.bipush 7, 2) := zo_16 (b1 := 7) (zkb2 zk_cX3_drawPattern zn_cX3_drawPattern rfl) rfl
theorem dX3_drawPattern_31 : decode cX3_drawPattern 31 = .ok (.iload 4, 2) := zo_21 (b1 := 4) (zkb2 zk_cX3_drawPattern zn_cX3_drawPattern rfl)
theorem dX3_drawPattern_33 : decode cX3_drawPattern 33 = .ok (.isub, 1) := zo_100 (zkb zk_cX3_drawPattern zn_cX3_drawPattern rfl)
theorem dX3_drawPattern_34 : decode cX3_drawPattern 34 = .ok (.ishr, 1) := zo_122 (zkb zk_cX3_drawPattern zn_cX3_drawPattern rfl)
theorem dX3_drawPattern_35 : decode cX3_drawPattern 35 = .ok (.iconst 1, 1) := zo_4 (zkb zk_cX3_drawPattern zn_cX3_drawPattern rfl)
theorem dX3_drawPattern_36 : decode cX3_drawPattern 36 = .ok (.iand, 1) := zo_126 (zkb zk_cX3_drawPattern zn_cX3_drawPattern rfl)
theorem dX3_drawPattern_37 : decode cX3_drawPattern 37 = .ok (.ifCond .eq 9, 3) := zo_153 (b1 := 0) (b2 := 9) (zkb3 zk_cX3_drawPattern zn_cX3_drawPattern rfl) rfl
theorem dX3_drawPattern_40 : decode cX3_drawPattern 40 = .ok (.iload_n 3, 1) := zo_29 (zkb zk_cX3_drawPattern zn_cX3_drawPattern rfl)
theorem dX3_drawPattern_41 : decode cX3_drawPattern 41 = .ok (.iconst 4, 1) := zo_7 (zkb zk_cX3_drawPattern zn_cX3_drawPattern rfl)
theorem dX3_drawPattern_42 : decode cX3_drawPattern 42 = .ok (.ishr, 1) := zo_122 (zkb zk_cX3_drawPattern zn_cX3_drawPattern rfl)
theorem dX3_drawPattern_43 : decode cX3_drawPattern 43 = .ok (.goto 7, 3) := zo_167 (b1 := 0) (b2 := 7) (zkb3 zk_cX3_drawPattern zn_cX3_drawPattern rfl) rfl
theorem dX3_drawPattern_46 : decode cX3_drawPattern 46 = .ok (.iload_n 3, 1) := zo_29 (zkb zk_cX3_drawPattern zn_cX3_drawPattern rfl)
theorem dX3_drawPattern_47 : decode cX3_drawPattern 47 = .ok (.bipush 15, 2) := zo_16 (b1 := 15) (zkb2 zk_cX3_drawPattern zn_cX3_drawPattern rfl) rfl
theorem dX3_drawPattern_49 : decode cX3_drawPattern 49 = .ok (.iand, 1) := zo_126 (zkb zk_cX3_drawPattern zn_cX3_drawPattern rfl)
theorem dX3_drawPattern_50 : decode cX3_drawPattern 50 = .ok (.iastore, 1) := zo_79 (zkb zk_cX3_drawPattern zn_cX3_drawPattern rfl)
theorem dX3_drawPattern_51 : decode cX3_drawPattern 51 = .ok (.iinc 4 1, 3) := zo_132 (b1 := 4) (b2 := 1) (zkb3 zk_cX3_drawPattern zn_cX3_drawPattern rfl) rfl
theorem dX3_drawPattern_54 : decode cX3_drawPattern 54 = .ok (.goto (-51), 3) := zo_167 (b1 := 255) (b2 := 205) (zkb3 zk_cX3_drawPattern zn_cX3_drawPattern rfl) rfl
theorem dX3_drawPattern_57 : decode cX3_drawPattern 57 = .ok (.return_, 1) := zo_177 (zkb zk_cX3_drawPattern zn_cX3_drawPattern rfl)
noncomputable def kn_cX3_drawThird : Nat := 0xb18700b67100b6601d606807150810687a071004150020111a00b42a08151b2a08367100b6601d606806150810687e047a0505150020111a00b42a07367e600710687e7f10041508101c06367e60ff0011687e0605150001111c05363e00b6071a00b42a04363e00b6061a00b42a
theorem zk_cX3_drawThird : zkd cX3_drawThird.data.toList kn_cX3_drawThird = true := by decide +kernel
theorem zn_cX3_drawThird : cX3_drawThird.data.toList.length = 110 := by decide +kernel
theorem dX3_drawThird_0 : decode cX3_drawThird 0 = .ok (.aload_n 0, 1) := zo_42 (zkb zk_cX3_drawThird zn_cX3_drawThird rfl)
theorem dX3_drawThird_1 : decode cX3_drawThird 1 = .ok (.getfield 26, 3) := zo_180 (b1 := 0) (b2 := 26) (zkb3 zk_cX3_drawThird zn_cX3_drawThird rfl) rfl
theorem dX3_drawThird_4 : decode cX3_drawThird 4 = .ok (.iconst 3, 1) := zo_6 (zkb zk_cX3_drawThird zn_cX3_drawThird rfl)
theorem dX3_drawThird_5 : decode cX3_drawThird 5 = .ok (.invokevirtual 62, 3) := zo_182 (b1 := 0) (b2 := 62) (zkb3 zk_cX3_drawThird zn_cX3_drawThird rfl) rfl
theorem dX3_drawThird_8 : decode cX3_drawThird 8 = .ok (.istore 4, 2) := zo_54 (b1 := 4) (zkb2 zk_cX3_drawThird zn_cX3_drawThird rfl)
theorem dX3_drawThird_10 : decode cX3_drawThird 10 = .ok (.aload_n 0, 1) := zo_42 (zkb zk_cX3_drawThird zn_cX3_drawThird rfl)
theorem dX3_drawThird_11 : decode cX3_drawThird 11 = .ok (.getfield 26, 3) := zo_180 (b1 := 0) (b2 := 26) (zkb3 zk_cX3_drawThird zn_cX3_drawThird rfl) rfl
theorem dX3_drawThird_14 : decode cX3_drawThird 14 = .ok (.iconst 4, 1) := zo_7 (zkb zk_cX3_drawThird zn_cX3_drawThird rfl)
theorem dX3_drawThird_15 : decode cX3_drawThird 15 = .ok (.invokevirtual 62, 3) := zo_182 (b1 := 0) (b2 := 62) (zkb3 zk_cX3_drawThird zn_cX3_drawThird rfl) rfl
theorem dX3_drawThird_18 : decode cX3_drawThird 18 = .ok (.istore 5, 2) := zo_54 (b1 := 5) (zkb2 zk_cX3_drawThird zn_cX3_drawThird rfl)
theorem dX3_drawThird_20 : decode cX3_drawThird 20 = .ok (.iload_n 2, 1) := zo_28 (zkb zk_cX3_drawThird zn_cX3_drawThird rfl)
theorem dX3_drawThird_21 : decode cX3_drawThird 21 = .ok (.sipush 256, 3) := zo_17 (b1 := 1) (b2 := 0) (zkb3 zk_cX3_drawThird zn_cX3_drawThird rfl) rfl
theorem dX3_drawThird_24 : decode cX3_drawThird 24 = .ok (.iload 5, 2) := zo_21 (b1 := 5) (zkb2 zk_cX3_drawThird zn_cX3_drawThird rfl)
theorem dX3_drawThird_26 : decode cX3_drawThird 26 = .ok (.iconst 3, 1) := zo_6 (zkb zk_cX3_drawThird zn_cX3_drawThird rfl)
theorem dX3_drawThird_27 : decode cX3_drawThird 27 = .ok (.iand, 1) := zo_126 (zkb zk_cX3_drawThird zn_cX3_drawThird rfl)
theorem dX3_drawThird_28 : decode cX3_drawThird 28 = .ok (.imul, 1) := zo_104 (zkb zk_cX3_drawThird zn_cX3_drawThird rfl)
theorem dX3_drawThird_29 : decode cX3_drawThird 29 = .ok (.sipush 255, 3) := zo_17 (b1 := 0) (b2 := 255) (zkb3 zk_cX3_drawThird zn_cX3_drawThird rfl) rfl
theorem dX3_drawThird_32 : decode cX3_drawThird 32 = .ok (.iadd, 1) := zo_96 (zkb zk_cX3_drawThird zn_cX3_drawThird rfl)
theorem dX3_drawThird_33 : decode cX3_drawThird 33 = .ok (.iand, 1) := zo_126 (zkb zk_cX3_drawThird zn_cX3_drawThird rfl)
theorem dX3_drawThird_34 : decode cX3_drawThird 34 = .ok (.istore 6, 2) := zo_54 (b1 := 6) (zkb2 zk_cX3_drawThird zn_cX3_drawThird rfl)
theorem dX3_drawThird_36 : decode cX3_drawThird 36 = .ok (.iload_n 2, 1) := zo_28 (zkb zk_cX3_drawThird zn_cX3_drawThird rfl)
theorem dX3_drawThird_37 : decode cX3_drawThird 37 = .ok (.bipush 8, 2) := zo_16 (b1 := 8) (zkb2 zk_cX3_drawThird zn_cX3_drawThird rfl) rfl
theorem dX3_drawThird_39 : decode cX3_drawThird 39 = .ok (.iload 4, 2) := zo_21 (b1 := 4) (zkb2 zk_cX3_drawThird zn_cX3_drawThird rfl)
theorem dX3_drawThird_41 : decode cX3_drawThird 41 = .ok (.bipush 127, 2) := zo_16 (b1 := 127) (zkb2 zk_cX3_drawThird zn_cX3_drawThird rfl) rfl
theorem dX3_drawThird_43 : decode cX3_drawThird 43 = .ok (.iand, 1) := zo_126 (zkb zk_cX3_drawThird zn_cX3_drawThird rfl)
theorem dX3_drawThird_44 : decode cX3_drawThird 44 = .ok (.imul, 1) := zo_104 (zkb zk_cX3_drawThird zn_cX3_drawThird rfl)
theorem dX3_drawThird_45 : decode cX3_drawThird 45 = .ok (.bipush 7, 2) := zo_16 (b1 := 7) (zkb2 zk_cX3_drawThird zn_cX3_drawThird rfl) rfl
theorem dX3_drawThird_47 : decode cX3_drawThird 47 = .ok (.iadd, 1) := zo_96 (zkb zk_cX3_drawThird zn_cX3_drawThird rfl)
theorem dX3_drawThird_48 : decode cX3_drawThird 48 = .ok (.iand, 1) := zo_126 (zkb zk_cX3_drawThird zn_cX3_drawThird rfl)
theorem dX3_drawThird_49 : decode cX3_drawThird 49 = .ok (.istore 7, 2) := zo_54 (b1 := 7) (zkb2 zk_cX3_drawThird zn_cX3_drawThird rfl)
theorem dX3_drawThird_51 : decode cX3_drawThird 51 = .ok (.aload_n 0, 1) := zo_42 (zkb zk_cX3_drawThird zn_cX3_drawThird rfl)
theorem dX3_drawThird_52 : decode cX3_drawThird 52 = .ok (.getfield 26, 3) := zo_180 (b1 := 0) (b2 := 26) (zkb3 zk_cX3_drawThird zn_cX3_drawThird rfl) rfl
theorem dX3_drawThird_55 : decode cX3_drawThird 55 = .ok (.sipush 8192, 3) := zo_17 (b1 := 32) (b2 := 0) (zkb3 zk_cX3_drawThird zn_cX3_drawThird rfl) rfl
theorem dX3_drawThird_58 : decode cX3_drawThird 58 = .ok (.iload 5, 2) := zo_21 (b1 := 5) (zkb2 zk_cX3_drawThird zn_cX3_drawThird rfl)
theorem dX3_drawThird_60 : decode cX3_drawThird 60 = .ok (.iconst 2, 1) := zo_5 (zkb zk_cX3_drawThird zn_cX3_drawThird rfl)
theorem dX3_drawThird_61 : decode cX3_drawThird 61 = .ok (.ishr, 1) := zo_122 (zkb zk_cX3_drawThird zn_cX3_drawThird rfl)
theorem dX3_drawThird_62 : decode cX3_drawThird 62 = .ok (.iconst 1, 1) := zo_4 (zkb zk_cX3_drawThird zn_cX3_drawThird rfl)
theorem dX3_drawThird_63 : decode cX3_drawThird 63 = .ok (.iand, 1) := zo_126 (zkb zk_cX3_drawThird zn_cX3_drawThird rfl)
theorem dX3_drawThird_64 : decode cX3_drawThird 64 = .ok (.imul, 1) := zo_104 (zkb zk_cX3_drawThird zn_cX3_drawThird rfl)
theorem dX3_drawThird_65 : decode cX3_drawThird 65 = .ok (.bipush 8, 2) := zo_16 (b1 := 8) (zkb2 zk_cX3_drawThird zn_cX3_drawThird rfl) rfl
theorem dX3_drawThird_67 : decode cX3_drawThird 67 = .ok (.iload 6, 2) := zo_21 (b1 := 6) (zkb2 zk_cX3_drawThird zn_cX3_drawThird rfl)
theorem dX3_drawThird_69 : decode cX3_drawThird 69 = .ok (.imul, 1) := zo_104 (zkb zk_cX3_drawThird zn_cX3_drawThird rfl)
theorem dX3_drawThird_70 : decode cX3_drawThird 70 = .ok (.iadd, 1) := zo_96 (zkb zk_cX3_drawThird zn_cX3_drawThird rfl)
theorem dX3_drawThird_71 : decode cX3_drawThird 71 = .ok (.iload_n 3, 1) := zo_29 (zkb zk_cX3_drawThird zn_cX3_drawThird rfl)
theorem dX3_drawThird_72 : decode cX3_drawThird 72 = .ok (.iadd, 1) := zo_96 (zkb zk_cX3_drawThird zn_cX3_drawThird rfl)
theorem dX3_drawThird_73 : decode cX3_drawThird 73 = .ok (.invokevirtual 113, 3) := zo_182 (b1 := 0) (b2 := 113) (zkb3 zk_cX3_drawThird zn_cX3_drawThird rfl) rfl
theorem dX3_drawThird_76 : decode cX3_drawThird 76 = .ok (.istore 8, 2) := zo_54 (b1 := 8) (zkb2 zk_cX3_drawThird zn_cX3_drawThird rfl)
theorem dX3_drawThird_78 : decode cX3_drawThird 78 = .ok (.aload_n 0, 1) := zo_42 (zkb zk_cX3_drawThird zn_cX3_drawThird rfl)
theorem dX3_drawThird_79 : decode cX3_drawThird 79 = .ok (.iload_n 1, 1) := zo_27 (zkb zk_cX3_drawThird zn_cX3_drawThird rfl)
theorem dX3_drawThird_80 : decode cX3_drawThird 80 = .ok (.iload 8, 2) := zo_21 (b1 := 8) (zkb2 zk_cX3_drawThird zn_cX3_drawThird rfl)
theorem dX3_drawThird_82 : decode cX3_drawThird 82 = .ok (.aload_n 0, 1) := zo_42 (zkb zk_cX3_drawThird zn_cX3_drawThird rfl)
theorem dX3_drawThird_83 : decode cX3_drawThird 83 = .ok (.getfield 26, 3) := zo_180 (b1 := 0) (b2 := 26) (zkb3 zk_cX3_drawThird zn_cX3_drawThird rfl) rfl
theorem dX3_drawThird_86 : decode cX3_drawThird 86 = .ok (.sipush 8192, 3) := zo_17 (b1 := 32) (b2 := 0) (zkb3 zk_cX3_drawThird zn_cX3_drawThird rfl) rfl
theorem dX3_drawThird_89 : decode cX3_drawThird 89 = .ok (.iload 4, 2) := zo_21 (b1 := 4) (zkb2 zk_cX3_drawThird zn_cX3_drawThird rfl)
theorem dX3_drawThird_91 : decode cX3_drawThird 91 = .ok (.bipush 7, 2) := zo_16 (b1 := 7) (zkb2 zk_cX3_drawThird zn_cX3_drawThird rfl) rfl
theorem dX3_drawThird_93 : decode cX3_drawThird 93 = .ok (.ishr, 1) := zo_122 (zkb zk_cX3_drawThird zn_cX3_drawThird rfl)
theorem dX3_drawThird_94 : decode cX3_drawThird 94 = .ok (.imul, 1) := zo_104 (zkb zk_cX3_drawThird zn_cX3_drawThird rfl)
theorem dX3_drawThird_95 : decode cX3_drawThird 95 = .ok (.bipush 8, 2) := zo_16 (b1 := 8) (zkb2 zk_cX3_drawThird zn_cX3_drawThird rfl) rfl
theorem dX3_drawThird_97 : decode cX3_drawThird 97 = .ok (.iload 7, 2) := zo_21 (b1 := 7) (zkb2 zk_cX3_drawThird zn_cX3_drawThird rfl)
theorem dX3_drawThird_99 : decode cX3_drawThird 99 = .ok (.imul, 1) := zo_104 (zkb zk_cX3_drawThird zn_cX3_drawThird rfl)
theorem dX3_drawThird_100 : decode cX3_drawThird 100 = .ok (.iadd, 1) := zo_96 (zkb zk_cX3_drawThird zn_cX3_drawThird rfl)
theorem dX3_drawThird_101 : decode cX3_drawThird 101 = .ok (.iload_n 3, 1) := zo_29 (zkb zk_cX3_drawThird zn_cX3_drawThird rfl)
theorem dX3_drawThird_102 : decode cX3_drawThird 102 = .ok (.iadd, 1) := zo_96 (zkb zk_cX3_drawThird zn_cX3_drawThird rfl)
theorem dX3_drawThird_103 : decode cX3_drawThird 103 = .ok (.invokevirtual 113, 3) := zo_182 (b1 := 0) (b2 := 113) (zkb3 zk_cX3_drawThird zn_cX3_drawThird rfl) rfl
theorem dX3_drawThird_106 : decode cX3_drawThird 106 = .ok (.invokevirtual 135, 3) := zo_182 (b1 := 0) (b2 := 135) (zkb3 zk_cX3_drawThird zn_cX3_drawThird rfl) rfl
theorem dX3_drawThird_109 : decode cX3_drawThird 109 = .ok (.return_, 1) := zo_177 (zkb zk_cX3_drawThird zn_cX3_drawThird rfl)
noncomputable def kn_cX3_drawBlocks : Nat := 0xb18700b67100b604151a00b42af000111b2a0436607e047a051d60687e067a061d0560681c0810687e07103e00b6071a00b42a000811
theorem zk_cX3_drawBlocks : zkd cX3_drawBlocks.data.toList kn_cX3_drawBlocks = true := by decide +kernel
theorem zn_cX3_drawBlocks : cX3_drawBlocks.data.toList.length = 54 := by decide +kernel
theorem dX3_drawBlocks_0 : decode cX3_drawBlocks 0 = .ok (.sipush 2048, 3) := zo_17 (b1 := 8) (b2 := 0) (zkb3 zk_cX3_drawBlocks zn_cX3_drawBlocks rfl) rfl
theorem dX3_drawBlocks_3 : decode cX3_drawBlocks 3 = .ok (.aload_n 0, 1) := zo_42 (zkb zk_cX3_drawBlocks zn_cX3_drawBlocks rfl)
theorem dX3_drawBlocks_4 : decode cX3_drawBlocks 4 = .ok (.getfield 26, 3) := zo_180 (b1 := 0) (b2 := 26) (zkb3 zk_cX3_drawBlocks zn_cX3_drawBlocks rfl) rfl
theorem dX3_drawBlocks_7 : decode cX3_drawBlocks 7 = .ok (.iconst 4, 1) := zo_7 (zkb zk_cX3_drawBlocks zn_cX3_drawBlocks rfl)
theorem dX3_drawBlocks_8 : decode cX3_drawBlocks 8 = .ok (.invokevirtual 62, 3) := zo_182 (b1 := 0) (b2 := 62) (zkb3 zk_cX3_drawBlocks zn_cX3_drawBlocks rfl) rfl
theorem dX3_drawBlocks_11 : decode cX3_drawBlocks 11 = .ok (.bipush 7, 2) := zo_16 (b1 := 7) (zkb2 zk_cX3_drawBlocks zn_cX3_drawBlocks rfl) rfl
theorem dX3_drawBlocks_13 : decode cX3_drawBlocks 13 = .ok (.iand, 1) := zo_126 (zkb zk_cX3_drawBlocks zn_cX3_drawBlocks rfl)
theorem dX3_drawBlocks_14 : decode cX3_drawBlocks 14 = .ok (.imul, 1) := zo_104 (zkb zk_cX3_drawBlocks zn_cX3_drawBlocks rfl)
theorem dX3_drawBlocks_15 : decode cX3_drawBlocks 15 = .ok (.bipush 8, 2) := zo_16 (b1 := 8) (zkb2 zk_cX3_drawBlocks zn_cX3_drawBlocks rfl) rfl
theorem dX3_drawBlocks_17 : decode cX3_drawBlocks 17 = .ok (.iload_n 2, 1) := zo_28 (zkb zk_cX3_drawBlocks zn_cX3_drawBlocks rfl)
theorem dX3_drawBlocks_18 : decode cX3_drawBlocks 18 = .ok (.imul, 1) := zo_104 (zkb zk_cX3_drawBlocks zn_cX3_drawBlocks rfl)
theorem dX3_drawBlocks_19 : decode cX3_drawBlocks 19 = .ok (.iadd, 1) := zo_96 (zkb zk_cX3_drawBlocks zn_cX3_drawBlocks rfl)
theorem dX3_drawBlocks_20 : decode cX3_drawBlocks 20 = .ok (.iconst 2, 1) := zo_5 (zkb zk_cX3_drawBlocks zn_cX3_drawBlocks rfl)
theorem dX3_drawBlocks_21 : decode cX3_drawBlocks 21 = .ok (.iload_n 3, 1) := zo_29 (zkb zk_cX3_drawBlocks zn_cX3_drawBlocks rfl)
theorem dX3_drawBlocks_22 : decode cX3_drawBlocks 22 = .ok (.iconst 3, 1) := zo_6 (zkb zk_cX3_drawBlocks zn_cX3_drawBlocks rfl)
theorem dX3_drawBlocks_23 : decode cX3_drawBlocks 23 = .ok (.ishr, 1) := zo_122 (zkb zk_cX3_drawBlocks zn_cX3_drawBlocks rfl)
theorem dX3_drawBlocks_24 : decode cX3_drawBlocks 24 = .ok (.iconst 3, 1) := zo_6 (zkb zk_cX3_drawBlocks zn_cX3_drawBlocks rfl)
theorem dX3_drawBlocks_25 : decode cX3_drawBlocks 25 = .ok (.iand, 1) := zo_126 (zkb zk_cX3_drawBlocks zn_cX3_drawBlocks rfl)
theorem dX3_drawBlocks_26 : decode cX3_drawBlocks 26 = .ok (.imul, 1) := zo_104 (zkb zk_cX3_drawBlocks zn_cX3_drawBlocks rfl)
theorem dX3_drawBlocks_27 : decode cX3_drawBlocks 27 = .ok (.iadd, 1) := zo_96 (zkb zk_cX3_drawBlocks zn_cX3_drawBlocks rfl)
theorem dX3_drawBlocks_28 : decode cX3_drawBlocks 28 = .ok (.iload_n 3, 1) := zo_29 (zkb zk_cX3_drawBlocks zn_cX3_drawBlocks rfl)
theorem dX3_drawBlocks_29 : decode cX3_drawBlocks 29 = .ok (.iconst 2, 1) := zo_5 (zkb zk_cX3_drawBlocks zn_cX3_drawBlocks rfl)
theorem dX3_drawBlocks_30 : decode cX3_drawBlocks 30 = .ok (.ishr, 1) := zo_122 (zkb zk_cX3_drawBlocks zn_cX3_drawBlocks rfl)
theorem dX3_drawBlocks_31 : decode cX3_drawBlocks 31 = .ok (.iconst 1, 1) := zo_4 (zkb zk_cX3_drawBlocks zn_cX3_drawBlocks rfl)
theorem dX3_drawBlocks_32 : decode cX3_drawBlocks 32 = .ok (.iand, 1) := zo_126 (zkb zk_cX3_drawBlocks zn_cX3_drawBlocks rfl)
theorem dX3_drawBlocks_33 : decode cX3_drawBlocks 33 = .ok (.iadd, 1) := zo_96 (zkb zk_cX3_drawBlocks zn_cX3_drawBlocks rfl)
theorem dX3_drawBlocks_34 : decode cX3_drawBlocks 34 = .ok (.istore 4, 2) := zo_54 (b1 := 4) (zkb2 zk_cX3_drawBlocks zn_cX3_drawBlocks rfl)
theorem dX3_drawBlocks_36 : decode cX3_drawBlocks 36 = .ok (.aload_n 0, 1) := zo_42 (zkb zk_cX3_drawBlocks zn_cX3_drawBlocks rfl)
theorem dX3_drawBlocks_37 : decode cX3_drawBlocks 37 = .ok (.iload_n 1, 1) := zo_27 (zkb zk_cX3_drawBlocks zn_cX3_drawBlocks rfl)
theorem dX3_drawBlocks_38 : decode cX3_drawBlocks 38 = .ok (.sipush 240, 3) := zo_17 (b1 := 0) (b2 := 240) (zkb3 zk_cX3_drawBlocks zn_cX3_drawBlocks rfl) rfl
theorem dX3_drawBlocks_41 : decode cX3_drawBlocks 41 = .ok (.aload_n 0, 1) := zo_42 (zkb zk_cX3_drawBlocks zn_cX3_drawBlocks rfl)
theorem dX3_drawBlocks_42 : decode cX3_drawBlocks 42 = .ok (.getfield 26, 3) := zo_180 (b1 := 0) (b2 := 26) (zkb3 zk_cX3_drawBlocks zn_cX3_drawBlocks rfl) rfl
theorem dX3_drawBlocks_45 : decode cX3_drawBlocks 45 = .ok (.iload 4, 2) := zo_21 (b1 := 4) (zkb2 zk_cX3_drawBlocks zn_cX3_drawBlocks rfl)
theorem dX3_drawBlocks_47 : decode cX3_drawBlocks 47 = .ok (.invokevirtual 113, 3) := zo_182 (b1 := 0) (b2 := 113) (zkb3 zk_cX3_drawBlocks zn_cX3_drawBlocks rfl) rfl
theorem dX3_drawBlocks_50 : decode cX3_drawBlocks 50 = .ok (.invokevirtual 135, 3) := zo_182 (b1 := 0) (b2 := 135) (zkb3 zk_cX3_drawBlocks zn_cX3_drawBlocks rfl) rfl
theorem dX3_drawBlocks_53 : decode cX3_drawBlocks 53 = .ok (.return_, 1) := zo_177 (zkb zk_cX3_drawBlocks zn_cX3_drawBlocks rfl)
noncomputable def kn_cX3_drawOldSprites : Nat := 0xb1d7ffa70104844f7e0f102e04151400b42a04151100b42a14009e7e0f102e04151400b42a2700a20001110415043603aeffa70104849400b6071505152a1100a79100b604151a00b42a0f00a4071d0103841f009b071507367800b606151b2a3300a70600a0d00011061506367100b605151a00b42a053660680415071c5100a2201004150436033e033d687e7f103e00b6081a00b42a8000114400b8031400b42a
theorem zk_cX3_drawOldSprites : zkd cX3_drawOldSprites.data.toList kn_cX3_drawOldSprites = true := by decide +kernel
theorem zn_cX3_drawOldSprites : cX3_drawOldSprites.data.toList.length = 162 := by decide +kernel
theorem dX3_drawOldSprites_0 : decode cX3_drawOldSprites 0 = .ok (.aload_n 0, 1) := zo_42 (zkb zk_cX3_drawOldSprites zn_cX3_drawOldSprites rfl)
theorem dX3_drawOldSprites_1 : decode cX3_drawOldSprites 1 = .ok (.getfield 20, 3) := zo_180 (b1 := 0) (b2 := 20) (zkb3 zk_cX3_drawOldSprites zn_cX3_drawOldSprites rfl) rfl
theorem dX3_drawOldSprites_4 : decode cX3_drawOldSprites 4 = .ok (.iconst 0, 1) := zo_3 (zkb zk_cX3_drawOldSprites zn_cX3_drawOldSprites rfl)
theorem dX3_drawOldSprites_5 : decode cX3_drawOldSprites 5 = .ok (.invokestatic 68, 3) := zo_184 (b1 := 0) (b2 := 68) (zkb3 zk_cX3_drawOldSprites zn_cX3_drawOldSprites rfl) rfl
theorem dX3_drawOldSprites_8 : decode cX3_drawOldSprites 8 = .ok (.sipush 128, 3) := zo_17 (b1 := 0) (b2 := 128) (zkb3 zk_cX3_drawOldSprites zn_cX3_drawOldSprites rfl) rfl
theorem dX3_drawOldSprites_11 : decode cX3_drawOldSprites 11 = .ok (.aload_n 0, 1) := zo_42 (zkb zk_cX3_drawOldSprites zn_cX3_drawOldSprites rfl)
theorem dX3_drawOldSprites_12 : decode cX3_drawOldSprites 12 = .ok (.getfield 26, 3) := zo_180 (b1 := 0) (b2 := 26) (zkb3 zk_cX3_drawOldSprites zn_cX3_drawOldSprites rfl) rfl
theorem dX3_drawOldSprites_15 : decode cX3_drawOldSprites 15 = .ok (.iconst 5, 1) := zo_8 (zkb zk_cX3_drawOldSprites zn_cX3_drawOldSprites rfl)
theorem dX3_drawOldSprites_16 : decode cX3_drawOldSprites 16 = .ok (.invokevirtual 62, 3) := zo_182 (b1 := 0) (b2 := 62) (zkb3 zk_cX3_drawOldSprites zn_cX3_drawOldSprites rfl) rfl
theorem dX3_drawOldSprites_19 : decode cX3_drawOldSprites 19 = .ok (.bipush 127, 2) := zo_16 (b1 := 127) (zkb2 zk_cX3_drawOldSprites zn_cX3_drawOldSprites rfl) rfl
theorem dX3_drawOldSprites_21 : decode cX3_drawOldSprites 21 = .ok (.iand, 1) := zo_126 (zkb zk_cX3_drawOldSprites zn_cX3_drawOldSprites rfl)
theorem dX3_drawOldSprites_22 : decode cX3_drawOldSprites 22 = .ok (.imul, 1) := zo_104 (zkb zk_cX3_drawOldSprites zn_cX3_drawOldSprites rfl)
theorem dX3_drawOldSprites_23 : decode cX3_drawOldSprites 23 = .ok (.istore_n 2, 1) := zo_61 (zkb zk_cX3_drawOldSprites zn_cX3_drawOldSprites rfl)
theorem dX3_drawOldSprites_24 : decode cX3_drawOldSprites 24 = .ok (.iconst 0, 1) := zo_3 (zkb zk_cX3_drawOldSprites zn_cX3_drawOldSprites rfl)
theorem dX3_drawOldSprites_25 : decode cX3_drawOldSprites 25 = .ok (.istore_n 3, 1) := zo_62 (zkb zk_cX3_drawOldSprites zn_cX3_drawOldSprites rfl)
theorem dX3_drawOldSprites_26 : decode cX3_drawOldSprites 26 = .ok (.iconst 0, 1) := zo_3 (zkb zk_cX3_drawOldSprites zn_cX3_drawOldSprites rfl)
theorem dX3_drawOldSprites_27 : decode cX3_drawOldSprites 27 = .ok (.istore 4, 2) := zo_54 (b1 := 4) (zkb2 zk_cX3_drawOldSprites zn_cX3_drawOldSprites rfl)
theorem dX3_drawOldSprites_29 : decode cX3_drawOldSprites 29 = .ok (.iload 4, 2) := zo_21 (b1 := 4) (zkb2 zk_cX3_drawOldSprites zn_cX3_drawOldSprites rfl)
theorem dX3_drawOldSprites_31 : decode cX3_drawOldSprites 31 = .ok (.bipush 32, 2) := zo_16 (b1 := 32) (zkb2 zk_cX3_drawOldSprites zn_cX3_drawOldSprites rfl) rfl
theorem dX3_drawOldSprites_33 : decode cX3_drawOldSprites 33 = .ok (.if_icmp .ge 81, 3) := zo_162 (b1 := 0) (b2 := 81) (zkb3 zk_cX3_drawOldSprites zn_cX3_drawOldSprites rfl) rfl
theorem dX3_drawOldSprites_36 : decode cX3_drawOldSprites 36 = .ok (.iload_n 2, 1) := zo_28 (zkb zk_cX3_drawOldSprites zn_cX3_drawOldSprites rfl)
theorem dX3_drawOldSprites_37 : decode cX3_drawOldSprites 37 = .ok (.iconst 4, 1) := zo_7 (zkb zk_cX3_drawOldSprites zn_cX3_drawOldSprites rfl)
theorem dX3_drawOldSprites_38 : decode cX3_drawOldSprites 38 = .ok (.iload 4, 2) := zo_21 (b1 := 4) (zkb2 zk_cX3_drawOldSprites zn_cX3_drawOldSprites rfl)
theorem dX3_drawOldSprites_40 : decode cX3_drawOldSprites 40 = .ok (.imul, 1) := zo_104 (zkb zk_cX3_drawOldSprites zn_cX3_drawOldSprites rfl)
theorem dX3_drawOldSprites_41 : decode cX3_drawOldSprites 41 = .ok (.iadd, 1) := zo_96 (zkb zk_cX3_drawOldSprites zn_cX3_drawOldSprites rfl)
theorem dX3_drawOldSprites_42 : decode cX3_drawOldSprites 42 = .ok (.istore 5, 2) := zo_54 (b1 := 5) (zkb2 zk_cX3_drawOldSprites zn_cX3_drawOldSprites rfl)
theorem dX3_drawOldSprites_44 : decode cX3_drawOldSprites 44 = .ok (.aload_n 0, 1) := zo_42 (zkb zk_cX3_drawOldSprites zn_cX3_drawOldSprites rfl)
theorem dX3_drawOldSprites_45 : decode cX3_drawOldSprites 45 = .ok (.getfield 26, 3) := zo_180 (b1 := 0) (b2 := 26) (zkb3 zk_cX3_drawOldSprites zn_cX3_drawOldSprites rfl) rfl
theorem dX3_drawOldSprites_48 : decode cX3_drawOldSprites 48 = .ok (.iload 5, 2) := zo_21 (b1 := 5) (zkb2 zk_cX3_drawOldSprites zn_cX3_drawOldSprites rfl)
theorem dX3_drawOldSprites_50 : decode cX3_drawOldSprites 50 = .ok (.invokevirtual 113, 3) := zo_182 (b1 := 0) (b2 := 113) (zkb3 zk_cX3_drawOldSprites zn_cX3_drawOldSprites rfl) rfl
theorem dX3_drawOldSprites_53 : decode cX3_drawOldSprites 53 = .ok (.istore 6, 2) := zo_54 (b1 := 6) (zkb2 zk_cX3_drawOldSprites zn_cX3_drawOldSprites rfl)
theorem dX3_drawOldSprites_55 : decode cX3_drawOldSprites 55 = .ok (.iload 6, 2) := zo_21 (b1 := 6) (zkb2 zk_cX3_drawOldSprites zn_cX3_drawOldSprites rfl)
theorem dX3_drawOldSprites_57 : decode cX3_drawOldSprites 57 = .ok (.sipush 208, 3) := zo_17 (b1 := 0) (b2 := 208) (zkb3 zk_cX3_drawOldSprites zn_cX3_drawOldSprites rfl) rfl
theorem dX3_drawOldSprites_60 : decode cX3_drawOldSprites 60 = .ok (.if_icmp .ne 6, 3) := zo_160 (b1 := 0) (b2 := 6) (zkb3 zk_cX3_drawOldSprites zn_cX3_drawOldSprites rfl) rfl
theorem dX3_drawOldSprites_63 : decode cX3_drawOldSprites 63 = .ok (.goto 51, 3) := zo_167 (b1 := 0) (b2 := 51) (zkb3 zk_cX3_drawOldSprites zn_cX3_drawOldSprites rfl) rfl
theorem dX3_drawOldSprites_66 : decode cX3_drawOldSprites 66 = .ok (.aload_n 0, 1) := zo_42 (zkb zk_cX3_drawOldSprites zn_cX3_drawOldSprites rfl)
theorem dX3_drawOldSprites_67 : decode cX3_drawOldSprites 67 = .ok (.iload_n 1, 1) := zo_27 (zkb zk_cX3_drawOldSprites zn_cX3_drawOldSprites rfl)
theorem dX3_drawOldSprites_68 : decode cX3_drawOldSprites 68 = .ok (.iload 6, 2) := zo_21 (b1 := 6) (zkb2 zk_cX3_drawOldSprites zn_cX3_drawOldSprites rfl)
theorem dX3_drawOldSprites_70 : decode cX3_drawOldSprites 70 = .ok (.invokevirtual 120, 3) := zo_182 (b1 := 0) (b2 := 120) (zkb3 zk_cX3_drawOldSprites zn_cX3_drawOldSprites rfl) rfl
theorem dX3_drawOldSprites_73 : decode cX3_drawOldSprites 73 = .ok (.istore 7, 2) := zo_54 (b1 := 7) (zkb2 zk_cX3_drawOldSprites zn_cX3_drawOldSprites rfl)
theorem dX3_drawOldSprites_75 : decode cX3_drawOldSprites 75 = .ok (.iload 7, 2) := zo_21 (b1 := 7) (zkb2 zk_cX3_drawOldSprites zn_cX3_drawOldSprites rfl)
theorem dX3_drawOldSprites_77 : decode cX3_drawOldSprites 77 = .ok (.ifCond .lt 31, 3) := zo_155 (b1 := 0) (b2 := 31) (zkb3 zk_cX3_drawOldSprites zn_cX3_drawOldSprites rfl) rfl
theorem dX3_drawOldSprites_80 : decode cX3_drawOldSprites 80 = .ok (.iinc 3 1, 3) := zo_132 (b1 := 3) (b2 := 1) (zkb3 zk_cX3_drawOldSprites zn_cX3_drawOldSprites rfl) rfl
theorem dX3_drawOldSprites_83 : decode cX3_drawOldSprites 83 = .ok (.iload_n 3, 1) := zo_29 (zkb zk_cX3_drawOldSprites zn_cX3_drawOldSprites rfl)
theorem dX3_drawOldSprites_84 : decode cX3_drawOldSprites 84 = .ok (.iconst 4, 1) := zo_7 (zkb zk_cX3_drawOldSprites zn_cX3_drawOldSprites rfl)
theorem dX3_drawOldSprites_85 : decode cX3_drawOldSprites 85 = .ok (.if_icmp .le 15, 3) := zo_164 (b1 := 0) (b2 := 15) (zkb3 zk_cX3_drawOldSprites zn_cX3_drawOldSprites rfl) rfl
theorem dX3_drawOldSprites_88 : decode cX3_drawOldSprites 88 = .ok (.aload_n 0, 1) := zo_42 (zkb zk_cX3_drawOldSprites zn_cX3_drawOldSprites rfl)
theorem dX3_drawOldSprites_89 : decode cX3_drawOldSprites 89 = .ok (.getfield 26, 3) := zo_180 (b1 := 0) (b2 := 26) (zkb3 zk_cX3_drawOldSprites zn_cX3_drawOldSprites rfl) rfl
theorem dX3_drawOldSprites_92 : decode cX3_drawOldSprites 92 = .ok (.iload 4, 2) := zo_21 (b1 := 4) (zkb2 zk_cX3_drawOldSprites zn_cX3_drawOldSprites rfl)
theorem dX3_drawOldSprites_94 : decode cX3_drawOldSprites 94 = .ok (.invokevirtual 145, 3) := zo_182 (b1 := 0) (b2 := 145) (zkb3 zk_cX3_drawOldSprites zn_cX3_drawOldSprites rfl) rfl
theorem dX3_drawOldSprites_97 : decode cX3_drawOldSprites 97 = .ok (.goto 17, 3) := zo_167 (b1 := 0) (b2 := 17) (zkb3 zk_cX3_drawOldSprites zn_cX3_drawOldSprites rfl) rfl
theorem dX3_drawOldSprites_100 : decode cX3_drawOldSprites 100 = .ok (.aload_n 0, 1) := zo_42 (zkb zk_cX3_drawOldSprites zn_cX3_drawOldSprites rfl)
theorem dX3_drawOldSprites_101 : decode cX3_drawOldSprites 101 = .ok (.iload 5, 2) := zo_21 (b1 := 5) (zkb2 zk_cX3_drawOldSprites zn_cX3_drawOldSprites rfl)
theorem dX3_drawOldSprites_103 : decode cX3_drawOldSprites 103 = .ok (.iload 7, 2) := zo_21 (b1 := 7) (zkb2 zk_cX3_drawOldSprites zn_cX3_drawOldSprites rfl)
theorem dX3_drawOldSprites_105 : decode cX3_drawOldSprites 105 = .ok (.invokevirtual 148, 3) := zo_182 (b1 := 0) (b2 := 148) (zkb3 zk_cX3_drawOldSprites zn_cX3_drawOldSprites rfl) rfl
theorem dX3_drawOldSprites_108 : decode cX3_drawOldSprites 108 = .ok (.iinc 4 1, 3) := zo_132 (b1 := 4) (b2 := 1) (zkb3 zk_cX3_drawOldSprites zn_cX3_drawOldSprites rfl) rfl
theorem dX3_drawOldSprites_111 : decode cX3_drawOldSprites 111 = .ok (.goto (-82), 3) := zo_167 (b1 := 255) (b2 := 174) (zkb3 zk_cX3_drawOldSprites zn_cX3_drawOldSprites rfl) rfl
theorem dX3_drawOldSprites_114 : decode cX3_drawOldSprites 114 = .ok (.iconst 0, 1) := zo_3 (zkb zk_cX3_drawOldSprites zn_cX3_drawOldSprites rfl)
theorem dX3_drawOldSprites_115 : decode cX3_drawOldSprites 115 = .ok (.istore 4, 2) := zo_54 (b1 := 4) (zkb2 zk_cX3_drawOldSprites zn_cX3_drawOldSprites rfl)
theorem dX3_drawOldSprites_117 : decode cX3_drawOldSprites 117 = .ok (.iload 4, 2) := zo_21 (b1 := 4) (zkb2 zk_cX3_drawOldSprites zn_cX3_drawOldSprites rfl)
theorem dX3_drawOldSprites_119 : decode cX3_drawOldSprites 119 = .ok (.sipush 256, 3) := zo_17 (b1 := 1) (b2 := 0) (zkb3 zk_cX3_drawOldSprites zn_cX3_drawOldSprites rfl) rfl
theorem dX3_drawOldSprites_122 : decode cX3_drawOldSprites 122 = .ok (.if_icmp .ge 39, 3) := zo_162 (b1 := 0) (b2 := 39) (zkb3 zk_cX3_drawOldSprites zn_cX3_drawOldSprites rfl) rfl
theorem dX3_drawOldSprites_125 : decode cX3_drawOldSprites 125 = .ok (.aload_n 0, 1) := zo_42 (zkb zk_cX3_drawOldSprites zn_cX3_drawOldSprites rfl)
theorem dX3_drawOldSprites_126 : decode cX3_drawOldSprites 126 = .ok (.getfield 20, 3) := zo_180 (b1 := 0) (b2 := 20) (zkb3 zk_cX3_drawOldSprites zn_cX3_drawOldSprites rfl) rfl
theorem dX3_drawOldSprites_129 : decode cX3_drawOldSprites 129 = .ok (.iload 4, 2) := zo_21 (b1 := 4) (zkb2 zk_cX3_drawOldSprites zn_cX3_drawOldSprites rfl)
theorem dX3_drawOldSprites_131 : decode cX3_drawOldSprites 131 = .ok (.iaload, 1) := zo_46 (zkb zk_cX3_drawOldSprites zn_cX3_drawOldSprites rfl)
theorem dX3_drawOldSprites_132 : decode cX3_drawOldSprites 132 = .ok (.bipush 15, 2) := zo_16 (b1 := 15) (zkb2 zk_cX3_drawOldSprites zn_cX3_drawOldSprites rfl) rfl
theorem dX3_drawOldSprites_134 : decode cX3_drawOldSprites 134 = .ok (.iand, 1) := zo_126 (zkb zk_cX3_drawOldSprites zn_cX3_drawOldSprites rfl)
theorem dX3_drawOldSprites_135 : decode cX3_drawOldSprites 135 = .ok (.ifCond .le 20, 3) := zo_158 (b1 := 0) (b2 := 20) (zkb3 zk_cX3_drawOldSprites zn_cX3_drawOldSprites rfl) rfl
theorem dX3_drawOldSprites_138 : decode cX3_drawOldSprites 138 = .ok (.aload_n 0, 1) := zo_42 (zkb zk_cX3_drawOldSprites zn_cX3_drawOldSprites rfl)
theorem dX3_drawOldSprites_139 : decode cX3_drawOldSprites 139 = .ok (.getfield 17, 3) := zo_180 (b1 := 0) (b2 := 17) (zkb3 zk_cX3_drawOldSprites zn_cX3_drawOldSprites rfl) rfl
theorem dX3_drawOldSprites_142 : decode cX3_drawOldSprites 142 = .ok (.iload 4, 2) := zo_21 (b1 := 4) (zkb2 zk_cX3_drawOldSprites zn_cX3_drawOldSprites rfl)
theorem dX3_drawOldSprites_144 : decode cX3_drawOldSprites 144 = .ok (.aload_n 0, 1) := zo_42 (zkb zk_cX3_drawOldSprites zn_cX3_drawOldSprites rfl)
theorem dX3_drawOldSprites_145 : decode cX3_drawOldSprites 145 = .ok (.getfield 20, 3) := zo_180 (b1 := 0) (b2 := 20) (zkb3 zk_cX3_drawOldSprites zn_cX3_drawOldSprites rfl) rfl
theorem dX3_drawOldSprites_148 : decode cX3_drawOldSprites 148 = .ok (.iload 4, 2) := zo_21 (b1 := 4) (zkb2 zk_cX3_drawOldSprites zn_cX3_drawOldSprites rfl)
theorem dX3_drawOldSprites_150 : decode cX3_drawOldSprites 150 = .ok (.iaload, 1) := zo_46 (zkb zk_cX3_drawOldSprites zn_cX3_drawOldSprites rfl)
theorem dX3_drawOldSprites_151 : decode cX3_drawOldSprites 151 = .ok (.bipush 15, 2) := zo_16 (b1 := 15) (zkb2 zk_cX3_drawOldSprites zn_cX3_drawOldSprites rfl) rfl
theorem dX3_drawOldSprites_153 : decode cX3_drawOldSprites 153 = .ok (.iand, 1) := zo_126 (zkb zk_cX3_drawOldSprites zn_cX3_drawOldSprites rfl)
theorem dX3_drawOldSprites_154 : decode cX3_drawOldSprites 154 = .ok (.iastore, 1) := zo_79 (zkb zk_cX3_drawOldSprites zn_cX3_drawOldSprites rfl)
theorem dX3_drawOldSprites_155 : decode cX3_drawOldSprites 155 = .ok (.iinc 4 1, 3) := zo_132 (b1 := 4) (b2 := 1) (zkb3 zk_cX3_drawOldSprites zn_cX3_drawOldSprites rfl) rfl
theorem dX3_drawOldSprites_158 : decode cX3_drawOldSprites 158 = .ok (.goto (-41), 3) := zo_167 (b1 := 255) (b2 := 215) (zkb3 zk_cX3_drawOldSprites zn_cX3_drawOldSprites rfl) rfl
theorem dX3_drawOldSprites_161 : decode cX3_drawOldSprites 161 = .ok (.return_, 1) := zo_177 (zkb zk_cX3_drawOldSprites zn_cX3_drawOldSprites rfl)
noncomputable def kn_cX3_drawOldSprite : Nat := 0xb1bbffa7010b849700b67e0f101d0c152a0d00a20001110c1515009b0c151a00997e047a647a07150b150f100a150c36600b1504153700a278071508100500a7101008009908150b150b36030a3680030400a77100b660101009151a00b42a12009908157808107100b609151a00b42a0936601c606805150500a77efc1005150b009908150810687e07103e00b606101a00b42a0008110836030400a7040700997e05061507367e04061506363e00b6041a00b42a05367100b660051b1a00b42a043664030400a720100800997e8000111d7100b660041b1a00b42a3e7100b660061b1a00b42a
theorem zk_cX3_drawOldSprite : zkd cX3_drawOldSprite.data.toList kn_cX3_drawOldSprite = true := by decide +kernel
theorem zn_cX3_drawOldSprite : cX3_drawOldSprite.data.toList.length = 231 := by decide +kernel
theorem dX3_drawOldSprite_0 : decode cX3_drawOldSprite 0 = .ok (.aload_n 0, 1) := zo_42 (zkb zk_cX3_drawOldSprite zn_cX3_drawOldSprite rfl)
theorem dX3_drawOldSprite_1 : decode cX3_drawOldSprite 1 = .ok (.getfield 26, 3) := zo_180 (b1 := 0) (b2 := 26) (zkb3 zk_cX3_drawOldSprite zn_cX3_drawOldSprite rfl) rfl
theorem dX3_drawOldSprite_4 : decode cX3_drawOldSprite 4 = .ok (.iload_n 1, 1) := zo_27 (zkb zk_cX3_drawOldSprite zn_cX3_drawOldSprite rfl)
theorem dX3_drawOldSprite_5 : decode cX3_drawOldSprite 5 = .ok (.iconst 3, 1) := zo_6 (zkb zk_cX3_drawOldSprite zn_cX3_drawOldSprite rfl)
theorem dX3_drawOldSprite_6 : decode cX3_drawOldSprite 6 = .ok (.iadd, 1) := zo_96 (zkb zk_cX3_drawOldSprite zn_cX3_drawOldSprite rfl)
theorem dX3_drawOldSprite_7 : decode cX3_drawOldSprite 7 = .ok (.invokevirtual 113, 3) := zo_182 (b1 := 0) (b2 := 113) (zkb3 zk_cX3_drawOldSprite zn_cX3_drawOldSprite rfl) rfl
theorem dX3_drawOldSprite_10 : decode cX3_drawOldSprite 10 = .ok (.istore_n 3, 1) := zo_62 (zkb zk_cX3_drawOldSprite zn_cX3_drawOldSprite rfl)
theorem dX3_drawOldSprite_11 : decode cX3_drawOldSprite 11 = .ok (.aload_n 0, 1) := zo_42 (zkb zk_cX3_drawOldSprite zn_cX3_drawOldSprite rfl)
theorem dX3_drawOldSprite_12 : decode cX3_drawOldSprite 12 = .ok (.getfield 26, 3) := zo_180 (b1 := 0) (b2 := 26) (zkb3 zk_cX3_drawOldSprite zn_cX3_drawOldSprite rfl) rfl
theorem dX3_drawOldSprite_15 : decode cX3_drawOldSprite 15 = .ok (.iload_n 1, 1) := zo_27 (zkb zk_cX3_drawOldSprite zn_cX3_drawOldSprite rfl)
theorem dX3_drawOldSprite_16 : decode cX3_drawOldSprite 16 = .ok (.iconst 1, 1) := zo_4 (zkb zk_cX3_drawOldSprite zn_cX3_drawOldSprite rfl)
theorem dX3_drawOldSprite_17 : decode cX3_drawOldSprite 17 = .ok (.iadd, 1) := zo_96 (zkb zk_cX3_drawOldSprite zn_cX3_drawOldSprite rfl)
theorem dX3_drawOldSprite_18 : decode cX3_drawOldSprite 18 = .ok (.invokevirtual 113, 3) := zo_182 (b1 := 0) (b2 := 113) (zkb3 zk_cX3_drawOldSprite zn_cX3_drawOldSprite rfl) rfl
theorem dX3_drawOldSprite_21 : decode cX3_drawOldSprite 21 = .ok (.iload_n 3, 1) := zo_29 (zkb zk_cX3_drawOldSprite zn_cX3_drawOldSprite rfl)
theorem dX3_drawOldSprite_22 : decode cX3_drawOldSprite 22 = .ok (.sipush 128, 3) := zo_17 (b1 := 0) (b2 := 128) (zkb3 zk_cX3_drawOldSprite zn_cX3_drawOldSprite rfl) rfl
theorem dX3_drawOldSprite_25 : decode cX3_drawOldSprite 25 = .ok (.iand, 1) := zo_126 (zkb zk_cX3_drawOldSprite zn_cX3_drawOldSprite rfl)
theorem dX3_drawOldSprite_26 : decode cX3_drawOldSprite 26 = .ok (.ifCond .eq 8, 3) := zo_153 (b1 := 0) (b2 := 8) (zkb3 zk_cX3_drawOldSprite zn_cX3_drawOldSprite rfl) rfl
theorem dX3_drawOldSprite_29 : decode cX3_drawOldSprite 29 = .ok (.bipush 32, 2) := zo_16 (b1 := 32) (zkb2 zk_cX3_drawOldSprite zn_cX3_drawOldSprite rfl) rfl
theorem dX3_drawOldSprite_31 : decode cX3_drawOldSprite 31 = .ok (.goto 4, 3) := zo_167 (b1 := 0) (b2 := 4) (zkb3 zk_cX3_drawOldSprite zn_cX3_drawOldSprite rfl) rfl
theorem dX3_drawOldSprite_34 : decode cX3_drawOldSprite 34 = .ok (.iconst 0, 1) := zo_3 (zkb zk_cX3_drawOldSprite zn_cX3_drawOldSprite rfl)
theorem dX3_drawOldSprite_35 : decode cX3_drawOldSprite 35 = .ok (.isub, 1) := zo_100 (zkb zk_cX3_drawOldSprite zn_cX3_drawOldSprite rfl)
theorem dX3_drawOldSprite_36 : decode cX3_drawOldSprite 36 = .ok (.istore 4, 2) := zo_54 (b1 := 4) (zkb2 zk_cX3_drawOldSprite zn_cX3_drawOldSprite rfl)
theorem dX3_drawOldSprite_38 : decode cX3_drawOldSprite 38 = .ok (.aload_n 0, 1) := zo_42 (zkb zk_cX3_drawOldSprite zn_cX3_drawOldSprite rfl)
theorem dX3_drawOldSprite_39 : decode cX3_drawOldSprite 39 = .ok (.getfield 26, 3) := zo_180 (b1 := 0) (b2 := 26) (zkb3 zk_cX3_drawOldSprite zn_cX3_drawOldSprite rfl) rfl
theorem dX3_drawOldSprite_42 : decode cX3_drawOldSprite 42 = .ok (.iload_n 1, 1) := zo_27 (zkb zk_cX3_drawOldSprite zn_cX3_drawOldSprite rfl)
theorem dX3_drawOldSprite_43 : decode cX3_drawOldSprite 43 = .ok (.iconst 2, 1) := zo_5 (zkb zk_cX3_drawOldSprite zn_cX3_drawOldSprite rfl)
theorem dX3_drawOldSprite_44 : decode cX3_drawOldSprite 44 = .ok (.iadd, 1) := zo_96 (zkb zk_cX3_drawOldSprite zn_cX3_drawOldSprite rfl)
theorem dX3_drawOldSprite_45 : decode cX3_drawOldSprite 45 = .ok (.invokevirtual 113, 3) := zo_182 (b1 := 0) (b2 := 113) (zkb3 zk_cX3_drawOldSprite zn_cX3_drawOldSprite rfl) rfl
theorem dX3_drawOldSprite_48 : decode cX3_drawOldSprite 48 = .ok (.istore 5, 2) := zo_54 (b1 := 5) (zkb2 zk_cX3_drawOldSprite zn_cX3_drawOldSprite rfl)
theorem dX3_drawOldSprite_50 : decode cX3_drawOldSprite 50 = .ok (.aload_n 0, 1) := zo_42 (zkb zk_cX3_drawOldSprite zn_cX3_drawOldSprite rfl)
theorem dX3_drawOldSprite_51 : decode cX3_drawOldSprite 51 = .ok (.getfield 26, 3) := zo_180 (b1 := 0) (b2 := 26) (zkb3 zk_cX3_drawOldSprite zn_cX3_drawOldSprite rfl) rfl
theorem dX3_drawOldSprite_54 : decode cX3_drawOldSprite 54 = .ok (.iconst 1, 1) := zo_4 (zkb zk_cX3_drawOldSprite zn_cX3_drawOldSprite rfl)
theorem dX3_drawOldSprite_55 : decode cX3_drawOldSprite 55 = .ok (.invokevirtual 62, 3) := zo_182 (b1 := 0) (b2 := 62) (zkb3 zk_cX3_drawOldSprite zn_cX3_drawOldSprite rfl) rfl
theorem dX3_drawOldSprite_58 : decode cX3_drawOldSprite 58 = .ok (.istore 6, 2) := zo_54 (b1 := 6) (zkb2 zk_cX3_drawOldSprite zn_cX3_drawOldSprite rfl)
theorem dX3_drawOldSprite_60 : decode cX3_drawOldSprite 60 = .ok (.iload 6, 2) := zo_21 (b1 := 6) (zkb2 zk_cX3_drawOldSprite zn_cX3_drawOldSprite rfl)
theorem dX3_drawOldSprite_62 : decode cX3_drawOldSprite 62 = .ok (.iconst 1, 1) := zo_4 (zkb zk_cX3_drawOldSprite zn_cX3_drawOldSprite rfl)
theorem dX3_drawOldSprite_63 : decode cX3_drawOldSprite 63 = .ok (.iand, 1) := zo_126 (zkb zk_cX3_drawOldSprite zn_cX3_drawOldSprite rfl)
theorem dX3_drawOldSprite_64 : decode cX3_drawOldSprite 64 = .ok (.istore 7, 2) := zo_54 (b1 := 7) (zkb2 zk_cX3_drawOldSprite zn_cX3_drawOldSprite rfl)
theorem dX3_drawOldSprite_66 : decode cX3_drawOldSprite 66 = .ok (.iload 6, 2) := zo_21 (b1 := 6) (zkb2 zk_cX3_drawOldSprite zn_cX3_drawOldSprite rfl)
theorem dX3_drawOldSprite_68 : decode cX3_drawOldSprite 68 = .ok (.iconst 2, 1) := zo_5 (zkb zk_cX3_drawOldSprite zn_cX3_drawOldSprite rfl)
theorem dX3_drawOldSprite_69 : decode cX3_drawOldSprite 69 = .ok (.iand, 1) := zo_126 (zkb zk_cX3_drawOldSprite zn_cX3_drawOldSprite rfl)
theorem dX3_drawOldSprite_70 : decode cX3_drawOldSprite 70 = .ok (.ifCond .eq 7, 3) := zo_153 (b1 := 0) (b2 := 7) (zkb3 zk_cX3_drawOldSprite zn_cX3_drawOldSprite rfl) rfl
theorem dX3_drawOldSprite_73 : decode cX3_drawOldSprite 73 = .ok (.iconst 1, 1) := zo_4 (zkb zk_cX3_drawOldSprite zn_cX3_drawOldSprite rfl)
theorem dX3_drawOldSprite_74 : decode cX3_drawOldSprite 74 = .ok (.goto 4, 3) := zo_167 (b1 := 0) (b2 := 4) (zkb3 zk_cX3_drawOldSprite zn_cX3_drawOldSprite rfl) rfl
theorem dX3_drawOldSprite_77 : decode cX3_drawOldSprite 77 = .ok (.iconst 0, 1) := zo_3 (zkb zk_cX3_drawOldSprite zn_cX3_drawOldSprite rfl)
theorem dX3_drawOldSprite_78 : decode cX3_drawOldSprite 78 = .ok (.istore 8, 2) := zo_54 (b1 := 8) (zkb2 zk_cX3_drawOldSprite zn_cX3_drawOldSprite rfl)
theorem dX3_drawOldSprite_80 : decode cX3_drawOldSprite 80 = .ok (.sipush 2048, 3) := zo_17 (b1 := 8) (b2 := 0) (zkb3 zk_cX3_drawOldSprite zn_cX3_drawOldSprite rfl) rfl
theorem dX3_drawOldSprite_83 : decode cX3_drawOldSprite 83 = .ok (.aload_n 0, 1) := zo_42 (zkb zk_cX3_drawOldSprite zn_cX3_drawOldSprite rfl)
theorem dX3_drawOldSprite_84 : decode cX3_drawOldSprite 84 = .ok (.getfield 26, 3) := zo_180 (b1 := 0) (b2 := 26) (zkb3 zk_cX3_drawOldSprite zn_cX3_drawOldSprite rfl) rfl
theorem dX3_drawOldSprite_87 : decode cX3_drawOldSprite 87 = .ok (.bipush 6, 2) := zo_16 (b1 := 6) (zkb2 zk_cX3_drawOldSprite zn_cX3_drawOldSprite rfl) rfl
theorem dX3_drawOldSprite_89 : decode cX3_drawOldSprite 89 = .ok (.invokevirtual 62, 3) := zo_182 (b1 := 0) (b2 := 62) (zkb3 zk_cX3_drawOldSprite zn_cX3_drawOldSprite rfl) rfl
theorem dX3_drawOldSprite_92 : decode cX3_drawOldSprite 92 = .ok (.bipush 7, 2) := zo_16 (b1 := 7) (zkb2 zk_cX3_drawOldSprite zn_cX3_drawOldSprite rfl) rfl
theorem dX3_drawOldSprite_94 : decode cX3_drawOldSprite 94 = .ok (.iand, 1) := zo_126 (zkb zk_cX3_drawOldSprite zn_cX3_drawOldSprite rfl)
theorem dX3_drawOldSprite_95 : decode cX3_drawOldSprite 95 = .ok (.imul, 1) := zo_104 (zkb zk_cX3_drawOldSprite zn_cX3_drawOldSprite rfl)
theorem dX3_drawOldSprite_96 : decode cX3_drawOldSprite 96 = .ok (.bipush 8, 2) := zo_16 (b1 := 8) (zkb2 zk_cX3_drawOldSprite zn_cX3_drawOldSprite rfl) rfl
theorem dX3_drawOldSprite_98 : decode cX3_drawOldSprite 98 = .ok (.iload 8, 2) := zo_21 (b1 := 8) (zkb2 zk_cX3_drawOldSprite zn_cX3_drawOldSprite rfl)
theorem dX3_drawOldSprite_100 : decode cX3_drawOldSprite 100 = .ok (.ifCond .eq 11, 3) := zo_153 (b1 := 0) (b2 := 11) (zkb3 zk_cX3_drawOldSprite zn_cX3_drawOldSprite rfl) rfl
theorem dX3_drawOldSprite_103 : decode cX3_drawOldSprite 103 = .ok (.iload 5, 2) := zo_21 (b1 := 5) (zkb2 zk_cX3_drawOldSprite zn_cX3_drawOldSprite rfl)
theorem dX3_drawOldSprite_105 : decode cX3_drawOldSprite 105 = .ok (.bipush (-4), 2) := zo_16 (b1 := 252) (zkb2 zk_cX3_drawOldSprite zn_cX3_drawOldSprite rfl) rfl
theorem dX3_drawOldSprite_107 : decode cX3_drawOldSprite 107 = .ok (.iand, 1) := zo_126 (zkb zk_cX3_drawOldSprite zn_cX3_drawOldSprite rfl)
theorem dX3_drawOldSprite_108 : decode cX3_drawOldSprite 108 = .ok (.goto 5, 3) := zo_167 (b1 := 0) (b2 := 5) (zkb3 zk_cX3_drawOldSprite zn_cX3_drawOldSprite rfl) rfl
theorem dX3_drawOldSprite_111 : decode cX3_drawOldSprite 111 = .ok (.iload 5, 2) := zo_21 (b1 := 5) (zkb2 zk_cX3_drawOldSprite zn_cX3_drawOldSprite rfl)
theorem dX3_drawOldSprite_113 : decode cX3_drawOldSprite 113 = .ok (.imul, 1) := zo_104 (zkb zk_cX3_drawOldSprite zn_cX3_drawOldSprite rfl)
theorem dX3_drawOldSprite_114 : decode cX3_drawOldSprite 114 = .ok (.iadd, 1) := zo_96 (zkb zk_cX3_drawOldSprite zn_cX3_drawOldSprite rfl)
theorem dX3_drawOldSprite_115 : decode cX3_drawOldSprite 115 = .ok (.iload_n 2, 1) := zo_28 (zkb zk_cX3_drawOldSprite zn_cX3_drawOldSprite rfl)
theorem dX3_drawOldSprite_116 : decode cX3_drawOldSprite 116 = .ok (.iadd, 1) := zo_96 (zkb zk_cX3_drawOldSprite zn_cX3_drawOldSprite rfl)
theorem dX3_drawOldSprite_117 : decode cX3_drawOldSprite 117 = .ok (.istore 9, 2) := zo_54 (b1 := 9) (zkb2 zk_cX3_drawOldSprite zn_cX3_drawOldSprite rfl)
theorem dX3_drawOldSprite_119 : decode cX3_drawOldSprite 119 = .ok (.aload_n 0, 1) := zo_42 (zkb zk_cX3_drawOldSprite zn_cX3_drawOldSprite rfl)
theorem dX3_drawOldSprite_120 : decode cX3_drawOldSprite 120 = .ok (.getfield 26, 3) := zo_180 (b1 := 0) (b2 := 26) (zkb3 zk_cX3_drawOldSprite zn_cX3_drawOldSprite rfl) rfl
theorem dX3_drawOldSprite_123 : decode cX3_drawOldSprite 123 = .ok (.iload 9, 2) := zo_21 (b1 := 9) (zkb2 zk_cX3_drawOldSprite zn_cX3_drawOldSprite rfl)
theorem dX3_drawOldSprite_125 : decode cX3_drawOldSprite 125 = .ok (.invokevirtual 113, 3) := zo_182 (b1 := 0) (b2 := 113) (zkb3 zk_cX3_drawOldSprite zn_cX3_drawOldSprite rfl) rfl
theorem dX3_drawOldSprite_128 : decode cX3_drawOldSprite 128 = .ok (.bipush 8, 2) := zo_16 (b1 := 8) (zkb2 zk_cX3_drawOldSprite zn_cX3_drawOldSprite rfl) rfl
theorem dX3_drawOldSprite_130 : decode cX3_drawOldSprite 130 = .ok (.ishl, 1) := zo_120 (zkb zk_cX3_drawOldSprite zn_cX3_drawOldSprite rfl)
theorem dX3_drawOldSprite_131 : decode cX3_drawOldSprite 131 = .ok (.iload 8, 2) := zo_21 (b1 := 8) (zkb2 zk_cX3_drawOldSprite zn_cX3_drawOldSprite rfl)
theorem dX3_drawOldSprite_133 : decode cX3_drawOldSprite 133 = .ok (.ifCond .eq 18, 3) := zo_153 (b1 := 0) (b2 := 18) (zkb3 zk_cX3_drawOldSprite zn_cX3_drawOldSprite rfl) rfl
theorem dX3_drawOldSprite_136 : decode cX3_drawOldSprite 136 = .ok (.aload_n 0, 1) := zo_42 (zkb zk_cX3_drawOldSprite zn_cX3_drawOldSprite rfl)
theorem dX3_drawOldSprite_137 : decode cX3_drawOldSprite 137 = .ok (.getfield 26, 3) := zo_180 (b1 := 0) (b2 := 26) (zkb3 zk_cX3_drawOldSprite zn_cX3_drawOldSprite rfl) rfl
theorem dX3_drawOldSprite_140 : decode cX3_drawOldSprite 140 = .ok (.iload 9, 2) := zo_21 (b1 := 9) (zkb2 zk_cX3_drawOldSprite zn_cX3_drawOldSprite rfl)
theorem dX3_drawOldSprite_142 : decode cX3_drawOldSprite 142 = .ok (.bipush 16, 2) := zo_16 (b1 := 16) (zkb2 zk_cX3_drawOldSprite zn_cX3_drawOldSprite rfl) rfl
theorem dX3_drawOldSprite_144 : decode cX3_drawOldSprite 144 = .ok (.iadd, 1) := zo_96 (zkb zk_cX3_drawOldSprite zn_cX3_drawOldSprite rfl)
theorem dX3_drawOldSprite_145 : decode cX3_drawOldSprite 145 = .ok (.invokevirtual 113, 3) := zo_182 (b1 := 0) (b2 := 113) (zkb3 zk_cX3_drawOldSprite zn_cX3_drawOldSprite rfl) rfl
theorem dX3_drawOldSprite_148 : decode cX3_drawOldSprite 148 = .ok (.goto 4, 3) := zo_167 (b1 := 0) (b2 := 4) (zkb3 zk_cX3_drawOldSprite zn_cX3_drawOldSprite rfl) rfl
theorem dX3_drawOldSprite_151 : decode cX3_drawOldSprite 151 = .ok (.iconst 0, 1) := zo_3 (zkb zk_cX3_drawOldSprite zn_cX3_drawOldSprite rfl)
theorem dX3_drawOldSprite_152 : decode cX3_drawOldSprite 152 = .ok (.ior, 1) := zo_128 (zkb zk_cX3_drawOldSprite zn_cX3_drawOldSprite rfl)
theorem dX3_drawOldSprite_153 : decode cX3_drawOldSprite 153 = .ok (.istore 10, 2) := zo_54 (b1 := 10) (zkb2 zk_cX3_drawOldSprite zn_cX3_drawOldSprite rfl)
theorem dX3_drawOldSprite_155 : decode cX3_drawOldSprite 155 = .ok (.iconst 0, 1) := zo_3 (zkb zk_cX3_drawOldSprite zn_cX3_drawOldSprite rfl)
theorem dX3_drawOldSprite_156 : decode cX3_drawOldSprite 156 = .ok (.istore 11, 2) := zo_54 (b1 := 11) (zkb2 zk_cX3_drawOldSprite zn_cX3_drawOldSprite rfl)
theorem dX3_drawOldSprite_158 : decode cX3_drawOldSprite 158 = .ok (.iload 11, 2) := zo_21 (b1 := 11) (zkb2 zk_cX3_drawOldSprite zn_cX3_drawOldSprite rfl)
theorem dX3_drawOldSprite_160 : decode cX3_drawOldSprite 160 = .ok (.iload 8, 2) := zo_21 (b1 := 8) (zkb2 zk_cX3_drawOldSprite zn_cX3_drawOldSprite rfl)
theorem dX3_drawOldSprite_162 : decode cX3_drawOldSprite 162 = .ok (.ifCond .eq 8, 3) := zo_153 (b1 := 0) (b2 := 8) (zkb3 zk_cX3_drawOldSprite zn_cX3_drawOldSprite rfl) rfl
theorem dX3_drawOldSprite_165 : decode cX3_drawOldSprite 165 = .ok (.bipush 16, 2) := zo_16 (b1 := 16) (zkb2 zk_cX3_drawOldSprite zn_cX3_drawOldSprite rfl) rfl
theorem dX3_drawOldSprite_167 : decode cX3_drawOldSprite 167 = .ok (.goto 5, 3) := zo_167 (b1 := 0) (b2 := 5) (zkb3 zk_cX3_drawOldSprite zn_cX3_drawOldSprite rfl) rfl
theorem dX3_drawOldSprite_170 : decode cX3_drawOldSprite 170 = .ok (.bipush 8, 2) := zo_16 (b1 := 8) (zkb2 zk_cX3_drawOldSprite zn_cX3_drawOldSprite rfl) rfl
theorem dX3_drawOldSprite_172 : decode cX3_drawOldSprite 172 = .ok (.iload 7, 2) := zo_21 (b1 := 7) (zkb2 zk_cX3_drawOldSprite zn_cX3_drawOldSprite rfl)
theorem dX3_drawOldSprite_174 : decode cX3_drawOldSprite 174 = .ok (.ishl, 1) := zo_120 (zkb zk_cX3_drawOldSprite zn_cX3_drawOldSprite rfl)
theorem dX3_drawOldSprite_175 : decode cX3_drawOldSprite 175 = .ok (.if_icmp .ge 55, 3) := zo_162 (b1 := 0) (b2 := 55) (zkb3 zk_cX3_drawOldSprite zn_cX3_drawOldSprite rfl) rfl
theorem dX3_drawOldSprite_178 : decode cX3_drawOldSprite 178 = .ok (.iload 4, 2) := zo_21 (b1 := 4) (zkb2 zk_cX3_drawOldSprite zn_cX3_drawOldSprite rfl)
theorem dX3_drawOldSprite_180 : decode cX3_drawOldSprite 180 = .ok (.iload 11, 2) := zo_21 (b1 := 11) (zkb2 zk_cX3_drawOldSprite zn_cX3_drawOldSprite rfl)
theorem dX3_drawOldSprite_182 : decode cX3_drawOldSprite 182 = .ok (.iadd, 1) := zo_96 (zkb zk_cX3_drawOldSprite zn_cX3_drawOldSprite rfl)
theorem dX3_drawOldSprite_183 : decode cX3_drawOldSprite 183 = .ok (.istore 12, 2) := zo_54 (b1 := 12) (zkb2 zk_cX3_drawOldSprite zn_cX3_drawOldSprite rfl)
theorem dX3_drawOldSprite_185 : decode cX3_drawOldSprite 185 = .ok (.iload 10, 2) := zo_21 (b1 := 10) (zkb2 zk_cX3_drawOldSprite zn_cX3_drawOldSprite rfl)
theorem dX3_drawOldSprite_187 : decode cX3_drawOldSprite 187 = .ok (.bipush 15, 2) := zo_16 (b1 := 15) (zkb2 zk_cX3_drawOldSprite zn_cX3_drawOldSprite rfl) rfl
theorem dX3_drawOldSprite_189 : decode cX3_drawOldSprite 189 = .ok (.iload 11, 2) := zo_21 (b1 := 11) (zkb2 zk_cX3_drawOldSprite zn_cX3_drawOldSprite rfl)
theorem dX3_drawOldSprite_191 : decode cX3_drawOldSprite 191 = .ok (.iload 7, 2) := zo_21 (b1 := 7) (zkb2 zk_cX3_drawOldSprite zn_cX3_drawOldSprite rfl)
theorem dX3_drawOldSprite_193 : decode cX3_drawOldSprite 193 = .ok (.ishr, 1) := zo_122 (zkb zk_cX3_drawOldSprite zn_cX3_drawOldSprite rfl)
theorem dX3_drawOldSprite_194 : decode cX3_drawOldSprite 194 = .ok (.isub, 1) := zo_100 (zkb zk_cX3_drawOldSprite zn_cX3_drawOldSprite rfl)
theorem dX3_drawOldSprite_195 : decode cX3_drawOldSprite 195 = .ok (.ishr, 1) := zo_122 (zkb zk_cX3_drawOldSprite zn_cX3_drawOldSprite rfl)
theorem dX3_drawOldSprite_196 : decode cX3_drawOldSprite 196 = .ok (.iconst 1, 1) := zo_4 (zkb zk_cX3_drawOldSprite zn_cX3_drawOldSprite rfl)
theorem dX3_drawOldSprite_197 : decode cX3_drawOldSprite 197 = .ok (.iand, 1) := zo_126 (zkb zk_cX3_drawOldSprite zn_cX3_drawOldSprite rfl)
theorem dX3_drawOldSprite_198 : decode cX3_drawOldSprite 198 = .ok (.ifCond .eq 26, 3) := zo_153 (b1 := 0) (b2 := 26) (zkb3 zk_cX3_drawOldSprite zn_cX3_drawOldSprite rfl) rfl
theorem dX3_drawOldSprite_201 : decode cX3_drawOldSprite 201 = .ok (.iload 12, 2) := zo_21 (b1 := 12) (zkb2 zk_cX3_drawOldSprite zn_cX3_drawOldSprite rfl)
theorem dX3_drawOldSprite_203 : decode cX3_drawOldSprite 203 = .ok (.ifCond .lt 21, 3) := zo_155 (b1 := 0) (b2 := 21) (zkb3 zk_cX3_drawOldSprite zn_cX3_drawOldSprite rfl) rfl
theorem dX3_drawOldSprite_206 : decode cX3_drawOldSprite 206 = .ok (.iload 12, 2) := zo_21 (b1 := 12) (zkb2 zk_cX3_drawOldSprite zn_cX3_drawOldSprite rfl)
theorem dX3_drawOldSprite_208 : decode cX3_drawOldSprite 208 = .ok (.sipush 256, 3) := zo_17 (b1 := 1) (b2 := 0) (zkb3 zk_cX3_drawOldSprite zn_cX3_drawOldSprite rfl) rfl
theorem dX3_drawOldSprite_211 : decode cX3_drawOldSprite 211 = .ok (.if_icmp .ge 13, 3) := zo_162 (b1 := 0) (b2 := 13) (zkb3 zk_cX3_drawOldSprite zn_cX3_drawOldSprite rfl) rfl
theorem dX3_drawOldSprite_214 : decode cX3_drawOldSprite 214 = .ok (.aload_n 0, 1) := zo_42 (zkb zk_cX3_drawOldSprite zn_cX3_drawOldSprite rfl)
theorem dX3_drawOldSprite_215 : decode cX3_drawOldSprite 215 = .ok (.iload 12, 2) := zo_21 (b1 := 12) (zkb2 zk_cX3_drawOldSprite zn_cX3_drawOldSprite rfl)
theorem dX3_drawOldSprite_217 : decode cX3_drawOldSprite 217 = .ok (.iload_n 3, 1) := zo_29 (zkb zk_cX3_drawOldSprite zn_cX3_drawOldSprite rfl)
theorem dX3_drawOldSprite_218 : decode cX3_drawOldSprite 218 = .ok (.bipush 15, 2) := zo_16 (b1 := 15) (zkb2 zk_cX3_drawOldSprite zn_cX3_drawOldSprite rfl) rfl
theorem dX3_drawOldSprite_220 : decode cX3_drawOldSprite 220 = .ok (.iand, 1) := zo_126 (zkb zk_cX3_drawOldSprite zn_cX3_drawOldSprite rfl)
theorem dX3_drawOldSprite_221 : decode cX3_drawOldSprite 221 = .ok (.invokevirtual 151, 3) := zo_182 (b1 := 0) (b2 := 151) (zkb3 zk_cX3_drawOldSprite zn_cX3_drawOldSprite rfl) rfl
theorem dX3_drawOldSprite_224 : decode cX3_drawOldSprite 224 = .ok (.iinc 11 1, 3) := zo_132 (b1 := 11) (b2 := 1) (zkb3 zk_cX3_drawOldSprite zn_cX3_drawOldSprite rfl) rfl
theorem dX3_drawOldSprite_227 : decode cX3_drawOldSprite 227 = .ok (.goto (-69), 3) := zo_167 (b1 := 255) (b2 := 187) (zkb3 zk_cX3_drawOldSprite zn_cX3_drawOldSprite rfl) rfl
theorem dX3_drawOldSprite_230 : decode cX3_drawOldSprite 230 = .ok (.return_, 1) := zo_177 (zkb zk_cX3_drawOldSprite zn_cX3_drawOldSprite rfl)
noncomputable def kn_cX3_takeDot : Nat := 0xb14f801c0001111b1400b42a0e009a7e0f102e1b1400b42a7b00b620101a00b42a0c00992e1b1400b42a
theorem zk_cX3_takeDot : zkd cX3_takeDot.data.toList kn_cX3_takeDot = true := by decide +kernel
theorem zn_cX3_takeDot : cX3_takeDot.data.toList.length = 42 := by decide +kernel
theorem dX3_takeDot_0 : decode cX3_takeDot 0 = .ok (.aload_n 0, 1) := zo_42 (zkb zk_cX3_takeDot zn_cX3_takeDot rfl)
theorem dX3_takeDot_1 : decode cX3_takeDot 1 = .ok (.getfield 20, 3) := zo_180 (b1 := 0) (b2 := 20) (zkb3 zk_cX3_takeDot zn_cX3_takeDot rfl) rfl
theorem dX3_takeDot_4 : decode cX3_takeDot 4 = .ok (.iload_n 1, 1) := zo_27 (zkb zk_cX3_takeDot zn_cX3_takeDot rfl)
theorem dX3_takeDot_5 : decode cX3_takeDot 5 = .ok (.iaload, 1) := zo_46 (zkb zk_cX3_takeDot zn_cX3_takeDot rfl)
theorem dX3_takeDot_6 : decode cX3_takeDot 6 = .ok (.ifCond .eq 12, 3) := zo_153 (b1 := 0) (b2 := 12) (zkb3 zk_cX3_takeDot zn_cX3_takeDot rfl) rfl
theorem dX3_takeDot_9 : decode cX3_takeDot 9 = .ok (.aload_n 0, 1) := zo_42 (zkb zk_cX3_takeDot zn_cX3_takeDot rfl)
theorem dX3_takeDot_10 : decode cX3_takeDot 10 = .ok (.getfield 26, 3) := zo_180 (b1 := 0) (b2 := 26) (zkb3 zk_cX3_takeDot zn_cX3_takeDot rfl) rfl
theorem dX3_takeDot_13 : decode cX3_takeDot 13 = .ok (.bipush 32, 2) := zo_16 (b1 := 32) (zkb2 zk_cX3_takeDot zn_cX3_takeDot rfl) rfl
theorem dX3_takeDot_15 : decode cX3_takeDot 15 = .ok (.invokevirtual 123, 3) := zo_182 (b1 := 0) (b2 := 123) (zkb3 zk_cX3_takeDot zn_cX3_takeDot rfl) rfl
theorem dX3_takeDot_18 : decode cX3_takeDot 18 = .ok (.aload_n 0, 1) := zo_42 (zkb zk_cX3_takeDot zn_cX3_takeDot rfl)
theorem dX3_takeDot_19 : decode cX3_takeDot 19 = .ok (.getfield 20, 3) := zo_180 (b1 := 0) (b2 := 20) (zkb3 zk_cX3_takeDot zn_cX3_takeDot rfl) rfl
theorem dX3_takeDot_22 : decode cX3_takeDot 22 = .ok (.iload_n 1, 1) := zo_27 (zkb zk_cX3_takeDot zn_cX3_takeDot rfl)
theorem dX3_takeDot_23 : decode cX3_takeDot 23 = .ok (.iaload, 1) := zo_46 (zkb zk_cX3_takeDot zn_cX3_takeDot rfl)
theorem dX3_takeDot_24 : decode cX3_takeDot 24 = .ok (.bipush 15, 2) := zo_16 (b1 := 15) (zkb2 zk_cX3_takeDot zn_cX3_takeDot rfl) rfl
theorem dX3_takeDot_26 : decode cX3_takeDot 26 = .ok (.iand, 1) := zo_126 (zkb zk_cX3_takeDot zn_cX3_takeDot rfl)
theorem dX3_takeDot_27 : decode cX3_takeDot 27 = .ok (.ifCond .ne 14, 3) := zo_154 (b1 := 0) (b2 := 14) (zkb3 zk_cX3_takeDot zn_cX3_takeDot rfl) rfl
theorem dX3_takeDot_30 : decode cX3_takeDot 30 = .ok (.aload_n 0, 1) := zo_42 (zkb zk_cX3_takeDot zn_cX3_takeDot rfl)
theorem dX3_takeDot_31 : decode cX3_takeDot 31 = .ok (.getfield 20, 3) := zo_180 (b1 := 0) (b2 := 20) (zkb3 zk_cX3_takeDot zn_cX3_takeDot rfl) rfl
theorem dX3_takeDot_34 : decode cX3_takeDot 34 = .ok (.iload_n 1, 1) := zo_27 (zkb zk_cX3_takeDot zn_cX3_takeDot rfl)
theorem dX3_takeDot_35 : decode cX3_takeDot 35 = .ok (.sipush 256, 3) := zo_17 (b1 := 1) (b2 := 0) (zkb3 zk_cX3_takeDot zn_cX3_takeDot rfl) rfl
theorem dX3_takeDot_38 : decode cX3_takeDot 38 = .ok (.iload_n 2, 1) := zo_28 (zkb zk_cX3_takeDot zn_cX3_takeDot rfl)
theorem dX3_takeDot_39 : decode cX3_takeDot 39 = .ok (.ior, 1) := zo_128 (zkb zk_cX3_takeDot zn_cX3_takeDot rfl)
theorem dX3_takeDot_40 : decode cX3_takeDot 40 = .ok (.iastore, 1) := zo_79 (zkb zk_cX3_takeDot zn_cX3_takeDot rfl)
theorem dX3_takeDot_41 : decode cX3_takeDot 41 = .ok (.return_, 1) := zo_177 (zkb zk_cX3_takeDot zn_cX3_takeDot rfl)
noncomputable def kn_cX4_clear : Nat := 0xb14f0306100900b42a4f03080900b42a4fff0011070900b42a4f03060900b42a4fff0011050900b42a4f7f10040900b42a4fff0011030900b42a
theorem zk_cX4_clear : zkd cX4_clear.data.toList kn_cX4_clear = true := by decide +kernel
theorem zn_cX4_clear : cX4_clear.data.toList.length = 58 := by decide +kernel
theorem dX4_clear_0 : decode cX4_clear 0 = .ok (.aload_n 0, 1) := zo_42 (zkb zk_cX4_clear zn_cX4_clear rfl)
theorem dX4_clear_1 : decode cX4_clear 1 = .ok (.getfield 9, 3) := zo_180 (b1 := 0) (b2 := 9) (zkb3 zk_cX4_clear zn_cX4_clear rfl) rfl
theorem dX4_clear_4 : decode cX4_clear 4 = .ok (.iconst 0, 1) := zo_3 (zkb zk_cX4_clear zn_cX4_clear rfl)
theorem dX4_clear_5 : decode cX4_clear 5 = .ok (.sipush 255, 3) := zo_17 (b1 := 0) (b2 := 255) (zkb3 zk_cX4_clear zn_cX4_clear rfl) rfl
theorem dX4_clear_8 : decode cX4_clear 8 = .ok (.iastore, 1) := zo_79 (zkb zk_cX4_clear zn_cX4_clear rfl)
theorem dX4_clear_9 : decode cX4_clear 9 = .ok (.aload_n 0, 1) := zo_42 (zkb zk_cX4_clear zn_cX4_clear rfl)
theorem dX4_clear_10 : decode cX4_clear 10 = .ok (.getfield 9, 3) := zo_180 (b1 := 0) (b2 := 9) (zkb3 zk_cX4_clear zn_cX4_clear rfl) rfl
theorem dX4_clear_13 : decode cX4_clear 13 = .ok (.iconst 1, 1) := zo_4 (zkb zk_cX4_clear zn_cX4_clear rfl)
theorem dX4_clear_14 : decode cX4_clear 14 = .ok (.bipush 127, 2) := zo_16 (b1 := 127) (zkb2 zk_cX4_clear zn_cX4_clear rfl) rfl
theorem dX4_clear_16 : decode cX4_clear 16 = .ok (.iastore, 1) := zo_79 (zkb zk_cX4_clear zn_cX4_clear rfl)
theorem dX4_clear_17 : decode cX4_clear 17 = .ok (.aload_n 0, 1) := zo_42 (zkb zk_cX4_clear zn_cX4_clear rfl)
theorem dX4_clear_18 : decode cX4_clear 18 = .ok (.getfield 9, 3) := zo_180 (b1 := 0) (b2 := 9) (zkb3 zk_cX4_clear zn_cX4_clear rfl) rfl
theorem dX4_clear_21 : decode cX4_clear 21 = .ok (.iconst 2, 1) := zo_5 (zkb zk_cX4_clear zn_cX4_clear rfl)
theorem dX4_clear_22 : decode cX4_clear 22 = .ok (.sipush 255, 3) := zo_17 (b1 := 0) (b2 := 255) (zkb3 zk_cX4_clear zn_cX4_clear rfl) rfl
theorem dX4_clear_25 : decode cX4_clear 25 = .ok (.iastore, 1) := zo_79 (zkb zk_cX4_clear zn_cX4_clear rfl)
theorem dX4_clear_26 : decode cX4_clear 26 = .ok (.aload_n 0, 1) := zo_42 (zkb zk_cX4_clear zn_cX4_clear rfl)
theorem dX4_clear_27 : decode cX4_clear 27 = .ok (.getfield 9, 3) := zo_180 (b1 := 0) (b2 := 9) (zkb3 zk_cX4_clear zn_cX4_clear rfl) rfl
theorem dX4_clear_30 : decode cX4_clear 30 = .ok (.iconst 3, 1) := zo_6 (zkb zk_cX4_clear zn_cX4_clear rfl)
theorem dX4_clear_31 : decode cX4_clear 31 = .ok (.iconst 0, 1) := zo_3 (zkb zk_cX4_clear zn_cX4_clear rfl)
theorem dX4_clear_32 : decode cX4_clear 32 = .ok (.iastore, 1) := zo_79 (zkb zk_cX4_clear zn_cX4_clear rfl)
theorem dX4_clear_33 : decode cX4_clear 33 = .ok (.aload_n 0, 1) := zo_42 (zkb zk_cX4_clear zn_cX4_clear rfl)
theorem dX4_clear_34 : decode cX4_clear 34 = .ok (.getfield 9, 3) := zo_180 (b1 := 0) (b2 := 9) (zkb3 zk_cX4_clear zn_cX4_clear rfl) rfl
theorem dX4_clear_37 : decode cX4_clear 37 = .ok (.iconst 4, 1) := zo_7 (zkb zk_cX4_clear zn_cX4_clear rfl)
theorem dX4_clear_38 : decode cX4_clear 38 = .ok (.sipush 255, 3) := zo_17 (b1 := 0) (b2 := 255) (zkb3 zk_cX4_clear zn_cX4_clear rfl) rfl
theorem dX4_clear_41 : decode cX4_clear 41 = .ok (.iastore, 1) := zo_79 (zkb zk_cX4_clear zn_cX4_clear rfl)
theorem dX4_clear_42 : decode cX4_clear 42 = .ok (.aload_n 0, 1) := zo_42 (zkb zk_cX4_clear zn_cX4_clear rfl)
theorem dX4_clear_43 : decode cX4_clear 43 = .ok (.getfield 9, 3) := zo_180 (b1 := 0) (b2 := 9) (zkb3 zk_cX4_clear zn_cX4_clear rfl) rfl
theorem dX4_clear_46 : decode cX4_clear 46 = .ok (.iconst 5, 1) := zo_8 (zkb zk_cX4_clear zn_cX4_clear rfl)
theorem dX4_clear_47 : decode cX4_clear 47 = .ok (.iconst 0, 1) := zo_3 (zkb zk_cX4_clear zn_cX4_clear rfl)
theorem dX4_clear_48 : decode cX4_clear 48 = .ok (.iastore, 1) := zo_79 (zkb zk_cX4_clear zn_cX4_clear rfl)
theorem dX4_clear_49 : decode cX4_clear 49 = .ok (.aload_n 0, 1) := zo_42 (zkb zk_cX4_clear zn_cX4_clear rfl)
theorem dX4_clear_50 : decode cX4_clear 50 = .ok (.getfield 9, 3) := zo_180 (b1 := 0) (b2 := 9) (zkb3 zk_cX4_clear zn_cX4_clear rfl) rfl
theorem dX4_clear_53 : decode cX4_clear 53 = .ok (.bipush 6, 2) := zo_16 (b1 := 6) (zkb2 zk_cX4_clear zn_cX4_clear rfl) rfl
theorem dX4_clear_55 : decode cX4_clear 55 = .ok (.iconst 0, 1) := zo_3 (zkb zk_cX4_clear zn_cX4_clear rfl)
theorem dX4_clear_56 : decode cX4_clear 56 = .ok (.iastore, 1) := zo_79 (zkb zk_cX4_clear zn_cX4_clear rfl)
theorem dX4_clear_57 : decode cX4_clear 57 = .ok (.return_, 1) := zo_177 (zkb zk_cX4_clear zn_cX4_clear rfl)
noncomputable def kn_cX4_keep : Nat := 0xb12300b80c10030d00b42a030900b42a
theorem zk_cX4_keep : zkd cX4_keep.data.toList kn_cX4_keep = true := by decide +kernel
theorem zn_cX4_keep : cX4_keep.data.toList.length = 16 := by decide +kernel
theorem dX4_keep_0 : decode cX4_keep 0 = .ok (.aload_n 0, 1) := zo_42 (zkb zk_cX4_keep zn_cX4_keep rfl)
theorem dX4_keep_1 : decode cX4_keep 1 = .ok (.getfield 9, 3) := zo_180 (b1 := 0) (b2 := 9) (zkb3 zk_cX4_keep zn_cX4_keep rfl) rfl
theorem dX4_keep_4 : decode cX4_keep 4 = .ok (.iconst 0, 1) := zo_3 (zkb zk_cX4_keep zn_cX4_keep rfl)
theorem dX4_keep_5 : decode cX4_keep 5 = .ok (.aload_n 0, 1) := zo_42 (zkb zk_cX4_keep zn_cX4_keep rfl)
theorem dX4_keep_6 : decode cX4_keep 6 = .ok (.getfield 13, 3) := zo_180 (b1 := 0) (b2 := 13) (zkb3 zk_cX4_keep zn_cX4_keep rfl) rfl
theorem dX4_keep_9 : decode cX4_keep 9 = .ok (.iconst 0, 1) := zo_3 (zkb zk_cX4_keep zn_cX4_keep rfl)
theorem dX4_keep_10 : decode cX4_keep 10 = .ok (.bipush 12, 2) := zo_16 (b1 := 12) (zkb2 zk_cX4_keep zn_cX4_keep rfl) rfl
theorem dX4_keep_12 : decode cX4_keep 12 = .ok (.invokestatic 35, 3) := zo_184 (b1 := 0) (b2 := 35) (zkb3 zk_cX4_keep zn_cX4_keep rfl) rfl
theorem dX4_keep_15 : decode cX4_keep 15 = .ok (.return_, 1) := zo_177 (zkb zk_cX4_keep zn_cX4_keep rfl)
noncomputable def kn_cX4_bringBack : Nat := 0xb12300b80c10030900b42a030d00b42a
theorem zk_cX4_bringBack : zkd cX4_bringBack.data.toList kn_cX4_bringBack = true := by decide +kernel
theorem zn_cX4_bringBack : cX4_bringBack.data.toList.length = 16 := by decide +kernel
theorem dX4_bringBack_0 : decode cX4_bringBack 0 = .ok (.aload_n 0, 1) := zo_42 (zkb zk_cX4_bringBack zn_cX4_bringBack rfl)
theorem dX4_bringBack_1 : decode cX4_bringBack 1 = .ok (.getfield 13, 3) := zo_180 (b1 := 0) (b2 := 13) (zkb3 zk_cX4_bringBack zn_cX4_bringBack rfl) rfl
theorem dX4_bringBack_4 : decode cX4_bringBack 4 = .ok (.iconst 0, 1) := zo_3 (zkb zk_cX4_bringBack zn_cX4_bringBack rfl)
theorem dX4_bringBack_5 : decode cX4_bringBack 5 = .ok (.aload_n 0, 1) := zo_42 (zkb zk_cX4_bringBack zn_cX4_bringBack rfl)
theorem dX4_bringBack_6 : decode cX4_bringBack 6 = .ok (.getfield 9, 3) := zo_180 (b1 := 0) (b2 := 9) (zkb3 zk_cX4_bringBack zn_cX4_bringBack rfl) rfl
theorem dX4_bringBack_9 : decode cX4_bringBack 9 = .ok (.iconst 0, 1) := zo_3 (zkb zk_cX4_bringBack zn_cX4_bringBack rfl)
theorem dX4_bringBack_10 : decode cX4_bringBack 10 = .ok (.bipush 12, 2) := zo_16 (b1 := 12) (zkb2 zk_cX4_bringBack zn_cX4_bringBack rfl) rfl
theorem dX4_bringBack_12 : decode cX4_bringBack 12 = .ok (.invokestatic 35, 3) := zo_184 (b1 := 0) (b2 := 35) (zkb3 zk_cX4_bringBack zn_cX4_bringBack rfl) rfl
theorem dX4_bringBack_15 : decode cX4_bringBack 15 = .ok (.return_, 1) := zo_177 (zkb zk_cX4_bringBack zn_cX4_bringBack rfl)
noncomputable def kn_cX4_value : Nat := 0xac030400a72e1b0900b42a0c00a20c101b12009b1b
theorem zk_cX4_value : zkd cX4_value.data.toList kn_cX4_value = true := by decide +kernel
theorem zn_cX4_value : cX4_value.data.toList.length = 21 := by decide +kernel
theorem dX4_value_0 : decode cX4_value 0 = .ok (.iload_n 1, 1) := zo_27 (zkb zk_cX4_value zn_cX4_value rfl)
theorem dX4_value_1 : decode cX4_value 1 = .ok (.ifCond .lt 18, 3) := zo_155 (b1 := 0) (b2 := 18) (zkb3 zk_cX4_value zn_cX4_value rfl) rfl
theorem dX4_value_4 : decode cX4_value 4 = .ok (.iload_n 1, 1) := zo_27 (zkb zk_cX4_value zn_cX4_value rfl)
theorem dX4_value_5 : decode cX4_value 5 = .ok (.bipush 12, 2) := zo_16 (b1 := 12) (zkb2 zk_cX4_value zn_cX4_value rfl) rfl
theorem dX4_value_7 : decode cX4_value 7 = .ok (.if_icmp .ge 12, 3) := zo_162 (b1 := 0) (b2 := 12) (zkb3 zk_cX4_value zn_cX4_value rfl) rfl
theorem dX4_value_10 : decode cX4_value 10 = .ok (.aload_n 0, 1) := zo_42 (zkb zk_cX4_value zn_cX4_value rfl)
theorem dX4_value_11 : decode cX4_value 11 = .ok (.getfield 9, 3) := zo_180 (b1 := 0) (b2 := 9) (zkb3 zk_cX4_value zn_cX4_value rfl) rfl
theorem dX4_value_14 : decode cX4_value 14 = .ok (.iload_n 1, 1) := zo_27 (zkb zk_cX4_value zn_cX4_value rfl)
theorem dX4_value_15 : decode cX4_value 15 = .ok (.iaload, 1) := zo_46 (zkb zk_cX4_value zn_cX4_value rfl)
theorem dX4_value_16 : decode cX4_value 16 = .ok (.goto 4, 3) := zo_167 (b1 := 0) (b2 := 4) (zkb3 zk_cX4_value zn_cX4_value rfl) rfl
theorem dX4_value_19 : decode cX4_value 19 = .ok (.iconst 0, 1) := zo_3 (zkb zk_cX4_value zn_cX4_value rfl)
theorem dX4_value_20 : decode cX4_value 20 = .ok (.ireturn, 1) := zo_172 (zkb zk_cX4_value zn_cX4_value rfl)
noncomputable def kn_cX4_canPress : Nat := 0xac030400a7040700a33f101b0d009b1b1100a3041a16009b1a
theorem zk_cX4_canPress : zkd cX4_canPress.data.toList kn_cX4_canPress = true := by decide +kernel
theorem zn_cX4_canPress : cX4_canPress.data.toList.length = 25 := by decide +kernel
theorem dX4_canPress_0 : decode cX4_canPress 0 = .ok (.iload_n 0, 1) := zo_26 (zkb zk_cX4_canPress zn_cX4_canPress rfl)
theorem dX4_canPress_1 : decode cX4_canPress 1 = .ok (.ifCond .lt 22, 3) := zo_155 (b1 := 0) (b2 := 22) (zkb3 zk_cX4_canPress zn_cX4_canPress rfl) rfl
theorem dX4_canPress_4 : decode cX4_canPress 4 = .ok (.iload_n 0, 1) := zo_26 (zkb zk_cX4_canPress zn_cX4_canPress rfl)
theorem dX4_canPress_5 : decode cX4_canPress 5 = .ok (.iconst 1, 1) := zo_4 (zkb zk_cX4_canPress zn_cX4_canPress rfl)
theorem dX4_canPress_6 : decode cX4_canPress 6 = .ok (.if_icmp .gt 17, 3) := zo_163 (b1 := 0) (b2 := 17) (zkb3 zk_cX4_canPress zn_cX4_canPress rfl) rfl
theorem dX4_canPress_9 : decode cX4_canPress 9 = .ok (.iload_n 1, 1) := zo_27 (zkb zk_cX4_canPress zn_cX4_canPress rfl)
theorem dX4_canPress_10 : decode cX4_canPress 10 = .ok (.ifCond .lt 13, 3) := zo_155 (b1 := 0) (b2 := 13) (zkb3 zk_cX4_canPress zn_cX4_canPress rfl) rfl
theorem dX4_canPress_13 : decode cX4_canPress 13 = .ok (.iload_n 1, 1) := zo_27 (zkb zk_cX4_canPress zn_cX4_canPress rfl)
theorem dX4_canPress_14 : decode cX4_canPress 14 = .ok (.bipush 63, 2) := zo_16 (b1 := 63) (zkb2 zk_cX4_canPress zn_cX4_canPress rfl) rfl
theorem dX4_canPress_16 : decode cX4_canPress 16 = .ok (.if_icmp .gt 7, 3) := zo_163 (b1 := 0) (b2 := 7) (zkb3 zk_cX4_canPress zn_cX4_canPress rfl) rfl
theorem dX4_canPress_19 : decode cX4_canPress 19 = .ok (.iconst 1, 1) := zo_4 (zkb zk_cX4_canPress zn_cX4_canPress rfl)
theorem dX4_canPress_20 : decode cX4_canPress 20 = .ok (.goto 4, 3) := zo_167 (b1 := 0) (b2 := 4) (zkb3 zk_cX4_canPress zn_cX4_canPress rfl) rfl
theorem dX4_canPress_23 : decode cX4_canPress 23 = .ok (.iconst 0, 1) := zo_3 (zkb zk_cX4_canPress zn_cX4_canPress rfl)
theorem dX4_canPress_24 : decode cX4_canPress 24 = .ok (.ireturn, 1) := zo_172 (zkb zk_cX4_canPress zn_cX4_canPress rfl)
noncomputable def kn_cX4_holdStart : Nat := 0xb14f030400a7040700991b09100900b42a
theorem zk_cX4_holdStart : zkd cX4_holdStart.data.toList kn_cX4_holdStart = true := by decide +kernel
theorem zn_cX4_holdStart : cX4_holdStart.data.toList.length = 17 := by decide +kernel
theorem dX4_holdStart_0 : decode cX4_holdStart 0 = .ok (.aload_n 0, 1) := zo_42 (zkb zk_cX4_holdStart zn_cX4_holdStart rfl)
theorem dX4_holdStart_1 : decode cX4_holdStart 1 = .ok (.getfield 9, 3) := zo_180 (b1 := 0) (b2 := 9) (zkb3 zk_cX4_holdStart zn_cX4_holdStart rfl) rfl
theorem dX4_holdStart_4 : decode cX4_holdStart 4 = .ok (.bipush 9, 2) := zo_16 (b1 := 9) (zkb2 zk_cX4_holdStart zn_cX4_holdStart rfl) rfl
theorem dX4_holdStart_6 : decode cX4_holdStart 6 = .ok (.iload_n 1, 1) := zo_27 (zkb zk_cX4_holdStart zn_cX4_holdStart rfl)
theorem dX4_holdStart_7 : decode cX4_holdStart 7 = .ok (.ifCond .eq 7, 3) := zo_153 (b1 := 0) (b2 := 7) (zkb3 zk_cX4_holdStart zn_cX4_holdStart rfl) rfl
theorem dX4_holdStart_10 : decode cX4_holdStart 10 = .ok (.iconst 1, 1) := zo_4 (zkb zk_cX4_holdStart zn_cX4_holdStart rfl)
theorem dX4_holdStart_11 : decode cX4_holdStart 11 = .ok (.goto 4, 3) := zo_167 (b1 := 0) (b2 := 4) (zkb3 zk_cX4_holdStart zn_cX4_holdStart rfl) rfl
theorem dX4_holdStart_14 : decode cX4_holdStart 14 = .ok (.iconst 0, 1) := zo_3 (zkb zk_cX4_holdStart zn_cX4_holdStart rfl)
theorem dX4_holdStart_15 : decode cX4_holdStart 15 = .ok (.iastore, 1) := zo_79 (zkb zk_cX4_holdStart zn_cX4_holdStart rfl)
theorem dX4_holdStart_16 : decode cX4_holdStart 16 = .ok (.return_, 1) := zo_177 (zkb zk_cX4_holdStart zn_cX4_holdStart rfl)
noncomputable def kn_cX4_moveLine : Nat := 0xb12900b6030400a7040700991c607e041b0a102a
theorem zk_cX4_moveLine : zkd cX4_moveLine.data.toList kn_cX4_moveLine = true := by decide +kernel
theorem zn_cX4_moveLine : cX4_moveLine.data.toList.length = 20 := by decide +kernel
theorem dX4_moveLine_0 : decode cX4_moveLine 0 = .ok (.aload_n 0, 1) := zo_42 (zkb zk_cX4_moveLine zn_cX4_moveLine rfl)
theorem dX4_moveLine_1 : decode cX4_moveLine 1 = .ok (.bipush 10, 2) := zo_16 (b1 := 10) (zkb2 zk_cX4_moveLine zn_cX4_moveLine rfl) rfl
theorem dX4_moveLine_3 : decode cX4_moveLine 3 = .ok (.iload_n 1, 1) := zo_27 (zkb zk_cX4_moveLine zn_cX4_moveLine rfl)
theorem dX4_moveLine_4 : decode cX4_moveLine 4 = .ok (.iconst 1, 1) := zo_4 (zkb zk_cX4_moveLine zn_cX4_moveLine rfl)
theorem dX4_moveLine_5 : decode cX4_moveLine 5 = .ok (.iand, 1) := zo_126 (zkb zk_cX4_moveLine zn_cX4_moveLine rfl)
theorem dX4_moveLine_6 : decode cX4_moveLine 6 = .ok (.iadd, 1) := zo_96 (zkb zk_cX4_moveLine zn_cX4_moveLine rfl)
theorem dX4_moveLine_7 : decode cX4_moveLine 7 = .ok (.iload_n 2, 1) := zo_28 (zkb zk_cX4_moveLine zn_cX4_moveLine rfl)
theorem dX4_moveLine_8 : decode cX4_moveLine 8 = .ok (.ifCond .eq 7, 3) := zo_153 (b1 := 0) (b2 := 7) (zkb3 zk_cX4_moveLine zn_cX4_moveLine rfl) rfl
theorem dX4_moveLine_11 : decode cX4_moveLine 11 = .ok (.iconst 1, 1) := zo_4 (zkb zk_cX4_moveLine zn_cX4_moveLine rfl)
theorem dX4_moveLine_12 : decode cX4_moveLine 12 = .ok (.goto 4, 3) := zo_167 (b1 := 0) (b2 := 4) (zkb3 zk_cX4_moveLine zn_cX4_moveLine rfl) rfl
theorem dX4_moveLine_15 : decode cX4_moveLine 15 = .ok (.iconst 0, 1) := zo_3 (zkb zk_cX4_moveLine zn_cX4_moveLine rfl)
theorem dX4_moveLine_16 : decode cX4_moveLine 16 = .ok (.invokevirtual 41, 3) := zo_182 (b1 := 0) (b2 := 41) (zkb3 zk_cX4_moveLine zn_cX4_moveLine rfl) rfl
theorem dX4_moveLine_19 : decode cX4_moveLine 19 = .ok (.return_, 1) := zo_177 (zkb zk_cX4_moveLine zn_cX4_moveLine rfl)
noncomputable def kn_cX4_lines : Nat := 0xac8078041d1c3e2e0b100900b42a0a00a77e047a07101b0c009a7e08101b3d2e0a100900b42a0a00a77e047a081b0b009a7e051b3c2e030900b42a
theorem zk_cX4_lines : zkd cX4_lines.data.toList kn_cX4_lines = true := by decide +kernel
theorem zn_cX4_lines : cX4_lines.data.toList.length = 59 := by decide +kernel
theorem dX4_lines_0 : decode cX4_lines 0 = .ok (.aload_n 0, 1) := zo_42 (zkb zk_cX4_lines zn_cX4_lines rfl)
theorem dX4_lines_1 : decode cX4_lines 1 = .ok (.getfield 9, 3) := zo_180 (b1 := 0) (b2 := 9) (zkb3 zk_cX4_lines zn_cX4_lines rfl) rfl
theorem dX4_lines_4 : decode cX4_lines 4 = .ok (.iconst 0, 1) := zo_3 (zkb zk_cX4_lines zn_cX4_lines rfl)
theorem dX4_lines_5 : decode cX4_lines 5 = .ok (.iaload, 1) := zo_46 (zkb zk_cX4_lines zn_cX4_lines rfl)
theorem dX4_lines_6 : decode cX4_lines 6 = .ok (.istore_n 1, 1) := zo_60 (zkb zk_cX4_lines zn_cX4_lines rfl)
theorem dX4_lines_7 : decode cX4_lines 7 = .ok (.iload_n 1, 1) := zo_27 (zkb zk_cX4_lines zn_cX4_lines rfl)
theorem dX4_lines_8 : decode cX4_lines 8 = .ok (.iconst 2, 1) := zo_5 (zkb zk_cX4_lines zn_cX4_lines rfl)
theorem dX4_lines_9 : decode cX4_lines 9 = .ok (.iand, 1) := zo_126 (zkb zk_cX4_lines zn_cX4_lines rfl)
theorem dX4_lines_10 : decode cX4_lines 10 = .ok (.ifCond .ne 11, 3) := zo_154 (b1 := 0) (b2 := 11) (zkb3 zk_cX4_lines zn_cX4_lines rfl) rfl
theorem dX4_lines_13 : decode cX4_lines 13 = .ok (.iload_n 1, 1) := zo_27 (zkb zk_cX4_lines zn_cX4_lines rfl)
theorem dX4_lines_14 : decode cX4_lines 14 = .ok (.iconst 5, 1) := zo_8 (zkb zk_cX4_lines zn_cX4_lines rfl)
theorem dX4_lines_15 : decode cX4_lines 15 = .ok (.ishr, 1) := zo_122 (zkb zk_cX4_lines zn_cX4_lines rfl)
theorem dX4_lines_16 : decode cX4_lines 16 = .ok (.iconst 1, 1) := zo_4 (zkb zk_cX4_lines zn_cX4_lines rfl)
theorem dX4_lines_17 : decode cX4_lines 17 = .ok (.iand, 1) := zo_126 (zkb zk_cX4_lines zn_cX4_lines rfl)
theorem dX4_lines_18 : decode cX4_lines 18 = .ok (.goto 10, 3) := zo_167 (b1 := 0) (b2 := 10) (zkb3 zk_cX4_lines zn_cX4_lines rfl) rfl
theorem dX4_lines_21 : decode cX4_lines 21 = .ok (.aload_n 0, 1) := zo_42 (zkb zk_cX4_lines zn_cX4_lines rfl)
theorem dX4_lines_22 : decode cX4_lines 22 = .ok (.getfield 9, 3) := zo_180 (b1 := 0) (b2 := 9) (zkb3 zk_cX4_lines zn_cX4_lines rfl) rfl
theorem dX4_lines_25 : decode cX4_lines 25 = .ok (.bipush 10, 2) := zo_16 (b1 := 10) (zkb2 zk_cX4_lines zn_cX4_lines rfl) rfl
theorem dX4_lines_27 : decode cX4_lines 27 = .ok (.iaload, 1) := zo_46 (zkb zk_cX4_lines zn_cX4_lines rfl)
theorem dX4_lines_28 : decode cX4_lines 28 = .ok (.istore_n 2, 1) := zo_61 (zkb zk_cX4_lines zn_cX4_lines rfl)
theorem dX4_lines_29 : decode cX4_lines 29 = .ok (.iload_n 1, 1) := zo_27 (zkb zk_cX4_lines zn_cX4_lines rfl)
theorem dX4_lines_30 : decode cX4_lines 30 = .ok (.bipush 8, 2) := zo_16 (b1 := 8) (zkb2 zk_cX4_lines zn_cX4_lines rfl) rfl
theorem dX4_lines_32 : decode cX4_lines 32 = .ok (.iand, 1) := zo_126 (zkb zk_cX4_lines zn_cX4_lines rfl)
theorem dX4_lines_33 : decode cX4_lines 33 = .ok (.ifCond .ne 12, 3) := zo_154 (b1 := 0) (b2 := 12) (zkb3 zk_cX4_lines zn_cX4_lines rfl) rfl
theorem dX4_lines_36 : decode cX4_lines 36 = .ok (.iload_n 1, 1) := zo_27 (zkb zk_cX4_lines zn_cX4_lines rfl)
theorem dX4_lines_37 : decode cX4_lines 37 = .ok (.bipush 7, 2) := zo_16 (b1 := 7) (zkb2 zk_cX4_lines zn_cX4_lines rfl) rfl
theorem dX4_lines_39 : decode cX4_lines 39 = .ok (.ishr, 1) := zo_122 (zkb zk_cX4_lines zn_cX4_lines rfl)
theorem dX4_lines_40 : decode cX4_lines 40 = .ok (.iconst 1, 1) := zo_4 (zkb zk_cX4_lines zn_cX4_lines rfl)
theorem dX4_lines_41 : decode cX4_lines 41 = .ok (.iand, 1) := zo_126 (zkb zk_cX4_lines zn_cX4_lines rfl)
theorem dX4_lines_42 : decode cX4_lines 42 = .ok (.goto 10, 3) := zo_167 (b1 := 0) (b2 := 10) (zkb3 zk_cX4_lines zn_cX4_lines rfl) rfl
theorem dX4_lines_45 : decode cX4_lines 45 = .ok (.aload_n 0, 1) := zo_42 (zkb zk_cX4_lines zn_cX4_lines rfl)
theorem dX4_lines_46 : decode cX4_lines 46 = .ok (.getfield 9, 3) := zo_180 (b1 := 0) (b2 := 9) (zkb3 zk_cX4_lines zn_cX4_lines rfl) rfl
theorem dX4_lines_49 : decode cX4_lines 49 = .ok (.bipush 11, 2) := zo_16 (b1 := 11) (zkb2 zk_cX4_lines zn_cX4_lines rfl) rfl
theorem dX4_lines_51 : decode cX4_lines 51 = .ok (.iaload, 1) := zo_46 (zkb zk_cX4_lines zn_cX4_lines rfl)
theorem dX4_lines_52 : decode cX4_lines 52 = .ok (.istore_n 3, 1) := zo_62 (zkb zk_cX4_lines zn_cX4_lines rfl)
theorem dX4_lines_53 : decode cX4_lines 53 = .ok (.iload_n 2, 1) := zo_28 (zkb zk_cX4_lines zn_cX4_lines rfl)
theorem dX4_lines_54 : decode cX4_lines 54 = .ok (.iload_n 3, 1) := zo_29 (zkb zk_cX4_lines zn_cX4_lines rfl)
theorem dX4_lines_55 : decode cX4_lines 55 = .ok (.iconst 1, 1) := zo_4 (zkb zk_cX4_lines zn_cX4_lines rfl)
theorem dX4_lines_56 : decode cX4_lines 56 = .ok (.ishl, 1) := zo_120 (zkb zk_cX4_lines zn_cX4_lines rfl)
theorem dX4_lines_57 : decode cX4_lines 57 = .ok (.ior, 1) := zo_128 (zkb zk_cX4_lines zn_cX4_lines rfl)
theorem dX4_lines_58 : decode cX4_lines 58 = .ok (.ireturn, 1) := zo_172 (zkb zk_cX4_lines zn_cX4_lines rfl)
noncomputable def kn_cX4_changeLines : Nat := 0xb14f3100b61400b42a06100900b42a1100997e82021d2d00b62a4f1c1b0900b42a3e2d00b62a
theorem zk_cX4_changeLines : zkd cX4_changeLines.data.toList kn_cX4_changeLines = true := by decide +kernel
theorem zn_cX4_changeLines : cX4_changeLines.data.toList.length = 38 := by decide +kernel
theorem dX4_changeLines_0 : decode cX4_changeLines 0 = .ok (.aload_n 0, 1) := zo_42 (zkb zk_cX4_changeLines zn_cX4_changeLines rfl)
theorem dX4_changeLines_1 : decode cX4_changeLines 1 = .ok (.invokevirtual 45, 3) := zo_182 (b1 := 0) (b2 := 45) (zkb3 zk_cX4_changeLines zn_cX4_changeLines rfl) rfl
theorem dX4_changeLines_4 : decode cX4_changeLines 4 = .ok (.istore_n 3, 1) := zo_62 (zkb zk_cX4_changeLines zn_cX4_changeLines rfl)
theorem dX4_changeLines_5 : decode cX4_changeLines 5 = .ok (.aload_n 0, 1) := zo_42 (zkb zk_cX4_changeLines zn_cX4_changeLines rfl)
theorem dX4_changeLines_6 : decode cX4_changeLines 6 = .ok (.getfield 9, 3) := zo_180 (b1 := 0) (b2 := 9) (zkb3 zk_cX4_changeLines zn_cX4_changeLines rfl) rfl
theorem dX4_changeLines_9 : decode cX4_changeLines 9 = .ok (.iload_n 1, 1) := zo_27 (zkb zk_cX4_changeLines zn_cX4_changeLines rfl)
theorem dX4_changeLines_10 : decode cX4_changeLines 10 = .ok (.iload_n 2, 1) := zo_28 (zkb zk_cX4_changeLines zn_cX4_changeLines rfl)
theorem dX4_changeLines_11 : decode cX4_changeLines 11 = .ok (.iastore, 1) := zo_79 (zkb zk_cX4_changeLines zn_cX4_changeLines rfl)
theorem dX4_changeLines_12 : decode cX4_changeLines 12 = .ok (.aload_n 0, 1) := zo_42 (zkb zk_cX4_changeLines zn_cX4_changeLines rfl)
theorem dX4_changeLines_13 : decode cX4_changeLines 13 = .ok (.invokevirtual 45, 3) := zo_182 (b1 := 0) (b2 := 45) (zkb3 zk_cX4_changeLines zn_cX4_changeLines rfl) rfl
theorem dX4_changeLines_16 : decode cX4_changeLines 16 = .ok (.iload_n 3, 1) := zo_29 (zkb zk_cX4_changeLines zn_cX4_changeLines rfl)
theorem dX4_changeLines_17 : decode cX4_changeLines 17 = .ok (.iconst (-1), 1) := zo_2 (zkb zk_cX4_changeLines zn_cX4_changeLines rfl)
theorem dX4_changeLines_18 : decode cX4_changeLines 18 = .ok (.ixor, 1) := zo_130 (zkb zk_cX4_changeLines zn_cX4_changeLines rfl)
theorem dX4_changeLines_19 : decode cX4_changeLines 19 = .ok (.iand, 1) := zo_126 (zkb zk_cX4_changeLines zn_cX4_changeLines rfl)
theorem dX4_changeLines_20 : decode cX4_changeLines 20 = .ok (.ifCond .eq 17, 3) := zo_153 (b1 := 0) (b2 := 17) (zkb3 zk_cX4_changeLines zn_cX4_changeLines rfl) rfl
theorem dX4_changeLines_23 : decode cX4_changeLines 23 = .ok (.aload_n 0, 1) := zo_42 (zkb zk_cX4_changeLines zn_cX4_changeLines rfl)
theorem dX4_changeLines_24 : decode cX4_changeLines 24 = .ok (.getfield 9, 3) := zo_180 (b1 := 0) (b2 := 9) (zkb3 zk_cX4_changeLines zn_cX4_changeLines rfl) rfl
theorem dX4_changeLines_27 : decode cX4_changeLines 27 = .ok (.bipush 6, 2) := zo_16 (b1 := 6) (zkb2 zk_cX4_changeLines zn_cX4_changeLines rfl) rfl
theorem dX4_changeLines_29 : decode cX4_changeLines 29 = .ok (.aload_n 0, 1) := zo_42 (zkb zk_cX4_changeLines zn_cX4_changeLines rfl)
theorem dX4_changeLines_30 : decode cX4_changeLines 30 = .ok (.getfield 20, 3) := zo_180 (b1 := 0) (b2 := 20) (zkb3 zk_cX4_changeLines zn_cX4_changeLines rfl) rfl
theorem dX4_changeLines_33 : decode cX4_changeLines 33 = .ok (.invokevirtual 49, 3) := zo_182 (b1 := 0) (b2 := 49) (zkb3 zk_cX4_changeLines zn_cX4_changeLines rfl) rfl
theorem dX4_changeLines_36 : decode cX4_changeLines 36 = .ok (.iastore, 1) := zo_79 (zkb zk_cX4_changeLines zn_cX4_changeLines rfl)
theorem dX4_changeLines_37 : decode cX4_changeLines 37 = .ok (.return_, 1) := zo_177 (zkb zk_cX4_changeLines zn_cX4_changeLines rfl)
noncomputable def kn_cX4_readEvenPads : Nat := 0xac1b0400a78078047e10102e030900b42a7edf101b16009a7e042e030900b42a3c7eff00118202807806102e08100900b42a2e07100900b42a
theorem zk_cX4_readEvenPads : zkd cX4_readEvenPads.data.toList kn_cX4_readEvenPads = true := by decide +kernel
theorem zn_cX4_readEvenPads : cX4_readEvenPads.data.toList.length = 57 := by decide +kernel
theorem dX4_readEvenPads_0 : decode cX4_readEvenPads 0 = .ok (.aload_n 0, 1) := zo_42 (zkb zk_cX4_readEvenPads zn_cX4_readEvenPads rfl)
theorem dX4_readEvenPads_1 : decode cX4_readEvenPads 1 = .ok (.getfield 9, 3) := zo_180 (b1 := 0) (b2 := 9) (zkb3 zk_cX4_readEvenPads zn_cX4_readEvenPads rfl) rfl
theorem dX4_readEvenPads_4 : decode cX4_readEvenPads 4 = .ok (.bipush 7, 2) := zo_16 (b1 := 7) (zkb2 zk_cX4_readEvenPads zn_cX4_readEvenPads rfl) rfl
theorem dX4_readEvenPads_6 : decode cX4_readEvenPads 6 = .ok (.iaload, 1) := zo_46 (zkb zk_cX4_readEvenPads zn_cX4_readEvenPads rfl)
theorem dX4_readEvenPads_7 : decode cX4_readEvenPads 7 = .ok (.aload_n 0, 1) := zo_42 (zkb zk_cX4_readEvenPads zn_cX4_readEvenPads rfl)
theorem dX4_readEvenPads_8 : decode cX4_readEvenPads 8 = .ok (.getfield 9, 3) := zo_180 (b1 := 0) (b2 := 9) (zkb3 zk_cX4_readEvenPads zn_cX4_readEvenPads rfl) rfl
theorem dX4_readEvenPads_11 : decode cX4_readEvenPads 11 = .ok (.bipush 8, 2) := zo_16 (b1 := 8) (zkb2 zk_cX4_readEvenPads zn_cX4_readEvenPads rfl) rfl
theorem dX4_readEvenPads_13 : decode cX4_readEvenPads 13 = .ok (.iaload, 1) := zo_46 (zkb zk_cX4_readEvenPads zn_cX4_readEvenPads rfl)
theorem dX4_readEvenPads_14 : decode cX4_readEvenPads 14 = .ok (.bipush 6, 2) := zo_16 (b1 := 6) (zkb2 zk_cX4_readEvenPads zn_cX4_readEvenPads rfl) rfl
theorem dX4_readEvenPads_16 : decode cX4_readEvenPads 16 = .ok (.ishl, 1) := zo_120 (zkb zk_cX4_readEvenPads zn_cX4_readEvenPads rfl)
theorem dX4_readEvenPads_17 : decode cX4_readEvenPads 17 = .ok (.ior, 1) := zo_128 (zkb zk_cX4_readEvenPads zn_cX4_readEvenPads rfl)
theorem dX4_readEvenPads_18 : decode cX4_readEvenPads 18 = .ok (.iconst (-1), 1) := zo_2 (zkb zk_cX4_readEvenPads zn_cX4_readEvenPads rfl)
theorem dX4_readEvenPads_19 : decode cX4_readEvenPads 19 = .ok (.ixor, 1) := zo_130 (zkb zk_cX4_readEvenPads zn_cX4_readEvenPads rfl)
theorem dX4_readEvenPads_20 : decode cX4_readEvenPads 20 = .ok (.sipush 255, 3) := zo_17 (b1 := 0) (b2 := 255) (zkb3 zk_cX4_readEvenPads zn_cX4_readEvenPads rfl) rfl
theorem dX4_readEvenPads_23 : decode cX4_readEvenPads 23 = .ok (.iand, 1) := zo_126 (zkb zk_cX4_readEvenPads zn_cX4_readEvenPads rfl)
theorem dX4_readEvenPads_24 : decode cX4_readEvenPads 24 = .ok (.istore_n 1, 1) := zo_60 (zkb zk_cX4_readEvenPads zn_cX4_readEvenPads rfl)
theorem dX4_readEvenPads_25 : decode cX4_readEvenPads 25 = .ok (.aload_n 0, 1) := zo_42 (zkb zk_cX4_readEvenPads zn_cX4_readEvenPads rfl)
theorem dX4_readEvenPads_26 : decode cX4_readEvenPads 26 = .ok (.getfield 9, 3) := zo_180 (b1 := 0) (b2 := 9) (zkb3 zk_cX4_readEvenPads zn_cX4_readEvenPads rfl) rfl
theorem dX4_readEvenPads_29 : decode cX4_readEvenPads 29 = .ok (.iconst 0, 1) := zo_3 (zkb zk_cX4_readEvenPads zn_cX4_readEvenPads rfl)
theorem dX4_readEvenPads_30 : decode cX4_readEvenPads 30 = .ok (.iaload, 1) := zo_46 (zkb zk_cX4_readEvenPads zn_cX4_readEvenPads rfl)
theorem dX4_readEvenPads_31 : decode cX4_readEvenPads 31 = .ok (.iconst 1, 1) := zo_4 (zkb zk_cX4_readEvenPads zn_cX4_readEvenPads rfl)
theorem dX4_readEvenPads_32 : decode cX4_readEvenPads 32 = .ok (.iand, 1) := zo_126 (zkb zk_cX4_readEvenPads zn_cX4_readEvenPads rfl)
theorem dX4_readEvenPads_33 : decode cX4_readEvenPads 33 = .ok (.ifCond .ne 22, 3) := zo_154 (b1 := 0) (b2 := 22) (zkb3 zk_cX4_readEvenPads zn_cX4_readEvenPads rfl) rfl
theorem dX4_readEvenPads_36 : decode cX4_readEvenPads 36 = .ok (.iload_n 1, 1) := zo_27 (zkb zk_cX4_readEvenPads zn_cX4_readEvenPads rfl)
theorem dX4_readEvenPads_37 : decode cX4_readEvenPads 37 = .ok (.bipush (-33), 2) := zo_16 (b1 := 223) (zkb2 zk_cX4_readEvenPads zn_cX4_readEvenPads rfl) rfl
theorem dX4_readEvenPads_39 : decode cX4_readEvenPads 39 = .ok (.iand, 1) := zo_126 (zkb zk_cX4_readEvenPads zn_cX4_readEvenPads rfl)
theorem dX4_readEvenPads_40 : decode cX4_readEvenPads 40 = .ok (.aload_n 0, 1) := zo_42 (zkb zk_cX4_readEvenPads zn_cX4_readEvenPads rfl)
theorem dX4_readEvenPads_41 : decode cX4_readEvenPads 41 = .ok (.getfield 9, 3) := zo_180 (b1 := 0) (b2 := 9) (zkb3 zk_cX4_readEvenPads zn_cX4_readEvenPads rfl) rfl
theorem dX4_readEvenPads_44 : decode cX4_readEvenPads 44 = .ok (.iconst 0, 1) := zo_3 (zkb zk_cX4_readEvenPads zn_cX4_readEvenPads rfl)
theorem dX4_readEvenPads_45 : decode cX4_readEvenPads 45 = .ok (.iaload, 1) := zo_46 (zkb zk_cX4_readEvenPads zn_cX4_readEvenPads rfl)
theorem dX4_readEvenPads_46 : decode cX4_readEvenPads 46 = .ok (.bipush 16, 2) := zo_16 (b1 := 16) (zkb2 zk_cX4_readEvenPads zn_cX4_readEvenPads rfl) rfl
theorem dX4_readEvenPads_48 : decode cX4_readEvenPads 48 = .ok (.iand, 1) := zo_126 (zkb zk_cX4_readEvenPads zn_cX4_readEvenPads rfl)
theorem dX4_readEvenPads_49 : decode cX4_readEvenPads 49 = .ok (.iconst 1, 1) := zo_4 (zkb zk_cX4_readEvenPads zn_cX4_readEvenPads rfl)
theorem dX4_readEvenPads_50 : decode cX4_readEvenPads 50 = .ok (.ishl, 1) := zo_120 (zkb zk_cX4_readEvenPads zn_cX4_readEvenPads rfl)
theorem dX4_readEvenPads_51 : decode cX4_readEvenPads 51 = .ok (.ior, 1) := zo_128 (zkb zk_cX4_readEvenPads zn_cX4_readEvenPads rfl)
theorem dX4_readEvenPads_52 : decode cX4_readEvenPads 52 = .ok (.goto 4, 3) := zo_167 (b1 := 0) (b2 := 4) (zkb3 zk_cX4_readEvenPads zn_cX4_readEvenPads rfl) rfl
theorem dX4_readEvenPads_55 : decode cX4_readEvenPads 55 = .ok (.iload_n 1, 1) := zo_27 (zkb zk_cX4_readEvenPads zn_cX4_readEvenPads rfl)
theorem dX4_readEvenPads_56 : decode cX4_readEvenPads 56 = .ok (.ireturn, 1) := zo_172 (zkb zk_cX4_readEvenPads zn_cX4_readEvenPads rfl)
noncomputable def kn_cX9_markFifth : Nat := 0xb14f807e1f101b8040107ea000112e0f101000b42a0f101000b42a1d009a7e40102e0f101000b42a
theorem zk_cX9_markFifth : zkd cX9_markFifth.data.toList kn_cX9_markFifth = true := by decide +kernel
theorem zn_cX9_markFifth : cX9_markFifth.data.toList.length = 40 := by decide +kernel
theorem dX9_markFifth_0 : decode cX9_markFifth 0 = .ok (.aload_n 0, 1) := zo_42 (zkb zk_cX9_markFifth zn_cX9_markFifth rfl)
theorem dX9_markFifth_1 : decode cX9_markFifth 1 = .ok (.getfield 16, 3) := zo_180 (b1 := 0) (b2 := 16) (zkb3 zk_cX9_markFifth zn_cX9_markFifth rfl) rfl
theorem dX9_markFifth_4 : decode cX9_markFifth 4 = .ok (.bipush 15, 2) := zo_16 (b1 := 15) (zkb2 zk_cX9_markFifth zn_cX9_markFifth rfl) rfl
theorem dX9_markFifth_6 : decode cX9_markFifth 6 = .ok (.iaload, 1) := zo_46 (zkb zk_cX9_markFifth zn_cX9_markFifth rfl)
theorem dX9_markFifth_7 : decode cX9_markFifth 7 = .ok (.bipush 64, 2) := zo_16 (b1 := 64) (zkb2 zk_cX9_markFifth zn_cX9_markFifth rfl) rfl
theorem dX9_markFifth_9 : decode cX9_markFifth 9 = .ok (.iand, 1) := zo_126 (zkb zk_cX9_markFifth zn_cX9_markFifth rfl)
theorem dX9_markFifth_10 : decode cX9_markFifth 10 = .ok (.ifCond .ne 29, 3) := zo_154 (b1 := 0) (b2 := 29) (zkb3 zk_cX9_markFifth zn_cX9_markFifth rfl) rfl
theorem dX9_markFifth_13 : decode cX9_markFifth 13 = .ok (.aload_n 0, 1) := zo_42 (zkb zk_cX9_markFifth zn_cX9_markFifth rfl)
theorem dX9_markFifth_14 : decode cX9_markFifth 14 = .ok (.getfield 16, 3) := zo_180 (b1 := 0) (b2 := 16) (zkb3 zk_cX9_markFifth zn_cX9_markFifth rfl) rfl
theorem dX9_markFifth_17 : decode cX9_markFifth 17 = .ok (.bipush 15, 2) := zo_16 (b1 := 15) (zkb2 zk_cX9_markFifth zn_cX9_markFifth rfl) rfl
theorem dX9_markFifth_19 : decode cX9_markFifth 19 = .ok (.aload_n 0, 1) := zo_42 (zkb zk_cX9_markFifth zn_cX9_markFifth rfl)
theorem dX9_markFifth_20 : decode cX9_markFifth 20 = .ok (.getfield 16, 3) := zo_180 (b1 := 0) (b2 := 16) (zkb3 zk_cX9_markFifth zn_cX9_markFifth rfl) rfl
theorem dX9_markFifth_23 : decode cX9_markFifth 23 = .ok (.bipush 15, 2) := zo_16 (b1 := 15) (zkb2 zk_cX9_markFifth zn_cX9_markFifth rfl) rfl
theorem dX9_markFifth_25 : decode cX9_markFifth 25 = .ok (.iaload, 1) := zo_46 (zkb zk_cX9_markFifth zn_cX9_markFifth rfl)
theorem dX9_markFifth_26 : decode cX9_markFifth 26 = .ok (.sipush 160, 3) := zo_17 (b1 := 0) (b2 := 160) (zkb3 zk_cX9_markFifth zn_cX9_markFifth rfl) rfl
theorem dX9_markFifth_29 : decode cX9_markFifth 29 = .ok (.iand, 1) := zo_126 (zkb zk_cX9_markFifth zn_cX9_markFifth rfl)
theorem dX9_markFifth_30 : decode cX9_markFifth 30 = .ok (.bipush 64, 2) := zo_16 (b1 := 64) (zkb2 zk_cX9_markFifth zn_cX9_markFifth rfl) rfl
theorem dX9_markFifth_32 : decode cX9_markFifth 32 = .ok (.ior, 1) := zo_128 (zkb zk_cX9_markFifth zn_cX9_markFifth rfl)
theorem dX9_markFifth_33 : decode cX9_markFifth 33 = .ok (.iload_n 1, 1) := zo_27 (zkb zk_cX9_markFifth zn_cX9_markFifth rfl)
theorem dX9_markFifth_34 : decode cX9_markFifth 34 = .ok (.bipush 31, 2) := zo_16 (b1 := 31) (zkb2 zk_cX9_markFifth zn_cX9_markFifth rfl) rfl
theorem dX9_markFifth_36 : decode cX9_markFifth 36 = .ok (.iand, 1) := zo_126 (zkb zk_cX9_markFifth zn_cX9_markFifth rfl)
theorem dX9_markFifth_37 : decode cX9_markFifth 37 = .ok (.ior, 1) := zo_128 (zkb zk_cX9_markFifth zn_cX9_markFifth rfl)
theorem dX9_markFifth_38 : decode cX9_markFifth 38 = .ok (.iastore, 1) := zo_79 (zkb zk_cX9_markFifth zn_cX9_markFifth rfl)
theorem dX9_markFifth_39 : decode cX9_markFifth 39 = .ok (.return_, 1) := zo_177 (zkb zk_cX9_markFifth zn_cX9_markFifth rfl)
noncomputable def kn_cX9_hCount : Nat := 0xac1b0400a76055101b0a00a19400111b3c6c0768062e15101000b42a
theorem zk_cX9_hCount : zkd cX9_hCount.data.toList kn_cX9_hCount = true := by decide +kernel
theorem zn_cX9_hCount : cX9_hCount.data.toList.length = 28 := by decide +kernel
theorem dX9_hCount_0 : decode cX9_hCount 0 = .ok (.aload_n 0, 1) := zo_42 (zkb zk_cX9_hCount zn_cX9_hCount rfl)
theorem dX9_hCount_1 : decode cX9_hCount 1 = .ok (.getfield 16, 3) := zo_180 (b1 := 0) (b2 := 16) (zkb3 zk_cX9_hCount zn_cX9_hCount rfl) rfl
theorem dX9_hCount_4 : decode cX9_hCount 4 = .ok (.bipush 21, 2) := zo_16 (b1 := 21) (zkb2 zk_cX9_hCount zn_cX9_hCount rfl) rfl
theorem dX9_hCount_6 : decode cX9_hCount 6 = .ok (.iaload, 1) := zo_46 (zkb zk_cX9_hCount zn_cX9_hCount rfl)
theorem dX9_hCount_7 : decode cX9_hCount 7 = .ok (.iconst 3, 1) := zo_6 (zkb zk_cX9_hCount zn_cX9_hCount rfl)
theorem dX9_hCount_8 : decode cX9_hCount 8 = .ok (.imul, 1) := zo_104 (zkb zk_cX9_hCount zn_cX9_hCount rfl)
theorem dX9_hCount_9 : decode cX9_hCount 9 = .ok (.iconst 4, 1) := zo_7 (zkb zk_cX9_hCount zn_cX9_hCount rfl)
theorem dX9_hCount_10 : decode cX9_hCount 10 = .ok (.idiv, 1) := zo_108 (zkb zk_cX9_hCount zn_cX9_hCount rfl)
theorem dX9_hCount_11 : decode cX9_hCount 11 = .ok (.istore_n 1, 1) := zo_60 (zkb zk_cX9_hCount zn_cX9_hCount rfl)
theorem dX9_hCount_12 : decode cX9_hCount 12 = .ok (.iload_n 1, 1) := zo_27 (zkb zk_cX9_hCount zn_cX9_hCount rfl)
theorem dX9_hCount_13 : decode cX9_hCount 13 = .ok (.sipush 148, 3) := zo_17 (b1 := 0) (b2 := 148) (zkb3 zk_cX9_hCount zn_cX9_hCount rfl) rfl
theorem dX9_hCount_16 : decode cX9_hCount 16 = .ok (.if_icmp .lt 10, 3) := zo_161 (b1 := 0) (b2 := 10) (zkb3 zk_cX9_hCount zn_cX9_hCount rfl) rfl
theorem dX9_hCount_19 : decode cX9_hCount 19 = .ok (.iload_n 1, 1) := zo_27 (zkb zk_cX9_hCount zn_cX9_hCount rfl)
theorem dX9_hCount_20 : decode cX9_hCount 20 = .ok (.bipush 85, 2) := zo_16 (b1 := 85) (zkb2 zk_cX9_hCount zn_cX9_hCount rfl) rfl
theorem dX9_hCount_22 : decode cX9_hCount 22 = .ok (.iadd, 1) := zo_96 (zkb zk_cX9_hCount zn_cX9_hCount rfl)
theorem dX9_hCount_23 : decode cX9_hCount 23 = .ok (.goto 4, 3) := zo_167 (b1 := 0) (b2 := 4) (zkb3 zk_cX9_hCount zn_cX9_hCount rfl) rfl
theorem dX9_hCount_26 : decode cX9_hCount 26 = .ok (.iload_n 1, 1) := zo_27 (zkb zk_cX9_hCount zn_cX9_hCount rfl)
theorem dX9_hCount_27 : decode cX9_hCount 27 = .ok (.ireturn, 1) := zo_172 (zkb zk_cX9_hCount zn_cX9_hCount rfl)
noncomputable def kn_cX10_value : Nat := 0xac2e1b0900b42a0900a77e1f122e42100900b42a1000a042101bac030500a11001111b0a009b1b
theorem zk_cX10_value : zkd cX10_value.data.toList kn_cX10_value = true := by decide +kernel
theorem zn_cX10_value : cX10_value.data.toList.length = 39 := by decide +kernel
theorem dX10_value_0 : decode cX10_value 0 = .ok (.iload_n 1, 1) := zo_27 (zkb zk_cX10_value zn_cX10_value rfl)
theorem dX10_value_1 : decode cX10_value 1 = .ok (.ifCond .lt 10, 3) := zo_155 (b1 := 0) (b2 := 10) (zkb3 zk_cX10_value zn_cX10_value rfl) rfl
theorem dX10_value_4 : decode cX10_value 4 = .ok (.iload_n 1, 1) := zo_27 (zkb zk_cX10_value zn_cX10_value rfl)
theorem dX10_value_5 : decode cX10_value 5 = .ok (.sipush 272, 3) := zo_17 (b1 := 1) (b2 := 16) (zkb3 zk_cX10_value zn_cX10_value rfl) rfl
theorem dX10_value_8 : decode cX10_value 8 = .ok (.if_icmp .lt 5, 3) := zo_161 (b1 := 0) (b2 := 5) (zkb3 zk_cX10_value zn_cX10_value rfl) rfl
theorem dX10_value_11 : decode cX10_value 11 = .ok (.iconst 0, 1) := zo_3 (zkb zk_cX10_value zn_cX10_value rfl)
theorem dX10_value_12 : decode cX10_value 12 = .ok (.ireturn, 1) := zo_172 (zkb zk_cX10_value zn_cX10_value rfl)
theorem dX10_value_13 : decode cX10_value 13 = .ok (.iload_n 1, 1) := zo_27 (zkb zk_cX10_value zn_cX10_value rfl)
theorem dX10_value_14 : decode cX10_value 14 = .ok (.bipush 66, 2) := zo_16 (b1 := 66) (zkb2 zk_cX10_value zn_cX10_value rfl) rfl
theorem dX10_value_16 : decode cX10_value 16 = .ok (.if_icmp .ne 16, 3) := zo_160 (b1 := 0) (b2 := 16) (zkb3 zk_cX10_value zn_cX10_value rfl) rfl
theorem dX10_value_19 : decode cX10_value 19 = .ok (.aload_n 0, 1) := zo_42 (zkb zk_cX10_value zn_cX10_value rfl)
theorem dX10_value_20 : decode cX10_value 20 = .ok (.getfield 9, 3) := zo_180 (b1 := 0) (b2 := 9) (zkb3 zk_cX10_value zn_cX10_value rfl) rfl
theorem dX10_value_23 : decode cX10_value 23 = .ok (.bipush 66, 2) := zo_16 (b1 := 66) (zkb2 zk_cX10_value zn_cX10_value rfl) rfl
theorem dX10_value_25 : decode cX10_value 25 = .ok (.iaload, 1) := zo_46 (zkb zk_cX10_value zn_cX10_value rfl)
theorem dX10_value_26 : decode cX10_value 26 = .ok (.ldc 31, 2) := zo_18 (b1 := 31) (zkb2 zk_cX10_value zn_cX10_value rfl)
theorem dX10_value_28 : decode cX10_value 28 = .ok (.iand, 1) := zo_126 (zkb zk_cX10_value zn_cX10_value rfl)
theorem dX10_value_29 : decode cX10_value 29 = .ok (.goto 9, 3) := zo_167 (b1 := 0) (b2 := 9) (zkb3 zk_cX10_value zn_cX10_value rfl) rfl
theorem dX10_value_32 : decode cX10_value 32 = .ok (.aload_n 0, 1) := zo_42 (zkb zk_cX10_value zn_cX10_value rfl)
theorem dX10_value_33 : decode cX10_value 33 = .ok (.getfield 9, 3) := zo_180 (b1 := 0) (b2 := 9) (zkb3 zk_cX10_value zn_cX10_value rfl) rfl
theorem dX10_value_36 : decode cX10_value 36 = .ok (.iload_n 1, 1) := zo_27 (zkb zk_cX10_value zn_cX10_value rfl)
theorem dX10_value_37 : decode cX10_value 37 = .ok (.iaload, 1) := zo_46 (zkb zk_cX10_value zn_cX10_value rfl)
theorem dX10_value_38 : decode cX10_value 38 = .ok (.ireturn, 1) := zo_172 (zkb zk_cX10_value zn_cX10_value rfl)
noncomputable def kn_cJ7_rangeCheck_23922 : Nat := 0xb1bf4600b71c594400bb0c00a41a1cbf4600b71b594400bb0c009c1bbf4100b73d00b63200b63b123600b61c3200b639123600b61b3200b630122f00b7592d00bb592b00bb2c00a41c1b
theorem zk_cJ7_rangeCheck_23922 : zkd cJ7_rangeCheck_23922.data.toList kn_cJ7_rangeCheck_23922 = true := by decide +kernel
theorem zn_cJ7_rangeCheck_23922 : cJ7_rangeCheck_23922.data.toList.length = 74 := by decide +kernel
theorem dJ7_rangeCheck_23922_0 : decode cJ7_rangeCheck_23922 0 = .ok (.iload_n 1, 1) := zo_27 (zkb zk_cJ7_rangeCheck_23922 zn_cJ7_rangeCheck_23922 rfl)
theorem dJ7_rangeCheck_23922_1 : decode cJ7_rangeCheck_23922 1 = .ok (.iload_n 2, 1) := zo_28 (zkb zk_cJ7_rangeCheck_23922 zn_cJ7_rangeCheck_23922 rfl)
theorem dJ7_rangeCheck_23922_2 : decode cJ7_rangeCheck_23922 2 = .ok (.if_icmp .le 44, 3) := zo_164 (b1 := 0) (b2 := 44) (zkb3 zk_cJ7_rangeCheck_23922 zn_cJ7_rangeCheck_23922 rfl) rfl
theorem dJ7_rangeCheck_23922_5 : decode cJ7_rangeCheck_23922 5 = .ok (.new 43, 3) := zo_187 (b1 := 0) (b2 := 43) (zkb3 zk_cJ7_rangeCheck_23922 zn_cJ7_rangeCheck_23922 rfl) rfl
theorem dJ7_rangeCheck_23922_8 : decode cJ7_rangeCheck_23922 8 = .ok (.dup, 1) := zo_89 (zkb zk_cJ7_rangeCheck_23922 zn_cJ7_rangeCheck_23922 rfl)
theorem dJ7_rangeCheck_23922_9 : decode cJ7_rangeCheck_23922 9 = .ok (.new 45, 3) := zo_187 (b1 := 0) (b2 := 45) (zkb3 zk_cJ7_rangeCheck_23922 zn_cJ7_rangeCheck_23922 rfl) rfl
theorem dJ7_rangeCheck_23922_12 : decode cJ7_rangeCheck_23922 12 = .ok (.dup, 1) := zo_89 (zkb zk_cJ7_rangeCheck_23922 zn_cJ7_rangeCheck_23922 rfl)
theorem dJ7_rangeCheck_23922_13 : decode cJ7_rangeCheck_23922 13 = .ok (.invokespecial 47, 3) := zo_183 (b1 := 0) (b2 := 47) (zkb3 zk_cJ7_rangeCheck_23922 zn_cJ7_rangeCheck_23922 rfl) rfl
theorem dJ7_rangeCheck_23922_16 : decode cJ7_rangeCheck_23922 16 = .ok (.ldc 48, 2) := zo_18 (b1 := 48) (zkb2 zk_cJ7_rangeCheck_23922 zn_cJ7_rangeCheck_23922 rfl)
theorem dJ7_rangeCheck_23922_18 : decode cJ7_rangeCheck_23922 18 = .ok (.invokevirtual 50, 3) := zo_182 (b1 := 0) (b2 := 50) (zkb3 zk_cJ7_rangeCheck_23922 zn_cJ7_rangeCheck_23922 rfl) rfl
theorem dJ7_rangeCheck_23922_21 : decode cJ7_rangeCheck_23922 21 = .ok (.iload_n 1, 1) := zo_27 (zkb zk_cJ7_rangeCheck_23922 zn_cJ7_rangeCheck_23922 rfl)
theorem dJ7_rangeCheck_23922_22 : decode cJ7_rangeCheck_23922 22 = .ok (.invokevirtual 54, 3) := zo_182 (b1 := 0) (b2 := 54) (zkb3 zk_cJ7_rangeCheck_23922 zn_cJ7_rangeCheck_23922 rfl) rfl
theorem dJ7_rangeCheck_23922_25 : decode cJ7_rangeCheck_23922 25 = .ok (.ldc 57, 2) := zo_18 (b1 := 57) (zkb2 zk_cJ7_rangeCheck_23922 zn_cJ7_rangeCheck_23922 rfl)
theorem dJ7_rangeCheck_23922_27 : decode cJ7_rangeCheck_23922 27 = .ok (.invokevirtual 50, 3) := zo_182 (b1 := 0) (b2 := 50) (zkb3 zk_cJ7_rangeCheck_23922 zn_cJ7_rangeCheck_23922 rfl) rfl
theorem dJ7_rangeCheck_23922_30 : decode cJ7_rangeCheck_23922 30 = .ok (.iload_n 2, 1) := zo_28 (zkb zk_cJ7_rangeCheck_23922 zn_cJ7_rangeCheck_23922 rfl)
theorem dJ7_rangeCheck_23922_31 : decode cJ7_rangeCheck_23922 31 = .ok (.invokevirtual 54, 3) := zo_182 (b1 := 0) (b2 := 54) (zkb3 zk_cJ7_rangeCheck_23922 zn_cJ7_rangeCheck_23922 rfl) rfl
theorem dJ7_rangeCheck_23922_34 : decode cJ7_rangeCheck_23922 34 = .ok (.ldc 59, 2) := zo_18 (b1 := 59) (zkb2 zk_cJ7_rangeCheck_23922 zn_cJ7_rangeCheck_23922 rfl)
theorem dJ7_rangeCheck_23922_36 : decode cJ7_rangeCheck_23922 36 = .ok (.invokevirtual 50, 3) := zo_182 (b1 := 0) (b2 := 50) (zkb3 zk_cJ7_rangeCheck_23922 zn_cJ7_rangeCheck_23922 rfl) rfl
theorem dJ7_rangeCheck_23922_39 : decode cJ7_rangeCheck_23922 39 = .ok (.invokevirtual 61, 3) := zo_182 (b1 := 0) (b2 := 61) (zkb3 zk_cJ7_rangeCheck_23922 zn_cJ7_rangeCheck_23922 rfl) rfl
theorem dJ7_rangeCheck_23922_42 : decode cJ7_rangeCheck_23922 42 = .ok (.invokespecial 65, 3) := zo_183 (b1 := 0) (b2 := 65) (zkb3 zk_cJ7_rangeCheck_23922 zn_cJ7_rangeCheck_23922 rfl) rfl
theorem dJ7_rangeCheck_23922_45 : decode cJ7_rangeCheck_23922 45 = .ok (.athrow, 1) := zo_191 (zkb zk_cJ7_rangeCheck_23922 zn_cJ7_rangeCheck_23922 rfl)
theorem dJ7_rangeCheck_23922_46 : decode cJ7_rangeCheck_23922 46 = .ok (.iload_n 1, 1) := zo_27 (zkb zk_cJ7_rangeCheck_23922 zn_cJ7_rangeCheck_23922 rfl)
theorem dJ7_rangeCheck_23922_47 : decode cJ7_rangeCheck_23922 47 = .ok (.ifCond .ge 12, 3) := zo_156 (b1 := 0) (b2 := 12) (zkb3 zk_cJ7_rangeCheck_23922 zn_cJ7_rangeCheck_23922 rfl) rfl
theorem dJ7_rangeCheck_23922_50 : decode cJ7_rangeCheck_23922 50 = .ok (.new 68, 3) := zo_187 (b1 := 0) (b2 := 68) (zkb3 zk_cJ7_rangeCheck_23922 zn_cJ7_rangeCheck_23922 rfl) rfl
theorem dJ7_rangeCheck_23922_53 : decode cJ7_rangeCheck_23922 53 = .ok (.dup, 1) := zo_89 (zkb zk_cJ7_rangeCheck_23922 zn_cJ7_rangeCheck_23922 rfl)
theorem dJ7_rangeCheck_23922_54 : decode cJ7_rangeCheck_23922 54 = .ok (.iload_n 1, 1) := zo_27 (zkb zk_cJ7_rangeCheck_23922 zn_cJ7_rangeCheck_23922 rfl)
theorem dJ7_rangeCheck_23922_55 : decode cJ7_rangeCheck_23922 55 = .ok (.invokespecial 70, 3) := zo_183 (b1 := 0) (b2 := 70) (zkb3 zk_cJ7_rangeCheck_23922 zn_cJ7_rangeCheck_23922 rfl) rfl
theorem dJ7_rangeCheck_23922_58 : decode cJ7_rangeCheck_23922 58 = .ok (.athrow, 1) := zo_191 (zkb zk_cJ7_rangeCheck_23922 zn_cJ7_rangeCheck_23922 rfl)
theorem dJ7_rangeCheck_23922_59 : decode cJ7_rangeCheck_23922 59 = .ok (.iload_n 2, 1) := zo_28 (zkb zk_cJ7_rangeCheck_23922 zn_cJ7_rangeCheck_23922 rfl)
theorem dJ7_rangeCheck_23922_60 : decode cJ7_rangeCheck_23922 60 = .ok (.iload_n 0, 1) := zo_26 (zkb zk_cJ7_rangeCheck_23922 zn_cJ7_rangeCheck_23922 rfl)
theorem dJ7_rangeCheck_23922_61 : decode cJ7_rangeCheck_23922 61 = .ok (.if_icmp .le 12, 3) := zo_164 (b1 := 0) (b2 := 12) (zkb3 zk_cJ7_rangeCheck_23922 zn_cJ7_rangeCheck_23922 rfl) rfl
theorem dJ7_rangeCheck_23922_64 : decode cJ7_rangeCheck_23922 64 = .ok (.new 68, 3) := zo_187 (b1 := 0) (b2 := 68) (zkb3 zk_cJ7_rangeCheck_23922 zn_cJ7_rangeCheck_23922 rfl) rfl
theorem dJ7_rangeCheck_23922_67 : decode cJ7_rangeCheck_23922 67 = .ok (.dup, 1) := zo_89 (zkb zk_cJ7_rangeCheck_23922 zn_cJ7_rangeCheck_23922 rfl)
theorem dJ7_rangeCheck_23922_68 : decode cJ7_rangeCheck_23922 68 = .ok (.iload_n 2, 1) := zo_28 (zkb zk_cJ7_rangeCheck_23922 zn_cJ7_rangeCheck_23922 rfl)
theorem dJ7_rangeCheck_23922_69 : decode cJ7_rangeCheck_23922 69 = .ok (.invokespecial 70, 3) := zo_183 (b1 := 0) (b2 := 70) (zkb3 zk_cJ7_rangeCheck_23922 zn_cJ7_rangeCheck_23922 rfl) rfl
theorem dJ7_rangeCheck_23922_72 : decode cJ7_rangeCheck_23922 72 = .ok (.athrow, 1) := zo_191 (zkb zk_cJ7_rangeCheck_23922 zn_cJ7_rangeCheck_23922 rfl)
theorem dJ7_rangeCheck_23922_73 : decode cJ7_rangeCheck_23922 73 = .ok (.return_, 1) := zo_177 (zkb zk_cJ7_rangeCheck_23922 zn_cJ7_rangeCheck_23922 rfl)
noncomputable def kn_cJ7_fill_fda19 : Nat := 0xb1f2ffa70104844f1d04152a0e00a21c041504361b0d00b81c1bbe2a
theorem zk_cJ7_fill_fda19 : zkd cJ7_fill_fda19.data.toList kn_cJ7_fill_fda19 = true := by decide +kernel
theorem zn_cJ7_fill_fda19 : cJ7_fill_fda19.data.toList.length = 28 := by decide +kernel
theorem dJ7_fill_fda19_0 : decode cJ7_fill_fda19 0 = .ok (.aload_n 0, 1) := zo_42 (zkb zk_cJ7_fill_fda19 zn_cJ7_fill_fda19 rfl)
theorem dJ7_fill_fda19_1 : decode cJ7_fill_fda19 1 = .ok (.arraylength, 1) := zo_190 (zkb zk_cJ7_fill_fda19 zn_cJ7_fill_fda19 rfl)
theorem dJ7_fill_fda19_2 : decode cJ7_fill_fda19 2 = .ok (.iload_n 1, 1) := zo_27 (zkb zk_cJ7_fill_fda19 zn_cJ7_fill_fda19 rfl)
theorem dJ7_fill_fda19_3 : decode cJ7_fill_fda19 3 = .ok (.iload_n 2, 1) := zo_28 (zkb zk_cJ7_fill_fda19 zn_cJ7_fill_fda19 rfl)
theorem dJ7_fill_fda19_4 : decode cJ7_fill_fda19 4 = .ok (.invokestatic 13, 3) := zo_184 (b1 := 0) (b2 := 13) (zkb3 zk_cJ7_fill_fda19 zn_cJ7_fill_fda19 rfl) rfl
theorem dJ7_fill_fda19_7 : decode cJ7_fill_fda19 7 = .ok (.iload_n 1, 1) := zo_27 (zkb zk_cJ7_fill_fda19 zn_cJ7_fill_fda19 rfl)
theorem dJ7_fill_fda19_8 : decode cJ7_fill_fda19 8 = .ok (.istore 4, 2) := zo_54 (b1 := 4) (zkb2 zk_cJ7_fill_fda19 zn_cJ7_fill_fda19 rfl)
theorem dJ7_fill_fda19_10 : decode cJ7_fill_fda19 10 = .ok (.iload 4, 2) := zo_21 (b1 := 4) (zkb2 zk_cJ7_fill_fda19 zn_cJ7_fill_fda19 rfl)
theorem dJ7_fill_fda19_12 : decode cJ7_fill_fda19 12 = .ok (.iload_n 2, 1) := zo_28 (zkb zk_cJ7_fill_fda19 zn_cJ7_fill_fda19 rfl)
theorem dJ7_fill_fda19_13 : decode cJ7_fill_fda19 13 = .ok (.if_icmp .ge 14, 3) := zo_162 (b1 := 0) (b2 := 14) (zkb3 zk_cJ7_fill_fda19 zn_cJ7_fill_fda19 rfl) rfl
theorem dJ7_fill_fda19_16 : decode cJ7_fill_fda19 16 = .ok (.aload_n 0, 1) := zo_42 (zkb zk_cJ7_fill_fda19 zn_cJ7_fill_fda19 rfl)
theorem dJ7_fill_fda19_17 : decode cJ7_fill_fda19 17 = .ok (.iload 4, 2) := zo_21 (b1 := 4) (zkb2 zk_cJ7_fill_fda19 zn_cJ7_fill_fda19 rfl)
theorem dJ7_fill_fda19_19 : decode cJ7_fill_fda19 19 = .ok (.iload_n 3, 1) := zo_29 (zkb zk_cJ7_fill_fda19 zn_cJ7_fill_fda19 rfl)
theorem dJ7_fill_fda19_20 : decode cJ7_fill_fda19 20 = .ok (.iastore, 1) := zo_79 (zkb zk_cJ7_fill_fda19 zn_cJ7_fill_fda19 rfl)
theorem dJ7_fill_fda19_21 : decode cJ7_fill_fda19 21 = .ok (.iinc 4 1, 3) := zo_132 (b1 := 4) (b2 := 1) (zkb3 zk_cJ7_fill_fda19 zn_cJ7_fill_fda19 rfl) rfl
theorem dJ7_fill_fda19_24 : decode cJ7_fill_fda19 24 = .ok (.goto (-14), 3) := zo_167 (b1 := 255) (b2 := 242) (zkb3 zk_cJ7_fill_fda19 zn_cJ7_fill_fda19 rfl) rfl
theorem dJ7_fill_fda19_27 : decode cJ7_fill_fda19 27 = .ok (.return_, 1) := zo_177 (zkb zk_cJ7_fill_fda19 zn_cJ7_fill_fda19 rfl)
noncomputable def rmX3_drawSprite : Room := { frames := 2, cells := 0, slots := 0, locals := 42 }
noncomputable def wzX3_drawSprite : List Cond := .code yX3_drawSprite cX3_drawSprite 10 none :: wsL_law
theorem hinX3_drawSprite_X30 : ∀ w ∈ wsX30, w ∈ wzX3_drawSprite := fun w h => List.mem_cons_of_mem _ (inlX3 w h)
noncomputable def fX3_drawSprite_190 (k111 : zSt → Int32 → Int32 → Int32 → Option (zSt)) (σ : zSt) (x3 : Int32) (x6 : Int32) (x7 : Int32) : Option (zSt) :=
  zbv (x7 + 1) (fun v1 =>
  k111 σ x3 x6 v1)
noncomputable def fX3_drawSprite_111_body (k111 : zSt → Int32 → Int32 → Int32 → Option (zSt)) (σ : zSt) (x3 : Int32) (x6 : Int32) (x7 : Int32) : Option (zSt) :=
  if (8 <<< (x6 &&& 31)) ≤ x7 then some σ else
  zbv (x3 + x7) (fun v2 =>
  zbi (fX3_numberIn σ (zgi σ 3 7) (x7 >>> (x6 &&& 31))) (fun σ3 v4 =>
  if v4 ≤ 0 then fX3_drawSprite_190 k111 σ3 x3 x6 x7 else
  if v2 < 0 then fX3_drawSprite_190 k111 σ3 x3 x6 x7 else
  if 256 ≤ v2 then fX3_drawSprite_190 k111 σ3 x3 x6 x7 else
  zck (zin v2 256) (
  if (zgi σ3 28 v2.toNatClampNeg) ≤ 0 then zck (zin v2 256) (zbv (zsi σ3 28 (v2.toNatClampNeg) v4) (fun σ5 =>
  fX3_drawSprite_190 k111 σ5 x3 x6 x7)) else
  zbu (fX9_mark σ3 32) (fun σ6 =>
  fX3_drawSprite_190 k111 σ6 x3 x6 x7))))
noncomputable def fX3_drawSprite_111  : Nat → zSt → Int32 → Int32 → Int32 → Option (zSt)
  | 0, _, _, _, _ => none
  | n + 1, σ, x3, x6, x7 => fX3_drawSprite_111_body (fX3_drawSprite_111  n) σ x3 x6 x7
noncomputable def fX3_drawSprite_100  (σ : zSt) (x2 : Int32) (x3 : Int32) (x6 : Int32) (s0 : Int32) (s1 : Int32) : Option (zSt) :=
  zbu (fX3_takePlanes σ ((s1 * s0) + (4 * x2))) (fun σ7 =>
  fX3_drawSprite_111 zfuel σ7 x3 x6 0)
noncomputable def fX3_drawSprite_61  (σ : zSt) (x2 : Int32) (x3 : Int32) (s0 : Int32) (s1 : Int32) : Option (zSt) :=
  zbv (s1 + s0) (fun v8 =>
  zbi (fX9_held σ 1) (fun σ9 v10 =>
  zbv (v10 &&& 1) (fun v11 =>
  if (v10 &&& 2) = 0 then fX3_drawSprite_100 σ9 x2 x3 v11 v8 32 else
  fX3_drawSprite_100 σ9 x2 x3 v11 (v8 &&& (-2)) 32)))
noncomputable def fX3_drawSprite_28  (σ : zSt) (x1 : Int32) (x2 : Int32) (s0 : Int32) (s1 : Int32) : Option (zSt) :=
  zbv (s1 - s0) (fun v12 =>
  zbi (fX9_vramByte σ (x1 + 1)) (fun σ13 v14 =>
  zbi (fX9_held σ13 6) (fun σ15 v16 =>
  if (v16 &&& 4) = 0 then fX3_drawSprite_61 σ15 x2 v12 0 v14 else
  fX3_drawSprite_61 σ15 x2 v12 256 v14)))
noncomputable def fX3_drawSprite  (σ : zSt) (x1 : Int32) (x2 : Int32) : Option (zSt) :=
  zbi (fX9_vramByte σ x1) (fun σ17 v18 =>
  zbi (fX9_held σ17 0) (fun σ19 v20 =>
  if (v20 &&& 8) = 0 then fX3_drawSprite_28 σ19 x1 x2 0 v18 else
  fX3_drawSprite_28 σ19 x1 x2 8 v18))
set_option maxRecDepth 20000 in
set_option maxHeartbeats 4000000 in
theorem bX3_drawSprite_190 {st : Nat → Nat} {p : Program} {l : Launch} {e : Env} {s : State} {m : MethodId} {args : Array Value} {below : List Frame} {meth : Method} {c : Code} {D : va_G} {A : Nat → Prop} {ad : Nat → Nat} {cy : Nat → ClassId} (hC : zC p m c cX3_drawSprite 10 s args wzX3_drawSprite RX3 meth none) {k111 : zSt → Int32 → Int32 → Int32 → Option (zSt)} {res : zSt} (hk111 : ∀ (H : Heap) (locs : List Loc) (σ : zSt) (ls : Array Slot) (x3 : Int32) (x6 : Int32) (x7 : Int32), zI st D (tC cy) (wC ad cy σ) A s H locs → lv_has ls 10 [(0, .ref (ad 3)), (3, .int x3), (6, .int x6), (7, .int x7)] → k111 σ x3 x6 x7 = some res → W p l e rmX3_drawSprite s m args below meth c H locs 0 0 (zQu below args s D (tC cy) (wC ad cy) A res) (F0 m 111 ls [])) {H : Heap} {locs : List Loc} {σ : zSt} {ls : Array Slot} {x3 : Int32} {x6 : Int32} {x7 : Int32} (hI : zI st D (tC cy) (wC ad cy σ) A s H locs) (hl : lv_has ls 10 [(0, .ref (ad 3)), (3, .int x3), (6, .int x6), (7, .int x7)]) (hf : fX3_drawSprite_190 k111 σ x3 x6 x7 = some res) : W p l e rmX3_drawSprite s m args below meth c H locs 0 0 (zQu below args s D (tC cy) (wC ad cy) A res) (F0 m 190 ls []) := by
  have hx := hC.1
  have hb := hC.2.1
  unfold fX3_drawSprite_190 at hf
  obtain ⟨v1, ev1⟩ : ∃ z : Int32, z = x7 + 1 := ⟨_, rfl⟩
  replace hf := zbv_use ev1 hf
  refine lv_iinc (v := v1) (lv' := [(7, .int v1), (0, .ref (ad 3)), (3, .int x3), (6, .int x6)]) hx hb dX3_drawSprite_190 hl (k := 3) rfl (by rw [ev1]; rfl) (by decide) rfl (fun ls hl => ?_)
  refine lv_goto (tgt := 111) hx hb dX3_drawSprite_193 (by decide) ?_
  exact hk111 _ _ _ _ _ _ _ hI (lv_sub hl [1, 2, 3, 0] rfl) hf
set_option maxRecDepth 20000 in
set_option maxHeartbeats 4000000 in
theorem bX3_drawSprite_111_body {st : Nat → Nat} {p : Program} {l : Launch} {e : Env} {s : State} {m : MethodId} {args : Array Value} {below : List Frame} {meth : Method} {c : Code} {D : va_G} {A : Nat → Prop} {ad : Nat → Nat} {cy : Nat → ClassId} (hC : zC p m c cX3_drawSprite 10 s args wzX3_drawSprite RX3 meth none) {k111 : zSt → Int32 → Int32 → Int32 → Option (zSt)} {res : zSt} (hk111 : ∀ (H : Heap) (locs : List Loc) (σ : zSt) (ls : Array Slot) (x3 : Int32) (x6 : Int32) (x7 : Int32), zI st D (tC cy) (wC ad cy σ) A s H locs → lv_has ls 10 [(0, .ref (ad 3)), (3, .int x3), (6, .int x6), (7, .int x7)] → k111 σ x3 x6 x7 = some res → W p l e rmX3_drawSprite s m args below meth c H locs 0 0 (zQu below args s D (tC cy) (wC ad cy) A res) (F0 m 111 ls [])) {H : Heap} {locs : List Loc} {σ : zSt} {ls : Array Slot} {x3 : Int32} {x6 : Int32} {x7 : Int32} (hI : zI st D (tC cy) (wC ad cy σ) A s H locs) (hl : lv_has ls 10 [(0, .ref (ad 3)), (3, .int x3), (6, .int x6), (7, .int x7)]) (hf : fX3_drawSprite_111_body k111 σ x3 x6 x7 = some res) : W p l e rmX3_drawSprite s m args below meth c H locs 0 0 (zQu below args s D (tC cy) (wC ad cy) A res) (F0 m 111 ls []) := by
  have hx := hC.1
  have hb := hC.2.1
  unfold fX3_drawSprite_111_body at hf
  refine lv_iload hx hb dX3_drawSprite_111 (lv_at hl 3 rfl) ?_
  refine lv_bipush (v := 8) hx hb dX3_drawSprite_113 (by decide) ?_
  refine lv_iload hx hb dX3_drawSprite_115 (lv_at hl 2 rfl) ?_
  refine lv_ishl hx hb dX3_drawSprite_117 ?_
  refine lv_icmp_ge (tgt := 196) hx hb dX3_drawSprite_118 (by decide) (fun q => ?_) (fun q => ?_)
  · replace hf := zif_t q hf
    exact z_return hC hI hf dX3_drawSprite_196
  replace hf := zif_f q hf
  refine lv_iload_n hx hb dX3_drawSprite_121 rfl (lv_at hl 1 rfl) ?_
  refine lv_iload hx hb dX3_drawSprite_122 (lv_at hl 3 rfl) ?_
  refine lv_iadd hx hb dX3_drawSprite_124 ?_
  refine lv_topi (fun v2 ev2 => ?_)
  replace hf := zbv_use ev2 hf
  refine lv_istore (lv' := [(8, .int v2), (0, .ref (ad 3)), (3, .int x3), (6, .int x6), (7, .int x7)]) hx hb dX3_drawSprite_125 hl (by decide) rfl (fun ls hl => ?_)
  refine lv_aload_n hx hb dX3_drawSprite_127 rfl (lv_at hl 1 rfl) ?_
  refine z_get hC hI hinX3_drawSprite_X30 3 (wC_e3 ad cy σ) rfl 7 (by decide) (List.mem_cons_of_mem _ zw36_8) rfl dX3_drawSprite_128 ?_
  refine lv_iload hx hb dX3_drawSprite_131 (lv_at hl 4 rfl) ?_
  refine lv_iload hx hb dX3_drawSprite_133 (lv_at hl 3 rfl) ?_
  refine lv_ishr hx hb dX3_drawSprite_135 ?_
  obtain ⟨σ3, v4, g3, hf⟩ := zbi_use hf
  refine z_callSi (As := [.int (zgi σ 3 7), .int (x7 >>> (x6 &&& 31))]) (rest := []) hC hI (cX3_numberIn_met st l D ad cy σ (zgi σ 3 7) (x7 >>> (x6 &&& 31)) _ g3) (zgS zw36_22 zw36_23 zw2_5 zw37_0) rfl ⟨rfl, rfl⟩ 2 hdX3_numberIn ⟨Nat.le_of_ble_eq_true rfl, Nat.le_of_ble_eq_true rfl⟩ rfl hl rfl (Nat.le_of_ble_eq_true rfl) dX3_drawSprite_136 ⟨Nat.zero_le _, Nat.zero_le _⟩ (fun H locs hI => ?_)
  refine lv_istore (lv' := [(9, .int v4), (8, .int v2), (0, .ref (ad 3)), (3, .int x3), (6, .int x6), (7, .int x7)]) hx hb dX3_drawSprite_139 hl (by decide) rfl (fun ls hl => ?_)
  refine lv_iload hx hb dX3_drawSprite_141 (lv_at hl 0 rfl) ?_
  refine lv_if_le (tgt := 190) hx hb dX3_drawSprite_143 (by decide) (fun q => ?_) (fun q => ?_)
  · replace hf := zif_t q hf
    exact bX3_drawSprite_190 hC hk111 hI (lv_sub hl [2, 3, 4, 5] rfl) hf
  replace hf := zif_f q hf
  refine lv_iload hx hb dX3_drawSprite_146 (lv_at hl 1 rfl) ?_
  refine lv_if_lt (tgt := 190) hx hb dX3_drawSprite_148 (by decide) (fun q => ?_) (fun q => ?_)
  · replace hf := zif_t q hf
    exact bX3_drawSprite_190 hC hk111 hI (lv_sub hl [2, 3, 4, 5] rfl) hf
  replace hf := zif_f q hf
  refine lv_iload hx hb dX3_drawSprite_151 (lv_at hl 1 rfl) ?_
  refine lv_sipush (v := 256) hx hb dX3_drawSprite_153 (by decide) ?_
  refine lv_icmp_ge (tgt := 190) hx hb dX3_drawSprite_156 (by decide) (fun q => ?_) (fun q => ?_)
  · replace hf := zif_t q hf
    exact bX3_drawSprite_190 hC hk111 hI (lv_sub hl [2, 3, 4, 5] rfl) hf
  replace hf := zif_f q hf
  refine lv_aload_n hx hb dX3_drawSprite_159 rfl (lv_at hl 2 rfl) ?_
  refine z_get hC hI hinX3_drawSprite_X30 3 (wC_e3 ad cy σ3) rfl 5 (by decide) (List.mem_cons_of_mem _ zw4_20) rfl dX3_drawSprite_160 ?_
  refine lv_iload hx hb dX3_drawSprite_163 (lv_at hl 1 rfl) ?_
  obtain ⟨q, hf⟩ := zck_use hf
  refine z_iald hC hI 28 15 (wC_e28 ad cy σ3) (tC_t28 cy) q dX3_drawSprite_165 ?_
  refine lv_if_le (tgt := 181) hx hb dX3_drawSprite_166 (by decide) (fun q => ?_) (fun q => ?_)
  · replace hf := zif_t q hf
    refine lv_aload_n hx hb dX3_drawSprite_181 rfl (lv_at hl 2 rfl) ?_
    refine z_get hC hI hinX3_drawSprite_X30 3 (wC_e3 ad cy σ3) rfl 5 (by decide) (List.mem_cons_of_mem _ zw4_20) rfl dX3_drawSprite_182 ?_
    refine lv_iload hx hb dX3_drawSprite_185 (lv_at hl 1 rfl) ?_
    refine lv_iload hx hb dX3_drawSprite_187 (lv_at hl 0 rfl) ?_
    obtain ⟨q, hf⟩ := zck_use hf
    obtain ⟨σ5, eσ5⟩ : ∃ z, z = zsi σ3 28 (v2.toNatClampNeg) v4 := ⟨_, rfl⟩
    replace hf := zbv_use eσ5 hf
    refine z_iast hC hI 28 15 (wC_e28 ad cy σ3) (tC_t28 cy) q ((wC_s28 ad cy σ3 _ _).trans (congrArg (wC ad cy) eσ5.symm)) dX3_drawSprite_189 (fun H locs hI => ?_)
    exact bX3_drawSprite_190 hC hk111 hI (lv_sub hl [2, 3, 4, 5] rfl) hf
  replace hf := zif_f q hf
  refine lv_aload_n hx hb dX3_drawSprite_169 rfl (lv_at hl 2 rfl) ?_
  refine z_get hC hI hinX3_drawSprite_X30 3 (wC_e3 ad cy σ3) rfl 0 (by decide) (List.mem_cons_of_mem _ zw4_22) rfl dX3_drawSprite_170 ?_
  refine lv_bipush (v := 32) hx hb dX3_drawSprite_173 (by decide) ?_
  obtain ⟨σ6, g6, hf⟩ := zbu_use hf
  refine z_callVu (As := [.int 32]) (rest := []) hC hI (cX9_mark_met st l D ad cy σ3 32 _ g6) (zgV zw37_10 zw37_11 zw37_12 zw2_1 zw37_13) rfl ⟨rfl, rfl⟩ 1 hdX9_mark ⟨Nat.le_of_ble_eq_true rfl, Nat.le_of_ble_eq_true rfl⟩ rfl rfl (wC_e2 ad cy σ3) rfl hl rfl (Nat.le_of_ble_eq_true rfl) dX3_drawSprite_175 ⟨Nat.zero_le _, Nat.zero_le _⟩ (fun H locs hI => ?_)
  refine lv_goto (tgt := 190) hx hb dX3_drawSprite_178 (by decide) ?_
  exact bX3_drawSprite_190 hC hk111 hI (lv_sub hl [2, 3, 4, 5] rfl) hf
theorem blX3_drawSprite_111 {st : Nat → Nat} {p : Program} {l : Launch} {e : Env} {s : State} {m : MethodId} {args : Array Value} {below : List Frame} {meth : Method} {c : Code} {D : va_G} {A : Nat → Prop} {ad : Nat → Nat} {cy : Nat → ClassId} (hC : zC p m c cX3_drawSprite 10 s args wzX3_drawSprite RX3 meth none)  {res : zSt} : ∀ (n : Nat) (H : Heap) (locs : List Loc) (σ : zSt) (ls : Array Slot) (x3 : Int32) (x6 : Int32) (x7 : Int32), zI st D (tC cy) (wC ad cy σ) A s H locs → lv_has ls 10 [(0, .ref (ad 3)), (3, .int x3), (6, .int x6), (7, .int x7)] → fX3_drawSprite_111  n σ x3 x6 x7 = some res → W p l e rmX3_drawSprite s m args below meth c H locs 0 0 (zQu below args s D (tC cy) (wC ad cy) A res) (F0 m 111 ls []) := by
  intro n
  induction n with
  | zero => intro H locs σ ls x3 x6 x7 hI hl hf; cases hf
  | succ n ih => intro H locs σ ls x3 x6 x7 hI hl hf; exact bX3_drawSprite_111_body hC ih hI hl hf
set_option maxRecDepth 20000 in
set_option maxHeartbeats 4000000 in
theorem bX3_drawSprite_100 {st : Nat → Nat} {p : Program} {l : Launch} {e : Env} {s : State} {m : MethodId} {args : Array Value} {below : List Frame} {meth : Method} {c : Code} {D : va_G} {A : Nat → Prop} {ad : Nat → Nat} {cy : Nat → ClassId} (hC : zC p m c cX3_drawSprite 10 s args wzX3_drawSprite RX3 meth none)  {res : zSt} {H : Heap} {locs : List Loc} {σ : zSt} {ls : Array Slot} {x2 : Int32} {x3 : Int32} {x6 : Int32} {s0 : Int32} {s1 : Int32} (hI : zI st D (tC cy) (wC ad cy σ) A s H locs) (hl : lv_has ls 10 [(0, .ref (ad 3)), (2, .int x2), (3, .int x3), (6, .int x6)]) (hf : fX3_drawSprite_100  σ x2 x3 x6 s0 s1 = some res) : W p l e rmX3_drawSprite s m args below meth c H locs 0 0 (zQu below args s D (tC cy) (wC ad cy) A res) (F0 m 100 ls [.int s0, .int s1, .ref (ad 3)]) := by
  have hx := hC.1
  have hb := hC.2.1
  unfold fX3_drawSprite_100 at hf
  refine lv_imul hx hb dX3_drawSprite_100 ?_
  refine lv_iconst (v := 4) hx hb dX3_drawSprite_101 (by decide) ?_
  refine lv_iload_n hx hb dX3_drawSprite_102 rfl (lv_at hl 1 rfl) ?_
  refine lv_imul hx hb dX3_drawSprite_103 ?_
  refine lv_iadd hx hb dX3_drawSprite_104 ?_
  obtain ⟨σ7, g7, hf⟩ := zbu_use hf
  refine z_callVu (As := [.int ((s1 * s0) + (4 * x2))]) (rest := []) hC hI (cX3_takePlanes_met st l D ad cy σ ((s1 * s0) + (4 * x2)) _ g7) (zgV zw36_18 zw36_19 zw36_20 zw2_5 zw36_21) rfl ⟨rfl, rfl⟩ 1 hdX3_takePlanes ⟨Nat.le_of_ble_eq_true rfl, Nat.le_of_ble_eq_true rfl⟩ rfl rfl (wC_e3 ad cy σ) rfl hl rfl (Nat.le_of_ble_eq_true rfl) dX3_drawSprite_105 ⟨Nat.zero_le _, Nat.zero_le _⟩ (fun H locs hI => ?_)
  refine lv_iconst (v := 0) hx hb dX3_drawSprite_108 (by decide) ?_
  refine lv_istore (lv' := [(7, .int 0), (0, .ref (ad 3)), (2, .int x2), (3, .int x3), (6, .int x6)]) hx hb dX3_drawSprite_109 hl (by decide) rfl (fun ls hl => ?_)
  exact blX3_drawSprite_111 hC  zfuel _ _ _ _ _ _ _ hI (lv_sub hl [1, 3, 4, 0] rfl) hf
set_option maxRecDepth 20000 in
set_option maxHeartbeats 4000000 in
theorem bX3_drawSprite_61 {st : Nat → Nat} {p : Program} {l : Launch} {e : Env} {s : State} {m : MethodId} {args : Array Value} {below : List Frame} {meth : Method} {c : Code} {D : va_G} {A : Nat → Prop} {ad : Nat → Nat} {cy : Nat → ClassId} (hC : zC p m c cX3_drawSprite 10 s args wzX3_drawSprite RX3 meth none)  {res : zSt} {H : Heap} {locs : List Loc} {σ : zSt} {ls : Array Slot} {x2 : Int32} {x3 : Int32} {s0 : Int32} {s1 : Int32} (hI : zI st D (tC cy) (wC ad cy σ) A s H locs) (hl : lv_has ls 10 [(0, .ref (ad 3)), (2, .int x2), (3, .int x3)]) (hf : fX3_drawSprite_61  σ x2 x3 s0 s1 = some res) : W p l e rmX3_drawSprite s m args below meth c H locs 0 0 (zQu below args s D (tC cy) (wC ad cy) A res) (F0 m 61 ls [.int s0, .int s1]) := by
  have hx := hC.1
  have hb := hC.2.1
  unfold fX3_drawSprite_61 at hf
  refine lv_iadd hx hb dX3_drawSprite_61 ?_
  refine lv_topi (fun v8 ev8 => ?_)
  replace hf := zbv_use ev8 hf
  refine lv_istore (lv' := [(4, .int v8), (0, .ref (ad 3)), (2, .int x2), (3, .int x3)]) hx hb dX3_drawSprite_62 hl (by decide) rfl (fun ls hl => ?_)
  refine lv_aload_n hx hb dX3_drawSprite_64 rfl (lv_at hl 1 rfl) ?_
  refine z_get hC hI hinX3_drawSprite_X30 3 (wC_e3 ad cy σ) rfl 0 (by decide) (List.mem_cons_of_mem _ zw4_22) rfl dX3_drawSprite_65 ?_
  refine lv_iconst (v := 1) hx hb dX3_drawSprite_68 (by decide) ?_
  obtain ⟨σ9, v10, g9, hf⟩ := zbi_use hf
  refine z_callVi (As := [.int 1]) (rest := []) hC hI (cX9_held_met st l D ad cy σ 1 _ g9) (zgV zw35_21 zw35_13 zw35_14 zw2_1 zw35_15) rfl ⟨rfl, rfl⟩ 1 hdX9_held ⟨Nat.le_of_ble_eq_true rfl, Nat.le_of_ble_eq_true rfl⟩ rfl rfl (wC_e2 ad cy σ) rfl hl rfl (Nat.le_of_ble_eq_true rfl) dX3_drawSprite_69 ⟨Nat.zero_le _, Nat.zero_le _⟩ (fun H locs hI => ?_)
  refine lv_istore (lv' := [(5, .int v10), (4, .int v8), (0, .ref (ad 3)), (2, .int x2), (3, .int x3)]) hx hb dX3_drawSprite_72 hl (by decide) rfl (fun ls hl => ?_)
  refine lv_iload hx hb dX3_drawSprite_74 (lv_at hl 0 rfl) ?_
  refine lv_iconst (v := 1) hx hb dX3_drawSprite_76 (by decide) ?_
  refine lv_iand hx hb dX3_drawSprite_77 ?_
  refine lv_topi (fun v11 ev11 => ?_)
  replace hf := zbv_use ev11 hf
  refine lv_istore (lv' := [(6, .int v11), (5, .int v10), (4, .int v8), (0, .ref (ad 3)), (2, .int x2), (3, .int x3)]) hx hb dX3_drawSprite_78 hl (by decide) rfl (fun ls hl => ?_)
  refine lv_aload_n hx hb dX3_drawSprite_80 rfl (lv_at hl 3 rfl) ?_
  refine lv_bipush (v := 32) hx hb dX3_drawSprite_81 (by decide) ?_
  refine lv_iload hx hb dX3_drawSprite_83 (lv_at hl 1 rfl) ?_
  refine lv_iconst (v := 2) hx hb dX3_drawSprite_85 (by decide) ?_
  refine lv_iand hx hb dX3_drawSprite_86 ?_
  refine lv_if_eq (tgt := 98) hx hb dX3_drawSprite_87 (by decide) (fun q => ?_) (fun q => ?_)
  · replace hf := zif_t q hf
    refine lv_iload hx hb dX3_drawSprite_98 (lv_at hl 2 rfl) ?_
    exact bX3_drawSprite_100 hC  hI (lv_sub hl [3, 4, 5, 0] rfl) hf
  replace hf := zif_f q hf
  refine lv_iload hx hb dX3_drawSprite_90 (lv_at hl 2 rfl) ?_
  refine lv_bipush (v := (-2)) hx hb dX3_drawSprite_92 (by decide) ?_
  refine lv_iand hx hb dX3_drawSprite_94 ?_
  refine lv_goto (tgt := 100) hx hb dX3_drawSprite_95 (by decide) ?_
  exact bX3_drawSprite_100 hC  hI (lv_sub hl [3, 4, 5, 0] rfl) hf
set_option maxRecDepth 20000 in
set_option maxHeartbeats 4000000 in
theorem bX3_drawSprite_28 {st : Nat → Nat} {p : Program} {l : Launch} {e : Env} {s : State} {m : MethodId} {args : Array Value} {below : List Frame} {meth : Method} {c : Code} {D : va_G} {A : Nat → Prop} {ad : Nat → Nat} {cy : Nat → ClassId} (hC : zC p m c cX3_drawSprite 10 s args wzX3_drawSprite RX3 meth none)  {res : zSt} {H : Heap} {locs : List Loc} {σ : zSt} {ls : Array Slot} {x1 : Int32} {x2 : Int32} {s0 : Int32} {s1 : Int32} (hI : zI st D (tC cy) (wC ad cy σ) A s H locs) (hl : lv_has ls 10 [(0, .ref (ad 3)), (1, .int x1), (2, .int x2)]) (hf : fX3_drawSprite_28  σ x1 x2 s0 s1 = some res) : W p l e rmX3_drawSprite s m args below meth c H locs 0 0 (zQu below args s D (tC cy) (wC ad cy) A res) (F0 m 28 ls [.int s0, .int s1]) := by
  have hx := hC.1
  have hb := hC.2.1
  unfold fX3_drawSprite_28 at hf
  refine lv_isub hx hb dX3_drawSprite_28 ?_
  refine lv_topi (fun v12 ev12 => ?_)
  replace hf := zbv_use ev12 hf
  refine lv_istore_n (lv' := [(3, .int v12), (0, .ref (ad 3)), (1, .int x1), (2, .int x2)]) hx hb dX3_drawSprite_29 rfl hl (by decide) rfl (fun ls hl => ?_)
  refine lv_aload_n hx hb dX3_drawSprite_30 rfl (lv_at hl 1 rfl) ?_
  refine z_get hC hI hinX3_drawSprite_X30 3 (wC_e3 ad cy σ) rfl 0 (by decide) (List.mem_cons_of_mem _ zw4_22) rfl dX3_drawSprite_31 ?_
  refine lv_iload_n hx hb dX3_drawSprite_34 rfl (lv_at hl 2 rfl) ?_
  refine lv_iconst (v := 1) hx hb dX3_drawSprite_35 (by decide) ?_
  refine lv_iadd hx hb dX3_drawSprite_36 ?_
  obtain ⟨σ13, v14, g13, hf⟩ := zbi_use hf
  refine z_callVi (As := [.int (x1 + 1)]) (rest := []) hC hI (cX9_vramByte_met st l D ad cy σ (x1 + 1) _ g13) (zgV zw36_14 zw36_15 zw36_16 zw2_1 zw36_17) rfl ⟨rfl, rfl⟩ 1 hdX9_vramByte ⟨Nat.le_of_ble_eq_true rfl, Nat.le_of_ble_eq_true rfl⟩ rfl rfl (wC_e2 ad cy σ) rfl hl rfl (Nat.le_of_ble_eq_true rfl) dX3_drawSprite_37 ⟨Nat.zero_le _, Nat.zero_le _⟩ (fun H locs hI => ?_)
  refine lv_aload_n hx hb dX3_drawSprite_40 rfl (lv_at hl 1 rfl) ?_
  refine z_get hC hI hinX3_drawSprite_X30 3 (wC_e3 ad cy σ13) rfl 0 (by decide) (List.mem_cons_of_mem _ zw4_22) rfl dX3_drawSprite_41 ?_
  refine lv_bipush (v := 6) hx hb dX3_drawSprite_44 (by decide) ?_
  obtain ⟨σ15, v16, g15, hf⟩ := zbi_use hf
  refine z_callVi (As := [.int 6]) (rest := [.int v14]) hC hI (cX9_held_met st l D ad cy σ13 6 _ g15) (zgV zw35_21 zw35_13 zw35_14 zw2_1 zw35_15) rfl ⟨rfl, rfl⟩ 1 hdX9_held ⟨Nat.le_of_ble_eq_true rfl, Nat.le_of_ble_eq_true rfl⟩ rfl rfl (wC_e2 ad cy σ13) rfl hl rfl (Nat.le_of_ble_eq_true rfl) dX3_drawSprite_46 ⟨Nat.zero_le _, Nat.zero_le _⟩ (fun H locs hI => ?_)
  refine lv_iconst (v := 4) hx hb dX3_drawSprite_49 (by decide) ?_
  refine lv_iand hx hb dX3_drawSprite_50 ?_
  refine lv_if_eq (tgt := 60) hx hb dX3_drawSprite_51 (by decide) (fun q => ?_) (fun q => ?_)
  · replace hf := zif_t q hf
    refine lv_iconst (v := 0) hx hb dX3_drawSprite_60 (by decide) ?_
    exact bX3_drawSprite_61 hC  hI (lv_sub hl [1, 3, 0] rfl) hf
  replace hf := zif_f q hf
  refine lv_sipush (v := 256) hx hb dX3_drawSprite_54 (by decide) ?_
  refine lv_goto (tgt := 61) hx hb dX3_drawSprite_57 (by decide) ?_
  exact bX3_drawSprite_61 hC  hI (lv_sub hl [1, 3, 0] rfl) hf
set_option maxRecDepth 20000 in
set_option maxHeartbeats 4000000 in
theorem bX3_drawSprite {st : Nat → Nat} {p : Program} {l : Launch} {e : Env} {s : State} {m : MethodId} {args : Array Value} {below : List Frame} {meth : Method} {c : Code} {D : va_G} {A : Nat → Prop} {ad : Nat → Nat} {cy : Nat → ClassId} (hC : zC p m c cX3_drawSprite 10 s args wzX3_drawSprite RX3 meth none)  {res : zSt} {H : Heap} {locs : List Loc} {σ : zSt} {ls : Array Slot} {x1 : Int32} {x2 : Int32} (hI : zI st D (tC cy) (wC ad cy σ) A s H locs) (hl : lv_has ls 10 [(0, .ref (ad 3)), (1, .int x1), (2, .int x2)]) (hf : fX3_drawSprite  σ x1 x2 = some res) : W p l e rmX3_drawSprite s m args below meth c H locs 0 0 (zQu below args s D (tC cy) (wC ad cy) A res) (F0 m 0 ls []) := by
  have hx := hC.1
  have hb := hC.2.1
  unfold fX3_drawSprite at hf
  refine lv_aload_n hx hb dX3_drawSprite_0 rfl (lv_at hl 0 rfl) ?_
  refine z_get hC hI hinX3_drawSprite_X30 3 (wC_e3 ad cy σ) rfl 0 (by decide) (List.mem_cons_of_mem _ zw4_22) rfl dX3_drawSprite_1 ?_
  refine lv_iload_n hx hb dX3_drawSprite_4 rfl (lv_at hl 1 rfl) ?_
  obtain ⟨σ17, v18, g17, hf⟩ := zbi_use hf
  refine z_callVi (As := [.int x1]) (rest := []) hC hI (cX9_vramByte_met st l D ad cy σ x1 _ g17) (zgV zw36_14 zw36_15 zw36_16 zw2_1 zw36_17) rfl ⟨rfl, rfl⟩ 1 hdX9_vramByte ⟨Nat.le_of_ble_eq_true rfl, Nat.le_of_ble_eq_true rfl⟩ rfl rfl (wC_e2 ad cy σ) rfl hl rfl (Nat.le_of_ble_eq_true rfl) dX3_drawSprite_5 ⟨Nat.zero_le _, Nat.zero_le _⟩ (fun H locs hI => ?_)
  refine lv_aload_n hx hb dX3_drawSprite_8 rfl (lv_at hl 0 rfl) ?_
  refine z_get hC hI hinX3_drawSprite_X30 3 (wC_e3 ad cy σ17) rfl 0 (by decide) (List.mem_cons_of_mem _ zw4_22) rfl dX3_drawSprite_9 ?_
  refine lv_iconst (v := 0) hx hb dX3_drawSprite_12 (by decide) ?_
  obtain ⟨σ19, v20, g19, hf⟩ := zbi_use hf
  refine z_callVi (As := [.int 0]) (rest := [.int v18]) hC hI (cX9_held_met st l D ad cy σ17 0 _ g19) (zgV zw35_21 zw35_13 zw35_14 zw2_1 zw35_15) rfl ⟨rfl, rfl⟩ 1 hdX9_held ⟨Nat.le_of_ble_eq_true rfl, Nat.le_of_ble_eq_true rfl⟩ rfl rfl (wC_e2 ad cy σ17) rfl hl rfl (Nat.le_of_ble_eq_true rfl) dX3_drawSprite_13 ⟨Nat.zero_le _, Nat.zero_le _⟩ (fun H locs hI => ?_)
  refine lv_bipush (v := 8) hx hb dX3_drawSprite_16 (by decide) ?_
  refine lv_iand hx hb dX3_drawSprite_18 ?_
  refine lv_if_eq (tgt := 27) hx hb dX3_drawSprite_19 (by decide) (fun q => ?_) (fun q => ?_)
  · replace hf := zif_t q hf
    refine lv_iconst (v := 0) hx hb dX3_drawSprite_27 (by decide) ?_
    exact bX3_drawSprite_28 hC  hI hl hf
  replace hf := zif_f q hf
  refine lv_bipush (v := 8) hx hb dX3_drawSprite_22 (by decide) ?_
  refine lv_goto (tgt := 28) hx hb dX3_drawSprite_24 (by decide) ?_
  exact bX3_drawSprite_28 hC  hI hl hf
set_option maxRecDepth 20000 in
theorem cX3_drawSprite_met (st : Nat → Nat) (l : Launch) (D : va_G) (ad : Nat → Nat) (cy : Nat → ClassId) (σ : zSt) (x1 : Int32) (x2 : Int32) (res : zSt) (hf : fX3_drawSprite σ x1 x2 = some res) (sz : Nat) : zMu st l yX3_drawSprite wzX3_drawSprite rmX3_drawSprite [.ref (ad 3), .int x1, .int x2] D (tC cy) (wC ad cy) sz σ res :=
  zMu.of (cc := cX3_drawSprite) (maxL := 10) (ret := none) (by decide) rfl (Nat.le_of_ble_eq_true rfl) (fun p e s m args below meth c hC A hI ls hl => bX3_drawSprite hC hI hl hf)
theorem hdX3_drawSprite : yX3_drawSprite.cls = RX3 ∧ yX3_drawSprite.cls ≠ "java/lang/invoke/MethodHandle" ∧ yX3_drawSprite.cls ≠ "java/lang/invoke/VarHandle" ∧ (parseMethodDescriptor yX3_drawSprite.desc).map (fun d => d.parameters.length) = some 2 := by decide +kernel
noncomputable def rmX3_drawSprites : Room := { frames := 3, cells := 0, slots := 0, locals := 71 }
noncomputable def wzX3_drawSprites : List Cond := .code yX3_drawSprites cX3_drawSprites 8 none :: wsL_law
theorem hinX3_drawSprites_X30 : ∀ w ∈ wsX30, w ∈ wzX3_drawSprites := fun w h => List.mem_cons_of_mem _ (inlX3 w h)
noncomputable def fX3_drawSprites_196 (k147 : zSt → Int32 → Option (zSt)) (σ : zSt) (x5 : Int32) : Option (zSt) :=
  zbv (x5 + 1) (fun v1 =>
  k147 σ v1)
noncomputable def fX3_drawSprites_147_body (k147 : zSt → Int32 → Option (zSt)) (σ : zSt) (x5 : Int32) : Option (zSt) :=
  if 256 ≤ x5 then some σ else
  zck (zin x5 256) (
  if (zgi σ 28 x5.toNatClampNeg) ≤ 0 then fX3_drawSprites_196 k147 σ x5 else
  zck (zin x5 256) (
  if ((zgi σ 27 x5.toNatClampNeg) &&& 256) = 0 then zck (zin x5 256) (
  zck (zin x5 256) (zbv (zsi σ 27 (x5.toNatClampNeg) (16 + (zgi σ 28 x5.toNatClampNeg))) (fun σ2 =>
  fX3_drawSprites_196 k147 σ2 x5))) else
  fX3_drawSprites_196 k147 σ x5))
noncomputable def fX3_drawSprites_147  : Nat → zSt → Int32 → Option (zSt)
  | 0, _, _ => none
  | n + 1, σ, x5 => fX3_drawSprites_147_body (fX3_drawSprites_147  n) σ x5
noncomputable def fX3_drawSprites_144  (σ : zSt)  : Option (zSt) :=
  fX3_drawSprites_147 zfuel σ 0
noncomputable def fX3_drawSprites_138 (k51 : zSt → Int32 → Int32 → Int32 → Int32 → Int32 → Option (zSt)) (σ : zSt) (x1 : Int32) (x2 : Int32) (x3 : Int32) (x4 : Int32) (x5 : Int32) : Option (zSt) :=
  zbv (x5 + 1) (fun v3 =>
  k51 σ x1 x2 x3 x4 v3)
noncomputable def fX3_drawSprites_86 (k51 : zSt → Int32 → Int32 → Int32 → Int32 → Int32 → Option (zSt)) (σ : zSt) (x1 : Int32) (x2 : Int32) (x3 : Int32) (x4 : Int32) (x5 : Int32) (x6 : Int32) : Option (zSt) :=
  zbi (fX3_rowOfSprite σ x1 x6) (fun σ4 v5 =>
  if v5 < 0 then fX3_drawSprites_138 k51 σ4 x1 x2 x3 x4 x5 else
  zbv (x4 + 1) (fun v6 =>
  if v6 ≤ 8 then zbu (fX3_drawSprite σ4 ((x2 + 128) + (2 * x5)) v5) (fun σ7 =>
  fX3_drawSprites_138 k51 σ7 x1 x2 x3 v6 x5) else
  zbu (fX9_mark σ4 64) (fun σ8 =>
  fX3_drawSprites_144 σ8)))
noncomputable def fX3_drawSprites_51_body (k51 : zSt → Int32 → Int32 → Int32 → Int32 → Int32 → Option (zSt)) (σ : zSt) (x1 : Int32) (x2 : Int32) (x3 : Int32) (x4 : Int32) (x5 : Int32) : Option (zSt) :=
  if 64 ≤ x5 then fX3_drawSprites_144 σ else
  zbi (fX9_vramByte σ (x2 + x5)) (fun σ9 v10 =>
  if x3 = 0 then fX3_drawSprites_86 k51 σ9 x1 x2 x3 x4 x5 v10 else
  if v10 = 208 then fX3_drawSprites_144 σ9 else
  fX3_drawSprites_86 k51 σ9 x1 x2 x3 x4 x5 v10)
noncomputable def fX3_drawSprites_51  : Nat → zSt → Int32 → Int32 → Int32 → Int32 → Int32 → Option (zSt)
  | 0, _, _, _, _, _, _ => none
  | n + 1, σ, x1, x2, x3, x4, x5 => fX3_drawSprites_51_body (fX3_drawSprites_51  n) σ x1 x2 x3 x4 x5
noncomputable def fX3_drawSprites_44  (σ : zSt) (x1 : Int32) (x2 : Int32) (s0 : Int32) : Option (zSt) :=
  fX3_drawSprites_51 zfuel σ x1 x2 s0 0 0
noncomputable def fX3_drawSprites  (σ : zSt) (x1 : Int32) : Option (zSt) :=
  zbu (fJ7_fill_53178_k28 σ 0) (fun σ11 =>
  zbi (fX9_held σ11 5) (fun σ12 v13 =>
  zbv (256 * ((v13 >>> ((1 : Int32) &&& 31)) &&& 63)) (fun v14 =>
  zbi (fX9_height σ12 ) (fun σ15 v16 =>
  if v16 = 192 then fX3_drawSprites_44 σ15 x1 v14 1 else
  fX3_drawSprites_44 σ15 x1 v14 0))))
set_option maxRecDepth 20000 in
set_option maxHeartbeats 4000000 in
theorem bX3_drawSprites_196 {st : Nat → Nat} {p : Program} {l : Launch} {e : Env} {s : State} {m : MethodId} {args : Array Value} {below : List Frame} {meth : Method} {c : Code} {D : va_G} {A : Nat → Prop} {ad : Nat → Nat} {cy : Nat → ClassId} (hC : zC p m c cX3_drawSprites 8 s args wzX3_drawSprites RX3 meth none) {k147 : zSt → Int32 → Option (zSt)} {res : zSt} (hk147 : ∀ (H : Heap) (locs : List Loc) (σ : zSt) (ls : Array Slot) (x5 : Int32), zI st D (tC cy) (wC ad cy σ) A s H locs → lv_has ls 8 [(0, .ref (ad 3)), (5, .int x5)] → k147 σ x5 = some res → W p l e rmX3_drawSprites s m args below meth c H locs 0 0 (zQu below args s D (tC cy) (wC ad cy) A res) (F0 m 147 ls [])) {H : Heap} {locs : List Loc} {σ : zSt} {ls : Array Slot} {x5 : Int32} (hI : zI st D (tC cy) (wC ad cy σ) A s H locs) (hl : lv_has ls 8 [(0, .ref (ad 3)), (5, .int x5)]) (hf : fX3_drawSprites_196 k147 σ x5 = some res) : W p l e rmX3_drawSprites s m args below meth c H locs 0 0 (zQu below args s D (tC cy) (wC ad cy) A res) (F0 m 196 ls []) := by
  have hx := hC.1
  have hb := hC.2.1
  unfold fX3_drawSprites_196 at hf
  obtain ⟨v1, ev1⟩ : ∃ z : Int32, z = x5 + 1 := ⟨_, rfl⟩
  replace hf := zbv_use ev1 hf
  refine lv_iinc (v := v1) (lv' := [(5, .int v1), (0, .ref (ad 3))]) hx hb dX3_drawSprites_196 hl (k := 1) rfl (by rw [ev1]; rfl) (by decide) rfl (fun ls hl => ?_)
  refine lv_goto (tgt := 147) hx hb dX3_drawSprites_199 (by decide) ?_
  exact hk147 _ _ _ _ _ hI (lv_sub hl [1, 0] rfl) hf
set_option maxRecDepth 20000 in
set_option maxHeartbeats 4000000 in
theorem bX3_drawSprites_147_body {st : Nat → Nat} {p : Program} {l : Launch} {e : Env} {s : State} {m : MethodId} {args : Array Value} {below : List Frame} {meth : Method} {c : Code} {D : va_G} {A : Nat → Prop} {ad : Nat → Nat} {cy : Nat → ClassId} (hC : zC p m c cX3_drawSprites 8 s args wzX3_drawSprites RX3 meth none) {k147 : zSt → Int32 → Option (zSt)} {res : zSt} (hk147 : ∀ (H : Heap) (locs : List Loc) (σ : zSt) (ls : Array Slot) (x5 : Int32), zI st D (tC cy) (wC ad cy σ) A s H locs → lv_has ls 8 [(0, .ref (ad 3)), (5, .int x5)] → k147 σ x5 = some res → W p l e rmX3_drawSprites s m args below meth c H locs 0 0 (zQu below args s D (tC cy) (wC ad cy) A res) (F0 m 147 ls [])) {H : Heap} {locs : List Loc} {σ : zSt} {ls : Array Slot} {x5 : Int32} (hI : zI st D (tC cy) (wC ad cy σ) A s H locs) (hl : lv_has ls 8 [(0, .ref (ad 3)), (5, .int x5)]) (hf : fX3_drawSprites_147_body k147 σ x5 = some res) : W p l e rmX3_drawSprites s m args below meth c H locs 0 0 (zQu below args s D (tC cy) (wC ad cy) A res) (F0 m 147 ls []) := by
  have hx := hC.1
  have hb := hC.2.1
  unfold fX3_drawSprites_147_body at hf
  refine lv_iload hx hb dX3_drawSprites_147 (lv_at hl 1 rfl) ?_
  refine lv_sipush (v := 256) hx hb dX3_drawSprites_149 (by decide) ?_
  refine lv_icmp_ge (tgt := 202) hx hb dX3_drawSprites_152 (by decide) (fun q => ?_) (fun q => ?_)
  · replace hf := zif_t q hf
    exact z_return hC hI hf dX3_drawSprites_202
  replace hf := zif_f q hf
  refine lv_aload_n hx hb dX3_drawSprites_155 rfl (lv_at hl 0 rfl) ?_
  refine z_get hC hI hinX3_drawSprites_X30 3 (wC_e3 ad cy σ) rfl 5 (by decide) (List.mem_cons_of_mem _ zw4_20) rfl dX3_drawSprites_156 ?_
  refine lv_iload hx hb dX3_drawSprites_159 (lv_at hl 1 rfl) ?_
  obtain ⟨q, hf⟩ := zck_use hf
  refine z_iald hC hI 28 15 (wC_e28 ad cy σ) (tC_t28 cy) q dX3_drawSprites_161 ?_
  refine lv_if_le (tgt := 196) hx hb dX3_drawSprites_162 (by decide) (fun q => ?_) (fun q => ?_)
  · replace hf := zif_t q hf
    exact bX3_drawSprites_196 hC hk147 hI hl hf
  replace hf := zif_f q hf
  refine lv_aload_n hx hb dX3_drawSprites_165 rfl (lv_at hl 0 rfl) ?_
  refine z_get hC hI hinX3_drawSprites_X30 3 (wC_e3 ad cy σ) rfl 4 (by decide) (List.mem_cons_of_mem _ zw4_19) rfl dX3_drawSprites_166 ?_
  refine lv_iload hx hb dX3_drawSprites_169 (lv_at hl 1 rfl) ?_
  obtain ⟨q, hf⟩ := zck_use hf
  refine z_iald hC hI 27 14 (wC_e27 ad cy σ) (tC_t27 cy) q dX3_drawSprites_171 ?_
  refine lv_sipush (v := 256) hx hb dX3_drawSprites_172 (by decide) ?_
  refine lv_iand hx hb dX3_drawSprites_175 ?_
  refine lv_if_ne (tgt := 196) hx hb dX3_drawSprites_176 (by decide) (fun q => ?_) (fun q => ?_)
  · replace hf := zif_f q hf
    exact bX3_drawSprites_196 hC hk147 hI hl hf
  replace hf := zif_t q hf
  refine lv_aload_n hx hb dX3_drawSprites_179 rfl (lv_at hl 0 rfl) ?_
  refine z_get hC hI hinX3_drawSprites_X30 3 (wC_e3 ad cy σ) rfl 4 (by decide) (List.mem_cons_of_mem _ zw4_19) rfl dX3_drawSprites_180 ?_
  refine lv_iload hx hb dX3_drawSprites_183 (lv_at hl 1 rfl) ?_
  refine lv_bipush (v := 16) hx hb dX3_drawSprites_185 (by decide) ?_
  refine lv_aload_n hx hb dX3_drawSprites_187 rfl (lv_at hl 0 rfl) ?_
  refine z_get hC hI hinX3_drawSprites_X30 3 (wC_e3 ad cy σ) rfl 5 (by decide) (List.mem_cons_of_mem _ zw4_20) rfl dX3_drawSprites_188 ?_
  refine lv_iload hx hb dX3_drawSprites_191 (lv_at hl 1 rfl) ?_
  obtain ⟨q, hf⟩ := zck_use hf
  refine z_iald hC hI 28 15 (wC_e28 ad cy σ) (tC_t28 cy) q dX3_drawSprites_193 ?_
  refine lv_iadd hx hb dX3_drawSprites_194 ?_
  obtain ⟨q, hf⟩ := zck_use hf
  obtain ⟨σ2, eσ2⟩ : ∃ z, z = zsi σ 27 (x5.toNatClampNeg) (16 + (zgi σ 28 x5.toNatClampNeg)) := ⟨_, rfl⟩
  replace hf := zbv_use eσ2 hf
  refine z_iast hC hI 27 14 (wC_e27 ad cy σ) (tC_t27 cy) q ((wC_s27 ad cy σ _ _).trans (congrArg (wC ad cy) eσ2.symm)) dX3_drawSprites_195 (fun H locs hI => ?_)
  exact bX3_drawSprites_196 hC hk147 hI hl hf
theorem blX3_drawSprites_147 {st : Nat → Nat} {p : Program} {l : Launch} {e : Env} {s : State} {m : MethodId} {args : Array Value} {below : List Frame} {meth : Method} {c : Code} {D : va_G} {A : Nat → Prop} {ad : Nat → Nat} {cy : Nat → ClassId} (hC : zC p m c cX3_drawSprites 8 s args wzX3_drawSprites RX3 meth none)  {res : zSt} : ∀ (n : Nat) (H : Heap) (locs : List Loc) (σ : zSt) (ls : Array Slot) (x5 : Int32), zI st D (tC cy) (wC ad cy σ) A s H locs → lv_has ls 8 [(0, .ref (ad 3)), (5, .int x5)] → fX3_drawSprites_147  n σ x5 = some res → W p l e rmX3_drawSprites s m args below meth c H locs 0 0 (zQu below args s D (tC cy) (wC ad cy) A res) (F0 m 147 ls []) := by
  intro n
  induction n with
  | zero => intro H locs σ ls x5 hI hl hf; cases hf
  | succ n ih => intro H locs σ ls x5 hI hl hf; exact bX3_drawSprites_147_body hC ih hI hl hf
set_option maxRecDepth 20000 in
set_option maxHeartbeats 4000000 in
theorem bX3_drawSprites_144 {st : Nat → Nat} {p : Program} {l : Launch} {e : Env} {s : State} {m : MethodId} {args : Array Value} {below : List Frame} {meth : Method} {c : Code} {D : va_G} {A : Nat → Prop} {ad : Nat → Nat} {cy : Nat → ClassId} (hC : zC p m c cX3_drawSprites 8 s args wzX3_drawSprites RX3 meth none)  {res : zSt} {H : Heap} {locs : List Loc} {σ : zSt} {ls : Array Slot}  (hI : zI st D (tC cy) (wC ad cy σ) A s H locs) (hl : lv_has ls 8 [(0, .ref (ad 3))]) (hf : fX3_drawSprites_144  σ  = some res) : W p l e rmX3_drawSprites s m args below meth c H locs 0 0 (zQu below args s D (tC cy) (wC ad cy) A res) (F0 m 144 ls []) := by
  have hx := hC.1
  have hb := hC.2.1
  unfold fX3_drawSprites_144 at hf
  refine lv_iconst (v := 0) hx hb dX3_drawSprites_144 (by decide) ?_
  refine lv_istore (lv' := [(5, .int 0), (0, .ref (ad 3))]) hx hb dX3_drawSprites_145 hl (by decide) rfl (fun ls hl => ?_)
  exact blX3_drawSprites_147 hC  zfuel _ _ _ _ _ hI (lv_sub hl [1, 0] rfl) hf
set_option maxRecDepth 20000 in
set_option maxHeartbeats 4000000 in
theorem bX3_drawSprites_138 {st : Nat → Nat} {p : Program} {l : Launch} {e : Env} {s : State} {m : MethodId} {args : Array Value} {below : List Frame} {meth : Method} {c : Code} {D : va_G} {A : Nat → Prop} {ad : Nat → Nat} {cy : Nat → ClassId} (hC : zC p m c cX3_drawSprites 8 s args wzX3_drawSprites RX3 meth none) {k51 : zSt → Int32 → Int32 → Int32 → Int32 → Int32 → Option (zSt)} {res : zSt} (hk51 : ∀ (H : Heap) (locs : List Loc) (σ : zSt) (ls : Array Slot) (x1 : Int32) (x2 : Int32) (x3 : Int32) (x4 : Int32) (x5 : Int32), zI st D (tC cy) (wC ad cy σ) A s H locs → lv_has ls 8 [(0, .ref (ad 3)), (1, .int x1), (2, .int x2), (3, .int x3), (4, .int x4), (5, .int x5)] → k51 σ x1 x2 x3 x4 x5 = some res → W p l e rmX3_drawSprites s m args below meth c H locs 0 0 (zQu below args s D (tC cy) (wC ad cy) A res) (F0 m 51 ls [])) {H : Heap} {locs : List Loc} {σ : zSt} {ls : Array Slot} {x1 : Int32} {x2 : Int32} {x3 : Int32} {x4 : Int32} {x5 : Int32} (hI : zI st D (tC cy) (wC ad cy σ) A s H locs) (hl : lv_has ls 8 [(0, .ref (ad 3)), (1, .int x1), (2, .int x2), (3, .int x3), (4, .int x4), (5, .int x5)]) (hf : fX3_drawSprites_138 k51 σ x1 x2 x3 x4 x5 = some res) : W p l e rmX3_drawSprites s m args below meth c H locs 0 0 (zQu below args s D (tC cy) (wC ad cy) A res) (F0 m 138 ls []) := by
  have hx := hC.1
  have hb := hC.2.1
  unfold fX3_drawSprites_138 at hf
  obtain ⟨v3, ev3⟩ : ∃ z : Int32, z = x5 + 1 := ⟨_, rfl⟩
  replace hf := zbv_use ev3 hf
  refine lv_iinc (v := v3) (lv' := [(5, .int v3), (0, .ref (ad 3)), (1, .int x1), (2, .int x2), (3, .int x3), (4, .int x4)]) hx hb dX3_drawSprites_138 hl (k := 5) rfl (by rw [ev3]; rfl) (by decide) rfl (fun ls hl => ?_)
  refine lv_goto (tgt := 51) hx hb dX3_drawSprites_141 (by decide) ?_
  exact hk51 _ _ _ _ _ _ _ _ _ hI (lv_sub hl [1, 2, 3, 4, 5, 0] rfl) hf
set_option maxRecDepth 20000 in
set_option maxHeartbeats 4000000 in
theorem bX3_drawSprites_86 {st : Nat → Nat} {p : Program} {l : Launch} {e : Env} {s : State} {m : MethodId} {args : Array Value} {below : List Frame} {meth : Method} {c : Code} {D : va_G} {A : Nat → Prop} {ad : Nat → Nat} {cy : Nat → ClassId} (hC : zC p m c cX3_drawSprites 8 s args wzX3_drawSprites RX3 meth none) {k51 : zSt → Int32 → Int32 → Int32 → Int32 → Int32 → Option (zSt)} {res : zSt} (hk51 : ∀ (H : Heap) (locs : List Loc) (σ : zSt) (ls : Array Slot) (x1 : Int32) (x2 : Int32) (x3 : Int32) (x4 : Int32) (x5 : Int32), zI st D (tC cy) (wC ad cy σ) A s H locs → lv_has ls 8 [(0, .ref (ad 3)), (1, .int x1), (2, .int x2), (3, .int x3), (4, .int x4), (5, .int x5)] → k51 σ x1 x2 x3 x4 x5 = some res → W p l e rmX3_drawSprites s m args below meth c H locs 0 0 (zQu below args s D (tC cy) (wC ad cy) A res) (F0 m 51 ls [])) {H : Heap} {locs : List Loc} {σ : zSt} {ls : Array Slot} {x1 : Int32} {x2 : Int32} {x3 : Int32} {x4 : Int32} {x5 : Int32} {x6 : Int32} (hI : zI st D (tC cy) (wC ad cy σ) A s H locs) (hl : lv_has ls 8 [(0, .ref (ad 3)), (1, .int x1), (2, .int x2), (3, .int x3), (4, .int x4), (5, .int x5), (6, .int x6)]) (hf : fX3_drawSprites_86 k51 σ x1 x2 x3 x4 x5 x6 = some res) : W p l e rmX3_drawSprites s m args below meth c H locs 0 0 (zQu below args s D (tC cy) (wC ad cy) A res) (F0 m 86 ls []) := by
  have hx := hC.1
  have hb := hC.2.1
  unfold fX3_drawSprites_86 at hf
  refine lv_aload_n hx hb dX3_drawSprites_86 rfl (lv_at hl 0 rfl) ?_
  refine lv_iload_n hx hb dX3_drawSprites_87 rfl (lv_at hl 1 rfl) ?_
  refine lv_iload hx hb dX3_drawSprites_88 (lv_at hl 6 rfl) ?_
  obtain ⟨σ4, v5, g4, hf⟩ := zbi_use hf
  refine z_callVi (As := [.int x1, .int x6]) (rest := []) hC hI (cX3_rowOfSprite_met st l D ad cy σ x1 x6 _ g4) (zgV zw37_6 zw37_7 zw37_8 zw2_5 zw37_9) rfl ⟨rfl, rfl⟩ 2 hdX3_rowOfSprite ⟨Nat.le_of_ble_eq_true rfl, Nat.le_of_ble_eq_true rfl⟩ rfl rfl (wC_e3 ad cy σ) rfl hl rfl (Nat.le_of_ble_eq_true rfl) dX3_drawSprites_90 ⟨Nat.zero_le _, Nat.zero_le _⟩ (fun H locs hI => ?_)
  refine lv_istore (lv' := [(7, .int v5), (0, .ref (ad 3)), (1, .int x1), (2, .int x2), (3, .int x3), (4, .int x4), (5, .int x5), (6, .int x6)]) hx hb dX3_drawSprites_93 hl (by decide) rfl (fun ls hl => ?_)
  refine lv_iload hx hb dX3_drawSprites_95 (lv_at hl 0 rfl) ?_
  refine lv_if_lt (tgt := 138) hx hb dX3_drawSprites_97 (by decide) (fun q => ?_) (fun q => ?_)
  · replace hf := zif_t q hf
    exact bX3_drawSprites_138 hC hk51 hI (lv_sub hl [1, 2, 3, 4, 5, 6] rfl) hf
  replace hf := zif_f q hf
  obtain ⟨v6, ev6⟩ : ∃ z : Int32, z = x4 + 1 := ⟨_, rfl⟩
  replace hf := zbv_use ev6 hf
  refine lv_iinc (v := v6) (lv' := [(4, .int v6), (7, .int v5), (0, .ref (ad 3)), (1, .int x1), (2, .int x2), (3, .int x3), (5, .int x5), (6, .int x6)]) hx hb dX3_drawSprites_100 hl (k := 5) rfl (by rw [ev6]; rfl) (by decide) rfl (fun ls hl => ?_)
  refine lv_iload hx hb dX3_drawSprites_103 (lv_at hl 0 rfl) ?_
  refine lv_bipush (v := 8) hx hb dX3_drawSprites_105 (by decide) ?_
  refine lv_icmp_le (tgt := 122) hx hb dX3_drawSprites_107 (by decide) (fun q => ?_) (fun q => ?_)
  · replace hf := zif_t q hf
    refine lv_aload_n hx hb dX3_drawSprites_122 rfl (lv_at hl 2 rfl) ?_
    refine lv_iload_n hx hb dX3_drawSprites_123 rfl (lv_at hl 4 rfl) ?_
    refine lv_sipush (v := 128) hx hb dX3_drawSprites_124 (by decide) ?_
    refine lv_iadd hx hb dX3_drawSprites_127 ?_
    refine lv_iconst (v := 2) hx hb dX3_drawSprites_128 (by decide) ?_
    refine lv_iload hx hb dX3_drawSprites_129 (lv_at hl 6 rfl) ?_
    refine lv_imul hx hb dX3_drawSprites_131 ?_
    refine lv_iadd hx hb dX3_drawSprites_132 ?_
    refine lv_iload hx hb dX3_drawSprites_133 (lv_at hl 1 rfl) ?_
    obtain ⟨σ7, g7, hf⟩ := zbu_use hf
    refine z_callVu (As := [.int ((x2 + 128) + (2 * x5)), .int v5]) (rest := []) hC hI (cX3_drawSprite_met st l D ad cy σ4 ((x2 + 128) + (2 * x5)) v5 _ g7) (zgV zw37_14 zw37_15 zw37_16 zw2_5 zw37_17) rfl ⟨rfl, rfl⟩ 2 hdX3_drawSprite ⟨Nat.le_of_ble_eq_true rfl, Nat.le_of_ble_eq_true rfl⟩ rfl rfl (wC_e3 ad cy σ4) rfl hl rfl (Nat.le_of_ble_eq_true rfl) dX3_drawSprites_135 ⟨Nat.zero_le _, Nat.zero_le _⟩ (fun H locs hI => ?_)
    exact bX3_drawSprites_138 hC hk51 hI (lv_sub hl [2, 3, 4, 5, 0, 6] rfl) hf
  replace hf := zif_f q hf
  refine lv_aload_n hx hb dX3_drawSprites_110 rfl (lv_at hl 2 rfl) ?_
  refine z_get hC hI hinX3_drawSprites_X30 3 (wC_e3 ad cy σ4) rfl 0 (by decide) (List.mem_cons_of_mem _ zw4_22) rfl dX3_drawSprites_111 ?_
  refine lv_bipush (v := 64) hx hb dX3_drawSprites_114 (by decide) ?_
  obtain ⟨σ8, g8, hf⟩ := zbu_use hf
  refine z_callVu (As := [.int 64]) (rest := []) hC hI (cX9_mark_met st l D ad cy σ4 64 _ g8) (zgV zw37_10 zw37_11 zw37_12 zw2_1 zw37_13) rfl ⟨rfl, rfl⟩ 1 hdX9_mark ⟨Nat.le_of_ble_eq_true rfl, Nat.le_of_ble_eq_true rfl⟩ rfl rfl (wC_e2 ad cy σ4) rfl hl rfl (Nat.le_of_ble_eq_true rfl) dX3_drawSprites_116 ⟨Nat.zero_le _, Nat.zero_le _⟩ (fun H locs hI => ?_)
  refine lv_goto (tgt := 144) hx hb dX3_drawSprites_119 (by decide) ?_
  exact bX3_drawSprites_144 hC  hI (lv_sub hl [2] rfl) hf
set_option maxRecDepth 20000 in
set_option maxHeartbeats 4000000 in
theorem bX3_drawSprites_51_body {st : Nat → Nat} {p : Program} {l : Launch} {e : Env} {s : State} {m : MethodId} {args : Array Value} {below : List Frame} {meth : Method} {c : Code} {D : va_G} {A : Nat → Prop} {ad : Nat → Nat} {cy : Nat → ClassId} (hC : zC p m c cX3_drawSprites 8 s args wzX3_drawSprites RX3 meth none) {k51 : zSt → Int32 → Int32 → Int32 → Int32 → Int32 → Option (zSt)} {res : zSt} (hk51 : ∀ (H : Heap) (locs : List Loc) (σ : zSt) (ls : Array Slot) (x1 : Int32) (x2 : Int32) (x3 : Int32) (x4 : Int32) (x5 : Int32), zI st D (tC cy) (wC ad cy σ) A s H locs → lv_has ls 8 [(0, .ref (ad 3)), (1, .int x1), (2, .int x2), (3, .int x3), (4, .int x4), (5, .int x5)] → k51 σ x1 x2 x3 x4 x5 = some res → W p l e rmX3_drawSprites s m args below meth c H locs 0 0 (zQu below args s D (tC cy) (wC ad cy) A res) (F0 m 51 ls [])) {H : Heap} {locs : List Loc} {σ : zSt} {ls : Array Slot} {x1 : Int32} {x2 : Int32} {x3 : Int32} {x4 : Int32} {x5 : Int32} (hI : zI st D (tC cy) (wC ad cy σ) A s H locs) (hl : lv_has ls 8 [(0, .ref (ad 3)), (1, .int x1), (2, .int x2), (3, .int x3), (4, .int x4), (5, .int x5)]) (hf : fX3_drawSprites_51_body k51 σ x1 x2 x3 x4 x5 = some res) : W p l e rmX3_drawSprites s m args below meth c H locs 0 0 (zQu below args s D (tC cy) (wC ad cy) A res) (F0 m 51 ls []) := by
  have hx := hC.1
  have hb := hC.2.1
  unfold fX3_drawSprites_51_body at hf
  refine lv_iload hx hb dX3_drawSprites_51 (lv_at hl 5 rfl) ?_
  refine lv_bipush (v := 64) hx hb dX3_drawSprites_53 (by decide) ?_
  refine lv_icmp_ge (tgt := 144) hx hb dX3_drawSprites_55 (by decide) (fun q => ?_) (fun q => ?_)
  · replace hf := zif_t q hf
    exact bX3_drawSprites_144 hC  hI (lv_sub hl [0] rfl) hf
  replace hf := zif_f q hf
  refine lv_aload_n hx hb dX3_drawSprites_58 rfl (lv_at hl 0 rfl) ?_
  refine z_get hC hI hinX3_drawSprites_X30 3 (wC_e3 ad cy σ) rfl 0 (by decide) (List.mem_cons_of_mem _ zw4_22) rfl dX3_drawSprites_59 ?_
  refine lv_iload_n hx hb dX3_drawSprites_62 rfl (lv_at hl 2 rfl) ?_
  refine lv_iload hx hb dX3_drawSprites_63 (lv_at hl 5 rfl) ?_
  refine lv_iadd hx hb dX3_drawSprites_65 ?_
  obtain ⟨σ9, v10, g9, hf⟩ := zbi_use hf
  refine z_callVi (As := [.int (x2 + x5)]) (rest := []) hC hI (cX9_vramByte_met st l D ad cy σ (x2 + x5) _ g9) (zgV zw36_14 zw36_15 zw36_16 zw2_1 zw36_17) rfl ⟨rfl, rfl⟩ 1 hdX9_vramByte ⟨Nat.le_of_ble_eq_true rfl, Nat.le_of_ble_eq_true rfl⟩ rfl rfl (wC_e2 ad cy σ) rfl hl rfl (Nat.le_of_ble_eq_true rfl) dX3_drawSprites_66 ⟨Nat.zero_le _, Nat.zero_le _⟩ (fun H locs hI => ?_)
  refine lv_istore (lv' := [(6, .int v10), (0, .ref (ad 3)), (1, .int x1), (2, .int x2), (3, .int x3), (4, .int x4), (5, .int x5)]) hx hb dX3_drawSprites_69 hl (by decide) rfl (fun ls hl => ?_)
  refine lv_iload_n hx hb dX3_drawSprites_71 rfl (lv_at hl 4 rfl) ?_
  refine lv_if_eq (tgt := 86) hx hb dX3_drawSprites_72 (by decide) (fun q => ?_) (fun q => ?_)
  · replace hf := zif_t q hf
    exact bX3_drawSprites_86 hC hk51 hI (lv_sub hl [1, 2, 3, 4, 5, 6, 0] rfl) hf
  replace hf := zif_f q hf
  refine lv_iload hx hb dX3_drawSprites_75 (lv_at hl 0 rfl) ?_
  refine lv_sipush (v := 208) hx hb dX3_drawSprites_77 (by decide) ?_
  refine lv_icmp_ne (tgt := 86) hx hb dX3_drawSprites_80 (by decide) (fun q => ?_) (fun q => ?_)
  · replace hf := zif_f q hf
    exact bX3_drawSprites_86 hC hk51 hI (lv_sub hl [1, 2, 3, 4, 5, 6, 0] rfl) hf
  replace hf := zif_t q hf
  refine lv_goto (tgt := 144) hx hb dX3_drawSprites_83 (by decide) ?_
  exact bX3_drawSprites_144 hC  hI (lv_sub hl [1] rfl) hf
theorem blX3_drawSprites_51 {st : Nat → Nat} {p : Program} {l : Launch} {e : Env} {s : State} {m : MethodId} {args : Array Value} {below : List Frame} {meth : Method} {c : Code} {D : va_G} {A : Nat → Prop} {ad : Nat → Nat} {cy : Nat → ClassId} (hC : zC p m c cX3_drawSprites 8 s args wzX3_drawSprites RX3 meth none)  {res : zSt} : ∀ (n : Nat) (H : Heap) (locs : List Loc) (σ : zSt) (ls : Array Slot) (x1 : Int32) (x2 : Int32) (x3 : Int32) (x4 : Int32) (x5 : Int32), zI st D (tC cy) (wC ad cy σ) A s H locs → lv_has ls 8 [(0, .ref (ad 3)), (1, .int x1), (2, .int x2), (3, .int x3), (4, .int x4), (5, .int x5)] → fX3_drawSprites_51  n σ x1 x2 x3 x4 x5 = some res → W p l e rmX3_drawSprites s m args below meth c H locs 0 0 (zQu below args s D (tC cy) (wC ad cy) A res) (F0 m 51 ls []) := by
  intro n
  induction n with
  | zero => intro H locs σ ls x1 x2 x3 x4 x5 hI hl hf; cases hf
  | succ n ih => intro H locs σ ls x1 x2 x3 x4 x5 hI hl hf; exact bX3_drawSprites_51_body hC ih hI hl hf
set_option maxRecDepth 20000 in
set_option maxHeartbeats 4000000 in
theorem bX3_drawSprites_44 {st : Nat → Nat} {p : Program} {l : Launch} {e : Env} {s : State} {m : MethodId} {args : Array Value} {below : List Frame} {meth : Method} {c : Code} {D : va_G} {A : Nat → Prop} {ad : Nat → Nat} {cy : Nat → ClassId} (hC : zC p m c cX3_drawSprites 8 s args wzX3_drawSprites RX3 meth none)  {res : zSt} {H : Heap} {locs : List Loc} {σ : zSt} {ls : Array Slot} {x1 : Int32} {x2 : Int32} {s0 : Int32} (hI : zI st D (tC cy) (wC ad cy σ) A s H locs) (hl : lv_has ls 8 [(0, .ref (ad 3)), (1, .int x1), (2, .int x2)]) (hf : fX3_drawSprites_44  σ x1 x2 s0 = some res) : W p l e rmX3_drawSprites s m args below meth c H locs 0 0 (zQu below args s D (tC cy) (wC ad cy) A res) (F0 m 44 ls [.int s0]) := by
  have hx := hC.1
  have hb := hC.2.1
  unfold fX3_drawSprites_44 at hf
  refine lv_istore_n (lv' := [(3, .int s0), (0, .ref (ad 3)), (1, .int x1), (2, .int x2)]) hx hb dX3_drawSprites_44 rfl hl (by decide) rfl (fun ls hl => ?_)
  refine lv_iconst (v := 0) hx hb dX3_drawSprites_45 (by decide) ?_
  refine lv_istore (lv' := [(4, .int 0), (3, .int s0), (0, .ref (ad 3)), (1, .int x1), (2, .int x2)]) hx hb dX3_drawSprites_46 hl (by decide) rfl (fun ls hl => ?_)
  refine lv_iconst (v := 0) hx hb dX3_drawSprites_48 (by decide) ?_
  refine lv_istore (lv' := [(5, .int 0), (4, .int 0), (3, .int s0), (0, .ref (ad 3)), (1, .int x1), (2, .int x2)]) hx hb dX3_drawSprites_49 hl (by decide) rfl (fun ls hl => ?_)
  exact blX3_drawSprites_51 hC  zfuel _ _ _ _ _ _ _ _ _ hI (lv_sub hl [3, 4, 5, 2, 1, 0] rfl) hf
set_option maxRecDepth 20000 in
set_option maxHeartbeats 4000000 in
theorem bX3_drawSprites {st : Nat → Nat} {p : Program} {l : Launch} {e : Env} {s : State} {m : MethodId} {args : Array Value} {below : List Frame} {meth : Method} {c : Code} {D : va_G} {A : Nat → Prop} {ad : Nat → Nat} {cy : Nat → ClassId} (hC : zC p m c cX3_drawSprites 8 s args wzX3_drawSprites RX3 meth none)  {res : zSt} {H : Heap} {locs : List Loc} {σ : zSt} {ls : Array Slot} {x1 : Int32} (hI : zI st D (tC cy) (wC ad cy σ) A s H locs) (hl : lv_has ls 8 [(0, .ref (ad 3)), (1, .int x1)]) (hf : fX3_drawSprites  σ x1 = some res) : W p l e rmX3_drawSprites s m args below meth c H locs 0 0 (zQu below args s D (tC cy) (wC ad cy) A res) (F0 m 0 ls []) := by
  have hx := hC.1
  have hb := hC.2.1
  unfold fX3_drawSprites at hf
  refine lv_aload_n hx hb dX3_drawSprites_0 rfl (lv_at hl 0 rfl) ?_
  refine z_get hC hI hinX3_drawSprites_X30 3 (wC_e3 ad cy σ) rfl 5 (by decide) (List.mem_cons_of_mem _ zw4_20) rfl dX3_drawSprites_1 ?_
  refine lv_iconst (v := 0) hx hb dX3_drawSprites_4 (by decide) ?_
  obtain ⟨σ11, g11, hf⟩ := zbu_use hf
  refine z_callSu (As := [.ref (ad 28), .int 0]) (rest := []) hC hI (cJ7_fill_53178_k28_met st l D ad cy σ 0 _ g11) (zgS zw36_2 zw5_12 zw5_13 zw5_14) rfl ⟨rfl, rfl⟩ 2 hdJ7_fill_53178_k28 ⟨Nat.le_of_ble_eq_true rfl, Nat.le_of_ble_eq_true rfl⟩ rfl hl rfl (Nat.le_of_ble_eq_true rfl) dX3_drawSprites_5 ⟨Nat.zero_le _, Nat.zero_le _⟩ (fun H locs hI => ?_)
  refine lv_sipush (v := 256) hx hb dX3_drawSprites_8 (by decide) ?_
  refine lv_aload_n hx hb dX3_drawSprites_11 rfl (lv_at hl 0 rfl) ?_
  refine z_get hC hI hinX3_drawSprites_X30 3 (wC_e3 ad cy σ11) rfl 0 (by decide) (List.mem_cons_of_mem _ zw4_22) rfl dX3_drawSprites_12 ?_
  refine lv_iconst (v := 5) hx hb dX3_drawSprites_15 (by decide) ?_
  obtain ⟨σ12, v13, g12, hf⟩ := zbi_use hf
  refine z_callVi (As := [.int 5]) (rest := [.int 256]) hC hI (cX9_held_met st l D ad cy σ11 5 _ g12) (zgV zw35_21 zw35_13 zw35_14 zw2_1 zw35_15) rfl ⟨rfl, rfl⟩ 1 hdX9_held ⟨Nat.le_of_ble_eq_true rfl, Nat.le_of_ble_eq_true rfl⟩ rfl rfl (wC_e2 ad cy σ11) rfl hl rfl (Nat.le_of_ble_eq_true rfl) dX3_drawSprites_16 ⟨Nat.zero_le _, Nat.zero_le _⟩ (fun H locs hI => ?_)
  refine lv_iconst (v := 1) hx hb dX3_drawSprites_19 (by decide) ?_
  refine lv_ishr hx hb dX3_drawSprites_20 ?_
  refine lv_bipush (v := 63) hx hb dX3_drawSprites_21 (by decide) ?_
  refine lv_iand hx hb dX3_drawSprites_23 ?_
  refine lv_imul hx hb dX3_drawSprites_24 ?_
  refine lv_topi (fun v14 ev14 => ?_)
  replace hf := zbv_use ev14 hf
  refine lv_istore_n (lv' := [(2, .int v14), (0, .ref (ad 3)), (1, .int x1)]) hx hb dX3_drawSprites_25 rfl hl (by decide) rfl (fun ls hl => ?_)
  refine lv_aload_n hx hb dX3_drawSprites_26 rfl (lv_at hl 1 rfl) ?_
  refine z_get hC hI hinX3_drawSprites_X30 3 (wC_e3 ad cy σ12) rfl 0 (by decide) (List.mem_cons_of_mem _ zw4_22) rfl dX3_drawSprites_27 ?_
  obtain ⟨σ15, v16, g15, hf⟩ := zbi_use hf
  refine z_callVi (As := []) (rest := []) hC hI (cX9_height_met st l D ad cy σ12  _ g15) (zgV zw36_9 zw25_17 zw25_18 zw2_1 zw25_19) rfl ⟨rfl, rfl⟩ 0 hdX9_height ⟨Nat.le_of_ble_eq_true rfl, Nat.le_of_ble_eq_true rfl⟩ rfl rfl (wC_e2 ad cy σ12) rfl hl rfl (Nat.le_of_ble_eq_true rfl) dX3_drawSprites_30 ⟨Nat.zero_le _, Nat.zero_le _⟩ (fun H locs hI => ?_)
  refine lv_sipush (v := 192) hx hb dX3_drawSprites_33 (by decide) ?_
  refine lv_icmp_ne (tgt := 43) hx hb dX3_drawSprites_36 (by decide) (fun q => ?_) (fun q => ?_)
  · replace hf := zif_f q hf
    refine lv_iconst (v := 0) hx hb dX3_drawSprites_43 (by decide) ?_
    exact bX3_drawSprites_44 hC  hI (lv_sub hl [1, 2, 0] rfl) hf
  replace hf := zif_t q hf
  refine lv_iconst (v := 1) hx hb dX3_drawSprites_39 (by decide) ?_
  refine lv_goto (tgt := 44) hx hb dX3_drawSprites_40 (by decide) ?_
  exact bX3_drawSprites_44 hC  hI (lv_sub hl [1, 2, 0] rfl) hf
set_option maxRecDepth 20000 in
theorem cX3_drawSprites_met (st : Nat → Nat) (l : Launch) (D : va_G) (ad : Nat → Nat) (cy : Nat → ClassId) (σ : zSt) (x1 : Int32) (res : zSt) (hf : fX3_drawSprites σ x1 = some res) (sz : Nat) : zMu st l yX3_drawSprites wzX3_drawSprites rmX3_drawSprites [.ref (ad 3), .int x1] D (tC cy) (wC ad cy) sz σ res :=
  zMu.of (cc := cX3_drawSprites) (maxL := 8) (ret := none) (by decide) rfl (Nat.le_of_ble_eq_true rfl) (fun p e s m args below meth c hC A hI ls hl => bX3_drawSprites hC hI hl hf)
theorem hdX3_drawSprites : yX3_drawSprites.cls = RX3 ∧ yX3_drawSprites.cls ≠ "java/lang/invoke/MethodHandle" ∧ yX3_drawSprites.cls ≠ "java/lang/invoke/VarHandle" ∧ (parseMethodDescriptor yX3_drawSprites.desc).map (fun d => d.parameters.length) = some 1 := by decide +kernel
noncomputable def rmJ7_rangeCheck_23922 : Room := { frames := 0, cells := 0, slots := 0, locals := 0 }
noncomputable def wzJ7_rangeCheck_23922 : List Cond := .code yJ7_rangeCheck_23922 cJ7_rangeCheck_23922 3 none :: wsL_law
noncomputable def fJ7_rangeCheck_23922  (σ : zSt) (x0 : Int32) (x1 : Int32) (x2 : Int32) : Option (zSt) :=
  if x1 ≤ x2 then if 0 ≤ x1 then if x2 ≤ x0 then some σ else
  none else
  none else
  none
set_option maxRecDepth 20000 in
set_option maxHeartbeats 4000000 in
theorem bJ7_rangeCheck_23922 {st : Nat → Nat} {p : Program} {l : Launch} {e : Env} {s : State} {m : MethodId} {args : Array Value} {below : List Frame} {meth : Method} {c : Code} {D : va_G} {A : Nat → Prop} {ad : Nat → Nat} {cy : Nat → ClassId} (hC : zC p m c cJ7_rangeCheck_23922 3 s args wzJ7_rangeCheck_23922 RJ7 meth none)  {res : zSt} {H : Heap} {locs : List Loc} {σ : zSt} {ls : Array Slot} {x0 : Int32} {x1 : Int32} {x2 : Int32} (hI : zI st D (tC cy) (wC ad cy σ) A s H locs) (hl : lv_has ls 3 [(0, .int x0), (1, .int x1), (2, .int x2)]) (hf : fJ7_rangeCheck_23922  σ x0 x1 x2 = some res) : W p l e rmJ7_rangeCheck_23922 s m args below meth c H locs 0 0 (zQu below args s D (tC cy) (wC ad cy) A res) (F0 m 0 ls []) := by
  have hx := hC.1
  have hb := hC.2.1
  unfold fJ7_rangeCheck_23922 at hf
  refine lv_iload_n hx hb dJ7_rangeCheck_23922_0 rfl (lv_at hl 1 rfl) ?_
  refine lv_iload_n hx hb dJ7_rangeCheck_23922_1 rfl (lv_at hl 2 rfl) ?_
  refine lv_icmp_le (tgt := 46) hx hb dJ7_rangeCheck_23922_2 (by decide) (fun q => ?_) (fun q => ?_)
  · replace hf := zif_t q hf
    refine lv_iload_n hx hb dJ7_rangeCheck_23922_46 rfl (lv_at hl 1 rfl) ?_
    refine lv_if_ge (tgt := 59) hx hb dJ7_rangeCheck_23922_47 (by decide) (fun q => ?_) (fun q => ?_)
    · replace hf := zif_t q hf
      refine lv_iload_n hx hb dJ7_rangeCheck_23922_59 rfl (lv_at hl 2 rfl) ?_
      refine lv_iload_n hx hb dJ7_rangeCheck_23922_60 rfl (lv_at hl 0 rfl) ?_
      refine lv_icmp_le (tgt := 73) hx hb dJ7_rangeCheck_23922_61 (by decide) (fun q => ?_) (fun q => ?_)
      · replace hf := zif_t q hf
        exact z_return hC hI hf dJ7_rangeCheck_23922_73
      replace hf := zif_f q hf
      cases hf
    replace hf := zif_f q hf
    cases hf
  replace hf := zif_f q hf
  cases hf
set_option maxRecDepth 20000 in
theorem cJ7_rangeCheck_23922_met (st : Nat → Nat) (l : Launch) (D : va_G) (ad : Nat → Nat) (cy : Nat → ClassId) (σ : zSt) (x0 : Int32) (x1 : Int32) (x2 : Int32) (res : zSt) (hf : fJ7_rangeCheck_23922 σ x0 x1 x2 = some res) (sz : Nat) : zMu st l yJ7_rangeCheck_23922 wzJ7_rangeCheck_23922 rmJ7_rangeCheck_23922 [.int x0, .int x1, .int x2] D (tC cy) (wC ad cy) sz σ res :=
  zMu.of (cc := cJ7_rangeCheck_23922) (maxL := 3) (ret := none) (by decide) rfl (Nat.le_of_ble_eq_true rfl) (fun p e s m args below meth c hC A hI ls hl => bJ7_rangeCheck_23922 hC hI hl hf)
theorem hdJ7_rangeCheck_23922 : yJ7_rangeCheck_23922.cls ≠ "java/lang/invoke/MethodHandle" ∧ yJ7_rangeCheck_23922.cls ≠ "java/lang/invoke/VarHandle" ∧ (parseMethodDescriptor yJ7_rangeCheck_23922.desc).map (fun d => d.parameters.length) = some 3 := by decide +kernel
noncomputable def rmJ7_fill_fda19_k27 : Room := { frames := 1, cells := 0, slots := 0, locals := 22 }
noncomputable def wzJ7_fill_fda19 : List Cond := .code yJ7_fill_fda19 cJ7_fill_fda19 5 none :: wsL_law
noncomputable def fJ7_fill_fda19_k27_10_body (k10 : zSt → Int32 → Int32 → Int32 → Option (zSt)) (σ : zSt) (x2 : Int32) (x3 : Int32) (x4 : Int32) : Option (zSt) :=
  if x2 ≤ x4 then some σ else
  zck (zin x4 256) (zbv (zsi σ 27 (x4.toNatClampNeg) x3) (fun σ1 =>
  zbv (x4 + 1) (fun v2 =>
  k10 σ1 x2 x3 v2)))
noncomputable def fJ7_fill_fda19_k27_10  : Nat → zSt → Int32 → Int32 → Int32 → Option (zSt)
  | 0, _, _, _, _ => none
  | n + 1, σ, x2, x3, x4 => fJ7_fill_fda19_k27_10_body (fJ7_fill_fda19_k27_10  n) σ x2 x3 x4
noncomputable def fJ7_fill_fda19_k27  (σ : zSt) (x1 : Int32) (x2 : Int32) (x3 : Int32) : Option (zSt) :=
  zbu (fJ7_rangeCheck_23922 σ 256 x1 x2) (fun σ3 =>
  fJ7_fill_fda19_k27_10 zfuel σ3 x2 x3 x1)
set_option maxRecDepth 20000 in
set_option maxHeartbeats 4000000 in
theorem bJ7_fill_fda19_k27_10_body {st : Nat → Nat} {p : Program} {l : Launch} {e : Env} {s : State} {m : MethodId} {args : Array Value} {below : List Frame} {meth : Method} {c : Code} {D : va_G} {A : Nat → Prop} {ad : Nat → Nat} {cy : Nat → ClassId} (hC : zC p m c cJ7_fill_fda19 5 s args wzJ7_fill_fda19 RJ7 meth none) {k10 : zSt → Int32 → Int32 → Int32 → Option (zSt)} {res : zSt} (hk10 : ∀ (H : Heap) (locs : List Loc) (σ : zSt) (ls : Array Slot) (x2 : Int32) (x3 : Int32) (x4 : Int32), zI st D (tC cy) (wC ad cy σ) A s H locs → lv_has ls 5 [(0, .ref (ad 27)), (2, .int x2), (3, .int x3), (4, .int x4)] → k10 σ x2 x3 x4 = some res → W p l e rmJ7_fill_fda19_k27 s m args below meth c H locs 0 0 (zQu below args s D (tC cy) (wC ad cy) A res) (F0 m 10 ls [])) {H : Heap} {locs : List Loc} {σ : zSt} {ls : Array Slot} {x2 : Int32} {x3 : Int32} {x4 : Int32} (hI : zI st D (tC cy) (wC ad cy σ) A s H locs) (hl : lv_has ls 5 [(0, .ref (ad 27)), (2, .int x2), (3, .int x3), (4, .int x4)]) (hf : fJ7_fill_fda19_k27_10_body k10 σ x2 x3 x4 = some res) : W p l e rmJ7_fill_fda19_k27 s m args below meth c H locs 0 0 (zQu below args s D (tC cy) (wC ad cy) A res) (F0 m 10 ls []) := by
  have hx := hC.1
  have hb := hC.2.1
  unfold fJ7_fill_fda19_k27_10_body at hf
  refine lv_iload hx hb dJ7_fill_fda19_10 (lv_at hl 3 rfl) ?_
  refine lv_iload_n hx hb dJ7_fill_fda19_12 rfl (lv_at hl 1 rfl) ?_
  refine lv_icmp_ge (tgt := 27) hx hb dJ7_fill_fda19_13 (by decide) (fun q => ?_) (fun q => ?_)
  · replace hf := zif_t q hf
    exact z_return hC hI hf dJ7_fill_fda19_27
  replace hf := zif_f q hf
  refine lv_aload_n hx hb dJ7_fill_fda19_16 rfl (lv_at hl 0 rfl) ?_
  refine lv_iload hx hb dJ7_fill_fda19_17 (lv_at hl 3 rfl) ?_
  refine lv_iload_n hx hb dJ7_fill_fda19_19 rfl (lv_at hl 2 rfl) ?_
  obtain ⟨q, hf⟩ := zck_use hf
  obtain ⟨σ1, eσ1⟩ : ∃ z, z = zsi σ 27 (x4.toNatClampNeg) x3 := ⟨_, rfl⟩
  replace hf := zbv_use eσ1 hf
  refine z_iast hC hI 27 14 (wC_e27 ad cy σ) (tC_t27 cy) q ((wC_s27 ad cy σ _ _).trans (congrArg (wC ad cy) eσ1.symm)) dJ7_fill_fda19_20 (fun H locs hI => ?_)
  obtain ⟨v2, ev2⟩ : ∃ z : Int32, z = x4 + 1 := ⟨_, rfl⟩
  replace hf := zbv_use ev2 hf
  refine lv_iinc (v := v2) (lv' := [(4, .int v2), (0, .ref (ad 27)), (2, .int x2), (3, .int x3)]) hx hb dJ7_fill_fda19_21 hl (k := 3) rfl (by rw [ev2]; rfl) (by decide) rfl (fun ls hl => ?_)
  refine lv_goto (tgt := 10) hx hb dJ7_fill_fda19_24 (by decide) ?_
  exact hk10 _ _ _ _ _ _ _ hI (lv_sub hl [1, 2, 3, 0] rfl) hf
theorem blJ7_fill_fda19_k27_10 {st : Nat → Nat} {p : Program} {l : Launch} {e : Env} {s : State} {m : MethodId} {args : Array Value} {below : List Frame} {meth : Method} {c : Code} {D : va_G} {A : Nat → Prop} {ad : Nat → Nat} {cy : Nat → ClassId} (hC : zC p m c cJ7_fill_fda19 5 s args wzJ7_fill_fda19 RJ7 meth none)  {res : zSt} : ∀ (n : Nat) (H : Heap) (locs : List Loc) (σ : zSt) (ls : Array Slot) (x2 : Int32) (x3 : Int32) (x4 : Int32), zI st D (tC cy) (wC ad cy σ) A s H locs → lv_has ls 5 [(0, .ref (ad 27)), (2, .int x2), (3, .int x3), (4, .int x4)] → fJ7_fill_fda19_k27_10  n σ x2 x3 x4 = some res → W p l e rmJ7_fill_fda19_k27 s m args below meth c H locs 0 0 (zQu below args s D (tC cy) (wC ad cy) A res) (F0 m 10 ls []) := by
  intro n
  induction n with
  | zero => intro H locs σ ls x2 x3 x4 hI hl hf; cases hf
  | succ n ih => intro H locs σ ls x2 x3 x4 hI hl hf; exact bJ7_fill_fda19_k27_10_body hC ih hI hl hf
set_option maxRecDepth 20000 in
set_option maxHeartbeats 4000000 in
theorem bJ7_fill_fda19_k27 {st : Nat → Nat} {p : Program} {l : Launch} {e : Env} {s : State} {m : MethodId} {args : Array Value} {below : List Frame} {meth : Method} {c : Code} {D : va_G} {A : Nat → Prop} {ad : Nat → Nat} {cy : Nat → ClassId} (hC : zC p m c cJ7_fill_fda19 5 s args wzJ7_fill_fda19 RJ7 meth none)  {res : zSt} {H : Heap} {locs : List Loc} {σ : zSt} {ls : Array Slot} {x1 : Int32} {x2 : Int32} {x3 : Int32} (hI : zI st D (tC cy) (wC ad cy σ) A s H locs) (hl : lv_has ls 5 [(0, .ref (ad 27)), (1, .int x1), (2, .int x2), (3, .int x3)]) (hf : fJ7_fill_fda19_k27  σ x1 x2 x3 = some res) : W p l e rmJ7_fill_fda19_k27 s m args below meth c H locs 0 0 (zQu below args s D (tC cy) (wC ad cy) A res) (F0 m 0 ls []) := by
  have hx := hC.1
  have hb := hC.2.1
  unfold fJ7_fill_fda19_k27 at hf
  refine lv_aload_n hx hb dJ7_fill_fda19_0 rfl (lv_at hl 0 rfl) ?_
  refine z_alen (v := 256) hC hI 27 14 (wC_e27 ad cy σ) (tC_t27 cy) rfl dJ7_fill_fda19_1 ?_
  refine lv_iload_n hx hb dJ7_fill_fda19_2 rfl (lv_at hl 1 rfl) ?_
  refine lv_iload_n hx hb dJ7_fill_fda19_3 rfl (lv_at hl 2 rfl) ?_
  obtain ⟨σ3, g3, hf⟩ := zbu_use hf
  refine z_callSu (As := [.int 256, .int x1, .int x2]) (rest := []) hC hI (cJ7_rangeCheck_23922_met st l D ad cy σ 256 x1 x2 _ g3) (zgS zw5_18 zw5_19 zw5_13 zw5_20) rfl ⟨rfl, rfl⟩ 3 hdJ7_rangeCheck_23922 ⟨Nat.le_of_ble_eq_true rfl, Nat.le_of_ble_eq_true rfl⟩ rfl hl rfl (Nat.le_of_ble_eq_true rfl) dJ7_fill_fda19_4 ⟨Nat.zero_le _, Nat.zero_le _⟩ (fun H locs hI => ?_)
  refine lv_iload_n hx hb dJ7_fill_fda19_7 rfl (lv_at hl 1 rfl) ?_
  refine lv_istore (lv' := [(4, .int x1), (0, .ref (ad 27)), (1, .int x1), (2, .int x2), (3, .int x3)]) hx hb dJ7_fill_fda19_8 hl (by decide) rfl (fun ls hl => ?_)
  exact blJ7_fill_fda19_k27_10 hC  zfuel _ _ _ _ _ _ _ hI (lv_sub hl [1, 3, 4, 0] rfl) hf
set_option maxRecDepth 20000 in
theorem cJ7_fill_fda19_k27_met (st : Nat → Nat) (l : Launch) (D : va_G) (ad : Nat → Nat) (cy : Nat → ClassId) (σ : zSt) (x1 : Int32) (x2 : Int32) (x3 : Int32) (res : zSt) (hf : fJ7_fill_fda19_k27 σ x1 x2 x3 = some res) (sz : Nat) : zMu st l yJ7_fill_fda19 wzJ7_fill_fda19 rmJ7_fill_fda19_k27 [.ref (ad 27), .int x1, .int x2, .int x3] D (tC cy) (wC ad cy) sz σ res :=
  zMu.of (cc := cJ7_fill_fda19) (maxL := 5) (ret := none) (by decide) rfl (Nat.le_of_ble_eq_true rfl) (fun p e s m args below meth c hC A hI ls hl => bJ7_fill_fda19_k27 hC hI hl hf)
theorem hdJ7_fill_fda19_k27 : yJ7_fill_fda19.cls ≠ "java/lang/invoke/MethodHandle" ∧ yJ7_fill_fda19.cls ≠ "java/lang/invoke/VarHandle" ∧ (parseMethodDescriptor yJ7_fill_fda19.desc).map (fun d => d.parameters.length) = some 4 := by decide +kernel
noncomputable def rmX3_patternAt : Room := { frames := 1, cells := 0, slots := 0, locals := 21 }
noncomputable def wzX3_patternAt : List Cond := .code yX3_patternAt cX3_patternAt 3 (some .int) :: wsL_law
theorem hinX3_patternAt_X30 : ∀ w ∈ wsX30, w ∈ wzX3_patternAt := fun w h => List.mem_cons_of_mem _ (inlX3 w h)
noncomputable def fX3_patternAt  (σ : zSt) (x1 : Int32) (x2 : Int32) : Option (zSt × Int32) :=
  zbi (fX9_held σ 4) (fun σ1 v2 =>
  zbi (fX9_vramByte σ1 (((2048 * (v2 &&& 7)) + (8 * x1)) + (x2 &&& 7))) (fun σ3 v4 =>
  some (σ3, v4)))
set_option maxRecDepth 20000 in
set_option maxHeartbeats 4000000 in
theorem bX3_patternAt {st : Nat → Nat} {p : Program} {l : Launch} {e : Env} {s : State} {m : MethodId} {args : Array Value} {below : List Frame} {meth : Method} {c : Code} {D : va_G} {A : Nat → Prop} {ad : Nat → Nat} {cy : Nat → ClassId} (hC : zC p m c cX3_patternAt 3 s args wzX3_patternAt RX3 meth (some .int))  {res : zSt × Int32} {H : Heap} {locs : List Loc} {σ : zSt} {ls : Array Slot} {x1 : Int32} {x2 : Int32} (hI : zI st D (tC cy) (wC ad cy σ) A s H locs) (hl : lv_has ls 3 [(0, .ref (ad 3)), (1, .int x1), (2, .int x2)]) (hf : fX3_patternAt  σ x1 x2 = some res) : W p l e rmX3_patternAt s m args below meth c H locs 0 0 (zQi below args s D (tC cy) (wC ad cy) A res) (F0 m 0 ls []) := by
  have hx := hC.1
  have hb := hC.2.1
  unfold fX3_patternAt at hf
  refine lv_aload_n hx hb dX3_patternAt_0 rfl (lv_at hl 0 rfl) ?_
  refine z_get hC hI hinX3_patternAt_X30 3 (wC_e3 ad cy σ) rfl 0 (by decide) (List.mem_cons_of_mem _ zw4_22) rfl dX3_patternAt_1 ?_
  refine lv_sipush (v := 2048) hx hb dX3_patternAt_4 (by decide) ?_
  refine lv_aload_n hx hb dX3_patternAt_7 rfl (lv_at hl 0 rfl) ?_
  refine z_get hC hI hinX3_patternAt_X30 3 (wC_e3 ad cy σ) rfl 0 (by decide) (List.mem_cons_of_mem _ zw4_22) rfl dX3_patternAt_8 ?_
  refine lv_iconst (v := 4) hx hb dX3_patternAt_11 (by decide) ?_
  obtain ⟨σ1, v2, g1, hf⟩ := zbi_use hf
  refine z_callVi (As := [.int 4]) (rest := [.int 2048, .ref (ad 2)]) hC hI (cX9_held_met st l D ad cy σ 4 _ g1) (zgV zw35_21 zw35_13 zw35_14 zw2_1 zw35_15) rfl ⟨rfl, rfl⟩ 1 hdX9_held ⟨Nat.le_of_ble_eq_true rfl, Nat.le_of_ble_eq_true rfl⟩ rfl rfl (wC_e2 ad cy σ) rfl hl rfl (Nat.le_of_ble_eq_true rfl) dX3_patternAt_12 ⟨Nat.zero_le _, Nat.zero_le _⟩ (fun H locs hI => ?_)
  refine lv_bipush (v := 7) hx hb dX3_patternAt_15 (by decide) ?_
  refine lv_iand hx hb dX3_patternAt_17 ?_
  refine lv_imul hx hb dX3_patternAt_18 ?_
  refine lv_bipush (v := 8) hx hb dX3_patternAt_19 (by decide) ?_
  refine lv_iload_n hx hb dX3_patternAt_21 rfl (lv_at hl 1 rfl) ?_
  refine lv_imul hx hb dX3_patternAt_22 ?_
  refine lv_iadd hx hb dX3_patternAt_23 ?_
  refine lv_iload_n hx hb dX3_patternAt_24 rfl (lv_at hl 2 rfl) ?_
  refine lv_bipush (v := 7) hx hb dX3_patternAt_25 (by decide) ?_
  refine lv_iand hx hb dX3_patternAt_27 ?_
  refine lv_iadd hx hb dX3_patternAt_28 ?_
  obtain ⟨σ3, v4, g3, hf⟩ := zbi_use hf
  refine z_callVi (As := [.int (((2048 * (v2 &&& 7)) + (8 * x1)) + (x2 &&& 7))]) (rest := []) hC hI (cX9_vramByte_met st l D ad cy σ1 (((2048 * (v2 &&& 7)) + (8 * x1)) + (x2 &&& 7)) _ g3) (zgV zw36_14 zw36_15 zw36_16 zw2_1 zw36_17) rfl ⟨rfl, rfl⟩ 1 hdX9_vramByte ⟨Nat.le_of_ble_eq_true rfl, Nat.le_of_ble_eq_true rfl⟩ rfl rfl (wC_e2 ad cy σ1) rfl hl rfl (Nat.le_of_ble_eq_true rfl) dX3_patternAt_29 ⟨Nat.zero_le _, Nat.zero_le _⟩ (fun H locs hI => ?_)
  exact z_ireturn hC hI hf dX3_patternAt_32
set_option maxRecDepth 20000 in
theorem cX3_patternAt_met (st : Nat → Nat) (l : Launch) (D : va_G) (ad : Nat → Nat) (cy : Nat → ClassId) (σ : zSt) (x1 : Int32) (x2 : Int32) (res : zSt × Int32) (hf : fX3_patternAt σ x1 x2 = some res) (sz : Nat) : zMi st l yX3_patternAt wzX3_patternAt rmX3_patternAt [.ref (ad 3), .int x1, .int x2] D (tC cy) (wC ad cy) sz σ res :=
  zMi.of (cc := cX3_patternAt) (maxL := 3) (ret := (some .int)) (by decide) rfl (Nat.le_of_ble_eq_true rfl) (fun p e s m args below meth c hC A hI ls hl => bX3_patternAt hC hI hl hf)
theorem hdX3_patternAt : yX3_patternAt.cls = RX3 ∧ yX3_patternAt.cls ≠ "java/lang/invoke/MethodHandle" ∧ yX3_patternAt.cls ≠ "java/lang/invoke/VarHandle" ∧ (parseMethodDescriptor yX3_patternAt.desc).map (fun d => d.parameters.length) = some 2 := by decide +kernel
noncomputable def rmX3_drawText : Room := { frames := 2, cells := 0, slots := 0, locals := 43 }
noncomputable def wzX3_drawText : List Cond := .code yX3_drawText cX3_drawText 7 none :: wsL_law
theorem hinX3_drawText_X30 : ∀ w ∈ wsX30, w ∈ wzX3_drawText := fun w h => List.mem_cons_of_mem _ (inlX3 w h)
noncomputable def fX3_drawText_101 (k21 : zSt → Int32 → Int32 → Int32 → Int32 → Option (zSt)) (k56 : zSt → Int32 → Int32 → Int32 → Int32 → Int32 → Int32 → Option (zSt)) (σ : zSt) (x1 : Int32) (x2 : Int32) (x3 : Int32) (x4 : Int32) (x5 : Int32) (x6 : Int32) (s0 : Int32) (s1 : Int32) : Option (zSt) :=
  zck (zin s1 256) (zbv (zsi σ 27 (s1.toNatClampNeg) s0) (fun σ1 =>
  zbv (x6 + 1) (fun v2 =>
  k56 σ1 x1 x2 x3 x4 x5 v2)))
noncomputable def fX3_drawText_56_body (k21 : zSt → Int32 → Int32 → Int32 → Int32 → Option (zSt)) (k56 : zSt → Int32 → Int32 → Int32 → Int32 → Int32 → Int32 → Option (zSt)) (σ : zSt) (x1 : Int32) (x2 : Int32) (x3 : Int32) (x4 : Int32) (x5 : Int32) (x6 : Int32) : Option (zSt) :=
  if 6 ≤ x6 then zbv (x4 + 1) (fun v3 =>
  k21 σ x1 x2 x3 v3) else
  if ((x5 >>> ((7 - x6) &&& 31)) &&& 1) = 0 then fX3_drawText_101 k21 k56 σ x1 x2 x3 x4 x5 x6 (x3 &&& 15) ((8 + (6 * x4)) + x6) else
  fX3_drawText_101 k21 k56 σ x1 x2 x3 x4 x5 x6 (x3 >>> ((4 : Int32) &&& 31)) ((8 + (6 * x4)) + x6)
noncomputable def fX3_drawText_56 (k21 : zSt → Int32 → Int32 → Int32 → Int32 → Option (zSt)) : Nat → zSt → Int32 → Int32 → Int32 → Int32 → Int32 → Int32 → Option (zSt)
  | 0, _, _, _, _, _, _, _ => none
  | n + 1, σ, x1, x2, x3, x4, x5, x6 => fX3_drawText_56_body k21 (fX3_drawText_56 k21 n) σ x1 x2 x3 x4 x5 x6
noncomputable def fX3_drawText_21_body (k21 : zSt → Int32 → Int32 → Int32 → Int32 → Option (zSt)) (σ : zSt) (x1 : Int32) (x2 : Int32) (x3 : Int32) (x4 : Int32) : Option (zSt) :=
  if 40 ≤ x4 then some σ else
  zbi (fX9_vramByte σ ((x1 + (40 * (x2 >>> ((3 : Int32) &&& 31)))) + x4)) (fun σ4 v5 =>
  zbi (fX3_patternAt σ4 v5 x2) (fun σ6 v7 =>
  fX3_drawText_56 k21 zfuel σ6 x1 x2 x3 x4 v7 0))
noncomputable def fX3_drawText_21  : Nat → zSt → Int32 → Int32 → Int32 → Int32 → Option (zSt)
  | 0, _, _, _, _, _ => none
  | n + 1, σ, x1, x2, x3, x4 => fX3_drawText_21_body (fX3_drawText_21  n) σ x1 x2 x3 x4
noncomputable def fX3_drawText  (σ : zSt) (x1 : Int32) (x2 : Int32) : Option (zSt) :=
  zbi (fX9_held σ 7) (fun σ8 v9 =>
  zbu (fJ7_fill_53178_k27 σ8 0) (fun σ10 =>
  fX3_drawText_21 zfuel σ10 x1 x2 v9 0))
set_option maxRecDepth 20000 in
set_option maxHeartbeats 4000000 in
theorem bX3_drawText_101 {st : Nat → Nat} {p : Program} {l : Launch} {e : Env} {s : State} {m : MethodId} {args : Array Value} {below : List Frame} {meth : Method} {c : Code} {D : va_G} {A : Nat → Prop} {ad : Nat → Nat} {cy : Nat → ClassId} (hC : zC p m c cX3_drawText 7 s args wzX3_drawText RX3 meth none) {k21 : zSt → Int32 → Int32 → Int32 → Int32 → Option (zSt)} {k56 : zSt → Int32 → Int32 → Int32 → Int32 → Int32 → Int32 → Option (zSt)} {res : zSt} (hk21 : ∀ (H : Heap) (locs : List Loc) (σ : zSt) (ls : Array Slot) (x1 : Int32) (x2 : Int32) (x3 : Int32) (x4 : Int32), zI st D (tC cy) (wC ad cy σ) A s H locs → lv_has ls 7 [(0, .ref (ad 3)), (1, .int x1), (2, .int x2), (3, .int x3), (4, .int x4)] → k21 σ x1 x2 x3 x4 = some res → W p l e rmX3_drawText s m args below meth c H locs 0 0 (zQu below args s D (tC cy) (wC ad cy) A res) (F0 m 21 ls [])) (hk56 : ∀ (H : Heap) (locs : List Loc) (σ : zSt) (ls : Array Slot) (x1 : Int32) (x2 : Int32) (x3 : Int32) (x4 : Int32) (x5 : Int32) (x6 : Int32), zI st D (tC cy) (wC ad cy σ) A s H locs → lv_has ls 7 [(0, .ref (ad 3)), (1, .int x1), (2, .int x2), (3, .int x3), (4, .int x4), (5, .int x5), (6, .int x6)] → k56 σ x1 x2 x3 x4 x5 x6 = some res → W p l e rmX3_drawText s m args below meth c H locs 0 0 (zQu below args s D (tC cy) (wC ad cy) A res) (F0 m 56 ls [])) {H : Heap} {locs : List Loc} {σ : zSt} {ls : Array Slot} {x1 : Int32} {x2 : Int32} {x3 : Int32} {x4 : Int32} {x5 : Int32} {x6 : Int32} {s0 : Int32} {s1 : Int32} (hI : zI st D (tC cy) (wC ad cy σ) A s H locs) (hl : lv_has ls 7 [(0, .ref (ad 3)), (1, .int x1), (2, .int x2), (3, .int x3), (4, .int x4), (5, .int x5), (6, .int x6)]) (hf : fX3_drawText_101 k21 k56 σ x1 x2 x3 x4 x5 x6 s0 s1 = some res) : W p l e rmX3_drawText s m args below meth c H locs 0 0 (zQu below args s D (tC cy) (wC ad cy) A res) (F0 m 101 ls [.int s0, .int s1, .ref (ad 27)]) := by
  have hx := hC.1
  have hb := hC.2.1
  unfold fX3_drawText_101 at hf
  obtain ⟨q, hf⟩ := zck_use hf
  obtain ⟨σ1, eσ1⟩ : ∃ z, z = zsi σ 27 (s1.toNatClampNeg) s0 := ⟨_, rfl⟩
  replace hf := zbv_use eσ1 hf
  refine z_iast hC hI 27 14 (wC_e27 ad cy σ) (tC_t27 cy) q ((wC_s27 ad cy σ _ _).trans (congrArg (wC ad cy) eσ1.symm)) dX3_drawText_101 (fun H locs hI => ?_)
  obtain ⟨v2, ev2⟩ : ∃ z : Int32, z = x6 + 1 := ⟨_, rfl⟩
  replace hf := zbv_use ev2 hf
  refine lv_iinc (v := v2) (lv' := [(6, .int v2), (0, .ref (ad 3)), (1, .int x1), (2, .int x2), (3, .int x3), (4, .int x4), (5, .int x5)]) hx hb dX3_drawText_102 hl (k := 6) rfl (by rw [ev2]; rfl) (by decide) rfl (fun ls hl => ?_)
  refine lv_goto (tgt := 56) hx hb dX3_drawText_105 (by decide) ?_
  exact hk56 _ _ _ _ _ _ _ _ _ _ hI (lv_sub hl [1, 2, 3, 4, 5, 6, 0] rfl) hf
set_option maxRecDepth 20000 in
set_option maxHeartbeats 4000000 in
theorem bX3_drawText_56_body {st : Nat → Nat} {p : Program} {l : Launch} {e : Env} {s : State} {m : MethodId} {args : Array Value} {below : List Frame} {meth : Method} {c : Code} {D : va_G} {A : Nat → Prop} {ad : Nat → Nat} {cy : Nat → ClassId} (hC : zC p m c cX3_drawText 7 s args wzX3_drawText RX3 meth none) {k21 : zSt → Int32 → Int32 → Int32 → Int32 → Option (zSt)} {k56 : zSt → Int32 → Int32 → Int32 → Int32 → Int32 → Int32 → Option (zSt)} {res : zSt} (hk21 : ∀ (H : Heap) (locs : List Loc) (σ : zSt) (ls : Array Slot) (x1 : Int32) (x2 : Int32) (x3 : Int32) (x4 : Int32), zI st D (tC cy) (wC ad cy σ) A s H locs → lv_has ls 7 [(0, .ref (ad 3)), (1, .int x1), (2, .int x2), (3, .int x3), (4, .int x4)] → k21 σ x1 x2 x3 x4 = some res → W p l e rmX3_drawText s m args below meth c H locs 0 0 (zQu below args s D (tC cy) (wC ad cy) A res) (F0 m 21 ls [])) (hk56 : ∀ (H : Heap) (locs : List Loc) (σ : zSt) (ls : Array Slot) (x1 : Int32) (x2 : Int32) (x3 : Int32) (x4 : Int32) (x5 : Int32) (x6 : Int32), zI st D (tC cy) (wC ad cy σ) A s H locs → lv_has ls 7 [(0, .ref (ad 3)), (1, .int x1), (2, .int x2), (3, .int x3), (4, .int x4), (5, .int x5), (6, .int x6)] → k56 σ x1 x2 x3 x4 x5 x6 = some res → W p l e rmX3_drawText s m args below meth c H locs 0 0 (zQu below args s D (tC cy) (wC ad cy) A res) (F0 m 56 ls [])) {H : Heap} {locs : List Loc} {σ : zSt} {ls : Array Slot} {x1 : Int32} {x2 : Int32} {x3 : Int32} {x4 : Int32} {x5 : Int32} {x6 : Int32} (hI : zI st D (tC cy) (wC ad cy σ) A s H locs) (hl : lv_has ls 7 [(0, .ref (ad 3)), (1, .int x1), (2, .int x2), (3, .int x3), (4, .int x4), (5, .int x5), (6, .int x6)]) (hf : fX3_drawText_56_body k21 k56 σ x1 x2 x3 x4 x5 x6 = some res) : W p l e rmX3_drawText s m args below meth c H locs 0 0 (zQu below args s D (tC cy) (wC ad cy) A res) (F0 m 56 ls []) := by
  have hx := hC.1
  have hb := hC.2.1
  unfold fX3_drawText_56_body at hf
  refine lv_iload hx hb dX3_drawText_56 (lv_at hl 6 rfl) ?_
  refine lv_bipush (v := 6) hx hb dX3_drawText_58 (by decide) ?_
  refine lv_icmp_ge (tgt := 108) hx hb dX3_drawText_60 (by decide) (fun q => ?_) (fun q => ?_)
  · replace hf := zif_t q hf
    obtain ⟨v3, ev3⟩ : ∃ z : Int32, z = x4 + 1 := ⟨_, rfl⟩
    replace hf := zbv_use ev3 hf
    refine lv_iinc (v := v3) (lv' := [(4, .int v3), (0, .ref (ad 3)), (1, .int x1), (2, .int x2), (3, .int x3), (5, .int x5), (6, .int x6)]) hx hb dX3_drawText_108 hl (k := 4) rfl (by rw [ev3]; rfl) (by decide) rfl (fun ls hl => ?_)
    refine lv_goto (tgt := 21) hx hb dX3_drawText_111 (by decide) ?_
    exact hk21 _ _ _ _ _ _ _ _ hI (lv_sub hl [1, 2, 3, 4, 0] rfl) hf
  replace hf := zif_f q hf
  refine lv_aload_n hx hb dX3_drawText_63 rfl (lv_at hl 0 rfl) ?_
  refine z_get hC hI hinX3_drawText_X30 3 (wC_e3 ad cy σ) rfl 4 (by decide) (List.mem_cons_of_mem _ zw4_19) rfl dX3_drawText_64 ?_
  refine lv_bipush (v := 8) hx hb dX3_drawText_67 (by decide) ?_
  refine lv_bipush (v := 6) hx hb dX3_drawText_69 (by decide) ?_
  refine lv_iload hx hb dX3_drawText_71 (lv_at hl 4 rfl) ?_
  refine lv_imul hx hb dX3_drawText_73 ?_
  refine lv_iadd hx hb dX3_drawText_74 ?_
  refine lv_iload hx hb dX3_drawText_75 (lv_at hl 6 rfl) ?_
  refine lv_iadd hx hb dX3_drawText_77 ?_
  refine lv_iload hx hb dX3_drawText_78 (lv_at hl 5 rfl) ?_
  refine lv_bipush (v := 7) hx hb dX3_drawText_80 (by decide) ?_
  refine lv_iload hx hb dX3_drawText_82 (lv_at hl 6 rfl) ?_
  refine lv_isub hx hb dX3_drawText_84 ?_
  refine lv_ishr hx hb dX3_drawText_85 ?_
  refine lv_iconst (v := 1) hx hb dX3_drawText_86 (by decide) ?_
  refine lv_iand hx hb dX3_drawText_87 ?_
  refine lv_if_eq (tgt := 97) hx hb dX3_drawText_88 (by decide) (fun q => ?_) (fun q => ?_)
  · replace hf := zif_t q hf
    refine lv_iload_n hx hb dX3_drawText_97 rfl (lv_at hl 3 rfl) ?_
    refine lv_bipush (v := 15) hx hb dX3_drawText_98 (by decide) ?_
    refine lv_iand hx hb dX3_drawText_100 ?_
    exact bX3_drawText_101 hC hk21 hk56 hI hl hf
  replace hf := zif_f q hf
  refine lv_iload_n hx hb dX3_drawText_91 rfl (lv_at hl 3 rfl) ?_
  refine lv_iconst (v := 4) hx hb dX3_drawText_92 (by decide) ?_
  refine lv_ishr hx hb dX3_drawText_93 ?_
  refine lv_goto (tgt := 101) hx hb dX3_drawText_94 (by decide) ?_
  exact bX3_drawText_101 hC hk21 hk56 hI hl hf
theorem blX3_drawText_56 {st : Nat → Nat} {p : Program} {l : Launch} {e : Env} {s : State} {m : MethodId} {args : Array Value} {below : List Frame} {meth : Method} {c : Code} {D : va_G} {A : Nat → Prop} {ad : Nat → Nat} {cy : Nat → ClassId} (hC : zC p m c cX3_drawText 7 s args wzX3_drawText RX3 meth none) {k21 : zSt → Int32 → Int32 → Int32 → Int32 → Option (zSt)} {res : zSt} (hk21 : ∀ (H : Heap) (locs : List Loc) (σ : zSt) (ls : Array Slot) (x1 : Int32) (x2 : Int32) (x3 : Int32) (x4 : Int32), zI st D (tC cy) (wC ad cy σ) A s H locs → lv_has ls 7 [(0, .ref (ad 3)), (1, .int x1), (2, .int x2), (3, .int x3), (4, .int x4)] → k21 σ x1 x2 x3 x4 = some res → W p l e rmX3_drawText s m args below meth c H locs 0 0 (zQu below args s D (tC cy) (wC ad cy) A res) (F0 m 21 ls [])) : ∀ (n : Nat) (H : Heap) (locs : List Loc) (σ : zSt) (ls : Array Slot) (x1 : Int32) (x2 : Int32) (x3 : Int32) (x4 : Int32) (x5 : Int32) (x6 : Int32), zI st D (tC cy) (wC ad cy σ) A s H locs → lv_has ls 7 [(0, .ref (ad 3)), (1, .int x1), (2, .int x2), (3, .int x3), (4, .int x4), (5, .int x5), (6, .int x6)] → fX3_drawText_56 k21 n σ x1 x2 x3 x4 x5 x6 = some res → W p l e rmX3_drawText s m args below meth c H locs 0 0 (zQu below args s D (tC cy) (wC ad cy) A res) (F0 m 56 ls []) := by
  intro n
  induction n with
  | zero => intro H locs σ ls x1 x2 x3 x4 x5 x6 hI hl hf; cases hf
  | succ n ih => intro H locs σ ls x1 x2 x3 x4 x5 x6 hI hl hf; exact bX3_drawText_56_body hC hk21 ih hI hl hf
set_option maxRecDepth 20000 in
set_option maxHeartbeats 4000000 in
theorem bX3_drawText_21_body {st : Nat → Nat} {p : Program} {l : Launch} {e : Env} {s : State} {m : MethodId} {args : Array Value} {below : List Frame} {meth : Method} {c : Code} {D : va_G} {A : Nat → Prop} {ad : Nat → Nat} {cy : Nat → ClassId} (hC : zC p m c cX3_drawText 7 s args wzX3_drawText RX3 meth none) {k21 : zSt → Int32 → Int32 → Int32 → Int32 → Option (zSt)} {res : zSt} (hk21 : ∀ (H : Heap) (locs : List Loc) (σ : zSt) (ls : Array Slot) (x1 : Int32) (x2 : Int32) (x3 : Int32) (x4 : Int32), zI st D (tC cy) (wC ad cy σ) A s H locs → lv_has ls 7 [(0, .ref (ad 3)), (1, .int x1), (2, .int x2), (3, .int x3), (4, .int x4)] → k21 σ x1 x2 x3 x4 = some res → W p l e rmX3_drawText s m args below meth c H locs 0 0 (zQu below args s D (tC cy) (wC ad cy) A res) (F0 m 21 ls [])) {H : Heap} {locs : List Loc} {σ : zSt} {ls : Array Slot} {x1 : Int32} {x2 : Int32} {x3 : Int32} {x4 : Int32} (hI : zI st D (tC cy) (wC ad cy σ) A s H locs) (hl : lv_has ls 7 [(0, .ref (ad 3)), (1, .int x1), (2, .int x2), (3, .int x3), (4, .int x4)]) (hf : fX3_drawText_21_body k21 σ x1 x2 x3 x4 = some res) : W p l e rmX3_drawText s m args below meth c H locs 0 0 (zQu below args s D (tC cy) (wC ad cy) A res) (F0 m 21 ls []) := by
  have hx := hC.1
  have hb := hC.2.1
  unfold fX3_drawText_21_body at hf
  refine lv_iload hx hb dX3_drawText_21 (lv_at hl 4 rfl) ?_
  refine lv_bipush (v := 40) hx hb dX3_drawText_23 (by decide) ?_
  refine lv_icmp_ge (tgt := 114) hx hb dX3_drawText_25 (by decide) (fun q => ?_) (fun q => ?_)
  · replace hf := zif_t q hf
    exact z_return hC hI hf dX3_drawText_114
  replace hf := zif_f q hf
  refine lv_aload_n hx hb dX3_drawText_28 rfl (lv_at hl 0 rfl) ?_
  refine lv_aload_n hx hb dX3_drawText_29 rfl (lv_at hl 0 rfl) ?_
  refine z_get hC hI hinX3_drawText_X30 3 (wC_e3 ad cy σ) rfl 0 (by decide) (List.mem_cons_of_mem _ zw4_22) rfl dX3_drawText_30 ?_
  refine lv_iload_n hx hb dX3_drawText_33 rfl (lv_at hl 1 rfl) ?_
  refine lv_bipush (v := 40) hx hb dX3_drawText_34 (by decide) ?_
  refine lv_iload_n hx hb dX3_drawText_36 rfl (lv_at hl 2 rfl) ?_
  refine lv_iconst (v := 3) hx hb dX3_drawText_37 (by decide) ?_
  refine lv_ishr hx hb dX3_drawText_38 ?_
  refine lv_imul hx hb dX3_drawText_39 ?_
  refine lv_iadd hx hb dX3_drawText_40 ?_
  refine lv_iload hx hb dX3_drawText_41 (lv_at hl 4 rfl) ?_
  refine lv_iadd hx hb dX3_drawText_43 ?_
  obtain ⟨σ4, v5, g4, hf⟩ := zbi_use hf
  refine z_callVi (As := [.int ((x1 + (40 * (x2 >>> ((3 : Int32) &&& 31)))) + x4)]) (rest := [.ref (ad 3)]) hC hI (cX9_vramByte_met st l D ad cy σ ((x1 + (40 * (x2 >>> ((3 : Int32) &&& 31)))) + x4) _ g4) (zgV zw36_14 zw36_15 zw36_16 zw2_1 zw36_17) rfl ⟨rfl, rfl⟩ 1 hdX9_vramByte ⟨Nat.le_of_ble_eq_true rfl, Nat.le_of_ble_eq_true rfl⟩ rfl rfl (wC_e2 ad cy σ) rfl hl rfl (Nat.le_of_ble_eq_true rfl) dX3_drawText_44 ⟨Nat.zero_le _, Nat.zero_le _⟩ (fun H locs hI => ?_)
  refine lv_iload_n hx hb dX3_drawText_47 rfl (lv_at hl 2 rfl) ?_
  obtain ⟨σ6, v7, g6, hf⟩ := zbi_use hf
  refine z_callVi (As := [.int v5, .int x2]) (rest := []) hC hI (cX3_patternAt_met st l D ad cy σ4 v5 x2 _ g6) (zgV zw38_3 zw38_4 zw38_5 zw2_5 zw38_6) rfl ⟨rfl, rfl⟩ 2 hdX3_patternAt ⟨Nat.le_of_ble_eq_true rfl, Nat.le_of_ble_eq_true rfl⟩ rfl rfl (wC_e3 ad cy σ4) rfl hl rfl (Nat.le_of_ble_eq_true rfl) dX3_drawText_48 ⟨Nat.zero_le _, Nat.zero_le _⟩ (fun H locs hI => ?_)
  refine lv_istore (lv' := [(5, .int v7), (0, .ref (ad 3)), (1, .int x1), (2, .int x2), (3, .int x3), (4, .int x4)]) hx hb dX3_drawText_51 hl (by decide) rfl (fun ls hl => ?_)
  refine lv_iconst (v := 0) hx hb dX3_drawText_53 (by decide) ?_
  refine lv_istore (lv' := [(6, .int 0), (5, .int v7), (0, .ref (ad 3)), (1, .int x1), (2, .int x2), (3, .int x3), (4, .int x4)]) hx hb dX3_drawText_54 hl (by decide) rfl (fun ls hl => ?_)
  exact blX3_drawText_56 hC hk21 zfuel _ _ _ _ _ _ _ _ _ _ hI (lv_sub hl [2, 3, 4, 5, 6, 1, 0] rfl) hf
theorem blX3_drawText_21 {st : Nat → Nat} {p : Program} {l : Launch} {e : Env} {s : State} {m : MethodId} {args : Array Value} {below : List Frame} {meth : Method} {c : Code} {D : va_G} {A : Nat → Prop} {ad : Nat → Nat} {cy : Nat → ClassId} (hC : zC p m c cX3_drawText 7 s args wzX3_drawText RX3 meth none)  {res : zSt} : ∀ (n : Nat) (H : Heap) (locs : List Loc) (σ : zSt) (ls : Array Slot) (x1 : Int32) (x2 : Int32) (x3 : Int32) (x4 : Int32), zI st D (tC cy) (wC ad cy σ) A s H locs → lv_has ls 7 [(0, .ref (ad 3)), (1, .int x1), (2, .int x2), (3, .int x3), (4, .int x4)] → fX3_drawText_21  n σ x1 x2 x3 x4 = some res → W p l e rmX3_drawText s m args below meth c H locs 0 0 (zQu below args s D (tC cy) (wC ad cy) A res) (F0 m 21 ls []) := by
  intro n
  induction n with
  | zero => intro H locs σ ls x1 x2 x3 x4 hI hl hf; cases hf
  | succ n ih => intro H locs σ ls x1 x2 x3 x4 hI hl hf; exact bX3_drawText_21_body hC ih hI hl hf
set_option maxRecDepth 20000 in
set_option maxHeartbeats 4000000 in
theorem bX3_drawText {st : Nat → Nat} {p : Program} {l : Launch} {e : Env} {s : State} {m : MethodId} {args : Array Value} {below : List Frame} {meth : Method} {c : Code} {D : va_G} {A : Nat → Prop} {ad : Nat → Nat} {cy : Nat → ClassId} (hC : zC p m c cX3_drawText 7 s args wzX3_drawText RX3 meth none)  {res : zSt} {H : Heap} {locs : List Loc} {σ : zSt} {ls : Array Slot} {x1 : Int32} {x2 : Int32} (hI : zI st D (tC cy) (wC ad cy σ) A s H locs) (hl : lv_has ls 7 [(0, .ref (ad 3)), (1, .int x1), (2, .int x2)]) (hf : fX3_drawText  σ x1 x2 = some res) : W p l e rmX3_drawText s m args below meth c H locs 0 0 (zQu below args s D (tC cy) (wC ad cy) A res) (F0 m 0 ls []) := by
  have hx := hC.1
  have hb := hC.2.1
  unfold fX3_drawText at hf
  refine lv_aload_n hx hb dX3_drawText_0 rfl (lv_at hl 0 rfl) ?_
  refine z_get hC hI hinX3_drawText_X30 3 (wC_e3 ad cy σ) rfl 0 (by decide) (List.mem_cons_of_mem _ zw4_22) rfl dX3_drawText_1 ?_
  refine lv_bipush (v := 7) hx hb dX3_drawText_4 (by decide) ?_
  obtain ⟨σ8, v9, g8, hf⟩ := zbi_use hf
  refine z_callVi (As := [.int 7]) (rest := []) hC hI (cX9_held_met st l D ad cy σ 7 _ g8) (zgV zw35_21 zw35_13 zw35_14 zw2_1 zw35_15) rfl ⟨rfl, rfl⟩ 1 hdX9_held ⟨Nat.le_of_ble_eq_true rfl, Nat.le_of_ble_eq_true rfl⟩ rfl rfl (wC_e2 ad cy σ) rfl hl rfl (Nat.le_of_ble_eq_true rfl) dX3_drawText_6 ⟨Nat.zero_le _, Nat.zero_le _⟩ (fun H locs hI => ?_)
  refine lv_istore_n (lv' := [(3, .int v9), (0, .ref (ad 3)), (1, .int x1), (2, .int x2)]) hx hb dX3_drawText_9 rfl hl (by decide) rfl (fun ls hl => ?_)
  refine lv_aload_n hx hb dX3_drawText_10 rfl (lv_at hl 1 rfl) ?_
  refine z_get hC hI hinX3_drawText_X30 3 (wC_e3 ad cy σ8) rfl 4 (by decide) (List.mem_cons_of_mem _ zw4_19) rfl dX3_drawText_11 ?_
  refine lv_iconst (v := 0) hx hb dX3_drawText_14 (by decide) ?_
  obtain ⟨σ10, g10, hf⟩ := zbu_use hf
  refine z_callSu (As := [.ref (ad 27), .int 0]) (rest := []) hC hI (cJ7_fill_53178_k27_met st l D ad cy σ8 0 _ g10) (zgS zw36_2 zw5_12 zw5_13 zw5_14) rfl ⟨rfl, rfl⟩ 2 hdJ7_fill_53178_k27 ⟨Nat.le_of_ble_eq_true rfl, Nat.le_of_ble_eq_true rfl⟩ rfl hl rfl (Nat.le_of_ble_eq_true rfl) dX3_drawText_15 ⟨Nat.zero_le _, Nat.zero_le _⟩ (fun H locs hI => ?_)
  refine lv_iconst (v := 0) hx hb dX3_drawText_18 (by decide) ?_
  refine lv_istore (lv' := [(4, .int 0), (3, .int v9), (0, .ref (ad 3)), (1, .int x1), (2, .int x2)]) hx hb dX3_drawText_19 hl (by decide) rfl (fun ls hl => ?_)
  exact blX3_drawText_21 hC  zfuel _ _ _ _ _ _ _ _ hI (lv_sub hl [2, 3, 4, 1, 0] rfl) hf
set_option maxRecDepth 20000 in
theorem cX3_drawText_met (st : Nat → Nat) (l : Launch) (D : va_G) (ad : Nat → Nat) (cy : Nat → ClassId) (σ : zSt) (x1 : Int32) (x2 : Int32) (res : zSt) (hf : fX3_drawText σ x1 x2 = some res) (sz : Nat) : zMu st l yX3_drawText wzX3_drawText rmX3_drawText [.ref (ad 3), .int x1, .int x2] D (tC cy) (wC ad cy) sz σ res :=
  zMu.of (cc := cX3_drawText) (maxL := 7) (ret := none) (by decide) rfl (Nat.le_of_ble_eq_true rfl) (fun p e s m args below meth c hC A hI ls hl => bX3_drawText hC hI hl hf)
theorem hdX3_drawText : yX3_drawText.cls = RX3 ∧ yX3_drawText.cls ≠ "java/lang/invoke/MethodHandle" ∧ yX3_drawText.cls ≠ "java/lang/invoke/VarHandle" ∧ (parseMethodDescriptor yX3_drawText.desc).map (fun d => d.parameters.length) = some 2 := by decide +kernel
noncomputable def rmX3_drawPattern : Room := { frames := 0, cells := 0, slots := 0, locals := 0 }
noncomputable def wzX3_drawPattern : List Cond := .code yX3_drawPattern cX3_drawPattern 5 none :: wsL_law
theorem hinX3_drawPattern_X30 : ∀ w ∈ wsX30, w ∈ wzX3_drawPattern := fun w h => List.mem_cons_of_mem _ (inlX3 w h)
noncomputable def fX3_drawPattern_57  (σ : zSt)  : Option (zSt) :=
  some σ
noncomputable def fX3_drawPattern_50 (k3 : zSt → Int32 → Int32 → Int32 → Int32 → Option (zSt)) (σ : zSt) (x1 : Int32) (x2 : Int32) (x3 : Int32) (x4 : Int32) (s0 : Int32) (s1 : Int32) : Option (zSt) :=
  zck (zin s1 256) (zbv (zsi σ 27 (s1.toNatClampNeg) s0) (fun σ1 =>
  zbv (x4 + 1) (fun v2 =>
  k3 σ1 x1 x2 x3 v2)))
noncomputable def fX3_drawPattern_3_body (k3 : zSt → Int32 → Int32 → Int32 → Int32 → Option (zSt)) (σ : zSt) (x1 : Int32) (x2 : Int32) (x3 : Int32) (x4 : Int32) : Option (zSt) :=
  if 8 ≤ x4 then fX3_drawPattern_57 σ else
  if 256 ≤ (x1 + x4) then fX3_drawPattern_57 σ else
  if ((x2 >>> ((7 - x4) &&& 31)) &&& 1) = 0 then fX3_drawPattern_50 k3 σ x1 x2 x3 x4 (x3 &&& 15) (x1 + x4) else
  fX3_drawPattern_50 k3 σ x1 x2 x3 x4 (x3 >>> ((4 : Int32) &&& 31)) (x1 + x4)
noncomputable def fX3_drawPattern_3  : Nat → zSt → Int32 → Int32 → Int32 → Int32 → Option (zSt)
  | 0, _, _, _, _, _ => none
  | n + 1, σ, x1, x2, x3, x4 => fX3_drawPattern_3_body (fX3_drawPattern_3  n) σ x1 x2 x3 x4
noncomputable def fX3_drawPattern  (σ : zSt) (x1 : Int32) (x2 : Int32) (x3 : Int32) : Option (zSt) :=
  fX3_drawPattern_3 zfuel σ x1 x2 x3 0
set_option maxRecDepth 20000 in
set_option maxHeartbeats 4000000 in
theorem bX3_drawPattern_57 {st : Nat → Nat} {p : Program} {l : Launch} {e : Env} {s : State} {m : MethodId} {args : Array Value} {below : List Frame} {meth : Method} {c : Code} {D : va_G} {A : Nat → Prop} {ad : Nat → Nat} {cy : Nat → ClassId} (hC : zC p m c cX3_drawPattern 5 s args wzX3_drawPattern RX3 meth none)  {res : zSt} {H : Heap} {locs : List Loc} {σ : zSt} {ls : Array Slot}  (hI : zI st D (tC cy) (wC ad cy σ) A s H locs) (hl : lv_has ls 5 []) (hf : fX3_drawPattern_57  σ  = some res) : W p l e rmX3_drawPattern s m args below meth c H locs 0 0 (zQu below args s D (tC cy) (wC ad cy) A res) (F0 m 57 ls []) := by
  have hx := hC.1
  have hb := hC.2.1
  unfold fX3_drawPattern_57 at hf
  exact z_return hC hI hf dX3_drawPattern_57
set_option maxRecDepth 20000 in
set_option maxHeartbeats 4000000 in
theorem bX3_drawPattern_50 {st : Nat → Nat} {p : Program} {l : Launch} {e : Env} {s : State} {m : MethodId} {args : Array Value} {below : List Frame} {meth : Method} {c : Code} {D : va_G} {A : Nat → Prop} {ad : Nat → Nat} {cy : Nat → ClassId} (hC : zC p m c cX3_drawPattern 5 s args wzX3_drawPattern RX3 meth none) {k3 : zSt → Int32 → Int32 → Int32 → Int32 → Option (zSt)} {res : zSt} (hk3 : ∀ (H : Heap) (locs : List Loc) (σ : zSt) (ls : Array Slot) (x1 : Int32) (x2 : Int32) (x3 : Int32) (x4 : Int32), zI st D (tC cy) (wC ad cy σ) A s H locs → lv_has ls 5 [(0, .ref (ad 3)), (1, .int x1), (2, .int x2), (3, .int x3), (4, .int x4)] → k3 σ x1 x2 x3 x4 = some res → W p l e rmX3_drawPattern s m args below meth c H locs 0 0 (zQu below args s D (tC cy) (wC ad cy) A res) (F0 m 3 ls [])) {H : Heap} {locs : List Loc} {σ : zSt} {ls : Array Slot} {x1 : Int32} {x2 : Int32} {x3 : Int32} {x4 : Int32} {s0 : Int32} {s1 : Int32} (hI : zI st D (tC cy) (wC ad cy σ) A s H locs) (hl : lv_has ls 5 [(0, .ref (ad 3)), (1, .int x1), (2, .int x2), (3, .int x3), (4, .int x4)]) (hf : fX3_drawPattern_50 k3 σ x1 x2 x3 x4 s0 s1 = some res) : W p l e rmX3_drawPattern s m args below meth c H locs 0 0 (zQu below args s D (tC cy) (wC ad cy) A res) (F0 m 50 ls [.int s0, .int s1, .ref (ad 27)]) := by
  have hx := hC.1
  have hb := hC.2.1
  unfold fX3_drawPattern_50 at hf
  obtain ⟨q, hf⟩ := zck_use hf
  obtain ⟨σ1, eσ1⟩ : ∃ z, z = zsi σ 27 (s1.toNatClampNeg) s0 := ⟨_, rfl⟩
  replace hf := zbv_use eσ1 hf
  refine z_iast hC hI 27 14 (wC_e27 ad cy σ) (tC_t27 cy) q ((wC_s27 ad cy σ _ _).trans (congrArg (wC ad cy) eσ1.symm)) dX3_drawPattern_50 (fun H locs hI => ?_)
  obtain ⟨v2, ev2⟩ : ∃ z : Int32, z = x4 + 1 := ⟨_, rfl⟩
  replace hf := zbv_use ev2 hf
  refine lv_iinc (v := v2) (lv' := [(4, .int v2), (0, .ref (ad 3)), (1, .int x1), (2, .int x2), (3, .int x3)]) hx hb dX3_drawPattern_51 hl (k := 4) rfl (by rw [ev2]; rfl) (by decide) rfl (fun ls hl => ?_)
  refine lv_goto (tgt := 3) hx hb dX3_drawPattern_54 (by decide) ?_
  exact hk3 _ _ _ _ _ _ _ _ hI (lv_sub hl [1, 2, 3, 4, 0] rfl) hf
set_option maxRecDepth 20000 in
set_option maxHeartbeats 4000000 in
theorem bX3_drawPattern_3_body {st : Nat → Nat} {p : Program} {l : Launch} {e : Env} {s : State} {m : MethodId} {args : Array Value} {below : List Frame} {meth : Method} {c : Code} {D : va_G} {A : Nat → Prop} {ad : Nat → Nat} {cy : Nat → ClassId} (hC : zC p m c cX3_drawPattern 5 s args wzX3_drawPattern RX3 meth none) {k3 : zSt → Int32 → Int32 → Int32 → Int32 → Option (zSt)} {res : zSt} (hk3 : ∀ (H : Heap) (locs : List Loc) (σ : zSt) (ls : Array Slot) (x1 : Int32) (x2 : Int32) (x3 : Int32) (x4 : Int32), zI st D (tC cy) (wC ad cy σ) A s H locs → lv_has ls 5 [(0, .ref (ad 3)), (1, .int x1), (2, .int x2), (3, .int x3), (4, .int x4)] → k3 σ x1 x2 x3 x4 = some res → W p l e rmX3_drawPattern s m args below meth c H locs 0 0 (zQu below args s D (tC cy) (wC ad cy) A res) (F0 m 3 ls [])) {H : Heap} {locs : List Loc} {σ : zSt} {ls : Array Slot} {x1 : Int32} {x2 : Int32} {x3 : Int32} {x4 : Int32} (hI : zI st D (tC cy) (wC ad cy σ) A s H locs) (hl : lv_has ls 5 [(0, .ref (ad 3)), (1, .int x1), (2, .int x2), (3, .int x3), (4, .int x4)]) (hf : fX3_drawPattern_3_body k3 σ x1 x2 x3 x4 = some res) : W p l e rmX3_drawPattern s m args below meth c H locs 0 0 (zQu below args s D (tC cy) (wC ad cy) A res) (F0 m 3 ls []) := by
  have hx := hC.1
  have hb := hC.2.1
  unfold fX3_drawPattern_3_body at hf
  refine lv_iload hx hb dX3_drawPattern_3 (lv_at hl 4 rfl) ?_
  refine lv_bipush (v := 8) hx hb dX3_drawPattern_5 (by decide) ?_
  refine lv_icmp_ge (tgt := 57) hx hb dX3_drawPattern_7 (by decide) (fun q => ?_) (fun q => ?_)
  · replace hf := zif_t q hf
    exact bX3_drawPattern_57 hC  hI (lv_sub hl [] rfl) hf
  replace hf := zif_f q hf
  refine lv_iload_n hx hb dX3_drawPattern_10 rfl (lv_at hl 1 rfl) ?_
  refine lv_iload hx hb dX3_drawPattern_11 (lv_at hl 4 rfl) ?_
  refine lv_iadd hx hb dX3_drawPattern_13 ?_
  refine lv_sipush (v := 256) hx hb dX3_drawPattern_14 (by decide) ?_
  refine lv_icmp_ge (tgt := 57) hx hb dX3_drawPattern_17 (by decide) (fun q => ?_) (fun q => ?_)
  · replace hf := zif_t q hf
    exact bX3_drawPattern_57 hC  hI (lv_sub hl [] rfl) hf
  replace hf := zif_f q hf
  refine lv_aload_n hx hb dX3_drawPattern_20 rfl (lv_at hl 0 rfl) ?_
  refine z_get hC hI hinX3_drawPattern_X30 3 (wC_e3 ad cy σ) rfl 4 (by decide) (List.mem_cons_of_mem _ zw4_19) rfl dX3_drawPattern_21 ?_
  refine lv_iload_n hx hb dX3_drawPattern_24 rfl (lv_at hl 1 rfl) ?_
  refine lv_iload hx hb dX3_drawPattern_25 (lv_at hl 4 rfl) ?_
  refine lv_iadd hx hb dX3_drawPattern_27 ?_
  refine lv_iload_n hx hb dX3_drawPattern_28 rfl (lv_at hl 2 rfl) ?_
  refine lv_bipush (v := 7) hx hb dX3_drawPattern_29 (by decide) ?_
  refine lv_iload hx hb dX3_drawPattern_31 (lv_at hl 4 rfl) ?_
  refine lv_isub hx hb dX3_drawPattern_33 ?_
  refine lv_ishr hx hb dX3_drawPattern_34 ?_
  refine lv_iconst (v := 1) hx hb dX3_drawPattern_35 (by decide) ?_
  refine lv_iand hx hb dX3_drawPattern_36 ?_
  refine lv_if_eq (tgt := 46) hx hb dX3_drawPattern_37 (by decide) (fun q => ?_) (fun q => ?_)
  · replace hf := zif_t q hf
    refine lv_iload_n hx hb dX3_drawPattern_46 rfl (lv_at hl 3 rfl) ?_
    refine lv_bipush (v := 15) hx hb dX3_drawPattern_47 (by decide) ?_
    refine lv_iand hx hb dX3_drawPattern_49 ?_
    exact bX3_drawPattern_50 hC hk3 hI hl hf
  replace hf := zif_f q hf
  refine lv_iload_n hx hb dX3_drawPattern_40 rfl (lv_at hl 3 rfl) ?_
  refine lv_iconst (v := 4) hx hb dX3_drawPattern_41 (by decide) ?_
  refine lv_ishr hx hb dX3_drawPattern_42 ?_
  refine lv_goto (tgt := 50) hx hb dX3_drawPattern_43 (by decide) ?_
  exact bX3_drawPattern_50 hC hk3 hI hl hf
theorem blX3_drawPattern_3 {st : Nat → Nat} {p : Program} {l : Launch} {e : Env} {s : State} {m : MethodId} {args : Array Value} {below : List Frame} {meth : Method} {c : Code} {D : va_G} {A : Nat → Prop} {ad : Nat → Nat} {cy : Nat → ClassId} (hC : zC p m c cX3_drawPattern 5 s args wzX3_drawPattern RX3 meth none)  {res : zSt} : ∀ (n : Nat) (H : Heap) (locs : List Loc) (σ : zSt) (ls : Array Slot) (x1 : Int32) (x2 : Int32) (x3 : Int32) (x4 : Int32), zI st D (tC cy) (wC ad cy σ) A s H locs → lv_has ls 5 [(0, .ref (ad 3)), (1, .int x1), (2, .int x2), (3, .int x3), (4, .int x4)] → fX3_drawPattern_3  n σ x1 x2 x3 x4 = some res → W p l e rmX3_drawPattern s m args below meth c H locs 0 0 (zQu below args s D (tC cy) (wC ad cy) A res) (F0 m 3 ls []) := by
  intro n
  induction n with
  | zero => intro H locs σ ls x1 x2 x3 x4 hI hl hf; cases hf
  | succ n ih => intro H locs σ ls x1 x2 x3 x4 hI hl hf; exact bX3_drawPattern_3_body hC ih hI hl hf
set_option maxRecDepth 20000 in
set_option maxHeartbeats 4000000 in
theorem bX3_drawPattern {st : Nat → Nat} {p : Program} {l : Launch} {e : Env} {s : State} {m : MethodId} {args : Array Value} {below : List Frame} {meth : Method} {c : Code} {D : va_G} {A : Nat → Prop} {ad : Nat → Nat} {cy : Nat → ClassId} (hC : zC p m c cX3_drawPattern 5 s args wzX3_drawPattern RX3 meth none)  {res : zSt} {H : Heap} {locs : List Loc} {σ : zSt} {ls : Array Slot} {x1 : Int32} {x2 : Int32} {x3 : Int32} (hI : zI st D (tC cy) (wC ad cy σ) A s H locs) (hl : lv_has ls 5 [(0, .ref (ad 3)), (1, .int x1), (2, .int x2), (3, .int x3)]) (hf : fX3_drawPattern  σ x1 x2 x3 = some res) : W p l e rmX3_drawPattern s m args below meth c H locs 0 0 (zQu below args s D (tC cy) (wC ad cy) A res) (F0 m 0 ls []) := by
  have hx := hC.1
  have hb := hC.2.1
  unfold fX3_drawPattern at hf
  refine lv_iconst (v := 0) hx hb dX3_drawPattern_0 (by decide) ?_
  refine lv_istore (lv' := [(4, .int 0), (0, .ref (ad 3)), (1, .int x1), (2, .int x2), (3, .int x3)]) hx hb dX3_drawPattern_1 hl (by decide) rfl (fun ls hl => ?_)
  exact blX3_drawPattern_3 hC  zfuel _ _ _ _ _ _ _ _ hI (lv_sub hl [1, 2, 3, 4, 0] rfl) hf
set_option maxRecDepth 20000 in
theorem cX3_drawPattern_met (st : Nat → Nat) (l : Launch) (D : va_G) (ad : Nat → Nat) (cy : Nat → ClassId) (σ : zSt) (x1 : Int32) (x2 : Int32) (x3 : Int32) (res : zSt) (hf : fX3_drawPattern σ x1 x2 x3 = some res) (sz : Nat) : zMu st l yX3_drawPattern wzX3_drawPattern rmX3_drawPattern [.ref (ad 3), .int x1, .int x2, .int x3] D (tC cy) (wC ad cy) sz σ res :=
  zMu.of (cc := cX3_drawPattern) (maxL := 5) (ret := none) (by decide) rfl (Nat.le_of_ble_eq_true rfl) (fun p e s m args below meth c hC A hI ls hl => bX3_drawPattern hC hI hl hf)
theorem hdX3_drawPattern : yX3_drawPattern.cls = RX3 ∧ yX3_drawPattern.cls ≠ "java/lang/invoke/MethodHandle" ∧ yX3_drawPattern.cls ≠ "java/lang/invoke/VarHandle" ∧ (parseMethodDescriptor yX3_drawPattern.desc).map (fun d => d.parameters.length) = some 3 := by decide +kernel
noncomputable def rmX3_drawBlocks : Room := { frames := 1, cells := 0, slots := 0, locals := 24 }
noncomputable def wzX3_drawBlocks : List Cond := .code yX3_drawBlocks cX3_drawBlocks 5 none :: wsL_law
theorem hinX3_drawBlocks_X30 : ∀ w ∈ wsX30, w ∈ wzX3_drawBlocks := fun w h => List.mem_cons_of_mem _ (inlX3 w h)
noncomputable def fX3_drawBlocks  (σ : zSt) (x1 : Int32) (x2 : Int32) (x3 : Int32) : Option (zSt) :=
  zbi (fX9_held σ 4) (fun σ1 v2 =>
  zbv ((((2048 * (v2 &&& 7)) + (8 * x2)) + (2 * ((x3 >>> ((3 : Int32) &&& 31)) &&& 3))) + ((x3 >>> ((2 : Int32) &&& 31)) &&& 1)) (fun v3 =>
  zbi (fX9_vramByte σ1 v3) (fun σ4 v5 =>
  zbu (fX3_drawPattern σ4 x1 240 v5) (fun σ6 =>
  some σ6))))
set_option maxRecDepth 20000 in
set_option maxHeartbeats 4000000 in
theorem bX3_drawBlocks {st : Nat → Nat} {p : Program} {l : Launch} {e : Env} {s : State} {m : MethodId} {args : Array Value} {below : List Frame} {meth : Method} {c : Code} {D : va_G} {A : Nat → Prop} {ad : Nat → Nat} {cy : Nat → ClassId} (hC : zC p m c cX3_drawBlocks 5 s args wzX3_drawBlocks RX3 meth none)  {res : zSt} {H : Heap} {locs : List Loc} {σ : zSt} {ls : Array Slot} {x1 : Int32} {x2 : Int32} {x3 : Int32} (hI : zI st D (tC cy) (wC ad cy σ) A s H locs) (hl : lv_has ls 5 [(0, .ref (ad 3)), (1, .int x1), (2, .int x2), (3, .int x3)]) (hf : fX3_drawBlocks  σ x1 x2 x3 = some res) : W p l e rmX3_drawBlocks s m args below meth c H locs 0 0 (zQu below args s D (tC cy) (wC ad cy) A res) (F0 m 0 ls []) := by
  have hx := hC.1
  have hb := hC.2.1
  unfold fX3_drawBlocks at hf
  refine lv_sipush (v := 2048) hx hb dX3_drawBlocks_0 (by decide) ?_
  refine lv_aload_n hx hb dX3_drawBlocks_3 rfl (lv_at hl 0 rfl) ?_
  refine z_get hC hI hinX3_drawBlocks_X30 3 (wC_e3 ad cy σ) rfl 0 (by decide) (List.mem_cons_of_mem _ zw4_22) rfl dX3_drawBlocks_4 ?_
  refine lv_iconst (v := 4) hx hb dX3_drawBlocks_7 (by decide) ?_
  obtain ⟨σ1, v2, g1, hf⟩ := zbi_use hf
  refine z_callVi (As := [.int 4]) (rest := [.int 2048]) hC hI (cX9_held_met st l D ad cy σ 4 _ g1) (zgV zw35_21 zw35_13 zw35_14 zw2_1 zw35_15) rfl ⟨rfl, rfl⟩ 1 hdX9_held ⟨Nat.le_of_ble_eq_true rfl, Nat.le_of_ble_eq_true rfl⟩ rfl rfl (wC_e2 ad cy σ) rfl hl rfl (Nat.le_of_ble_eq_true rfl) dX3_drawBlocks_8 ⟨Nat.zero_le _, Nat.zero_le _⟩ (fun H locs hI => ?_)
  refine lv_bipush (v := 7) hx hb dX3_drawBlocks_11 (by decide) ?_
  refine lv_iand hx hb dX3_drawBlocks_13 ?_
  refine lv_imul hx hb dX3_drawBlocks_14 ?_
  refine lv_bipush (v := 8) hx hb dX3_drawBlocks_15 (by decide) ?_
  refine lv_iload_n hx hb dX3_drawBlocks_17 rfl (lv_at hl 2 rfl) ?_
  refine lv_imul hx hb dX3_drawBlocks_18 ?_
  refine lv_iadd hx hb dX3_drawBlocks_19 ?_
  refine lv_iconst (v := 2) hx hb dX3_drawBlocks_20 (by decide) ?_
  refine lv_iload_n hx hb dX3_drawBlocks_21 rfl (lv_at hl 3 rfl) ?_
  refine lv_iconst (v := 3) hx hb dX3_drawBlocks_22 (by decide) ?_
  refine lv_ishr hx hb dX3_drawBlocks_23 ?_
  refine lv_iconst (v := 3) hx hb dX3_drawBlocks_24 (by decide) ?_
  refine lv_iand hx hb dX3_drawBlocks_25 ?_
  refine lv_imul hx hb dX3_drawBlocks_26 ?_
  refine lv_iadd hx hb dX3_drawBlocks_27 ?_
  refine lv_iload_n hx hb dX3_drawBlocks_28 rfl (lv_at hl 3 rfl) ?_
  refine lv_iconst (v := 2) hx hb dX3_drawBlocks_29 (by decide) ?_
  refine lv_ishr hx hb dX3_drawBlocks_30 ?_
  refine lv_iconst (v := 1) hx hb dX3_drawBlocks_31 (by decide) ?_
  refine lv_iand hx hb dX3_drawBlocks_32 ?_
  refine lv_iadd hx hb dX3_drawBlocks_33 ?_
  refine lv_topi (fun v3 ev3 => ?_)
  replace hf := zbv_use ev3 hf
  refine lv_istore (lv' := [(4, .int v3), (0, .ref (ad 3)), (1, .int x1), (2, .int x2), (3, .int x3)]) hx hb dX3_drawBlocks_34 hl (by decide) rfl (fun ls hl => ?_)
  refine lv_aload_n hx hb dX3_drawBlocks_36 rfl (lv_at hl 1 rfl) ?_
  refine lv_iload_n hx hb dX3_drawBlocks_37 rfl (lv_at hl 2 rfl) ?_
  refine lv_sipush (v := 240) hx hb dX3_drawBlocks_38 (by decide) ?_
  refine lv_aload_n hx hb dX3_drawBlocks_41 rfl (lv_at hl 1 rfl) ?_
  refine z_get hC hI hinX3_drawBlocks_X30 3 (wC_e3 ad cy σ1) rfl 0 (by decide) (List.mem_cons_of_mem _ zw4_22) rfl dX3_drawBlocks_42 ?_
  refine lv_iload hx hb dX3_drawBlocks_45 (lv_at hl 0 rfl) ?_
  obtain ⟨σ4, v5, g4, hf⟩ := zbi_use hf
  refine z_callVi (As := [.int v3]) (rest := [.int 240, .int x1, .ref (ad 3)]) hC hI (cX9_vramByte_met st l D ad cy σ1 v3 _ g4) (zgV zw36_14 zw36_15 zw36_16 zw2_1 zw36_17) rfl ⟨rfl, rfl⟩ 1 hdX9_vramByte ⟨Nat.le_of_ble_eq_true rfl, Nat.le_of_ble_eq_true rfl⟩ rfl rfl (wC_e2 ad cy σ1) rfl hl rfl (Nat.le_of_ble_eq_true rfl) dX3_drawBlocks_47 ⟨Nat.zero_le _, Nat.zero_le _⟩ (fun H locs hI => ?_)
  obtain ⟨σ6, g6, hf⟩ := zbu_use hf
  refine z_callVu (As := [.int x1, .int 240, .int v5]) (rest := []) hC hI (cX3_drawPattern_met st l D ad cy σ4 x1 240 v5 _ g6) (zgV zw38_7 zw38_8 zw38_9 zw2_5 zw38_10) rfl ⟨rfl, rfl⟩ 3 hdX3_drawPattern ⟨Nat.le_of_ble_eq_true rfl, Nat.le_of_ble_eq_true rfl⟩ rfl rfl (wC_e3 ad cy σ4) rfl hl rfl (Nat.le_of_ble_eq_true rfl) dX3_drawBlocks_50 ⟨Nat.zero_le _, Nat.zero_le _⟩ (fun H locs hI => ?_)
  exact z_return hC hI hf dX3_drawBlocks_53
set_option maxRecDepth 20000 in
theorem cX3_drawBlocks_met (st : Nat → Nat) (l : Launch) (D : va_G) (ad : Nat → Nat) (cy : Nat → ClassId) (σ : zSt) (x1 : Int32) (x2 : Int32) (x3 : Int32) (res : zSt) (hf : fX3_drawBlocks σ x1 x2 x3 = some res) (sz : Nat) : zMu st l yX3_drawBlocks wzX3_drawBlocks rmX3_drawBlocks [.ref (ad 3), .int x1, .int x2, .int x3] D (tC cy) (wC ad cy) sz σ res :=
  zMu.of (cc := cX3_drawBlocks) (maxL := 5) (ret := none) (by decide) rfl (Nat.le_of_ble_eq_true rfl) (fun p e s m args below meth c hC A hI ls hl => bX3_drawBlocks hC hI hl hf)
theorem hdX3_drawBlocks : yX3_drawBlocks.cls = RX3 ∧ yX3_drawBlocks.cls ≠ "java/lang/invoke/MethodHandle" ∧ yX3_drawBlocks.cls ≠ "java/lang/invoke/VarHandle" ∧ (parseMethodDescriptor yX3_drawBlocks.desc).map (fun d => d.parameters.length) = some 3 := by decide +kernel
noncomputable def rmX3_drawThird : Room := { frames := 1, cells := 0, slots := 0, locals := 24 }
noncomputable def wzX3_drawThird : List Cond := .code yX3_drawThird cX3_drawThird 9 none :: wsL_law
theorem hinX3_drawThird_X30 : ∀ w ∈ wsX30, w ∈ wzX3_drawThird := fun w h => List.mem_cons_of_mem _ (inlX3 w h)
noncomputable def fX3_drawThird  (σ : zSt) (x1 : Int32) (x2 : Int32) (x3 : Int32) : Option (zSt) :=
  zbi (fX9_held σ 3) (fun σ1 v2 =>
  zbi (fX9_held σ1 4) (fun σ3 v4 =>
  zbv (x2 &&& ((256 * (v4 &&& 3)) + 255)) (fun v5 =>
  zbv (x2 &&& ((8 * (v2 &&& 127)) + 7)) (fun v6 =>
  zbi (fX9_vramByte σ3 (((8192 * ((v4 >>> ((2 : Int32) &&& 31)) &&& 1)) + (8 * v5)) + x3)) (fun σ7 v8 =>
  zbi (fX9_vramByte σ7 (((8192 * (v2 >>> ((7 : Int32) &&& 31))) + (8 * v6)) + x3)) (fun σ9 v10 =>
  zbu (fX3_drawPattern σ9 x1 v8 v10) (fun σ11 =>
  some σ11)))))))
set_option maxRecDepth 20000 in
set_option maxHeartbeats 4000000 in
theorem bX3_drawThird {st : Nat → Nat} {p : Program} {l : Launch} {e : Env} {s : State} {m : MethodId} {args : Array Value} {below : List Frame} {meth : Method} {c : Code} {D : va_G} {A : Nat → Prop} {ad : Nat → Nat} {cy : Nat → ClassId} (hC : zC p m c cX3_drawThird 9 s args wzX3_drawThird RX3 meth none)  {res : zSt} {H : Heap} {locs : List Loc} {σ : zSt} {ls : Array Slot} {x1 : Int32} {x2 : Int32} {x3 : Int32} (hI : zI st D (tC cy) (wC ad cy σ) A s H locs) (hl : lv_has ls 9 [(0, .ref (ad 3)), (1, .int x1), (2, .int x2), (3, .int x3)]) (hf : fX3_drawThird  σ x1 x2 x3 = some res) : W p l e rmX3_drawThird s m args below meth c H locs 0 0 (zQu below args s D (tC cy) (wC ad cy) A res) (F0 m 0 ls []) := by
  have hx := hC.1
  have hb := hC.2.1
  unfold fX3_drawThird at hf
  refine lv_aload_n hx hb dX3_drawThird_0 rfl (lv_at hl 0 rfl) ?_
  refine z_get hC hI hinX3_drawThird_X30 3 (wC_e3 ad cy σ) rfl 0 (by decide) (List.mem_cons_of_mem _ zw4_22) rfl dX3_drawThird_1 ?_
  refine lv_iconst (v := 3) hx hb dX3_drawThird_4 (by decide) ?_
  obtain ⟨σ1, v2, g1, hf⟩ := zbi_use hf
  refine z_callVi (As := [.int 3]) (rest := []) hC hI (cX9_held_met st l D ad cy σ 3 _ g1) (zgV zw35_21 zw35_13 zw35_14 zw2_1 zw35_15) rfl ⟨rfl, rfl⟩ 1 hdX9_held ⟨Nat.le_of_ble_eq_true rfl, Nat.le_of_ble_eq_true rfl⟩ rfl rfl (wC_e2 ad cy σ) rfl hl rfl (Nat.le_of_ble_eq_true rfl) dX3_drawThird_5 ⟨Nat.zero_le _, Nat.zero_le _⟩ (fun H locs hI => ?_)
  refine lv_istore (lv' := [(4, .int v2), (0, .ref (ad 3)), (1, .int x1), (2, .int x2), (3, .int x3)]) hx hb dX3_drawThird_8 hl (by decide) rfl (fun ls hl => ?_)
  refine lv_aload_n hx hb dX3_drawThird_10 rfl (lv_at hl 1 rfl) ?_
  refine z_get hC hI hinX3_drawThird_X30 3 (wC_e3 ad cy σ1) rfl 0 (by decide) (List.mem_cons_of_mem _ zw4_22) rfl dX3_drawThird_11 ?_
  refine lv_iconst (v := 4) hx hb dX3_drawThird_14 (by decide) ?_
  obtain ⟨σ3, v4, g3, hf⟩ := zbi_use hf
  refine z_callVi (As := [.int 4]) (rest := []) hC hI (cX9_held_met st l D ad cy σ1 4 _ g3) (zgV zw35_21 zw35_13 zw35_14 zw2_1 zw35_15) rfl ⟨rfl, rfl⟩ 1 hdX9_held ⟨Nat.le_of_ble_eq_true rfl, Nat.le_of_ble_eq_true rfl⟩ rfl rfl (wC_e2 ad cy σ1) rfl hl rfl (Nat.le_of_ble_eq_true rfl) dX3_drawThird_15 ⟨Nat.zero_le _, Nat.zero_le _⟩ (fun H locs hI => ?_)
  refine lv_istore (lv' := [(5, .int v4), (4, .int v2), (0, .ref (ad 3)), (1, .int x1), (2, .int x2), (3, .int x3)]) hx hb dX3_drawThird_18 hl (by decide) rfl (fun ls hl => ?_)
  refine lv_iload_n hx hb dX3_drawThird_20 rfl (lv_at hl 4 rfl) ?_
  refine lv_sipush (v := 256) hx hb dX3_drawThird_21 (by decide) ?_
  refine lv_iload hx hb dX3_drawThird_24 (lv_at hl 0 rfl) ?_
  refine lv_iconst (v := 3) hx hb dX3_drawThird_26 (by decide) ?_
  refine lv_iand hx hb dX3_drawThird_27 ?_
  refine lv_imul hx hb dX3_drawThird_28 ?_
  refine lv_sipush (v := 255) hx hb dX3_drawThird_29 (by decide) ?_
  refine lv_iadd hx hb dX3_drawThird_32 ?_
  refine lv_iand hx hb dX3_drawThird_33 ?_
  refine lv_topi (fun v5 ev5 => ?_)
  replace hf := zbv_use ev5 hf
  refine lv_istore (lv' := [(6, .int v5), (5, .int v4), (4, .int v2), (0, .ref (ad 3)), (1, .int x1), (2, .int x2), (3, .int x3)]) hx hb dX3_drawThird_34 hl (by decide) rfl (fun ls hl => ?_)
  refine lv_iload_n hx hb dX3_drawThird_36 rfl (lv_at hl 5 rfl) ?_
  refine lv_bipush (v := 8) hx hb dX3_drawThird_37 (by decide) ?_
  refine lv_iload hx hb dX3_drawThird_39 (lv_at hl 2 rfl) ?_
  refine lv_bipush (v := 127) hx hb dX3_drawThird_41 (by decide) ?_
  refine lv_iand hx hb dX3_drawThird_43 ?_
  refine lv_imul hx hb dX3_drawThird_44 ?_
  refine lv_bipush (v := 7) hx hb dX3_drawThird_45 (by decide) ?_
  refine lv_iadd hx hb dX3_drawThird_47 ?_
  refine lv_iand hx hb dX3_drawThird_48 ?_
  refine lv_topi (fun v6 ev6 => ?_)
  replace hf := zbv_use ev6 hf
  refine lv_istore (lv' := [(7, .int v6), (6, .int v5), (5, .int v4), (4, .int v2), (0, .ref (ad 3)), (1, .int x1), (2, .int x2), (3, .int x3)]) hx hb dX3_drawThird_49 hl (by decide) rfl (fun ls hl => ?_)
  refine lv_aload_n hx hb dX3_drawThird_51 rfl (lv_at hl 4 rfl) ?_
  refine z_get hC hI hinX3_drawThird_X30 3 (wC_e3 ad cy σ3) rfl 0 (by decide) (List.mem_cons_of_mem _ zw4_22) rfl dX3_drawThird_52 ?_
  refine lv_sipush (v := 8192) hx hb dX3_drawThird_55 (by decide) ?_
  refine lv_iload hx hb dX3_drawThird_58 (lv_at hl 2 rfl) ?_
  refine lv_iconst (v := 2) hx hb dX3_drawThird_60 (by decide) ?_
  refine lv_ishr hx hb dX3_drawThird_61 ?_
  refine lv_iconst (v := 1) hx hb dX3_drawThird_62 (by decide) ?_
  refine lv_iand hx hb dX3_drawThird_63 ?_
  refine lv_imul hx hb dX3_drawThird_64 ?_
  refine lv_bipush (v := 8) hx hb dX3_drawThird_65 (by decide) ?_
  refine lv_iload hx hb dX3_drawThird_67 (lv_at hl 1 rfl) ?_
  refine lv_imul hx hb dX3_drawThird_69 ?_
  refine lv_iadd hx hb dX3_drawThird_70 ?_
  refine lv_iload_n hx hb dX3_drawThird_71 rfl (lv_at hl 7 rfl) ?_
  refine lv_iadd hx hb dX3_drawThird_72 ?_
  obtain ⟨σ7, v8, g7, hf⟩ := zbi_use hf
  refine z_callVi (As := [.int (((8192 * ((v4 >>> ((2 : Int32) &&& 31)) &&& 1)) + (8 * v5)) + x3)]) (rest := []) hC hI (cX9_vramByte_met st l D ad cy σ3 (((8192 * ((v4 >>> ((2 : Int32) &&& 31)) &&& 1)) + (8 * v5)) + x3) _ g7) (zgV zw36_14 zw36_15 zw36_16 zw2_1 zw36_17) rfl ⟨rfl, rfl⟩ 1 hdX9_vramByte ⟨Nat.le_of_ble_eq_true rfl, Nat.le_of_ble_eq_true rfl⟩ rfl rfl (wC_e2 ad cy σ3) rfl hl rfl (Nat.le_of_ble_eq_true rfl) dX3_drawThird_73 ⟨Nat.zero_le _, Nat.zero_le _⟩ (fun H locs hI => ?_)
  refine lv_istore (lv' := [(8, .int v8), (7, .int v6), (6, .int v5), (5, .int v4), (4, .int v2), (0, .ref (ad 3)), (1, .int x1), (2, .int x2), (3, .int x3)]) hx hb dX3_drawThird_76 hl (by decide) rfl (fun ls hl => ?_)
  refine lv_aload_n hx hb dX3_drawThird_78 rfl (lv_at hl 5 rfl) ?_
  refine lv_iload_n hx hb dX3_drawThird_79 rfl (lv_at hl 6 rfl) ?_
  refine lv_iload hx hb dX3_drawThird_80 (lv_at hl 0 rfl) ?_
  refine lv_aload_n hx hb dX3_drawThird_82 rfl (lv_at hl 5 rfl) ?_
  refine z_get hC hI hinX3_drawThird_X30 3 (wC_e3 ad cy σ7) rfl 0 (by decide) (List.mem_cons_of_mem _ zw4_22) rfl dX3_drawThird_83 ?_
  refine lv_sipush (v := 8192) hx hb dX3_drawThird_86 (by decide) ?_
  refine lv_iload hx hb dX3_drawThird_89 (lv_at hl 4 rfl) ?_
  refine lv_bipush (v := 7) hx hb dX3_drawThird_91 (by decide) ?_
  refine lv_ishr hx hb dX3_drawThird_93 ?_
  refine lv_imul hx hb dX3_drawThird_94 ?_
  refine lv_bipush (v := 8) hx hb dX3_drawThird_95 (by decide) ?_
  refine lv_iload hx hb dX3_drawThird_97 (lv_at hl 1 rfl) ?_
  refine lv_imul hx hb dX3_drawThird_99 ?_
  refine lv_iadd hx hb dX3_drawThird_100 ?_
  refine lv_iload_n hx hb dX3_drawThird_101 rfl (lv_at hl 8 rfl) ?_
  refine lv_iadd hx hb dX3_drawThird_102 ?_
  obtain ⟨σ9, v10, g9, hf⟩ := zbi_use hf
  refine z_callVi (As := [.int (((8192 * (v2 >>> ((7 : Int32) &&& 31))) + (8 * v6)) + x3)]) (rest := [.int v8, .int x1, .ref (ad 3)]) hC hI (cX9_vramByte_met st l D ad cy σ7 (((8192 * (v2 >>> ((7 : Int32) &&& 31))) + (8 * v6)) + x3) _ g9) (zgV zw36_14 zw36_15 zw36_16 zw2_1 zw36_17) rfl ⟨rfl, rfl⟩ 1 hdX9_vramByte ⟨Nat.le_of_ble_eq_true rfl, Nat.le_of_ble_eq_true rfl⟩ rfl rfl (wC_e2 ad cy σ7) rfl hl rfl (Nat.le_of_ble_eq_true rfl) dX3_drawThird_103 ⟨Nat.zero_le _, Nat.zero_le _⟩ (fun H locs hI => ?_)
  obtain ⟨σ11, g11, hf⟩ := zbu_use hf
  refine z_callVu (As := [.int x1, .int v8, .int v10]) (rest := []) hC hI (cX3_drawPattern_met st l D ad cy σ9 x1 v8 v10 _ g11) (zgV zw38_7 zw38_8 zw38_9 zw2_5 zw38_10) rfl ⟨rfl, rfl⟩ 3 hdX3_drawPattern ⟨Nat.le_of_ble_eq_true rfl, Nat.le_of_ble_eq_true rfl⟩ rfl rfl (wC_e3 ad cy σ9) rfl hl rfl (Nat.le_of_ble_eq_true rfl) dX3_drawThird_106 ⟨Nat.zero_le _, Nat.zero_le _⟩ (fun H locs hI => ?_)
  exact z_return hC hI hf dX3_drawThird_109
set_option maxRecDepth 20000 in
theorem cX3_drawThird_met (st : Nat → Nat) (l : Launch) (D : va_G) (ad : Nat → Nat) (cy : Nat → ClassId) (σ : zSt) (x1 : Int32) (x2 : Int32) (x3 : Int32) (res : zSt) (hf : fX3_drawThird σ x1 x2 x3 = some res) (sz : Nat) : zMu st l yX3_drawThird wzX3_drawThird rmX3_drawThird [.ref (ad 3), .int x1, .int x2, .int x3] D (tC cy) (wC ad cy) sz σ res :=
  zMu.of (cc := cX3_drawThird) (maxL := 9) (ret := none) (by decide) rfl (Nat.le_of_ble_eq_true rfl) (fun p e s m args below meth c hC A hI ls hl => bX3_drawThird hC hI hl hf)
theorem hdX3_drawThird : yX3_drawThird.cls = RX3 ∧ yX3_drawThird.cls ≠ "java/lang/invoke/MethodHandle" ∧ yX3_drawThird.cls ≠ "java/lang/invoke/VarHandle" ∧ (parseMethodDescriptor yX3_drawThird.desc).map (fun d => d.parameters.length) = some 3 := by decide +kernel
noncomputable def rmX3_drawOld : Room := { frames := 3, cells := 0, slots := 0, locals := 69 }
noncomputable def wzX3_drawOld : List Cond := .code yX3_drawOld cX3_drawOld 6 none :: wsL_law
theorem hinX3_drawOld_X30 : ∀ w ∈ wsX30, w ∈ wzX3_drawOld := fun w h => List.mem_cons_of_mem _ (inlX3 w h)
noncomputable def fX3_drawOld_165 (k31 : zSt → Int32 → Int32 → Int32 → Int32 → Option (zSt)) (σ : zSt) (x1 : Int32) (x2 : Int32) (x3 : Int32) (x4 : Int32) : Option (zSt) :=
  zbv (x4 + 1) (fun v1 =>
  k31 σ x1 x2 x3 v1)
noncomputable def fX3_drawOld_31_body (k31 : zSt → Int32 → Int32 → Int32 → Int32 → Option (zSt)) (σ : zSt) (x1 : Int32) (x2 : Int32) (x3 : Int32) (x4 : Int32) : Option (zSt) :=
  if 32 ≤ x4 then some σ else
  zbi (fX9_vramByte σ ((x3 + (32 * (x2 >>> ((3 : Int32) &&& 31)))) + x4)) (fun σ2 v3 =>
  if x1 = 0 then zbi (fX3_patternAt σ2 v3 x2) (fun σ4 v5 =>
  zbi (fX9_held σ4 3) (fun σ6 v7 =>
  zbi (fX9_vramByte σ6 ((64 * v7) + (v3 >>> ((3 : Int32) &&& 31)))) (fun σ8 v9 =>
  zbu (fX3_drawPattern σ8 (8 * x4) v5 v9) (fun σ10 =>
  fX3_drawOld_165 k31 σ10 x1 x2 x3 x4)))) else
  if x1 = 2 then zbu (fX3_drawThird σ2 (8 * x4) (v3 + (256 * (x2 >>> ((6 : Int32) &&& 31)))) (x2 &&& 7)) (fun σ11 =>
  fX3_drawOld_165 k31 σ11 x1 x2 x3 x4) else
  zbu (fX3_drawBlocks σ2 (8 * x4) v3 x2) (fun σ12 =>
  fX3_drawOld_165 k31 σ12 x1 x2 x3 x4))
noncomputable def fX3_drawOld_31  : Nat → zSt → Int32 → Int32 → Int32 → Int32 → Option (zSt)
  | 0, _, _, _, _, _ => none
  | n + 1, σ, x1, x2, x3, x4 => fX3_drawOld_31_body (fX3_drawOld_31  n) σ x1 x2 x3 x4
noncomputable def fX3_drawOld  (σ : zSt) (x1 : Int32) (x2 : Int32) : Option (zSt) :=
  zbi (fX9_held σ 2) (fun σ13 v14 =>
  zbv (1024 * (v14 &&& 15)) (fun v15 =>
  if x1 = 1 then zbu (fX3_drawText σ13 v15 x2) (fun σ16 =>
  some σ16) else
  fX3_drawOld_31 zfuel σ13 x1 x2 v15 0))
set_option maxRecDepth 20000 in
set_option maxHeartbeats 4000000 in
theorem bX3_drawOld_165 {st : Nat → Nat} {p : Program} {l : Launch} {e : Env} {s : State} {m : MethodId} {args : Array Value} {below : List Frame} {meth : Method} {c : Code} {D : va_G} {A : Nat → Prop} {ad : Nat → Nat} {cy : Nat → ClassId} (hC : zC p m c cX3_drawOld 6 s args wzX3_drawOld RX3 meth none) {k31 : zSt → Int32 → Int32 → Int32 → Int32 → Option (zSt)} {res : zSt} (hk31 : ∀ (H : Heap) (locs : List Loc) (σ : zSt) (ls : Array Slot) (x1 : Int32) (x2 : Int32) (x3 : Int32) (x4 : Int32), zI st D (tC cy) (wC ad cy σ) A s H locs → lv_has ls 6 [(0, .ref (ad 3)), (1, .int x1), (2, .int x2), (3, .int x3), (4, .int x4)] → k31 σ x1 x2 x3 x4 = some res → W p l e rmX3_drawOld s m args below meth c H locs 0 0 (zQu below args s D (tC cy) (wC ad cy) A res) (F0 m 31 ls [])) {H : Heap} {locs : List Loc} {σ : zSt} {ls : Array Slot} {x1 : Int32} {x2 : Int32} {x3 : Int32} {x4 : Int32} (hI : zI st D (tC cy) (wC ad cy σ) A s H locs) (hl : lv_has ls 6 [(0, .ref (ad 3)), (1, .int x1), (2, .int x2), (3, .int x3), (4, .int x4)]) (hf : fX3_drawOld_165 k31 σ x1 x2 x3 x4 = some res) : W p l e rmX3_drawOld s m args below meth c H locs 0 0 (zQu below args s D (tC cy) (wC ad cy) A res) (F0 m 165 ls []) := by
  have hx := hC.1
  have hb := hC.2.1
  unfold fX3_drawOld_165 at hf
  obtain ⟨v1, ev1⟩ : ∃ z : Int32, z = x4 + 1 := ⟨_, rfl⟩
  replace hf := zbv_use ev1 hf
  refine lv_iinc (v := v1) (lv' := [(4, .int v1), (0, .ref (ad 3)), (1, .int x1), (2, .int x2), (3, .int x3)]) hx hb dX3_drawOld_165 hl (k := 4) rfl (by rw [ev1]; rfl) (by decide) rfl (fun ls hl => ?_)
  refine lv_goto (tgt := 31) hx hb dX3_drawOld_168 (by decide) ?_
  exact hk31 _ _ _ _ _ _ _ _ hI (lv_sub hl [1, 2, 3, 4, 0] rfl) hf
set_option maxRecDepth 20000 in
set_option maxHeartbeats 4000000 in
theorem bX3_drawOld_31_body {st : Nat → Nat} {p : Program} {l : Launch} {e : Env} {s : State} {m : MethodId} {args : Array Value} {below : List Frame} {meth : Method} {c : Code} {D : va_G} {A : Nat → Prop} {ad : Nat → Nat} {cy : Nat → ClassId} (hC : zC p m c cX3_drawOld 6 s args wzX3_drawOld RX3 meth none) {k31 : zSt → Int32 → Int32 → Int32 → Int32 → Option (zSt)} {res : zSt} (hk31 : ∀ (H : Heap) (locs : List Loc) (σ : zSt) (ls : Array Slot) (x1 : Int32) (x2 : Int32) (x3 : Int32) (x4 : Int32), zI st D (tC cy) (wC ad cy σ) A s H locs → lv_has ls 6 [(0, .ref (ad 3)), (1, .int x1), (2, .int x2), (3, .int x3), (4, .int x4)] → k31 σ x1 x2 x3 x4 = some res → W p l e rmX3_drawOld s m args below meth c H locs 0 0 (zQu below args s D (tC cy) (wC ad cy) A res) (F0 m 31 ls [])) {H : Heap} {locs : List Loc} {σ : zSt} {ls : Array Slot} {x1 : Int32} {x2 : Int32} {x3 : Int32} {x4 : Int32} (hI : zI st D (tC cy) (wC ad cy σ) A s H locs) (hl : lv_has ls 6 [(0, .ref (ad 3)), (1, .int x1), (2, .int x2), (3, .int x3), (4, .int x4)]) (hf : fX3_drawOld_31_body k31 σ x1 x2 x3 x4 = some res) : W p l e rmX3_drawOld s m args below meth c H locs 0 0 (zQu below args s D (tC cy) (wC ad cy) A res) (F0 m 31 ls []) := by
  have hx := hC.1
  have hb := hC.2.1
  unfold fX3_drawOld_31_body at hf
  refine lv_iload hx hb dX3_drawOld_31 (lv_at hl 4 rfl) ?_
  refine lv_bipush (v := 32) hx hb dX3_drawOld_33 (by decide) ?_
  refine lv_icmp_ge (tgt := 171) hx hb dX3_drawOld_35 (by decide) (fun q => ?_) (fun q => ?_)
  · replace hf := zif_t q hf
    exact z_return hC hI hf dX3_drawOld_171
  replace hf := zif_f q hf
  refine lv_aload_n hx hb dX3_drawOld_38 rfl (lv_at hl 0 rfl) ?_
  refine z_get hC hI hinX3_drawOld_X30 3 (wC_e3 ad cy σ) rfl 0 (by decide) (List.mem_cons_of_mem _ zw4_22) rfl dX3_drawOld_39 ?_
  refine lv_iload_n hx hb dX3_drawOld_42 rfl (lv_at hl 3 rfl) ?_
  refine lv_bipush (v := 32) hx hb dX3_drawOld_43 (by decide) ?_
  refine lv_iload_n hx hb dX3_drawOld_45 rfl (lv_at hl 2 rfl) ?_
  refine lv_iconst (v := 3) hx hb dX3_drawOld_46 (by decide) ?_
  refine lv_ishr hx hb dX3_drawOld_47 ?_
  refine lv_imul hx hb dX3_drawOld_48 ?_
  refine lv_iadd hx hb dX3_drawOld_49 ?_
  refine lv_iload hx hb dX3_drawOld_50 (lv_at hl 4 rfl) ?_
  refine lv_iadd hx hb dX3_drawOld_52 ?_
  obtain ⟨σ2, v3, g2, hf⟩ := zbi_use hf
  refine z_callVi (As := [.int ((x3 + (32 * (x2 >>> ((3 : Int32) &&& 31)))) + x4)]) (rest := []) hC hI (cX9_vramByte_met st l D ad cy σ ((x3 + (32 * (x2 >>> ((3 : Int32) &&& 31)))) + x4) _ g2) (zgV zw36_14 zw36_15 zw36_16 zw2_1 zw36_17) rfl ⟨rfl, rfl⟩ 1 hdX9_vramByte ⟨Nat.le_of_ble_eq_true rfl, Nat.le_of_ble_eq_true rfl⟩ rfl rfl (wC_e2 ad cy σ) rfl hl rfl (Nat.le_of_ble_eq_true rfl) dX3_drawOld_53 ⟨Nat.zero_le _, Nat.zero_le _⟩ (fun H locs hI => ?_)
  refine lv_istore (lv' := [(5, .int v3), (0, .ref (ad 3)), (1, .int x1), (2, .int x2), (3, .int x3), (4, .int x4)]) hx hb dX3_drawOld_56 hl (by decide) rfl (fun ls hl => ?_)
  refine lv_iload_n hx hb dX3_drawOld_58 rfl (lv_at hl 2 rfl) ?_
  by_cases q0 : x1 = 0
  · replace hf := zif_t q0 hf
    refine lv_lookup (off := 25) (tgt := 84) hx hb dX3_drawOld_59 (by decide) (by rw [q0] <;> rfl) (by decide) ?_
    refine lv_aload_n hx hb dX3_drawOld_84 rfl (lv_at hl 1 rfl) ?_
    refine lv_bipush (v := 8) hx hb dX3_drawOld_85 (by decide) ?_
    refine lv_iload hx hb dX3_drawOld_87 (lv_at hl 5 rfl) ?_
    refine lv_imul hx hb dX3_drawOld_89 ?_
    refine lv_aload_n hx hb dX3_drawOld_90 rfl (lv_at hl 1 rfl) ?_
    refine lv_iload hx hb dX3_drawOld_91 (lv_at hl 0 rfl) ?_
    refine lv_iload_n hx hb dX3_drawOld_93 rfl (lv_at hl 3 rfl) ?_
    obtain ⟨σ4, v5, g4, hf⟩ := zbi_use hf
    refine z_callVi (As := [.int v3, .int x2]) (rest := [.int (8 * x4), .ref (ad 3)]) hC hI (cX3_patternAt_met st l D ad cy σ2 v3 x2 _ g4) (zgV zw38_3 zw38_4 zw38_5 zw2_5 zw38_6) rfl ⟨rfl, rfl⟩ 2 hdX3_patternAt ⟨Nat.le_of_ble_eq_true rfl, Nat.le_of_ble_eq_true rfl⟩ rfl rfl (wC_e3 ad cy σ2) rfl hl rfl (Nat.le_of_ble_eq_true rfl) dX3_drawOld_94 ⟨Nat.zero_le _, Nat.zero_le _⟩ (fun H locs hI => ?_)
    refine lv_aload_n hx hb dX3_drawOld_97 rfl (lv_at hl 1 rfl) ?_
    refine z_get hC hI hinX3_drawOld_X30 3 (wC_e3 ad cy σ4) rfl 0 (by decide) (List.mem_cons_of_mem _ zw4_22) rfl dX3_drawOld_98 ?_
    refine lv_bipush (v := 64) hx hb dX3_drawOld_101 (by decide) ?_
    refine lv_aload_n hx hb dX3_drawOld_103 rfl (lv_at hl 1 rfl) ?_
    refine z_get hC hI hinX3_drawOld_X30 3 (wC_e3 ad cy σ4) rfl 0 (by decide) (List.mem_cons_of_mem _ zw4_22) rfl dX3_drawOld_104 ?_
    refine lv_iconst (v := 3) hx hb dX3_drawOld_107 (by decide) ?_
    obtain ⟨σ6, v7, g6, hf⟩ := zbi_use hf
    refine z_callVi (As := [.int 3]) (rest := [.int 64, .ref (ad 2), .int v5, .int (8 * x4), .ref (ad 3)]) hC hI (cX9_held_met st l D ad cy σ4 3 _ g6) (zgV zw35_21 zw35_13 zw35_14 zw2_1 zw35_15) rfl ⟨rfl, rfl⟩ 1 hdX9_held ⟨Nat.le_of_ble_eq_true rfl, Nat.le_of_ble_eq_true rfl⟩ rfl rfl (wC_e2 ad cy σ4) rfl hl rfl (Nat.le_of_ble_eq_true rfl) dX3_drawOld_108 ⟨Nat.zero_le _, Nat.zero_le _⟩ (fun H locs hI => ?_)
    refine lv_imul hx hb dX3_drawOld_111 ?_
    refine lv_iload hx hb dX3_drawOld_112 (lv_at hl 0 rfl) ?_
    refine lv_iconst (v := 3) hx hb dX3_drawOld_114 (by decide) ?_
    refine lv_ishr hx hb dX3_drawOld_115 ?_
    refine lv_iadd hx hb dX3_drawOld_116 ?_
    obtain ⟨σ8, v9, g8, hf⟩ := zbi_use hf
    refine z_callVi (As := [.int ((64 * v7) + (v3 >>> ((3 : Int32) &&& 31)))]) (rest := [.int v5, .int (8 * x4), .ref (ad 3)]) hC hI (cX9_vramByte_met st l D ad cy σ6 ((64 * v7) + (v3 >>> ((3 : Int32) &&& 31))) _ g8) (zgV zw36_14 zw36_15 zw36_16 zw2_1 zw36_17) rfl ⟨rfl, rfl⟩ 1 hdX9_vramByte ⟨Nat.le_of_ble_eq_true rfl, Nat.le_of_ble_eq_true rfl⟩ rfl rfl (wC_e2 ad cy σ6) rfl hl rfl (Nat.le_of_ble_eq_true rfl) dX3_drawOld_117 ⟨Nat.zero_le _, Nat.zero_le _⟩ (fun H locs hI => ?_)
    obtain ⟨σ10, g10, hf⟩ := zbu_use hf
    refine z_callVu (As := [.int (8 * x4), .int v5, .int v9]) (rest := []) hC hI (cX3_drawPattern_met st l D ad cy σ8 (8 * x4) v5 v9 _ g10) (zgV zw38_7 zw38_8 zw38_9 zw2_5 zw38_10) rfl ⟨rfl, rfl⟩ 3 hdX3_drawPattern ⟨Nat.le_of_ble_eq_true rfl, Nat.le_of_ble_eq_true rfl⟩ rfl rfl (wC_e3 ad cy σ8) rfl hl rfl (Nat.le_of_ble_eq_true rfl) dX3_drawOld_120 ⟨Nat.zero_le _, Nat.zero_le _⟩ (fun H locs hI => ?_)
    refine lv_goto (tgt := 165) hx hb dX3_drawOld_123 (by decide) ?_
    exact bX3_drawOld_165 hC hk31 hI (lv_sub hl [1, 2, 3, 4, 5] rfl) hf
  replace hf := zif_f q0 hf
  by_cases q1 : x1 = 2
  · replace hf := zif_t q1 hf
    refine lv_lookup (off := 67) (tgt := 126) hx hb dX3_drawOld_59 (by decide) (by rw [q1] <;> rfl) (by decide) ?_
    refine lv_aload_n hx hb dX3_drawOld_126 rfl (lv_at hl 1 rfl) ?_
    refine lv_bipush (v := 8) hx hb dX3_drawOld_127 (by decide) ?_
    refine lv_iload hx hb dX3_drawOld_129 (lv_at hl 5 rfl) ?_
    refine lv_imul hx hb dX3_drawOld_131 ?_
    refine lv_iload hx hb dX3_drawOld_132 (lv_at hl 0 rfl) ?_
    refine lv_sipush (v := 256) hx hb dX3_drawOld_134 (by decide) ?_
    refine lv_iload_n hx hb dX3_drawOld_137 rfl (lv_at hl 3 rfl) ?_
    refine lv_bipush (v := 6) hx hb dX3_drawOld_138 (by decide) ?_
    refine lv_ishr hx hb dX3_drawOld_140 ?_
    refine lv_imul hx hb dX3_drawOld_141 ?_
    refine lv_iadd hx hb dX3_drawOld_142 ?_
    refine lv_iload_n hx hb dX3_drawOld_143 rfl (lv_at hl 3 rfl) ?_
    refine lv_bipush (v := 7) hx hb dX3_drawOld_144 (by decide) ?_
    refine lv_iand hx hb dX3_drawOld_146 ?_
    obtain ⟨σ11, g11, hf⟩ := zbu_use hf
    refine z_callVu (As := [.int (8 * x4), .int (v3 + (256 * (x2 >>> ((6 : Int32) &&& 31)))), .int (x2 &&& 7)]) (rest := []) hC hI (cX3_drawThird_met st l D ad cy σ2 (8 * x4) (v3 + (256 * (x2 >>> ((6 : Int32) &&& 31)))) (x2 &&& 7) _ g11) (zgV zw38_11 zw38_12 zw38_13 zw2_5 zw38_14) rfl ⟨rfl, rfl⟩ 3 hdX3_drawThird ⟨Nat.le_of_ble_eq_true rfl, Nat.le_of_ble_eq_true rfl⟩ rfl rfl (wC_e3 ad cy σ2) rfl hl rfl (Nat.le_of_ble_eq_true rfl) dX3_drawOld_147 ⟨Nat.zero_le _, Nat.zero_le _⟩ (fun H locs hI => ?_)
    refine lv_goto (tgt := 165) hx hb dX3_drawOld_150 (by decide) ?_
    exact bX3_drawOld_165 hC hk31 hI (lv_sub hl [1, 2, 3, 4, 5] rfl) hf
  replace hf := zif_f q1 hf
  refine lv_lookup (off := 94) (tgt := 153) hx hb dX3_drawOld_59 (by decide) (by show Op.lookupswitch.offset [(0, 25), (2, 67)] _ _ = _; rw [lv_osw q0 (by decide), lv_osw q1 (by decide)] <;> rfl) (by decide) ?_
  refine lv_aload_n hx hb dX3_drawOld_153 rfl (lv_at hl 1 rfl) ?_
  refine lv_bipush (v := 8) hx hb dX3_drawOld_154 (by decide) ?_
  refine lv_iload hx hb dX3_drawOld_156 (lv_at hl 5 rfl) ?_
  refine lv_imul hx hb dX3_drawOld_158 ?_
  refine lv_iload hx hb dX3_drawOld_159 (lv_at hl 0 rfl) ?_
  refine lv_iload_n hx hb dX3_drawOld_161 rfl (lv_at hl 3 rfl) ?_
  obtain ⟨σ12, g12, hf⟩ := zbu_use hf
  refine z_callVu (As := [.int (8 * x4), .int v3, .int x2]) (rest := []) hC hI (cX3_drawBlocks_met st l D ad cy σ2 (8 * x4) v3 x2 _ g12) (zgV zw38_15 zw38_16 zw38_17 zw2_5 zw38_18) rfl ⟨rfl, rfl⟩ 3 hdX3_drawBlocks ⟨Nat.le_of_ble_eq_true rfl, Nat.le_of_ble_eq_true rfl⟩ rfl rfl (wC_e3 ad cy σ2) rfl hl rfl (Nat.le_of_ble_eq_true rfl) dX3_drawOld_162 ⟨Nat.zero_le _, Nat.zero_le _⟩ (fun H locs hI => ?_)
  exact bX3_drawOld_165 hC hk31 hI (lv_sub hl [1, 2, 3, 4, 5] rfl) hf
theorem blX3_drawOld_31 {st : Nat → Nat} {p : Program} {l : Launch} {e : Env} {s : State} {m : MethodId} {args : Array Value} {below : List Frame} {meth : Method} {c : Code} {D : va_G} {A : Nat → Prop} {ad : Nat → Nat} {cy : Nat → ClassId} (hC : zC p m c cX3_drawOld 6 s args wzX3_drawOld RX3 meth none)  {res : zSt} : ∀ (n : Nat) (H : Heap) (locs : List Loc) (σ : zSt) (ls : Array Slot) (x1 : Int32) (x2 : Int32) (x3 : Int32) (x4 : Int32), zI st D (tC cy) (wC ad cy σ) A s H locs → lv_has ls 6 [(0, .ref (ad 3)), (1, .int x1), (2, .int x2), (3, .int x3), (4, .int x4)] → fX3_drawOld_31  n σ x1 x2 x3 x4 = some res → W p l e rmX3_drawOld s m args below meth c H locs 0 0 (zQu below args s D (tC cy) (wC ad cy) A res) (F0 m 31 ls []) := by
  intro n
  induction n with
  | zero => intro H locs σ ls x1 x2 x3 x4 hI hl hf; cases hf
  | succ n ih => intro H locs σ ls x1 x2 x3 x4 hI hl hf; exact bX3_drawOld_31_body hC ih hI hl hf
set_option maxRecDepth 20000 in
set_option maxHeartbeats 4000000 in
theorem bX3_drawOld {st : Nat → Nat} {p : Program} {l : Launch} {e : Env} {s : State} {m : MethodId} {args : Array Value} {below : List Frame} {meth : Method} {c : Code} {D : va_G} {A : Nat → Prop} {ad : Nat → Nat} {cy : Nat → ClassId} (hC : zC p m c cX3_drawOld 6 s args wzX3_drawOld RX3 meth none)  {res : zSt} {H : Heap} {locs : List Loc} {σ : zSt} {ls : Array Slot} {x1 : Int32} {x2 : Int32} (hI : zI st D (tC cy) (wC ad cy σ) A s H locs) (hl : lv_has ls 6 [(0, .ref (ad 3)), (1, .int x1), (2, .int x2)]) (hf : fX3_drawOld  σ x1 x2 = some res) : W p l e rmX3_drawOld s m args below meth c H locs 0 0 (zQu below args s D (tC cy) (wC ad cy) A res) (F0 m 0 ls []) := by
  have hx := hC.1
  have hb := hC.2.1
  unfold fX3_drawOld at hf
  refine lv_sipush (v := 1024) hx hb dX3_drawOld_0 (by decide) ?_
  refine lv_aload_n hx hb dX3_drawOld_3 rfl (lv_at hl 0 rfl) ?_
  refine z_get hC hI hinX3_drawOld_X30 3 (wC_e3 ad cy σ) rfl 0 (by decide) (List.mem_cons_of_mem _ zw4_22) rfl dX3_drawOld_4 ?_
  refine lv_iconst (v := 2) hx hb dX3_drawOld_7 (by decide) ?_
  obtain ⟨σ13, v14, g13, hf⟩ := zbi_use hf
  refine z_callVi (As := [.int 2]) (rest := [.int 1024]) hC hI (cX9_held_met st l D ad cy σ 2 _ g13) (zgV zw35_21 zw35_13 zw35_14 zw2_1 zw35_15) rfl ⟨rfl, rfl⟩ 1 hdX9_held ⟨Nat.le_of_ble_eq_true rfl, Nat.le_of_ble_eq_true rfl⟩ rfl rfl (wC_e2 ad cy σ) rfl hl rfl (Nat.le_of_ble_eq_true rfl) dX3_drawOld_8 ⟨Nat.zero_le _, Nat.zero_le _⟩ (fun H locs hI => ?_)
  refine lv_bipush (v := 15) hx hb dX3_drawOld_11 (by decide) ?_
  refine lv_iand hx hb dX3_drawOld_13 ?_
  refine lv_imul hx hb dX3_drawOld_14 ?_
  refine lv_topi (fun v15 ev15 => ?_)
  replace hf := zbv_use ev15 hf
  refine lv_istore_n (lv' := [(3, .int v15), (0, .ref (ad 3)), (1, .int x1), (2, .int x2)]) hx hb dX3_drawOld_15 rfl hl (by decide) rfl (fun ls hl => ?_)
  refine lv_iload_n hx hb dX3_drawOld_16 rfl (lv_at hl 2 rfl) ?_
  refine lv_iconst (v := 1) hx hb dX3_drawOld_17 (by decide) ?_
  refine lv_icmp_ne (tgt := 28) hx hb dX3_drawOld_18 (by decide) (fun q => ?_) (fun q => ?_)
  · replace hf := zif_f q hf
    refine lv_iconst (v := 0) hx hb dX3_drawOld_28 (by decide) ?_
    refine lv_istore (lv' := [(4, .int 0), (3, .int v15), (0, .ref (ad 3)), (1, .int x1), (2, .int x2)]) hx hb dX3_drawOld_29 hl (by decide) rfl (fun ls hl => ?_)
    exact blX3_drawOld_31 hC  zfuel _ _ _ _ _ _ _ _ hI (lv_sub hl [2, 3, 4, 1, 0] rfl) hf
  replace hf := zif_t q hf
  refine lv_aload_n hx hb dX3_drawOld_21 rfl (lv_at hl 1 rfl) ?_
  refine lv_iload_n hx hb dX3_drawOld_22 rfl (lv_at hl 0 rfl) ?_
  refine lv_iload_n hx hb dX3_drawOld_23 rfl (lv_at hl 3 rfl) ?_
  obtain ⟨σ16, g16, hf⟩ := zbu_use hf
  refine z_callVu (As := [.int v15, .int x2]) (rest := []) hC hI (cX3_drawText_met st l D ad cy σ13 v15 x2 _ g16) (zgV zw37_23 zw38_0 zw38_1 zw2_5 zw38_2) rfl ⟨rfl, rfl⟩ 2 hdX3_drawText ⟨Nat.le_of_ble_eq_true rfl, Nat.le_of_ble_eq_true rfl⟩ rfl rfl (wC_e3 ad cy σ13) rfl hl rfl (Nat.le_of_ble_eq_true rfl) dX3_drawOld_24 ⟨Nat.zero_le _, Nat.zero_le _⟩ (fun H locs hI => ?_)
  exact z_return hC hI hf dX3_drawOld_27
set_option maxRecDepth 20000 in
theorem cX3_drawOld_met (st : Nat → Nat) (l : Launch) (D : va_G) (ad : Nat → Nat) (cy : Nat → ClassId) (σ : zSt) (x1 : Int32) (x2 : Int32) (res : zSt) (hf : fX3_drawOld σ x1 x2 = some res) (sz : Nat) : zMu st l yX3_drawOld wzX3_drawOld rmX3_drawOld [.ref (ad 3), .int x1, .int x2] D (tC cy) (wC ad cy) sz σ res :=
  zMu.of (cc := cX3_drawOld) (maxL := 6) (ret := none) (by decide) rfl (Nat.le_of_ble_eq_true rfl) (fun p e s m args below meth c hC A hI ls hl => bX3_drawOld hC hI hl hf)
theorem hdX3_drawOld : yX3_drawOld.cls = RX3 ∧ yX3_drawOld.cls ≠ "java/lang/invoke/MethodHandle" ∧ yX3_drawOld.cls ≠ "java/lang/invoke/VarHandle" ∧ (parseMethodDescriptor yX3_drawOld.desc).map (fun d => d.parameters.length) = some 2 := by decide +kernel
noncomputable def rmX9_markFifth : Room := { frames := 0, cells := 0, slots := 0, locals := 0 }
noncomputable def wzX9_markFifth : List Cond := .code yX9_markFifth cX9_markFifth 2 none :: wsL_law
theorem hinX9_markFifth_X90 : ∀ w ∈ wsX90, w ∈ wzX9_markFifth := fun w h => List.mem_cons_of_mem _ (inlX9 w h)
noncomputable def fX9_markFifth_39  (σ : zSt)  : Option (zSt) :=
  some σ
noncomputable def fX9_markFifth  (σ : zSt) (x1 : Int32) : Option (zSt) :=
  zck (zin 15 96) (
  if ((zgi σ 23 (15 : Int32).toNatClampNeg) &&& 64) = 0 then zck (zin 15 96) (
  zck (zin 15 96) (zbv (zsi σ 23 ((15 : Int32).toNatClampNeg) ((((zgi σ 23 (15 : Int32).toNatClampNeg) &&& 160) ||| 64) ||| (x1 &&& 31))) (fun σ1 =>
  fX9_markFifth_39 σ1))) else
  fX9_markFifth_39 σ)
set_option maxRecDepth 20000 in
set_option maxHeartbeats 4000000 in
theorem bX9_markFifth_39 {st : Nat → Nat} {p : Program} {l : Launch} {e : Env} {s : State} {m : MethodId} {args : Array Value} {below : List Frame} {meth : Method} {c : Code} {D : va_G} {A : Nat → Prop} {ad : Nat → Nat} {cy : Nat → ClassId} (hC : zC p m c cX9_markFifth 2 s args wzX9_markFifth RX9 meth none)  {res : zSt} {H : Heap} {locs : List Loc} {σ : zSt} {ls : Array Slot}  (hI : zI st D (tC cy) (wC ad cy σ) A s H locs) (hl : lv_has ls 2 []) (hf : fX9_markFifth_39  σ  = some res) : W p l e rmX9_markFifth s m args below meth c H locs 0 0 (zQu below args s D (tC cy) (wC ad cy) A res) (F0 m 39 ls []) := by
  have hx := hC.1
  have hb := hC.2.1
  unfold fX9_markFifth_39 at hf
  exact z_return hC hI hf dX9_markFifth_39
set_option maxRecDepth 20000 in
set_option maxHeartbeats 4000000 in
theorem bX9_markFifth {st : Nat → Nat} {p : Program} {l : Launch} {e : Env} {s : State} {m : MethodId} {args : Array Value} {below : List Frame} {meth : Method} {c : Code} {D : va_G} {A : Nat → Prop} {ad : Nat → Nat} {cy : Nat → ClassId} (hC : zC p m c cX9_markFifth 2 s args wzX9_markFifth RX9 meth none)  {res : zSt} {H : Heap} {locs : List Loc} {σ : zSt} {ls : Array Slot} {x1 : Int32} (hI : zI st D (tC cy) (wC ad cy σ) A s H locs) (hl : lv_has ls 2 [(0, .ref (ad 2)), (1, .int x1)]) (hf : fX9_markFifth  σ x1 = some res) : W p l e rmX9_markFifth s m args below meth c H locs 0 0 (zQu below args s D (tC cy) (wC ad cy) A res) (F0 m 0 ls []) := by
  have hx := hC.1
  have hb := hC.2.1
  unfold fX9_markFifth at hf
  refine lv_aload_n hx hb dX9_markFifth_0 rfl (lv_at hl 0 rfl) ?_
  refine z_get hC hI hinX9_markFifth_X90 2 (wC_e2 ad cy σ) rfl 4 (by decide) (List.mem_cons_of_mem _ zw4_8) rfl dX9_markFifth_1 ?_
  refine lv_bipush (v := 15) hx hb dX9_markFifth_4 (by decide) ?_
  obtain ⟨q, hf⟩ := zck_use hf
  refine z_iald hC hI 23 10 (wC_e23 ad cy σ) (tC_t23 cy) q dX9_markFifth_6 ?_
  refine lv_bipush (v := 64) hx hb dX9_markFifth_7 (by decide) ?_
  refine lv_iand hx hb dX9_markFifth_9 ?_
  refine lv_if_ne (tgt := 39) hx hb dX9_markFifth_10 (by decide) (fun q => ?_) (fun q => ?_)
  · replace hf := zif_f q hf
    exact bX9_markFifth_39 hC  hI (lv_sub hl [] rfl) hf
  replace hf := zif_t q hf
  refine lv_aload_n hx hb dX9_markFifth_13 rfl (lv_at hl 0 rfl) ?_
  refine z_get hC hI hinX9_markFifth_X90 2 (wC_e2 ad cy σ) rfl 4 (by decide) (List.mem_cons_of_mem _ zw4_8) rfl dX9_markFifth_14 ?_
  refine lv_bipush (v := 15) hx hb dX9_markFifth_17 (by decide) ?_
  refine lv_aload_n hx hb dX9_markFifth_19 rfl (lv_at hl 0 rfl) ?_
  refine z_get hC hI hinX9_markFifth_X90 2 (wC_e2 ad cy σ) rfl 4 (by decide) (List.mem_cons_of_mem _ zw4_8) rfl dX9_markFifth_20 ?_
  refine lv_bipush (v := 15) hx hb dX9_markFifth_23 (by decide) ?_
  obtain ⟨q, hf⟩ := zck_use hf
  refine z_iald hC hI 23 10 (wC_e23 ad cy σ) (tC_t23 cy) q dX9_markFifth_25 ?_
  refine lv_sipush (v := 160) hx hb dX9_markFifth_26 (by decide) ?_
  refine lv_iand hx hb dX9_markFifth_29 ?_
  refine lv_bipush (v := 64) hx hb dX9_markFifth_30 (by decide) ?_
  refine lv_ior hx hb dX9_markFifth_32 ?_
  refine lv_iload_n hx hb dX9_markFifth_33 rfl (lv_at hl 1 rfl) ?_
  refine lv_bipush (v := 31) hx hb dX9_markFifth_34 (by decide) ?_
  refine lv_iand hx hb dX9_markFifth_36 ?_
  refine lv_ior hx hb dX9_markFifth_37 ?_
  obtain ⟨q, hf⟩ := zck_use hf
  obtain ⟨σ1, eσ1⟩ : ∃ z, z = zsi σ 23 ((15 : Int32).toNatClampNeg) ((((zgi σ 23 (15 : Int32).toNatClampNeg) &&& 160) ||| 64) ||| (x1 &&& 31)) := ⟨_, rfl⟩
  replace hf := zbv_use eσ1 hf
  refine z_iast hC hI 23 10 (wC_e23 ad cy σ) (tC_t23 cy) q ((wC_s23 ad cy σ _ _).trans (congrArg (wC ad cy) eσ1.symm)) dX9_markFifth_38 (fun H locs hI => ?_)
  exact bX9_markFifth_39 hC  hI (lv_sub hl [] rfl) hf
set_option maxRecDepth 20000 in
theorem cX9_markFifth_met (st : Nat → Nat) (l : Launch) (D : va_G) (ad : Nat → Nat) (cy : Nat → ClassId) (σ : zSt) (x1 : Int32) (res : zSt) (hf : fX9_markFifth σ x1 = some res) (sz : Nat) : zMu st l yX9_markFifth wzX9_markFifth rmX9_markFifth [.ref (ad 2), .int x1] D (tC cy) (wC ad cy) sz σ res :=
  zMu.of (cc := cX9_markFifth) (maxL := 2) (ret := none) (by decide) rfl (Nat.le_of_ble_eq_true rfl) (fun p e s m args below meth c hC A hI ls hl => bX9_markFifth hC hI hl hf)
theorem hdX9_markFifth : yX9_markFifth.cls = RX9 ∧ yX9_markFifth.cls ≠ "java/lang/invoke/MethodHandle" ∧ yX9_markFifth.cls ≠ "java/lang/invoke/VarHandle" ∧ (parseMethodDescriptor yX9_markFifth.desc).map (fun d => d.parameters.length) = some 1 := by decide +kernel
noncomputable def rmX3_takeDot : Room := { frames := 1, cells := 0, slots := 0, locals := 21 }
noncomputable def wzX3_takeDot : List Cond := .code yX3_takeDot cX3_takeDot 3 none :: wsL_law
theorem hinX3_takeDot_X30 : ∀ w ∈ wsX30, w ∈ wzX3_takeDot := fun w h => List.mem_cons_of_mem _ (inlX3 w h)
noncomputable def fX3_takeDot_41  (σ : zSt)  : Option (zSt) :=
  some σ
noncomputable def fX3_takeDot_18  (σ : zSt) (x1 : Int32) (x2 : Int32) : Option (zSt) :=
  zck (zin x1 256) (
  if ((zgi σ 28 x1.toNatClampNeg) &&& 15) = 0 then zck (zin x1 256) (zbv (zsi σ 28 (x1.toNatClampNeg) (256 ||| x2)) (fun σ1 =>
  fX3_takeDot_41 σ1)) else
  fX3_takeDot_41 σ)
noncomputable def fX3_takeDot  (σ : zSt) (x1 : Int32) (x2 : Int32) : Option (zSt) :=
  zck (zin x1 256) (
  if (zgi σ 28 x1.toNatClampNeg) = 0 then fX3_takeDot_18 σ x1 x2 else
  zbu (fX9_mark σ 32) (fun σ2 =>
  fX3_takeDot_18 σ2 x1 x2))
set_option maxRecDepth 20000 in
set_option maxHeartbeats 4000000 in
theorem bX3_takeDot_41 {st : Nat → Nat} {p : Program} {l : Launch} {e : Env} {s : State} {m : MethodId} {args : Array Value} {below : List Frame} {meth : Method} {c : Code} {D : va_G} {A : Nat → Prop} {ad : Nat → Nat} {cy : Nat → ClassId} (hC : zC p m c cX3_takeDot 3 s args wzX3_takeDot RX3 meth none)  {res : zSt} {H : Heap} {locs : List Loc} {σ : zSt} {ls : Array Slot}  (hI : zI st D (tC cy) (wC ad cy σ) A s H locs) (hl : lv_has ls 3 []) (hf : fX3_takeDot_41  σ  = some res) : W p l e rmX3_takeDot s m args below meth c H locs 0 0 (zQu below args s D (tC cy) (wC ad cy) A res) (F0 m 41 ls []) := by
  have hx := hC.1
  have hb := hC.2.1
  unfold fX3_takeDot_41 at hf
  exact z_return hC hI hf dX3_takeDot_41
set_option maxRecDepth 20000 in
set_option maxHeartbeats 4000000 in
theorem bX3_takeDot_18 {st : Nat → Nat} {p : Program} {l : Launch} {e : Env} {s : State} {m : MethodId} {args : Array Value} {below : List Frame} {meth : Method} {c : Code} {D : va_G} {A : Nat → Prop} {ad : Nat → Nat} {cy : Nat → ClassId} (hC : zC p m c cX3_takeDot 3 s args wzX3_takeDot RX3 meth none)  {res : zSt} {H : Heap} {locs : List Loc} {σ : zSt} {ls : Array Slot} {x1 : Int32} {x2 : Int32} (hI : zI st D (tC cy) (wC ad cy σ) A s H locs) (hl : lv_has ls 3 [(0, .ref (ad 3)), (1, .int x1), (2, .int x2)]) (hf : fX3_takeDot_18  σ x1 x2 = some res) : W p l e rmX3_takeDot s m args below meth c H locs 0 0 (zQu below args s D (tC cy) (wC ad cy) A res) (F0 m 18 ls []) := by
  have hx := hC.1
  have hb := hC.2.1
  unfold fX3_takeDot_18 at hf
  refine lv_aload_n hx hb dX3_takeDot_18 rfl (lv_at hl 0 rfl) ?_
  refine z_get hC hI hinX3_takeDot_X30 3 (wC_e3 ad cy σ) rfl 5 (by decide) (List.mem_cons_of_mem _ zw4_20) rfl dX3_takeDot_19 ?_
  refine lv_iload_n hx hb dX3_takeDot_22 rfl (lv_at hl 1 rfl) ?_
  obtain ⟨q, hf⟩ := zck_use hf
  refine z_iald hC hI 28 15 (wC_e28 ad cy σ) (tC_t28 cy) q dX3_takeDot_23 ?_
  refine lv_bipush (v := 15) hx hb dX3_takeDot_24 (by decide) ?_
  refine lv_iand hx hb dX3_takeDot_26 ?_
  refine lv_if_ne (tgt := 41) hx hb dX3_takeDot_27 (by decide) (fun q => ?_) (fun q => ?_)
  · replace hf := zif_f q hf
    exact bX3_takeDot_41 hC  hI (lv_sub hl [] rfl) hf
  replace hf := zif_t q hf
  refine lv_aload_n hx hb dX3_takeDot_30 rfl (lv_at hl 0 rfl) ?_
  refine z_get hC hI hinX3_takeDot_X30 3 (wC_e3 ad cy σ) rfl 5 (by decide) (List.mem_cons_of_mem _ zw4_20) rfl dX3_takeDot_31 ?_
  refine lv_iload_n hx hb dX3_takeDot_34 rfl (lv_at hl 1 rfl) ?_
  refine lv_sipush (v := 256) hx hb dX3_takeDot_35 (by decide) ?_
  refine lv_iload_n hx hb dX3_takeDot_38 rfl (lv_at hl 2 rfl) ?_
  refine lv_ior hx hb dX3_takeDot_39 ?_
  obtain ⟨q, hf⟩ := zck_use hf
  obtain ⟨σ1, eσ1⟩ : ∃ z, z = zsi σ 28 (x1.toNatClampNeg) (256 ||| x2) := ⟨_, rfl⟩
  replace hf := zbv_use eσ1 hf
  refine z_iast hC hI 28 15 (wC_e28 ad cy σ) (tC_t28 cy) q ((wC_s28 ad cy σ _ _).trans (congrArg (wC ad cy) eσ1.symm)) dX3_takeDot_40 (fun H locs hI => ?_)
  exact bX3_takeDot_41 hC  hI (lv_sub hl [] rfl) hf
set_option maxRecDepth 20000 in
set_option maxHeartbeats 4000000 in
theorem bX3_takeDot {st : Nat → Nat} {p : Program} {l : Launch} {e : Env} {s : State} {m : MethodId} {args : Array Value} {below : List Frame} {meth : Method} {c : Code} {D : va_G} {A : Nat → Prop} {ad : Nat → Nat} {cy : Nat → ClassId} (hC : zC p m c cX3_takeDot 3 s args wzX3_takeDot RX3 meth none)  {res : zSt} {H : Heap} {locs : List Loc} {σ : zSt} {ls : Array Slot} {x1 : Int32} {x2 : Int32} (hI : zI st D (tC cy) (wC ad cy σ) A s H locs) (hl : lv_has ls 3 [(0, .ref (ad 3)), (1, .int x1), (2, .int x2)]) (hf : fX3_takeDot  σ x1 x2 = some res) : W p l e rmX3_takeDot s m args below meth c H locs 0 0 (zQu below args s D (tC cy) (wC ad cy) A res) (F0 m 0 ls []) := by
  have hx := hC.1
  have hb := hC.2.1
  unfold fX3_takeDot at hf
  refine lv_aload_n hx hb dX3_takeDot_0 rfl (lv_at hl 0 rfl) ?_
  refine z_get hC hI hinX3_takeDot_X30 3 (wC_e3 ad cy σ) rfl 5 (by decide) (List.mem_cons_of_mem _ zw4_20) rfl dX3_takeDot_1 ?_
  refine lv_iload_n hx hb dX3_takeDot_4 rfl (lv_at hl 1 rfl) ?_
  obtain ⟨q, hf⟩ := zck_use hf
  refine z_iald hC hI 28 15 (wC_e28 ad cy σ) (tC_t28 cy) q dX3_takeDot_5 ?_
  refine lv_if_eq (tgt := 18) hx hb dX3_takeDot_6 (by decide) (fun q => ?_) (fun q => ?_)
  · replace hf := zif_t q hf
    exact bX3_takeDot_18 hC  hI hl hf
  replace hf := zif_f q hf
  refine lv_aload_n hx hb dX3_takeDot_9 rfl (lv_at hl 0 rfl) ?_
  refine z_get hC hI hinX3_takeDot_X30 3 (wC_e3 ad cy σ) rfl 0 (by decide) (List.mem_cons_of_mem _ zw4_22) rfl dX3_takeDot_10 ?_
  refine lv_bipush (v := 32) hx hb dX3_takeDot_13 (by decide) ?_
  obtain ⟨σ2, g2, hf⟩ := zbu_use hf
  refine z_callVu (As := [.int 32]) (rest := []) hC hI (cX9_mark_met st l D ad cy σ 32 _ g2) (zgV zw37_10 zw37_11 zw37_12 zw2_1 zw37_13) rfl ⟨rfl, rfl⟩ 1 hdX9_mark ⟨Nat.le_of_ble_eq_true rfl, Nat.le_of_ble_eq_true rfl⟩ rfl rfl (wC_e2 ad cy σ) rfl hl rfl (Nat.le_of_ble_eq_true rfl) dX3_takeDot_15 ⟨Nat.zero_le _, Nat.zero_le _⟩ (fun H locs hI => ?_)
  exact bX3_takeDot_18 hC  hI hl hf
set_option maxRecDepth 20000 in
theorem cX3_takeDot_met (st : Nat → Nat) (l : Launch) (D : va_G) (ad : Nat → Nat) (cy : Nat → ClassId) (σ : zSt) (x1 : Int32) (x2 : Int32) (res : zSt) (hf : fX3_takeDot σ x1 x2 = some res) (sz : Nat) : zMu st l yX3_takeDot wzX3_takeDot rmX3_takeDot [.ref (ad 3), .int x1, .int x2] D (tC cy) (wC ad cy) sz σ res :=
  zMu.of (cc := cX3_takeDot) (maxL := 3) (ret := none) (by decide) rfl (Nat.le_of_ble_eq_true rfl) (fun p e s m args below meth c hC A hI ls hl => bX3_takeDot hC hI hl hf)
theorem hdX3_takeDot : yX3_takeDot.cls = RX3 ∧ yX3_takeDot.cls ≠ "java/lang/invoke/MethodHandle" ∧ yX3_takeDot.cls ≠ "java/lang/invoke/VarHandle" ∧ (parseMethodDescriptor yX3_takeDot.desc).map (fun d => d.parameters.length) = some 2 := by decide +kernel
noncomputable def rmX3_drawOldSprite : Room := { frames := 2, cells := 0, slots := 0, locals := 43 }
noncomputable def wzX3_drawOldSprite : List Cond := .code yX3_drawOldSprite cX3_drawOldSprite 13 none :: wsL_law
theorem hinX3_drawOldSprite_X30 : ∀ w ∈ wsX30, w ∈ wzX3_drawOldSprite := fun w h => List.mem_cons_of_mem _ (inlX3 w h)
noncomputable def fX3_drawOldSprite_224 (k158 : zSt → Int32 → Int32 → Int32 → Int32 → Int32 → Int32 → Option (zSt)) (σ : zSt) (x3 : Int32) (x4 : Int32) (x7 : Int32) (x8 : Int32) (x10 : Int32) (x11 : Int32) : Option (zSt) :=
  zbv (x11 + 1) (fun v1 =>
  k158 σ x3 x4 x7 x8 x10 v1)
noncomputable def fX3_drawOldSprite_172 (k158 : zSt → Int32 → Int32 → Int32 → Int32 → Int32 → Int32 → Option (zSt)) (σ : zSt) (x3 : Int32) (x4 : Int32) (x7 : Int32) (x8 : Int32) (x10 : Int32) (x11 : Int32) (s0 : Int32) (s1 : Int32) : Option (zSt) :=
  if (s0 <<< (x7 &&& 31)) ≤ s1 then some σ else
  zbv (x4 + x11) (fun v2 =>
  if ((x10 >>> ((15 - (x11 >>> (x7 &&& 31))) &&& 31)) &&& 1) = 0 then fX3_drawOldSprite_224 k158 σ x3 x4 x7 x8 x10 x11 else
  if v2 < 0 then fX3_drawOldSprite_224 k158 σ x3 x4 x7 x8 x10 x11 else
  if 256 ≤ v2 then fX3_drawOldSprite_224 k158 σ x3 x4 x7 x8 x10 x11 else
  zbu (fX3_takeDot σ v2 (x3 &&& 15)) (fun σ3 =>
  fX3_drawOldSprite_224 k158 σ3 x3 x4 x7 x8 x10 x11))
noncomputable def fX3_drawOldSprite_158_body (k158 : zSt → Int32 → Int32 → Int32 → Int32 → Int32 → Int32 → Option (zSt)) (σ : zSt) (x3 : Int32) (x4 : Int32) (x7 : Int32) (x8 : Int32) (x10 : Int32) (x11 : Int32) : Option (zSt) :=
  if x8 = 0 then fX3_drawOldSprite_172 k158 σ x3 x4 x7 x8 x10 x11 8 x11 else
  fX3_drawOldSprite_172 k158 σ x3 x4 x7 x8 x10 x11 16 x11
noncomputable def fX3_drawOldSprite_158  : Nat → zSt → Int32 → Int32 → Int32 → Int32 → Int32 → Int32 → Option (zSt)
  | 0, _, _, _, _, _, _, _ => none
  | n + 1, σ, x3, x4, x7, x8, x10, x11 => fX3_drawOldSprite_158_body (fX3_drawOldSprite_158  n) σ x3 x4 x7 x8 x10 x11
noncomputable def fX3_drawOldSprite_152  (σ : zSt) (x3 : Int32) (x4 : Int32) (x7 : Int32) (x8 : Int32) (s0 : Int32) (s1 : Int32) : Option (zSt) :=
  zbv (s1 ||| s0) (fun v4 =>
  fX3_drawOldSprite_158 zfuel σ x3 x4 x7 x8 v4 0)
noncomputable def fX3_drawOldSprite_113  (σ : zSt) (x2 : Int32) (x3 : Int32) (x4 : Int32) (x7 : Int32) (x8 : Int32) (s0 : Int32) (s1 : Int32) (s2 : Int32) : Option (zSt) :=
  zbv ((s2 + (s1 * s0)) + x2) (fun v5 =>
  zbi (fX9_vramByte σ v5) (fun σ6 v7 =>
  if x8 = 0 then fX3_drawOldSprite_152 σ6 x3 x4 x7 x8 0 (v7 <<< ((8 : Int32) &&& 31)) else
  zbi (fX9_vramByte σ6 (v5 + 16)) (fun σ8 v9 =>
  fX3_drawOldSprite_152 σ8 x3 x4 x7 x8 v9 (v7 <<< ((8 : Int32) &&& 31)))))
noncomputable def fX3_drawOldSprite_78  (σ : zSt) (x2 : Int32) (x3 : Int32) (x4 : Int32) (x5 : Int32) (x7 : Int32) (s0 : Int32) : Option (zSt) :=
  zbi (fX9_held σ 6) (fun σ10 v11 =>
  if s0 = 0 then fX3_drawOldSprite_113 σ10 x2 x3 x4 x7 s0 x5 8 (2048 * (v11 &&& 7)) else
  fX3_drawOldSprite_113 σ10 x2 x3 x4 x7 s0 (x5 &&& (-4)) 8 (2048 * (v11 &&& 7)))
noncomputable def fX3_drawOldSprite_35  (σ : zSt) (x1 : Int32) (x2 : Int32) (x3 : Int32) (s0 : Int32) (s1 : Int32) : Option (zSt) :=
  zbv (s1 - s0) (fun v12 =>
  zbi (fX9_vramByte σ (x1 + 2)) (fun σ13 v14 =>
  zbi (fX9_held σ13 1) (fun σ15 v16 =>
  zbv (v16 &&& 1) (fun v17 =>
  if (v16 &&& 2) = 0 then fX3_drawOldSprite_78 σ15 x2 x3 v12 v14 v17 0 else
  fX3_drawOldSprite_78 σ15 x2 x3 v12 v14 v17 1))))
noncomputable def fX3_drawOldSprite  (σ : zSt) (x1 : Int32) (x2 : Int32) : Option (zSt) :=
  zbi (fX9_vramByte σ (x1 + 3)) (fun σ18 v19 =>
  zbi (fX9_vramByte σ18 (x1 + 1)) (fun σ20 v21 =>
  if (v19 &&& 128) = 0 then fX3_drawOldSprite_35 σ20 x1 x2 v19 0 v21 else
  fX3_drawOldSprite_35 σ20 x1 x2 v19 32 v21))
set_option maxRecDepth 20000 in
set_option maxHeartbeats 4000000 in
theorem bX3_drawOldSprite_224 {st : Nat → Nat} {p : Program} {l : Launch} {e : Env} {s : State} {m : MethodId} {args : Array Value} {below : List Frame} {meth : Method} {c : Code} {D : va_G} {A : Nat → Prop} {ad : Nat → Nat} {cy : Nat → ClassId} (hC : zC p m c cX3_drawOldSprite 13 s args wzX3_drawOldSprite RX3 meth none) {k158 : zSt → Int32 → Int32 → Int32 → Int32 → Int32 → Int32 → Option (zSt)} {res : zSt} (hk158 : ∀ (H : Heap) (locs : List Loc) (σ : zSt) (ls : Array Slot) (x3 : Int32) (x4 : Int32) (x7 : Int32) (x8 : Int32) (x10 : Int32) (x11 : Int32), zI st D (tC cy) (wC ad cy σ) A s H locs → lv_has ls 13 [(0, .ref (ad 3)), (3, .int x3), (4, .int x4), (7, .int x7), (8, .int x8), (10, .int x10), (11, .int x11)] → k158 σ x3 x4 x7 x8 x10 x11 = some res → W p l e rmX3_drawOldSprite s m args below meth c H locs 0 0 (zQu below args s D (tC cy) (wC ad cy) A res) (F0 m 158 ls [])) {H : Heap} {locs : List Loc} {σ : zSt} {ls : Array Slot} {x3 : Int32} {x4 : Int32} {x7 : Int32} {x8 : Int32} {x10 : Int32} {x11 : Int32} (hI : zI st D (tC cy) (wC ad cy σ) A s H locs) (hl : lv_has ls 13 [(0, .ref (ad 3)), (3, .int x3), (4, .int x4), (7, .int x7), (8, .int x8), (10, .int x10), (11, .int x11)]) (hf : fX3_drawOldSprite_224 k158 σ x3 x4 x7 x8 x10 x11 = some res) : W p l e rmX3_drawOldSprite s m args below meth c H locs 0 0 (zQu below args s D (tC cy) (wC ad cy) A res) (F0 m 224 ls []) := by
  have hx := hC.1
  have hb := hC.2.1
  unfold fX3_drawOldSprite_224 at hf
  obtain ⟨v1, ev1⟩ : ∃ z : Int32, z = x11 + 1 := ⟨_, rfl⟩
  replace hf := zbv_use ev1 hf
  refine lv_iinc (v := v1) (lv' := [(11, .int v1), (0, .ref (ad 3)), (3, .int x3), (4, .int x4), (7, .int x7), (8, .int x8), (10, .int x10)]) hx hb dX3_drawOldSprite_224 hl (k := 6) rfl (by rw [ev1]; rfl) (by decide) rfl (fun ls hl => ?_)
  refine lv_goto (tgt := 158) hx hb dX3_drawOldSprite_227 (by decide) ?_
  exact hk158 _ _ _ _ _ _ _ _ _ _ hI (lv_sub hl [1, 2, 3, 4, 5, 6, 0] rfl) hf
set_option maxRecDepth 20000 in
set_option maxHeartbeats 4000000 in
theorem bX3_drawOldSprite_172 {st : Nat → Nat} {p : Program} {l : Launch} {e : Env} {s : State} {m : MethodId} {args : Array Value} {below : List Frame} {meth : Method} {c : Code} {D : va_G} {A : Nat → Prop} {ad : Nat → Nat} {cy : Nat → ClassId} (hC : zC p m c cX3_drawOldSprite 13 s args wzX3_drawOldSprite RX3 meth none) {k158 : zSt → Int32 → Int32 → Int32 → Int32 → Int32 → Int32 → Option (zSt)} {res : zSt} (hk158 : ∀ (H : Heap) (locs : List Loc) (σ : zSt) (ls : Array Slot) (x3 : Int32) (x4 : Int32) (x7 : Int32) (x8 : Int32) (x10 : Int32) (x11 : Int32), zI st D (tC cy) (wC ad cy σ) A s H locs → lv_has ls 13 [(0, .ref (ad 3)), (3, .int x3), (4, .int x4), (7, .int x7), (8, .int x8), (10, .int x10), (11, .int x11)] → k158 σ x3 x4 x7 x8 x10 x11 = some res → W p l e rmX3_drawOldSprite s m args below meth c H locs 0 0 (zQu below args s D (tC cy) (wC ad cy) A res) (F0 m 158 ls [])) {H : Heap} {locs : List Loc} {σ : zSt} {ls : Array Slot} {x3 : Int32} {x4 : Int32} {x7 : Int32} {x8 : Int32} {x10 : Int32} {x11 : Int32} {s0 : Int32} {s1 : Int32} (hI : zI st D (tC cy) (wC ad cy σ) A s H locs) (hl : lv_has ls 13 [(0, .ref (ad 3)), (3, .int x3), (4, .int x4), (7, .int x7), (8, .int x8), (10, .int x10), (11, .int x11)]) (hf : fX3_drawOldSprite_172 k158 σ x3 x4 x7 x8 x10 x11 s0 s1 = some res) : W p l e rmX3_drawOldSprite s m args below meth c H locs 0 0 (zQu below args s D (tC cy) (wC ad cy) A res) (F0 m 172 ls [.int s0, .int s1]) := by
  have hx := hC.1
  have hb := hC.2.1
  unfold fX3_drawOldSprite_172 at hf
  refine lv_iload hx hb dX3_drawOldSprite_172 (lv_at hl 3 rfl) ?_
  refine lv_ishl hx hb dX3_drawOldSprite_174 ?_
  refine lv_icmp_ge (tgt := 230) hx hb dX3_drawOldSprite_175 (by decide) (fun q => ?_) (fun q => ?_)
  · replace hf := zif_t q hf
    exact z_return hC hI hf dX3_drawOldSprite_230
  replace hf := zif_f q hf
  refine lv_iload hx hb dX3_drawOldSprite_178 (lv_at hl 2 rfl) ?_
  refine lv_iload hx hb dX3_drawOldSprite_180 (lv_at hl 6 rfl) ?_
  refine lv_iadd hx hb dX3_drawOldSprite_182 ?_
  refine lv_topi (fun v2 ev2 => ?_)
  replace hf := zbv_use ev2 hf
  refine lv_istore (lv' := [(12, .int v2), (0, .ref (ad 3)), (3, .int x3), (4, .int x4), (7, .int x7), (8, .int x8), (10, .int x10), (11, .int x11)]) hx hb dX3_drawOldSprite_183 hl (by decide) rfl (fun ls hl => ?_)
  refine lv_iload hx hb dX3_drawOldSprite_185 (lv_at hl 6 rfl) ?_
  refine lv_bipush (v := 15) hx hb dX3_drawOldSprite_187 (by decide) ?_
  refine lv_iload hx hb dX3_drawOldSprite_189 (lv_at hl 7 rfl) ?_
  refine lv_iload hx hb dX3_drawOldSprite_191 (lv_at hl 4 rfl) ?_
  refine lv_ishr hx hb dX3_drawOldSprite_193 ?_
  refine lv_isub hx hb dX3_drawOldSprite_194 ?_
  refine lv_ishr hx hb dX3_drawOldSprite_195 ?_
  refine lv_iconst (v := 1) hx hb dX3_drawOldSprite_196 (by decide) ?_
  refine lv_iand hx hb dX3_drawOldSprite_197 ?_
  refine lv_if_eq (tgt := 224) hx hb dX3_drawOldSprite_198 (by decide) (fun q => ?_) (fun q => ?_)
  · replace hf := zif_t q hf
    exact bX3_drawOldSprite_224 hC hk158 hI (lv_sub hl [1, 2, 3, 4, 5, 6, 7] rfl) hf
  replace hf := zif_f q hf
  refine lv_iload hx hb dX3_drawOldSprite_201 (lv_at hl 0 rfl) ?_
  refine lv_if_lt (tgt := 224) hx hb dX3_drawOldSprite_203 (by decide) (fun q => ?_) (fun q => ?_)
  · replace hf := zif_t q hf
    exact bX3_drawOldSprite_224 hC hk158 hI (lv_sub hl [1, 2, 3, 4, 5, 6, 7] rfl) hf
  replace hf := zif_f q hf
  refine lv_iload hx hb dX3_drawOldSprite_206 (lv_at hl 0 rfl) ?_
  refine lv_sipush (v := 256) hx hb dX3_drawOldSprite_208 (by decide) ?_
  refine lv_icmp_ge (tgt := 224) hx hb dX3_drawOldSprite_211 (by decide) (fun q => ?_) (fun q => ?_)
  · replace hf := zif_t q hf
    exact bX3_drawOldSprite_224 hC hk158 hI (lv_sub hl [1, 2, 3, 4, 5, 6, 7] rfl) hf
  replace hf := zif_f q hf
  refine lv_aload_n hx hb dX3_drawOldSprite_214 rfl (lv_at hl 1 rfl) ?_
  refine lv_iload hx hb dX3_drawOldSprite_215 (lv_at hl 0 rfl) ?_
  refine lv_iload_n hx hb dX3_drawOldSprite_217 rfl (lv_at hl 2 rfl) ?_
  refine lv_bipush (v := 15) hx hb dX3_drawOldSprite_218 (by decide) ?_
  refine lv_iand hx hb dX3_drawOldSprite_220 ?_
  obtain ⟨σ3, g3, hf⟩ := zbu_use hf
  refine z_callVu (As := [.int v2, .int (x3 &&& 15)]) (rest := []) hC hI (cX3_takeDot_met st l D ad cy σ v2 (x3 &&& 15) _ g3) (zgV zw39_7 zw39_8 zw39_9 zw2_5 zw39_10) rfl ⟨rfl, rfl⟩ 2 hdX3_takeDot ⟨Nat.le_of_ble_eq_true rfl, Nat.le_of_ble_eq_true rfl⟩ rfl rfl (wC_e3 ad cy σ) rfl hl rfl (Nat.le_of_ble_eq_true rfl) dX3_drawOldSprite_221 ⟨Nat.zero_le _, Nat.zero_le _⟩ (fun H locs hI => ?_)
  exact bX3_drawOldSprite_224 hC hk158 hI (lv_sub hl [1, 2, 3, 4, 5, 6, 7] rfl) hf
set_option maxRecDepth 20000 in
set_option maxHeartbeats 4000000 in
theorem bX3_drawOldSprite_158_body {st : Nat → Nat} {p : Program} {l : Launch} {e : Env} {s : State} {m : MethodId} {args : Array Value} {below : List Frame} {meth : Method} {c : Code} {D : va_G} {A : Nat → Prop} {ad : Nat → Nat} {cy : Nat → ClassId} (hC : zC p m c cX3_drawOldSprite 13 s args wzX3_drawOldSprite RX3 meth none) {k158 : zSt → Int32 → Int32 → Int32 → Int32 → Int32 → Int32 → Option (zSt)} {res : zSt} (hk158 : ∀ (H : Heap) (locs : List Loc) (σ : zSt) (ls : Array Slot) (x3 : Int32) (x4 : Int32) (x7 : Int32) (x8 : Int32) (x10 : Int32) (x11 : Int32), zI st D (tC cy) (wC ad cy σ) A s H locs → lv_has ls 13 [(0, .ref (ad 3)), (3, .int x3), (4, .int x4), (7, .int x7), (8, .int x8), (10, .int x10), (11, .int x11)] → k158 σ x3 x4 x7 x8 x10 x11 = some res → W p l e rmX3_drawOldSprite s m args below meth c H locs 0 0 (zQu below args s D (tC cy) (wC ad cy) A res) (F0 m 158 ls [])) {H : Heap} {locs : List Loc} {σ : zSt} {ls : Array Slot} {x3 : Int32} {x4 : Int32} {x7 : Int32} {x8 : Int32} {x10 : Int32} {x11 : Int32} (hI : zI st D (tC cy) (wC ad cy σ) A s H locs) (hl : lv_has ls 13 [(0, .ref (ad 3)), (3, .int x3), (4, .int x4), (7, .int x7), (8, .int x8), (10, .int x10), (11, .int x11)]) (hf : fX3_drawOldSprite_158_body k158 σ x3 x4 x7 x8 x10 x11 = some res) : W p l e rmX3_drawOldSprite s m args below meth c H locs 0 0 (zQu below args s D (tC cy) (wC ad cy) A res) (F0 m 158 ls []) := by
  have hx := hC.1
  have hb := hC.2.1
  unfold fX3_drawOldSprite_158_body at hf
  refine lv_iload hx hb dX3_drawOldSprite_158 (lv_at hl 6 rfl) ?_
  refine lv_iload hx hb dX3_drawOldSprite_160 (lv_at hl 4 rfl) ?_
  refine lv_if_eq (tgt := 170) hx hb dX3_drawOldSprite_162 (by decide) (fun q => ?_) (fun q => ?_)
  · replace hf := zif_t q hf
    refine lv_bipush (v := 8) hx hb dX3_drawOldSprite_170 (by decide) ?_
    exact bX3_drawOldSprite_172 hC hk158 hI hl hf
  replace hf := zif_f q hf
  refine lv_bipush (v := 16) hx hb dX3_drawOldSprite_165 (by decide) ?_
  refine lv_goto (tgt := 172) hx hb dX3_drawOldSprite_167 (by decide) ?_
  exact bX3_drawOldSprite_172 hC hk158 hI hl hf
theorem blX3_drawOldSprite_158 {st : Nat → Nat} {p : Program} {l : Launch} {e : Env} {s : State} {m : MethodId} {args : Array Value} {below : List Frame} {meth : Method} {c : Code} {D : va_G} {A : Nat → Prop} {ad : Nat → Nat} {cy : Nat → ClassId} (hC : zC p m c cX3_drawOldSprite 13 s args wzX3_drawOldSprite RX3 meth none)  {res : zSt} : ∀ (n : Nat) (H : Heap) (locs : List Loc) (σ : zSt) (ls : Array Slot) (x3 : Int32) (x4 : Int32) (x7 : Int32) (x8 : Int32) (x10 : Int32) (x11 : Int32), zI st D (tC cy) (wC ad cy σ) A s H locs → lv_has ls 13 [(0, .ref (ad 3)), (3, .int x3), (4, .int x4), (7, .int x7), (8, .int x8), (10, .int x10), (11, .int x11)] → fX3_drawOldSprite_158  n σ x3 x4 x7 x8 x10 x11 = some res → W p l e rmX3_drawOldSprite s m args below meth c H locs 0 0 (zQu below args s D (tC cy) (wC ad cy) A res) (F0 m 158 ls []) := by
  intro n
  induction n with
  | zero => intro H locs σ ls x3 x4 x7 x8 x10 x11 hI hl hf; cases hf
  | succ n ih => intro H locs σ ls x3 x4 x7 x8 x10 x11 hI hl hf; exact bX3_drawOldSprite_158_body hC ih hI hl hf
set_option maxRecDepth 20000 in
set_option maxHeartbeats 4000000 in
theorem bX3_drawOldSprite_152 {st : Nat → Nat} {p : Program} {l : Launch} {e : Env} {s : State} {m : MethodId} {args : Array Value} {below : List Frame} {meth : Method} {c : Code} {D : va_G} {A : Nat → Prop} {ad : Nat → Nat} {cy : Nat → ClassId} (hC : zC p m c cX3_drawOldSprite 13 s args wzX3_drawOldSprite RX3 meth none)  {res : zSt} {H : Heap} {locs : List Loc} {σ : zSt} {ls : Array Slot} {x3 : Int32} {x4 : Int32} {x7 : Int32} {x8 : Int32} {s0 : Int32} {s1 : Int32} (hI : zI st D (tC cy) (wC ad cy σ) A s H locs) (hl : lv_has ls 13 [(0, .ref (ad 3)), (3, .int x3), (4, .int x4), (7, .int x7), (8, .int x8)]) (hf : fX3_drawOldSprite_152  σ x3 x4 x7 x8 s0 s1 = some res) : W p l e rmX3_drawOldSprite s m args below meth c H locs 0 0 (zQu below args s D (tC cy) (wC ad cy) A res) (F0 m 152 ls [.int s0, .int s1]) := by
  have hx := hC.1
  have hb := hC.2.1
  unfold fX3_drawOldSprite_152 at hf
  refine lv_ior hx hb dX3_drawOldSprite_152 ?_
  refine lv_topi (fun v4 ev4 => ?_)
  replace hf := zbv_use ev4 hf
  refine lv_istore (lv' := [(10, .int v4), (0, .ref (ad 3)), (3, .int x3), (4, .int x4), (7, .int x7), (8, .int x8)]) hx hb dX3_drawOldSprite_153 hl (by decide) rfl (fun ls hl => ?_)
  refine lv_iconst (v := 0) hx hb dX3_drawOldSprite_155 (by decide) ?_
  refine lv_istore (lv' := [(11, .int 0), (10, .int v4), (0, .ref (ad 3)), (3, .int x3), (4, .int x4), (7, .int x7), (8, .int x8)]) hx hb dX3_drawOldSprite_156 hl (by decide) rfl (fun ls hl => ?_)
  exact blX3_drawOldSprite_158 hC  zfuel _ _ _ _ _ _ _ _ _ _ hI (lv_sub hl [2, 3, 4, 5, 6, 1, 0] rfl) hf
set_option maxRecDepth 20000 in
set_option maxHeartbeats 4000000 in
theorem bX3_drawOldSprite_113 {st : Nat → Nat} {p : Program} {l : Launch} {e : Env} {s : State} {m : MethodId} {args : Array Value} {below : List Frame} {meth : Method} {c : Code} {D : va_G} {A : Nat → Prop} {ad : Nat → Nat} {cy : Nat → ClassId} (hC : zC p m c cX3_drawOldSprite 13 s args wzX3_drawOldSprite RX3 meth none)  {res : zSt} {H : Heap} {locs : List Loc} {σ : zSt} {ls : Array Slot} {x2 : Int32} {x3 : Int32} {x4 : Int32} {x7 : Int32} {x8 : Int32} {s0 : Int32} {s1 : Int32} {s2 : Int32} (hI : zI st D (tC cy) (wC ad cy σ) A s H locs) (hl : lv_has ls 13 [(0, .ref (ad 3)), (2, .int x2), (3, .int x3), (4, .int x4), (7, .int x7), (8, .int x8)]) (hf : fX3_drawOldSprite_113  σ x2 x3 x4 x7 x8 s0 s1 s2 = some res) : W p l e rmX3_drawOldSprite s m args below meth c H locs 0 0 (zQu below args s D (tC cy) (wC ad cy) A res) (F0 m 113 ls [.int s0, .int s1, .int s2]) := by
  have hx := hC.1
  have hb := hC.2.1
  unfold fX3_drawOldSprite_113 at hf
  refine lv_imul hx hb dX3_drawOldSprite_113 ?_
  refine lv_iadd hx hb dX3_drawOldSprite_114 ?_
  refine lv_iload_n hx hb dX3_drawOldSprite_115 rfl (lv_at hl 1 rfl) ?_
  refine lv_iadd hx hb dX3_drawOldSprite_116 ?_
  refine lv_topi (fun v5 ev5 => ?_)
  replace hf := zbv_use ev5 hf
  refine lv_istore (lv' := [(9, .int v5), (0, .ref (ad 3)), (2, .int x2), (3, .int x3), (4, .int x4), (7, .int x7), (8, .int x8)]) hx hb dX3_drawOldSprite_117 hl (by decide) rfl (fun ls hl => ?_)
  refine lv_aload_n hx hb dX3_drawOldSprite_119 rfl (lv_at hl 1 rfl) ?_
  refine z_get hC hI hinX3_drawOldSprite_X30 3 (wC_e3 ad cy σ) rfl 0 (by decide) (List.mem_cons_of_mem _ zw4_22) rfl dX3_drawOldSprite_120 ?_
  refine lv_iload hx hb dX3_drawOldSprite_123 (lv_at hl 0 rfl) ?_
  obtain ⟨σ6, v7, g6, hf⟩ := zbi_use hf
  refine z_callVi (As := [.int v5]) (rest := []) hC hI (cX9_vramByte_met st l D ad cy σ v5 _ g6) (zgV zw36_14 zw36_15 zw36_16 zw2_1 zw36_17) rfl ⟨rfl, rfl⟩ 1 hdX9_vramByte ⟨Nat.le_of_ble_eq_true rfl, Nat.le_of_ble_eq_true rfl⟩ rfl rfl (wC_e2 ad cy σ) rfl hl rfl (Nat.le_of_ble_eq_true rfl) dX3_drawOldSprite_125 ⟨Nat.zero_le _, Nat.zero_le _⟩ (fun H locs hI => ?_)
  refine lv_bipush (v := 8) hx hb dX3_drawOldSprite_128 (by decide) ?_
  refine lv_ishl hx hb dX3_drawOldSprite_130 ?_
  refine lv_iload hx hb dX3_drawOldSprite_131 (lv_at hl 6 rfl) ?_
  refine lv_if_eq (tgt := 151) hx hb dX3_drawOldSprite_133 (by decide) (fun q => ?_) (fun q => ?_)
  · replace hf := zif_t q hf
    refine lv_iconst (v := 0) hx hb dX3_drawOldSprite_151 (by decide) ?_
    exact bX3_drawOldSprite_152 hC  hI (lv_sub hl [1, 3, 4, 5, 6] rfl) hf
  replace hf := zif_f q hf
  refine lv_aload_n hx hb dX3_drawOldSprite_136 rfl (lv_at hl 1 rfl) ?_
  refine z_get hC hI hinX3_drawOldSprite_X30 3 (wC_e3 ad cy σ6) rfl 0 (by decide) (List.mem_cons_of_mem _ zw4_22) rfl dX3_drawOldSprite_137 ?_
  refine lv_iload hx hb dX3_drawOldSprite_140 (lv_at hl 0 rfl) ?_
  refine lv_bipush (v := 16) hx hb dX3_drawOldSprite_142 (by decide) ?_
  refine lv_iadd hx hb dX3_drawOldSprite_144 ?_
  obtain ⟨σ8, v9, g8, hf⟩ := zbi_use hf
  refine z_callVi (As := [.int (v5 + 16)]) (rest := [.int (v7 <<< ((8 : Int32) &&& 31))]) hC hI (cX9_vramByte_met st l D ad cy σ6 (v5 + 16) _ g8) (zgV zw36_14 zw36_15 zw36_16 zw2_1 zw36_17) rfl ⟨rfl, rfl⟩ 1 hdX9_vramByte ⟨Nat.le_of_ble_eq_true rfl, Nat.le_of_ble_eq_true rfl⟩ rfl rfl (wC_e2 ad cy σ6) rfl hl rfl (Nat.le_of_ble_eq_true rfl) dX3_drawOldSprite_145 ⟨Nat.zero_le _, Nat.zero_le _⟩ (fun H locs hI => ?_)
  refine lv_goto (tgt := 152) hx hb dX3_drawOldSprite_148 (by decide) ?_
  exact bX3_drawOldSprite_152 hC  hI (lv_sub hl [1, 3, 4, 5, 6] rfl) hf
set_option maxRecDepth 20000 in
set_option maxHeartbeats 4000000 in
theorem bX3_drawOldSprite_78 {st : Nat → Nat} {p : Program} {l : Launch} {e : Env} {s : State} {m : MethodId} {args : Array Value} {below : List Frame} {meth : Method} {c : Code} {D : va_G} {A : Nat → Prop} {ad : Nat → Nat} {cy : Nat → ClassId} (hC : zC p m c cX3_drawOldSprite 13 s args wzX3_drawOldSprite RX3 meth none)  {res : zSt} {H : Heap} {locs : List Loc} {σ : zSt} {ls : Array Slot} {x2 : Int32} {x3 : Int32} {x4 : Int32} {x5 : Int32} {x7 : Int32} {s0 : Int32} (hI : zI st D (tC cy) (wC ad cy σ) A s H locs) (hl : lv_has ls 13 [(0, .ref (ad 3)), (2, .int x2), (3, .int x3), (4, .int x4), (5, .int x5), (7, .int x7)]) (hf : fX3_drawOldSprite_78  σ x2 x3 x4 x5 x7 s0 = some res) : W p l e rmX3_drawOldSprite s m args below meth c H locs 0 0 (zQu below args s D (tC cy) (wC ad cy) A res) (F0 m 78 ls [.int s0]) := by
  have hx := hC.1
  have hb := hC.2.1
  unfold fX3_drawOldSprite_78 at hf
  refine lv_istore (lv' := [(8, .int s0), (0, .ref (ad 3)), (2, .int x2), (3, .int x3), (4, .int x4), (5, .int x5), (7, .int x7)]) hx hb dX3_drawOldSprite_78 hl (by decide) rfl (fun ls hl => ?_)
  refine lv_sipush (v := 2048) hx hb dX3_drawOldSprite_80 (by decide) ?_
  refine lv_aload_n hx hb dX3_drawOldSprite_83 rfl (lv_at hl 1 rfl) ?_
  refine z_get hC hI hinX3_drawOldSprite_X30 3 (wC_e3 ad cy σ) rfl 0 (by decide) (List.mem_cons_of_mem _ zw4_22) rfl dX3_drawOldSprite_84 ?_
  refine lv_bipush (v := 6) hx hb dX3_drawOldSprite_87 (by decide) ?_
  obtain ⟨σ10, v11, g10, hf⟩ := zbi_use hf
  refine z_callVi (As := [.int 6]) (rest := [.int 2048]) hC hI (cX9_held_met st l D ad cy σ 6 _ g10) (zgV zw35_21 zw35_13 zw35_14 zw2_1 zw35_15) rfl ⟨rfl, rfl⟩ 1 hdX9_held ⟨Nat.le_of_ble_eq_true rfl, Nat.le_of_ble_eq_true rfl⟩ rfl rfl (wC_e2 ad cy σ) rfl hl rfl (Nat.le_of_ble_eq_true rfl) dX3_drawOldSprite_89 ⟨Nat.zero_le _, Nat.zero_le _⟩ (fun H locs hI => ?_)
  refine lv_bipush (v := 7) hx hb dX3_drawOldSprite_92 (by decide) ?_
  refine lv_iand hx hb dX3_drawOldSprite_94 ?_
  refine lv_imul hx hb dX3_drawOldSprite_95 ?_
  refine lv_bipush (v := 8) hx hb dX3_drawOldSprite_96 (by decide) ?_
  refine lv_iload hx hb dX3_drawOldSprite_98 (lv_at hl 0 rfl) ?_
  refine lv_if_eq (tgt := 111) hx hb dX3_drawOldSprite_100 (by decide) (fun q => ?_) (fun q => ?_)
  · replace hf := zif_t q hf
    refine lv_iload hx hb dX3_drawOldSprite_111 (lv_at hl 5 rfl) ?_
    exact bX3_drawOldSprite_113 hC  hI (lv_sub hl [1, 2, 3, 4, 6, 0] rfl) hf
  replace hf := zif_f q hf
  refine lv_iload hx hb dX3_drawOldSprite_103 (lv_at hl 5 rfl) ?_
  refine lv_bipush (v := (-4)) hx hb dX3_drawOldSprite_105 (by decide) ?_
  refine lv_iand hx hb dX3_drawOldSprite_107 ?_
  refine lv_goto (tgt := 113) hx hb dX3_drawOldSprite_108 (by decide) ?_
  exact bX3_drawOldSprite_113 hC  hI (lv_sub hl [1, 2, 3, 4, 6, 0] rfl) hf
set_option maxRecDepth 20000 in
set_option maxHeartbeats 4000000 in
theorem bX3_drawOldSprite_35 {st : Nat → Nat} {p : Program} {l : Launch} {e : Env} {s : State} {m : MethodId} {args : Array Value} {below : List Frame} {meth : Method} {c : Code} {D : va_G} {A : Nat → Prop} {ad : Nat → Nat} {cy : Nat → ClassId} (hC : zC p m c cX3_drawOldSprite 13 s args wzX3_drawOldSprite RX3 meth none)  {res : zSt} {H : Heap} {locs : List Loc} {σ : zSt} {ls : Array Slot} {x1 : Int32} {x2 : Int32} {x3 : Int32} {s0 : Int32} {s1 : Int32} (hI : zI st D (tC cy) (wC ad cy σ) A s H locs) (hl : lv_has ls 13 [(0, .ref (ad 3)), (1, .int x1), (2, .int x2), (3, .int x3)]) (hf : fX3_drawOldSprite_35  σ x1 x2 x3 s0 s1 = some res) : W p l e rmX3_drawOldSprite s m args below meth c H locs 0 0 (zQu below args s D (tC cy) (wC ad cy) A res) (F0 m 35 ls [.int s0, .int s1]) := by
  have hx := hC.1
  have hb := hC.2.1
  unfold fX3_drawOldSprite_35 at hf
  refine lv_isub hx hb dX3_drawOldSprite_35 ?_
  refine lv_topi (fun v12 ev12 => ?_)
  replace hf := zbv_use ev12 hf
  refine lv_istore (lv' := [(4, .int v12), (0, .ref (ad 3)), (1, .int x1), (2, .int x2), (3, .int x3)]) hx hb dX3_drawOldSprite_36 hl (by decide) rfl (fun ls hl => ?_)
  refine lv_aload_n hx hb dX3_drawOldSprite_38 rfl (lv_at hl 1 rfl) ?_
  refine z_get hC hI hinX3_drawOldSprite_X30 3 (wC_e3 ad cy σ) rfl 0 (by decide) (List.mem_cons_of_mem _ zw4_22) rfl dX3_drawOldSprite_39 ?_
  refine lv_iload_n hx hb dX3_drawOldSprite_42 rfl (lv_at hl 2 rfl) ?_
  refine lv_iconst (v := 2) hx hb dX3_drawOldSprite_43 (by decide) ?_
  refine lv_iadd hx hb dX3_drawOldSprite_44 ?_
  obtain ⟨σ13, v14, g13, hf⟩ := zbi_use hf
  refine z_callVi (As := [.int (x1 + 2)]) (rest := []) hC hI (cX9_vramByte_met st l D ad cy σ (x1 + 2) _ g13) (zgV zw36_14 zw36_15 zw36_16 zw2_1 zw36_17) rfl ⟨rfl, rfl⟩ 1 hdX9_vramByte ⟨Nat.le_of_ble_eq_true rfl, Nat.le_of_ble_eq_true rfl⟩ rfl rfl (wC_e2 ad cy σ) rfl hl rfl (Nat.le_of_ble_eq_true rfl) dX3_drawOldSprite_45 ⟨Nat.zero_le _, Nat.zero_le _⟩ (fun H locs hI => ?_)
  refine lv_istore (lv' := [(5, .int v14), (4, .int v12), (0, .ref (ad 3)), (1, .int x1), (2, .int x2), (3, .int x3)]) hx hb dX3_drawOldSprite_48 hl (by decide) rfl (fun ls hl => ?_)
  refine lv_aload_n hx hb dX3_drawOldSprite_50 rfl (lv_at hl 2 rfl) ?_
  refine z_get hC hI hinX3_drawOldSprite_X30 3 (wC_e3 ad cy σ13) rfl 0 (by decide) (List.mem_cons_of_mem _ zw4_22) rfl dX3_drawOldSprite_51 ?_
  refine lv_iconst (v := 1) hx hb dX3_drawOldSprite_54 (by decide) ?_
  obtain ⟨σ15, v16, g15, hf⟩ := zbi_use hf
  refine z_callVi (As := [.int 1]) (rest := []) hC hI (cX9_held_met st l D ad cy σ13 1 _ g15) (zgV zw35_21 zw35_13 zw35_14 zw2_1 zw35_15) rfl ⟨rfl, rfl⟩ 1 hdX9_held ⟨Nat.le_of_ble_eq_true rfl, Nat.le_of_ble_eq_true rfl⟩ rfl rfl (wC_e2 ad cy σ13) rfl hl rfl (Nat.le_of_ble_eq_true rfl) dX3_drawOldSprite_55 ⟨Nat.zero_le _, Nat.zero_le _⟩ (fun H locs hI => ?_)
  refine lv_istore (lv' := [(6, .int v16), (5, .int v14), (4, .int v12), (0, .ref (ad 3)), (1, .int x1), (2, .int x2), (3, .int x3)]) hx hb dX3_drawOldSprite_58 hl (by decide) rfl (fun ls hl => ?_)
  refine lv_iload hx hb dX3_drawOldSprite_60 (lv_at hl 0 rfl) ?_
  refine lv_iconst (v := 1) hx hb dX3_drawOldSprite_62 (by decide) ?_
  refine lv_iand hx hb dX3_drawOldSprite_63 ?_
  refine lv_topi (fun v17 ev17 => ?_)
  replace hf := zbv_use ev17 hf
  refine lv_istore (lv' := [(7, .int v17), (6, .int v16), (5, .int v14), (4, .int v12), (0, .ref (ad 3)), (1, .int x1), (2, .int x2), (3, .int x3)]) hx hb dX3_drawOldSprite_64 hl (by decide) rfl (fun ls hl => ?_)
  refine lv_iload hx hb dX3_drawOldSprite_66 (lv_at hl 1 rfl) ?_
  refine lv_iconst (v := 2) hx hb dX3_drawOldSprite_68 (by decide) ?_
  refine lv_iand hx hb dX3_drawOldSprite_69 ?_
  refine lv_if_eq (tgt := 77) hx hb dX3_drawOldSprite_70 (by decide) (fun q => ?_) (fun q => ?_)
  · replace hf := zif_t q hf
    refine lv_iconst (v := 0) hx hb dX3_drawOldSprite_77 (by decide) ?_
    exact bX3_drawOldSprite_78 hC  hI (lv_sub hl [4, 6, 7, 3, 2, 0] rfl) hf
  replace hf := zif_f q hf
  refine lv_iconst (v := 1) hx hb dX3_drawOldSprite_73 (by decide) ?_
  refine lv_goto (tgt := 78) hx hb dX3_drawOldSprite_74 (by decide) ?_
  exact bX3_drawOldSprite_78 hC  hI (lv_sub hl [4, 6, 7, 3, 2, 0] rfl) hf
set_option maxRecDepth 20000 in
set_option maxHeartbeats 4000000 in
theorem bX3_drawOldSprite {st : Nat → Nat} {p : Program} {l : Launch} {e : Env} {s : State} {m : MethodId} {args : Array Value} {below : List Frame} {meth : Method} {c : Code} {D : va_G} {A : Nat → Prop} {ad : Nat → Nat} {cy : Nat → ClassId} (hC : zC p m c cX3_drawOldSprite 13 s args wzX3_drawOldSprite RX3 meth none)  {res : zSt} {H : Heap} {locs : List Loc} {σ : zSt} {ls : Array Slot} {x1 : Int32} {x2 : Int32} (hI : zI st D (tC cy) (wC ad cy σ) A s H locs) (hl : lv_has ls 13 [(0, .ref (ad 3)), (1, .int x1), (2, .int x2)]) (hf : fX3_drawOldSprite  σ x1 x2 = some res) : W p l e rmX3_drawOldSprite s m args below meth c H locs 0 0 (zQu below args s D (tC cy) (wC ad cy) A res) (F0 m 0 ls []) := by
  have hx := hC.1
  have hb := hC.2.1
  unfold fX3_drawOldSprite at hf
  refine lv_aload_n hx hb dX3_drawOldSprite_0 rfl (lv_at hl 0 rfl) ?_
  refine z_get hC hI hinX3_drawOldSprite_X30 3 (wC_e3 ad cy σ) rfl 0 (by decide) (List.mem_cons_of_mem _ zw4_22) rfl dX3_drawOldSprite_1 ?_
  refine lv_iload_n hx hb dX3_drawOldSprite_4 rfl (lv_at hl 1 rfl) ?_
  refine lv_iconst (v := 3) hx hb dX3_drawOldSprite_5 (by decide) ?_
  refine lv_iadd hx hb dX3_drawOldSprite_6 ?_
  obtain ⟨σ18, v19, g18, hf⟩ := zbi_use hf
  refine z_callVi (As := [.int (x1 + 3)]) (rest := []) hC hI (cX9_vramByte_met st l D ad cy σ (x1 + 3) _ g18) (zgV zw36_14 zw36_15 zw36_16 zw2_1 zw36_17) rfl ⟨rfl, rfl⟩ 1 hdX9_vramByte ⟨Nat.le_of_ble_eq_true rfl, Nat.le_of_ble_eq_true rfl⟩ rfl rfl (wC_e2 ad cy σ) rfl hl rfl (Nat.le_of_ble_eq_true rfl) dX3_drawOldSprite_7 ⟨Nat.zero_le _, Nat.zero_le _⟩ (fun H locs hI => ?_)
  refine lv_istore_n (lv' := [(3, .int v19), (0, .ref (ad 3)), (1, .int x1), (2, .int x2)]) hx hb dX3_drawOldSprite_10 rfl hl (by decide) rfl (fun ls hl => ?_)
  refine lv_aload_n hx hb dX3_drawOldSprite_11 rfl (lv_at hl 1 rfl) ?_
  refine z_get hC hI hinX3_drawOldSprite_X30 3 (wC_e3 ad cy σ18) rfl 0 (by decide) (List.mem_cons_of_mem _ zw4_22) rfl dX3_drawOldSprite_12 ?_
  refine lv_iload_n hx hb dX3_drawOldSprite_15 rfl (lv_at hl 2 rfl) ?_
  refine lv_iconst (v := 1) hx hb dX3_drawOldSprite_16 (by decide) ?_
  refine lv_iadd hx hb dX3_drawOldSprite_17 ?_
  obtain ⟨σ20, v21, g20, hf⟩ := zbi_use hf
  refine z_callVi (As := [.int (x1 + 1)]) (rest := []) hC hI (cX9_vramByte_met st l D ad cy σ18 (x1 + 1) _ g20) (zgV zw36_14 zw36_15 zw36_16 zw2_1 zw36_17) rfl ⟨rfl, rfl⟩ 1 hdX9_vramByte ⟨Nat.le_of_ble_eq_true rfl, Nat.le_of_ble_eq_true rfl⟩ rfl rfl (wC_e2 ad cy σ18) rfl hl rfl (Nat.le_of_ble_eq_true rfl) dX3_drawOldSprite_18 ⟨Nat.zero_le _, Nat.zero_le _⟩ (fun H locs hI => ?_)
  refine lv_iload_n hx hb dX3_drawOldSprite_21 rfl (lv_at hl 0 rfl) ?_
  refine lv_sipush (v := 128) hx hb dX3_drawOldSprite_22 (by decide) ?_
  refine lv_iand hx hb dX3_drawOldSprite_25 ?_
  refine lv_if_eq (tgt := 34) hx hb dX3_drawOldSprite_26 (by decide) (fun q => ?_) (fun q => ?_)
  · replace hf := zif_t q hf
    refine lv_iconst (v := 0) hx hb dX3_drawOldSprite_34 (by decide) ?_
    exact bX3_drawOldSprite_35 hC  hI (lv_sub hl [1, 2, 3, 0] rfl) hf
  replace hf := zif_f q hf
  refine lv_bipush (v := 32) hx hb dX3_drawOldSprite_29 (by decide) ?_
  refine lv_goto (tgt := 35) hx hb dX3_drawOldSprite_31 (by decide) ?_
  exact bX3_drawOldSprite_35 hC  hI (lv_sub hl [1, 2, 3, 0] rfl) hf
set_option maxRecDepth 20000 in
theorem cX3_drawOldSprite_met (st : Nat → Nat) (l : Launch) (D : va_G) (ad : Nat → Nat) (cy : Nat → ClassId) (σ : zSt) (x1 : Int32) (x2 : Int32) (res : zSt) (hf : fX3_drawOldSprite σ x1 x2 = some res) (sz : Nat) : zMu st l yX3_drawOldSprite wzX3_drawOldSprite rmX3_drawOldSprite [.ref (ad 3), .int x1, .int x2] D (tC cy) (wC ad cy) sz σ res :=
  zMu.of (cc := cX3_drawOldSprite) (maxL := 13) (ret := none) (by decide) rfl (Nat.le_of_ble_eq_true rfl) (fun p e s m args below meth c hC A hI ls hl => bX3_drawOldSprite hC hI hl hf)
theorem hdX3_drawOldSprite : yX3_drawOldSprite.cls = RX3 ∧ yX3_drawOldSprite.cls ≠ "java/lang/invoke/MethodHandle" ∧ yX3_drawOldSprite.cls ≠ "java/lang/invoke/VarHandle" ∧ (parseMethodDescriptor yX3_drawOldSprite.desc).map (fun d => d.parameters.length) = some 2 := by decide +kernel
noncomputable def rmX3_drawOldSprites : Room := { frames := 3, cells := 0, slots := 0, locals := 75 }
noncomputable def wzX3_drawOldSprites : List Cond := .code yX3_drawOldSprites cX3_drawOldSprites 8 none :: wsL_law
theorem hinX3_drawOldSprites_X30 : ∀ w ∈ wsX30, w ∈ wzX3_drawOldSprites := fun w h => List.mem_cons_of_mem _ (inlX3 w h)
noncomputable def fX3_drawOldSprites_155 (k117 : zSt → Int32 → Option (zSt)) (σ : zSt) (x4 : Int32) : Option (zSt) :=
  zbv (x4 + 1) (fun v1 =>
  k117 σ v1)
noncomputable def fX3_drawOldSprites_117_body (k117 : zSt → Int32 → Option (zSt)) (σ : zSt) (x4 : Int32) : Option (zSt) :=
  if 256 ≤ x4 then some σ else
  zck (zin x4 256) (
  if ((zgi σ 28 x4.toNatClampNeg) &&& 15) ≤ 0 then fX3_drawOldSprites_155 k117 σ x4 else
  zck (zin x4 256) (
  zck (zin x4 256) (zbv (zsi σ 27 (x4.toNatClampNeg) ((zgi σ 28 x4.toNatClampNeg) &&& 15)) (fun σ2 =>
  fX3_drawOldSprites_155 k117 σ2 x4))))
noncomputable def fX3_drawOldSprites_117  : Nat → zSt → Int32 → Option (zSt)
  | 0, _, _ => none
  | n + 1, σ, x4 => fX3_drawOldSprites_117_body (fX3_drawOldSprites_117  n) σ x4
noncomputable def fX3_drawOldSprites_114  (σ : zSt)  : Option (zSt) :=
  fX3_drawOldSprites_117 zfuel σ 0
noncomputable def fX3_drawOldSprites_108 (k29 : zSt → Int32 → Int32 → Int32 → Int32 → Option (zSt)) (σ : zSt) (x1 : Int32) (x2 : Int32) (x3 : Int32) (x4 : Int32) : Option (zSt) :=
  zbv (x4 + 1) (fun v3 =>
  k29 σ x1 x2 x3 v3)
noncomputable def fX3_drawOldSprites_29_body (k29 : zSt → Int32 → Int32 → Int32 → Int32 → Option (zSt)) (σ : zSt) (x1 : Int32) (x2 : Int32) (x3 : Int32) (x4 : Int32) : Option (zSt) :=
  if 32 ≤ x4 then fX3_drawOldSprites_114 σ else
  zbv (x2 + (4 * x4)) (fun v4 =>
  zbi (fX9_vramByte σ v4) (fun σ5 v6 =>
  if v6 = 208 then fX3_drawOldSprites_114 σ5 else
  zbi (fX3_rowOfSprite σ5 x1 v6) (fun σ7 v8 =>
  if v8 < 0 then fX3_drawOldSprites_108 k29 σ7 x1 x2 x3 x4 else
  zbv (x3 + 1) (fun v9 =>
  if v9 ≤ 4 then zbu (fX3_drawOldSprite σ7 v4 v8) (fun σ10 =>
  fX3_drawOldSprites_108 k29 σ10 x1 x2 v9 x4) else
  zbu (fX9_markFifth σ7 x4) (fun σ11 =>
  fX3_drawOldSprites_114 σ11)))))
noncomputable def fX3_drawOldSprites_29  : Nat → zSt → Int32 → Int32 → Int32 → Int32 → Option (zSt)
  | 0, _, _, _, _, _ => none
  | n + 1, σ, x1, x2, x3, x4 => fX3_drawOldSprites_29_body (fX3_drawOldSprites_29  n) σ x1 x2 x3 x4
noncomputable def fX3_drawOldSprites  (σ : zSt) (x1 : Int32) : Option (zSt) :=
  zbu (fJ7_fill_53178_k28 σ 0) (fun σ12 =>
  zbi (fX9_held σ12 5) (fun σ13 v14 =>
  zbv (128 * (v14 &&& 127)) (fun v15 =>
  fX3_drawOldSprites_29 zfuel σ13 x1 v15 0 0)))
set_option maxRecDepth 20000 in
set_option maxHeartbeats 4000000 in
theorem bX3_drawOldSprites_155 {st : Nat → Nat} {p : Program} {l : Launch} {e : Env} {s : State} {m : MethodId} {args : Array Value} {below : List Frame} {meth : Method} {c : Code} {D : va_G} {A : Nat → Prop} {ad : Nat → Nat} {cy : Nat → ClassId} (hC : zC p m c cX3_drawOldSprites 8 s args wzX3_drawOldSprites RX3 meth none) {k117 : zSt → Int32 → Option (zSt)} {res : zSt} (hk117 : ∀ (H : Heap) (locs : List Loc) (σ : zSt) (ls : Array Slot) (x4 : Int32), zI st D (tC cy) (wC ad cy σ) A s H locs → lv_has ls 8 [(0, .ref (ad 3)), (4, .int x4)] → k117 σ x4 = some res → W p l e rmX3_drawOldSprites s m args below meth c H locs 0 0 (zQu below args s D (tC cy) (wC ad cy) A res) (F0 m 117 ls [])) {H : Heap} {locs : List Loc} {σ : zSt} {ls : Array Slot} {x4 : Int32} (hI : zI st D (tC cy) (wC ad cy σ) A s H locs) (hl : lv_has ls 8 [(0, .ref (ad 3)), (4, .int x4)]) (hf : fX3_drawOldSprites_155 k117 σ x4 = some res) : W p l e rmX3_drawOldSprites s m args below meth c H locs 0 0 (zQu below args s D (tC cy) (wC ad cy) A res) (F0 m 155 ls []) := by
  have hx := hC.1
  have hb := hC.2.1
  unfold fX3_drawOldSprites_155 at hf
  obtain ⟨v1, ev1⟩ : ∃ z : Int32, z = x4 + 1 := ⟨_, rfl⟩
  replace hf := zbv_use ev1 hf
  refine lv_iinc (v := v1) (lv' := [(4, .int v1), (0, .ref (ad 3))]) hx hb dX3_drawOldSprites_155 hl (k := 1) rfl (by rw [ev1]; rfl) (by decide) rfl (fun ls hl => ?_)
  refine lv_goto (tgt := 117) hx hb dX3_drawOldSprites_158 (by decide) ?_
  exact hk117 _ _ _ _ _ hI (lv_sub hl [1, 0] rfl) hf
set_option maxRecDepth 20000 in
set_option maxHeartbeats 4000000 in
theorem bX3_drawOldSprites_117_body {st : Nat → Nat} {p : Program} {l : Launch} {e : Env} {s : State} {m : MethodId} {args : Array Value} {below : List Frame} {meth : Method} {c : Code} {D : va_G} {A : Nat → Prop} {ad : Nat → Nat} {cy : Nat → ClassId} (hC : zC p m c cX3_drawOldSprites 8 s args wzX3_drawOldSprites RX3 meth none) {k117 : zSt → Int32 → Option (zSt)} {res : zSt} (hk117 : ∀ (H : Heap) (locs : List Loc) (σ : zSt) (ls : Array Slot) (x4 : Int32), zI st D (tC cy) (wC ad cy σ) A s H locs → lv_has ls 8 [(0, .ref (ad 3)), (4, .int x4)] → k117 σ x4 = some res → W p l e rmX3_drawOldSprites s m args below meth c H locs 0 0 (zQu below args s D (tC cy) (wC ad cy) A res) (F0 m 117 ls [])) {H : Heap} {locs : List Loc} {σ : zSt} {ls : Array Slot} {x4 : Int32} (hI : zI st D (tC cy) (wC ad cy σ) A s H locs) (hl : lv_has ls 8 [(0, .ref (ad 3)), (4, .int x4)]) (hf : fX3_drawOldSprites_117_body k117 σ x4 = some res) : W p l e rmX3_drawOldSprites s m args below meth c H locs 0 0 (zQu below args s D (tC cy) (wC ad cy) A res) (F0 m 117 ls []) := by
  have hx := hC.1
  have hb := hC.2.1
  unfold fX3_drawOldSprites_117_body at hf
  refine lv_iload hx hb dX3_drawOldSprites_117 (lv_at hl 1 rfl) ?_
  refine lv_sipush (v := 256) hx hb dX3_drawOldSprites_119 (by decide) ?_
  refine lv_icmp_ge (tgt := 161) hx hb dX3_drawOldSprites_122 (by decide) (fun q => ?_) (fun q => ?_)
  · replace hf := zif_t q hf
    exact z_return hC hI hf dX3_drawOldSprites_161
  replace hf := zif_f q hf
  refine lv_aload_n hx hb dX3_drawOldSprites_125 rfl (lv_at hl 0 rfl) ?_
  refine z_get hC hI hinX3_drawOldSprites_X30 3 (wC_e3 ad cy σ) rfl 5 (by decide) (List.mem_cons_of_mem _ zw4_20) rfl dX3_drawOldSprites_126 ?_
  refine lv_iload hx hb dX3_drawOldSprites_129 (lv_at hl 1 rfl) ?_
  obtain ⟨q, hf⟩ := zck_use hf
  refine z_iald hC hI 28 15 (wC_e28 ad cy σ) (tC_t28 cy) q dX3_drawOldSprites_131 ?_
  refine lv_bipush (v := 15) hx hb dX3_drawOldSprites_132 (by decide) ?_
  refine lv_iand hx hb dX3_drawOldSprites_134 ?_
  refine lv_if_le (tgt := 155) hx hb dX3_drawOldSprites_135 (by decide) (fun q => ?_) (fun q => ?_)
  · replace hf := zif_t q hf
    exact bX3_drawOldSprites_155 hC hk117 hI hl hf
  replace hf := zif_f q hf
  refine lv_aload_n hx hb dX3_drawOldSprites_138 rfl (lv_at hl 0 rfl) ?_
  refine z_get hC hI hinX3_drawOldSprites_X30 3 (wC_e3 ad cy σ) rfl 4 (by decide) (List.mem_cons_of_mem _ zw4_19) rfl dX3_drawOldSprites_139 ?_
  refine lv_iload hx hb dX3_drawOldSprites_142 (lv_at hl 1 rfl) ?_
  refine lv_aload_n hx hb dX3_drawOldSprites_144 rfl (lv_at hl 0 rfl) ?_
  refine z_get hC hI hinX3_drawOldSprites_X30 3 (wC_e3 ad cy σ) rfl 5 (by decide) (List.mem_cons_of_mem _ zw4_20) rfl dX3_drawOldSprites_145 ?_
  refine lv_iload hx hb dX3_drawOldSprites_148 (lv_at hl 1 rfl) ?_
  obtain ⟨q, hf⟩ := zck_use hf
  refine z_iald hC hI 28 15 (wC_e28 ad cy σ) (tC_t28 cy) q dX3_drawOldSprites_150 ?_
  refine lv_bipush (v := 15) hx hb dX3_drawOldSprites_151 (by decide) ?_
  refine lv_iand hx hb dX3_drawOldSprites_153 ?_
  obtain ⟨q, hf⟩ := zck_use hf
  obtain ⟨σ2, eσ2⟩ : ∃ z, z = zsi σ 27 (x4.toNatClampNeg) ((zgi σ 28 x4.toNatClampNeg) &&& 15) := ⟨_, rfl⟩
  replace hf := zbv_use eσ2 hf
  refine z_iast hC hI 27 14 (wC_e27 ad cy σ) (tC_t27 cy) q ((wC_s27 ad cy σ _ _).trans (congrArg (wC ad cy) eσ2.symm)) dX3_drawOldSprites_154 (fun H locs hI => ?_)
  exact bX3_drawOldSprites_155 hC hk117 hI hl hf
theorem blX3_drawOldSprites_117 {st : Nat → Nat} {p : Program} {l : Launch} {e : Env} {s : State} {m : MethodId} {args : Array Value} {below : List Frame} {meth : Method} {c : Code} {D : va_G} {A : Nat → Prop} {ad : Nat → Nat} {cy : Nat → ClassId} (hC : zC p m c cX3_drawOldSprites 8 s args wzX3_drawOldSprites RX3 meth none)  {res : zSt} : ∀ (n : Nat) (H : Heap) (locs : List Loc) (σ : zSt) (ls : Array Slot) (x4 : Int32), zI st D (tC cy) (wC ad cy σ) A s H locs → lv_has ls 8 [(0, .ref (ad 3)), (4, .int x4)] → fX3_drawOldSprites_117  n σ x4 = some res → W p l e rmX3_drawOldSprites s m args below meth c H locs 0 0 (zQu below args s D (tC cy) (wC ad cy) A res) (F0 m 117 ls []) := by
  intro n
  induction n with
  | zero => intro H locs σ ls x4 hI hl hf; cases hf
  | succ n ih => intro H locs σ ls x4 hI hl hf; exact bX3_drawOldSprites_117_body hC ih hI hl hf
set_option maxRecDepth 20000 in
set_option maxHeartbeats 4000000 in
theorem bX3_drawOldSprites_114 {st : Nat → Nat} {p : Program} {l : Launch} {e : Env} {s : State} {m : MethodId} {args : Array Value} {below : List Frame} {meth : Method} {c : Code} {D : va_G} {A : Nat → Prop} {ad : Nat → Nat} {cy : Nat → ClassId} (hC : zC p m c cX3_drawOldSprites 8 s args wzX3_drawOldSprites RX3 meth none)  {res : zSt} {H : Heap} {locs : List Loc} {σ : zSt} {ls : Array Slot}  (hI : zI st D (tC cy) (wC ad cy σ) A s H locs) (hl : lv_has ls 8 [(0, .ref (ad 3))]) (hf : fX3_drawOldSprites_114  σ  = some res) : W p l e rmX3_drawOldSprites s m args below meth c H locs 0 0 (zQu below args s D (tC cy) (wC ad cy) A res) (F0 m 114 ls []) := by
  have hx := hC.1
  have hb := hC.2.1
  unfold fX3_drawOldSprites_114 at hf
  refine lv_iconst (v := 0) hx hb dX3_drawOldSprites_114 (by decide) ?_
  refine lv_istore (lv' := [(4, .int 0), (0, .ref (ad 3))]) hx hb dX3_drawOldSprites_115 hl (by decide) rfl (fun ls hl => ?_)
  exact blX3_drawOldSprites_117 hC  zfuel _ _ _ _ _ hI (lv_sub hl [1, 0] rfl) hf
set_option maxRecDepth 20000 in
set_option maxHeartbeats 4000000 in
theorem bX3_drawOldSprites_108 {st : Nat → Nat} {p : Program} {l : Launch} {e : Env} {s : State} {m : MethodId} {args : Array Value} {below : List Frame} {meth : Method} {c : Code} {D : va_G} {A : Nat → Prop} {ad : Nat → Nat} {cy : Nat → ClassId} (hC : zC p m c cX3_drawOldSprites 8 s args wzX3_drawOldSprites RX3 meth none) {k29 : zSt → Int32 → Int32 → Int32 → Int32 → Option (zSt)} {res : zSt} (hk29 : ∀ (H : Heap) (locs : List Loc) (σ : zSt) (ls : Array Slot) (x1 : Int32) (x2 : Int32) (x3 : Int32) (x4 : Int32), zI st D (tC cy) (wC ad cy σ) A s H locs → lv_has ls 8 [(0, .ref (ad 3)), (1, .int x1), (2, .int x2), (3, .int x3), (4, .int x4)] → k29 σ x1 x2 x3 x4 = some res → W p l e rmX3_drawOldSprites s m args below meth c H locs 0 0 (zQu below args s D (tC cy) (wC ad cy) A res) (F0 m 29 ls [])) {H : Heap} {locs : List Loc} {σ : zSt} {ls : Array Slot} {x1 : Int32} {x2 : Int32} {x3 : Int32} {x4 : Int32} (hI : zI st D (tC cy) (wC ad cy σ) A s H locs) (hl : lv_has ls 8 [(0, .ref (ad 3)), (1, .int x1), (2, .int x2), (3, .int x3), (4, .int x4)]) (hf : fX3_drawOldSprites_108 k29 σ x1 x2 x3 x4 = some res) : W p l e rmX3_drawOldSprites s m args below meth c H locs 0 0 (zQu below args s D (tC cy) (wC ad cy) A res) (F0 m 108 ls []) := by
  have hx := hC.1
  have hb := hC.2.1
  unfold fX3_drawOldSprites_108 at hf
  obtain ⟨v3, ev3⟩ : ∃ z : Int32, z = x4 + 1 := ⟨_, rfl⟩
  replace hf := zbv_use ev3 hf
  refine lv_iinc (v := v3) (lv' := [(4, .int v3), (0, .ref (ad 3)), (1, .int x1), (2, .int x2), (3, .int x3)]) hx hb dX3_drawOldSprites_108 hl (k := 4) rfl (by rw [ev3]; rfl) (by decide) rfl (fun ls hl => ?_)
  refine lv_goto (tgt := 29) hx hb dX3_drawOldSprites_111 (by decide) ?_
  exact hk29 _ _ _ _ _ _ _ _ hI (lv_sub hl [1, 2, 3, 4, 0] rfl) hf
set_option maxRecDepth 20000 in
set_option maxHeartbeats 4000000 in
theorem bX3_drawOldSprites_29_body {st : Nat → Nat} {p : Program} {l : Launch} {e : Env} {s : State} {m : MethodId} {args : Array Value} {below : List Frame} {meth : Method} {c : Code} {D : va_G} {A : Nat → Prop} {ad : Nat → Nat} {cy : Nat → ClassId} (hC : zC p m c cX3_drawOldSprites 8 s args wzX3_drawOldSprites RX3 meth none) {k29 : zSt → Int32 → Int32 → Int32 → Int32 → Option (zSt)} {res : zSt} (hk29 : ∀ (H : Heap) (locs : List Loc) (σ : zSt) (ls : Array Slot) (x1 : Int32) (x2 : Int32) (x3 : Int32) (x4 : Int32), zI st D (tC cy) (wC ad cy σ) A s H locs → lv_has ls 8 [(0, .ref (ad 3)), (1, .int x1), (2, .int x2), (3, .int x3), (4, .int x4)] → k29 σ x1 x2 x3 x4 = some res → W p l e rmX3_drawOldSprites s m args below meth c H locs 0 0 (zQu below args s D (tC cy) (wC ad cy) A res) (F0 m 29 ls [])) {H : Heap} {locs : List Loc} {σ : zSt} {ls : Array Slot} {x1 : Int32} {x2 : Int32} {x3 : Int32} {x4 : Int32} (hI : zI st D (tC cy) (wC ad cy σ) A s H locs) (hl : lv_has ls 8 [(0, .ref (ad 3)), (1, .int x1), (2, .int x2), (3, .int x3), (4, .int x4)]) (hf : fX3_drawOldSprites_29_body k29 σ x1 x2 x3 x4 = some res) : W p l e rmX3_drawOldSprites s m args below meth c H locs 0 0 (zQu below args s D (tC cy) (wC ad cy) A res) (F0 m 29 ls []) := by
  have hx := hC.1
  have hb := hC.2.1
  unfold fX3_drawOldSprites_29_body at hf
  refine lv_iload hx hb dX3_drawOldSprites_29 (lv_at hl 4 rfl) ?_
  refine lv_bipush (v := 32) hx hb dX3_drawOldSprites_31 (by decide) ?_
  refine lv_icmp_ge (tgt := 114) hx hb dX3_drawOldSprites_33 (by decide) (fun q => ?_) (fun q => ?_)
  · replace hf := zif_t q hf
    exact bX3_drawOldSprites_114 hC  hI (lv_sub hl [0] rfl) hf
  replace hf := zif_f q hf
  refine lv_iload_n hx hb dX3_drawOldSprites_36 rfl (lv_at hl 2 rfl) ?_
  refine lv_iconst (v := 4) hx hb dX3_drawOldSprites_37 (by decide) ?_
  refine lv_iload hx hb dX3_drawOldSprites_38 (lv_at hl 4 rfl) ?_
  refine lv_imul hx hb dX3_drawOldSprites_40 ?_
  refine lv_iadd hx hb dX3_drawOldSprites_41 ?_
  refine lv_topi (fun v4 ev4 => ?_)
  replace hf := zbv_use ev4 hf
  refine lv_istore (lv' := [(5, .int v4), (0, .ref (ad 3)), (1, .int x1), (2, .int x2), (3, .int x3), (4, .int x4)]) hx hb dX3_drawOldSprites_42 hl (by decide) rfl (fun ls hl => ?_)
  refine lv_aload_n hx hb dX3_drawOldSprites_44 rfl (lv_at hl 1 rfl) ?_
  refine z_get hC hI hinX3_drawOldSprites_X30 3 (wC_e3 ad cy σ) rfl 0 (by decide) (List.mem_cons_of_mem _ zw4_22) rfl dX3_drawOldSprites_45 ?_
  refine lv_iload hx hb dX3_drawOldSprites_48 (lv_at hl 0 rfl) ?_
  obtain ⟨σ5, v6, g5, hf⟩ := zbi_use hf
  refine z_callVi (As := [.int v4]) (rest := []) hC hI (cX9_vramByte_met st l D ad cy σ v4 _ g5) (zgV zw36_14 zw36_15 zw36_16 zw2_1 zw36_17) rfl ⟨rfl, rfl⟩ 1 hdX9_vramByte ⟨Nat.le_of_ble_eq_true rfl, Nat.le_of_ble_eq_true rfl⟩ rfl rfl (wC_e2 ad cy σ) rfl hl rfl (Nat.le_of_ble_eq_true rfl) dX3_drawOldSprites_50 ⟨Nat.zero_le _, Nat.zero_le _⟩ (fun H locs hI => ?_)
  refine lv_istore (lv' := [(6, .int v6), (5, .int v4), (0, .ref (ad 3)), (1, .int x1), (2, .int x2), (3, .int x3), (4, .int x4)]) hx hb dX3_drawOldSprites_53 hl (by decide) rfl (fun ls hl => ?_)
  refine lv_iload hx hb dX3_drawOldSprites_55 (lv_at hl 0 rfl) ?_
  refine lv_sipush (v := 208) hx hb dX3_drawOldSprites_57 (by decide) ?_
  refine lv_icmp_ne (tgt := 66) hx hb dX3_drawOldSprites_60 (by decide) (fun q => ?_) (fun q => ?_)
  · replace hf := zif_f q hf
    refine lv_aload_n hx hb dX3_drawOldSprites_66 rfl (lv_at hl 2 rfl) ?_
    refine lv_iload_n hx hb dX3_drawOldSprites_67 rfl (lv_at hl 3 rfl) ?_
    refine lv_iload hx hb dX3_drawOldSprites_68 (lv_at hl 0 rfl) ?_
    obtain ⟨σ7, v8, g7, hf⟩ := zbi_use hf
    refine z_callVi (As := [.int x1, .int v6]) (rest := []) hC hI (cX3_rowOfSprite_met st l D ad cy σ5 x1 v6 _ g7) (zgV zw37_6 zw37_7 zw37_8 zw2_5 zw37_9) rfl ⟨rfl, rfl⟩ 2 hdX3_rowOfSprite ⟨Nat.le_of_ble_eq_true rfl, Nat.le_of_ble_eq_true rfl⟩ rfl rfl (wC_e3 ad cy σ5) rfl hl rfl (Nat.le_of_ble_eq_true rfl) dX3_drawOldSprites_70 ⟨Nat.zero_le _, Nat.zero_le _⟩ (fun H locs hI => ?_)
    refine lv_istore (lv' := [(7, .int v8), (6, .int v6), (5, .int v4), (0, .ref (ad 3)), (1, .int x1), (2, .int x2), (3, .int x3), (4, .int x4)]) hx hb dX3_drawOldSprites_73 hl (by decide) rfl (fun ls hl => ?_)
    refine lv_iload hx hb dX3_drawOldSprites_75 (lv_at hl 0 rfl) ?_
    refine lv_if_lt (tgt := 108) hx hb dX3_drawOldSprites_77 (by decide) (fun q => ?_) (fun q => ?_)
    · replace hf := zif_t q hf
      exact bX3_drawOldSprites_108 hC hk29 hI (lv_sub hl [3, 4, 5, 6, 7] rfl) hf
    replace hf := zif_f q hf
    obtain ⟨v9, ev9⟩ : ∃ z : Int32, z = x3 + 1 := ⟨_, rfl⟩
    replace hf := zbv_use ev9 hf
    refine lv_iinc (v := v9) (lv' := [(3, .int v9), (7, .int v8), (6, .int v6), (5, .int v4), (0, .ref (ad 3)), (1, .int x1), (2, .int x2), (4, .int x4)]) hx hb dX3_drawOldSprites_80 hl (k := 6) rfl (by rw [ev9]; rfl) (by decide) rfl (fun ls hl => ?_)
    refine lv_iload_n hx hb dX3_drawOldSprites_83 rfl (lv_at hl 0 rfl) ?_
    refine lv_iconst (v := 4) hx hb dX3_drawOldSprites_84 (by decide) ?_
    refine lv_icmp_le (tgt := 100) hx hb dX3_drawOldSprites_85 (by decide) (fun q => ?_) (fun q => ?_)
    · replace hf := zif_t q hf
      refine lv_aload_n hx hb dX3_drawOldSprites_100 rfl (lv_at hl 4 rfl) ?_
      refine lv_iload hx hb dX3_drawOldSprites_101 (lv_at hl 3 rfl) ?_
      refine lv_iload hx hb dX3_drawOldSprites_103 (lv_at hl 1 rfl) ?_
      obtain ⟨σ10, g10, hf⟩ := zbu_use hf
      refine z_callVu (As := [.int v4, .int v8]) (rest := []) hC hI (cX3_drawOldSprite_met st l D ad cy σ7 v4 v8 _ g10) (zgV zw39_3 zw39_4 zw39_5 zw2_5 zw39_6) rfl ⟨rfl, rfl⟩ 2 hdX3_drawOldSprite ⟨Nat.le_of_ble_eq_true rfl, Nat.le_of_ble_eq_true rfl⟩ rfl rfl (wC_e3 ad cy σ7) rfl hl rfl (Nat.le_of_ble_eq_true rfl) dX3_drawOldSprites_105 ⟨Nat.zero_le _, Nat.zero_le _⟩ (fun H locs hI => ?_)
      exact bX3_drawOldSprites_108 hC hk29 hI (lv_sub hl [4, 5, 6, 0, 7] rfl) hf
    replace hf := zif_f q hf
    refine lv_aload_n hx hb dX3_drawOldSprites_88 rfl (lv_at hl 4 rfl) ?_
    refine z_get hC hI hinX3_drawOldSprites_X30 3 (wC_e3 ad cy σ7) rfl 0 (by decide) (List.mem_cons_of_mem _ zw4_22) rfl dX3_drawOldSprites_89 ?_
    refine lv_iload hx hb dX3_drawOldSprites_92 (lv_at hl 7 rfl) ?_
    obtain ⟨σ11, g11, hf⟩ := zbu_use hf
    refine z_callVu (As := [.int x4]) (rest := []) hC hI (cX9_markFifth_met st l D ad cy σ7 x4 _ g11) (zgV zw38_23 zw39_0 zw39_1 zw2_1 zw39_2) rfl ⟨rfl, rfl⟩ 1 hdX9_markFifth ⟨Nat.le_of_ble_eq_true rfl, Nat.le_of_ble_eq_true rfl⟩ rfl rfl (wC_e2 ad cy σ7) rfl hl rfl (Nat.le_of_ble_eq_true rfl) dX3_drawOldSprites_94 ⟨Nat.zero_le _, Nat.zero_le _⟩ (fun H locs hI => ?_)
    refine lv_goto (tgt := 114) hx hb dX3_drawOldSprites_97 (by decide) ?_
    exact bX3_drawOldSprites_114 hC  hI (lv_sub hl [4] rfl) hf
  replace hf := zif_t q hf
  refine lv_goto (tgt := 114) hx hb dX3_drawOldSprites_63 (by decide) ?_
  exact bX3_drawOldSprites_114 hC  hI (lv_sub hl [2] rfl) hf
theorem blX3_drawOldSprites_29 {st : Nat → Nat} {p : Program} {l : Launch} {e : Env} {s : State} {m : MethodId} {args : Array Value} {below : List Frame} {meth : Method} {c : Code} {D : va_G} {A : Nat → Prop} {ad : Nat → Nat} {cy : Nat → ClassId} (hC : zC p m c cX3_drawOldSprites 8 s args wzX3_drawOldSprites RX3 meth none)  {res : zSt} : ∀ (n : Nat) (H : Heap) (locs : List Loc) (σ : zSt) (ls : Array Slot) (x1 : Int32) (x2 : Int32) (x3 : Int32) (x4 : Int32), zI st D (tC cy) (wC ad cy σ) A s H locs → lv_has ls 8 [(0, .ref (ad 3)), (1, .int x1), (2, .int x2), (3, .int x3), (4, .int x4)] → fX3_drawOldSprites_29  n σ x1 x2 x3 x4 = some res → W p l e rmX3_drawOldSprites s m args below meth c H locs 0 0 (zQu below args s D (tC cy) (wC ad cy) A res) (F0 m 29 ls []) := by
  intro n
  induction n with
  | zero => intro H locs σ ls x1 x2 x3 x4 hI hl hf; cases hf
  | succ n ih => intro H locs σ ls x1 x2 x3 x4 hI hl hf; exact bX3_drawOldSprites_29_body hC ih hI hl hf
set_option maxRecDepth 20000 in
set_option maxHeartbeats 4000000 in
theorem bX3_drawOldSprites {st : Nat → Nat} {p : Program} {l : Launch} {e : Env} {s : State} {m : MethodId} {args : Array Value} {below : List Frame} {meth : Method} {c : Code} {D : va_G} {A : Nat → Prop} {ad : Nat → Nat} {cy : Nat → ClassId} (hC : zC p m c cX3_drawOldSprites 8 s args wzX3_drawOldSprites RX3 meth none)  {res : zSt} {H : Heap} {locs : List Loc} {σ : zSt} {ls : Array Slot} {x1 : Int32} (hI : zI st D (tC cy) (wC ad cy σ) A s H locs) (hl : lv_has ls 8 [(0, .ref (ad 3)), (1, .int x1)]) (hf : fX3_drawOldSprites  σ x1 = some res) : W p l e rmX3_drawOldSprites s m args below meth c H locs 0 0 (zQu below args s D (tC cy) (wC ad cy) A res) (F0 m 0 ls []) := by
  have hx := hC.1
  have hb := hC.2.1
  unfold fX3_drawOldSprites at hf
  refine lv_aload_n hx hb dX3_drawOldSprites_0 rfl (lv_at hl 0 rfl) ?_
  refine z_get hC hI hinX3_drawOldSprites_X30 3 (wC_e3 ad cy σ) rfl 5 (by decide) (List.mem_cons_of_mem _ zw4_20) rfl dX3_drawOldSprites_1 ?_
  refine lv_iconst (v := 0) hx hb dX3_drawOldSprites_4 (by decide) ?_
  obtain ⟨σ12, g12, hf⟩ := zbu_use hf
  refine z_callSu (As := [.ref (ad 28), .int 0]) (rest := []) hC hI (cJ7_fill_53178_k28_met st l D ad cy σ 0 _ g12) (zgS zw36_2 zw5_12 zw5_13 zw5_14) rfl ⟨rfl, rfl⟩ 2 hdJ7_fill_53178_k28 ⟨Nat.le_of_ble_eq_true rfl, Nat.le_of_ble_eq_true rfl⟩ rfl hl rfl (Nat.le_of_ble_eq_true rfl) dX3_drawOldSprites_5 ⟨Nat.zero_le _, Nat.zero_le _⟩ (fun H locs hI => ?_)
  refine lv_sipush (v := 128) hx hb dX3_drawOldSprites_8 (by decide) ?_
  refine lv_aload_n hx hb dX3_drawOldSprites_11 rfl (lv_at hl 0 rfl) ?_
  refine z_get hC hI hinX3_drawOldSprites_X30 3 (wC_e3 ad cy σ12) rfl 0 (by decide) (List.mem_cons_of_mem _ zw4_22) rfl dX3_drawOldSprites_12 ?_
  refine lv_iconst (v := 5) hx hb dX3_drawOldSprites_15 (by decide) ?_
  obtain ⟨σ13, v14, g13, hf⟩ := zbi_use hf
  refine z_callVi (As := [.int 5]) (rest := [.int 128]) hC hI (cX9_held_met st l D ad cy σ12 5 _ g13) (zgV zw35_21 zw35_13 zw35_14 zw2_1 zw35_15) rfl ⟨rfl, rfl⟩ 1 hdX9_held ⟨Nat.le_of_ble_eq_true rfl, Nat.le_of_ble_eq_true rfl⟩ rfl rfl (wC_e2 ad cy σ12) rfl hl rfl (Nat.le_of_ble_eq_true rfl) dX3_drawOldSprites_16 ⟨Nat.zero_le _, Nat.zero_le _⟩ (fun H locs hI => ?_)
  refine lv_bipush (v := 127) hx hb dX3_drawOldSprites_19 (by decide) ?_
  refine lv_iand hx hb dX3_drawOldSprites_21 ?_
  refine lv_imul hx hb dX3_drawOldSprites_22 ?_
  refine lv_topi (fun v15 ev15 => ?_)
  replace hf := zbv_use ev15 hf
  refine lv_istore_n (lv' := [(2, .int v15), (0, .ref (ad 3)), (1, .int x1)]) hx hb dX3_drawOldSprites_23 rfl hl (by decide) rfl (fun ls hl => ?_)
  refine lv_iconst (v := 0) hx hb dX3_drawOldSprites_24 (by decide) ?_
  refine lv_istore_n (lv' := [(3, .int 0), (2, .int v15), (0, .ref (ad 3)), (1, .int x1)]) hx hb dX3_drawOldSprites_25 rfl hl (by decide) rfl (fun ls hl => ?_)
  refine lv_iconst (v := 0) hx hb dX3_drawOldSprites_26 (by decide) ?_
  refine lv_istore (lv' := [(4, .int 0), (3, .int 0), (2, .int v15), (0, .ref (ad 3)), (1, .int x1)]) hx hb dX3_drawOldSprites_27 hl (by decide) rfl (fun ls hl => ?_)
  exact blX3_drawOldSprites_29 hC  zfuel _ _ _ _ _ _ _ _ hI (lv_sub hl [3, 4, 2, 1, 0] rfl) hf
set_option maxRecDepth 20000 in
theorem cX3_drawOldSprites_met (st : Nat → Nat) (l : Launch) (D : va_G) (ad : Nat → Nat) (cy : Nat → ClassId) (σ : zSt) (x1 : Int32) (res : zSt) (hf : fX3_drawOldSprites σ x1 = some res) (sz : Nat) : zMu st l yX3_drawOldSprites wzX3_drawOldSprites rmX3_drawOldSprites [.ref (ad 3), .int x1] D (tC cy) (wC ad cy) sz σ res :=
  zMu.of (cc := cX3_drawOldSprites) (maxL := 8) (ret := none) (by decide) rfl (Nat.le_of_ble_eq_true rfl) (fun p e s m args below meth c hC A hI ls hl => bX3_drawOldSprites hC hI hl hf)
theorem hdX3_drawOldSprites : yX3_drawOldSprites.cls = RX3 ∧ yX3_drawOldSprites.cls ≠ "java/lang/invoke/MethodHandle" ∧ yX3_drawOldSprites.cls ≠ "java/lang/invoke/VarHandle" ∧ (parseMethodDescriptor yX3_drawOldSprites.desc).map (fun d => d.parameters.length) = some 1 := by decide +kernel
noncomputable def rmX3_fillBack : Room := { frames := 0, cells := 0, slots := 0, locals := 0 }
noncomputable def wzX3_fillBack : List Cond := .code yX3_fillBack cX3_fillBack 3 none :: wsL_law
theorem hinX3_fillBack_X30 : ∀ w ∈ wsX30, w ∈ wzX3_fillBack := fun w h => List.mem_cons_of_mem _ (inlX3 w h)
noncomputable def fX3_fillBack_25 (k2 : zSt → Int32 → Int32 → Option (zSt)) (σ : zSt) (x1 : Int32) (x2 : Int32) : Option (zSt) :=
  zbv (x2 + 1) (fun v1 =>
  k2 σ x1 v1)
noncomputable def fX3_fillBack_2_body (k2 : zSt → Int32 → Int32 → Option (zSt)) (σ : zSt) (x1 : Int32) (x2 : Int32) : Option (zSt) :=
  if 256 ≤ x2 then some σ else
  zck (zin x2 256) (
  if (zgi σ 27 x2.toNatClampNeg) = 0 then zck (zin x2 256) (zbv (zsi σ 27 (x2.toNatClampNeg) x1) (fun σ2 =>
  fX3_fillBack_25 k2 σ2 x1 x2)) else
  fX3_fillBack_25 k2 σ x1 x2)
noncomputable def fX3_fillBack_2  : Nat → zSt → Int32 → Int32 → Option (zSt)
  | 0, _, _, _ => none
  | n + 1, σ, x1, x2 => fX3_fillBack_2_body (fX3_fillBack_2  n) σ x1 x2
noncomputable def fX3_fillBack  (σ : zSt) (x1 : Int32) : Option (zSt) :=
  fX3_fillBack_2 zfuel σ x1 0
set_option maxRecDepth 20000 in
set_option maxHeartbeats 4000000 in
theorem bX3_fillBack_25 {st : Nat → Nat} {p : Program} {l : Launch} {e : Env} {s : State} {m : MethodId} {args : Array Value} {below : List Frame} {meth : Method} {c : Code} {D : va_G} {A : Nat → Prop} {ad : Nat → Nat} {cy : Nat → ClassId} (hC : zC p m c cX3_fillBack 3 s args wzX3_fillBack RX3 meth none) {k2 : zSt → Int32 → Int32 → Option (zSt)} {res : zSt} (hk2 : ∀ (H : Heap) (locs : List Loc) (σ : zSt) (ls : Array Slot) (x1 : Int32) (x2 : Int32), zI st D (tC cy) (wC ad cy σ) A s H locs → lv_has ls 3 [(0, .ref (ad 3)), (1, .int x1), (2, .int x2)] → k2 σ x1 x2 = some res → W p l e rmX3_fillBack s m args below meth c H locs 0 0 (zQu below args s D (tC cy) (wC ad cy) A res) (F0 m 2 ls [])) {H : Heap} {locs : List Loc} {σ : zSt} {ls : Array Slot} {x1 : Int32} {x2 : Int32} (hI : zI st D (tC cy) (wC ad cy σ) A s H locs) (hl : lv_has ls 3 [(0, .ref (ad 3)), (1, .int x1), (2, .int x2)]) (hf : fX3_fillBack_25 k2 σ x1 x2 = some res) : W p l e rmX3_fillBack s m args below meth c H locs 0 0 (zQu below args s D (tC cy) (wC ad cy) A res) (F0 m 25 ls []) := by
  have hx := hC.1
  have hb := hC.2.1
  unfold fX3_fillBack_25 at hf
  obtain ⟨v1, ev1⟩ : ∃ z : Int32, z = x2 + 1 := ⟨_, rfl⟩
  replace hf := zbv_use ev1 hf
  refine lv_iinc (v := v1) (lv' := [(2, .int v1), (0, .ref (ad 3)), (1, .int x1)]) hx hb dX3_fillBack_25 hl (k := 2) rfl (by rw [ev1]; rfl) (by decide) rfl (fun ls hl => ?_)
  refine lv_goto (tgt := 2) hx hb dX3_fillBack_28 (by decide) ?_
  exact hk2 _ _ _ _ _ _ hI (lv_sub hl [1, 2, 0] rfl) hf
set_option maxRecDepth 20000 in
set_option maxHeartbeats 4000000 in
theorem bX3_fillBack_2_body {st : Nat → Nat} {p : Program} {l : Launch} {e : Env} {s : State} {m : MethodId} {args : Array Value} {below : List Frame} {meth : Method} {c : Code} {D : va_G} {A : Nat → Prop} {ad : Nat → Nat} {cy : Nat → ClassId} (hC : zC p m c cX3_fillBack 3 s args wzX3_fillBack RX3 meth none) {k2 : zSt → Int32 → Int32 → Option (zSt)} {res : zSt} (hk2 : ∀ (H : Heap) (locs : List Loc) (σ : zSt) (ls : Array Slot) (x1 : Int32) (x2 : Int32), zI st D (tC cy) (wC ad cy σ) A s H locs → lv_has ls 3 [(0, .ref (ad 3)), (1, .int x1), (2, .int x2)] → k2 σ x1 x2 = some res → W p l e rmX3_fillBack s m args below meth c H locs 0 0 (zQu below args s D (tC cy) (wC ad cy) A res) (F0 m 2 ls [])) {H : Heap} {locs : List Loc} {σ : zSt} {ls : Array Slot} {x1 : Int32} {x2 : Int32} (hI : zI st D (tC cy) (wC ad cy σ) A s H locs) (hl : lv_has ls 3 [(0, .ref (ad 3)), (1, .int x1), (2, .int x2)]) (hf : fX3_fillBack_2_body k2 σ x1 x2 = some res) : W p l e rmX3_fillBack s m args below meth c H locs 0 0 (zQu below args s D (tC cy) (wC ad cy) A res) (F0 m 2 ls []) := by
  have hx := hC.1
  have hb := hC.2.1
  unfold fX3_fillBack_2_body at hf
  refine lv_iload_n hx hb dX3_fillBack_2 rfl (lv_at hl 2 rfl) ?_
  refine lv_sipush (v := 256) hx hb dX3_fillBack_3 (by decide) ?_
  refine lv_icmp_ge (tgt := 31) hx hb dX3_fillBack_6 (by decide) (fun q => ?_) (fun q => ?_)
  · replace hf := zif_t q hf
    exact z_return hC hI hf dX3_fillBack_31
  replace hf := zif_f q hf
  refine lv_aload_n hx hb dX3_fillBack_9 rfl (lv_at hl 0 rfl) ?_
  refine z_get hC hI hinX3_fillBack_X30 3 (wC_e3 ad cy σ) rfl 4 (by decide) (List.mem_cons_of_mem _ zw4_19) rfl dX3_fillBack_10 ?_
  refine lv_iload_n hx hb dX3_fillBack_13 rfl (lv_at hl 2 rfl) ?_
  obtain ⟨q, hf⟩ := zck_use hf
  refine z_iald hC hI 27 14 (wC_e27 ad cy σ) (tC_t27 cy) q dX3_fillBack_14 ?_
  refine lv_if_ne (tgt := 25) hx hb dX3_fillBack_15 (by decide) (fun q => ?_) (fun q => ?_)
  · replace hf := zif_f q hf
    exact bX3_fillBack_25 hC hk2 hI hl hf
  replace hf := zif_t q hf
  refine lv_aload_n hx hb dX3_fillBack_18 rfl (lv_at hl 0 rfl) ?_
  refine z_get hC hI hinX3_fillBack_X30 3 (wC_e3 ad cy σ) rfl 4 (by decide) (List.mem_cons_of_mem _ zw4_19) rfl dX3_fillBack_19 ?_
  refine lv_iload_n hx hb dX3_fillBack_22 rfl (lv_at hl 2 rfl) ?_
  refine lv_iload_n hx hb dX3_fillBack_23 rfl (lv_at hl 1 rfl) ?_
  obtain ⟨q, hf⟩ := zck_use hf
  obtain ⟨σ2, eσ2⟩ : ∃ z, z = zsi σ 27 (x2.toNatClampNeg) x1 := ⟨_, rfl⟩
  replace hf := zbv_use eσ2 hf
  refine z_iast hC hI 27 14 (wC_e27 ad cy σ) (tC_t27 cy) q ((wC_s27 ad cy σ _ _).trans (congrArg (wC ad cy) eσ2.symm)) dX3_fillBack_24 (fun H locs hI => ?_)
  exact bX3_fillBack_25 hC hk2 hI hl hf
theorem blX3_fillBack_2 {st : Nat → Nat} {p : Program} {l : Launch} {e : Env} {s : State} {m : MethodId} {args : Array Value} {below : List Frame} {meth : Method} {c : Code} {D : va_G} {A : Nat → Prop} {ad : Nat → Nat} {cy : Nat → ClassId} (hC : zC p m c cX3_fillBack 3 s args wzX3_fillBack RX3 meth none)  {res : zSt} : ∀ (n : Nat) (H : Heap) (locs : List Loc) (σ : zSt) (ls : Array Slot) (x1 : Int32) (x2 : Int32), zI st D (tC cy) (wC ad cy σ) A s H locs → lv_has ls 3 [(0, .ref (ad 3)), (1, .int x1), (2, .int x2)] → fX3_fillBack_2  n σ x1 x2 = some res → W p l e rmX3_fillBack s m args below meth c H locs 0 0 (zQu below args s D (tC cy) (wC ad cy) A res) (F0 m 2 ls []) := by
  intro n
  induction n with
  | zero => intro H locs σ ls x1 x2 hI hl hf; cases hf
  | succ n ih => intro H locs σ ls x1 x2 hI hl hf; exact bX3_fillBack_2_body hC ih hI hl hf
set_option maxRecDepth 20000 in
set_option maxHeartbeats 4000000 in
theorem bX3_fillBack {st : Nat → Nat} {p : Program} {l : Launch} {e : Env} {s : State} {m : MethodId} {args : Array Value} {below : List Frame} {meth : Method} {c : Code} {D : va_G} {A : Nat → Prop} {ad : Nat → Nat} {cy : Nat → ClassId} (hC : zC p m c cX3_fillBack 3 s args wzX3_fillBack RX3 meth none)  {res : zSt} {H : Heap} {locs : List Loc} {σ : zSt} {ls : Array Slot} {x1 : Int32} (hI : zI st D (tC cy) (wC ad cy σ) A s H locs) (hl : lv_has ls 3 [(0, .ref (ad 3)), (1, .int x1)]) (hf : fX3_fillBack  σ x1 = some res) : W p l e rmX3_fillBack s m args below meth c H locs 0 0 (zQu below args s D (tC cy) (wC ad cy) A res) (F0 m 0 ls []) := by
  have hx := hC.1
  have hb := hC.2.1
  unfold fX3_fillBack at hf
  refine lv_iconst (v := 0) hx hb dX3_fillBack_0 (by decide) ?_
  refine lv_istore_n (lv' := [(2, .int 0), (0, .ref (ad 3)), (1, .int x1)]) hx hb dX3_fillBack_1 rfl hl (by decide) rfl (fun ls hl => ?_)
  exact blX3_fillBack_2 hC  zfuel _ _ _ _ _ _ hI (lv_sub hl [1, 2, 0] rfl) hf
set_option maxRecDepth 20000 in
theorem cX3_fillBack_met (st : Nat → Nat) (l : Launch) (D : va_G) (ad : Nat → Nat) (cy : Nat → ClassId) (σ : zSt) (x1 : Int32) (res : zSt) (hf : fX3_fillBack σ x1 = some res) (sz : Nat) : zMu st l yX3_fillBack wzX3_fillBack rmX3_fillBack [.ref (ad 3), .int x1] D (tC cy) (wC ad cy) sz σ res :=
  zMu.of (cc := cX3_fillBack) (maxL := 3) (ret := none) (by decide) rfl (Nat.le_of_ble_eq_true rfl) (fun p e s m args below meth c hC A hI ls hl => bX3_fillBack hC hI hl hf)
theorem hdX3_fillBack : yX3_fillBack.cls = RX3 ∧ yX3_fillBack.cls ≠ "java/lang/invoke/MethodHandle" ∧ yX3_fillBack.cls ≠ "java/lang/invoke/VarHandle" ∧ (parseMethodDescriptor yX3_fillBack.desc).map (fun d => d.parameters.length) = some 1 := by decide +kernel
noncomputable def rmX3_draw : Room := { frames := 4, cells := 0, slots := 0, locals := 102 }
noncomputable def wzX3_draw : List Cond := .code yX3_draw cX3_draw 5 none :: wsL_law
theorem hinX3_draw_X30 : ∀ w ∈ wsX30, w ∈ wzX3_draw := fun w h => List.mem_cons_of_mem _ (inlX3 w h)
noncomputable def fX3_draw_21  (σ : zSt)  : Option (zSt) :=
  some σ
noncomputable def fX3_draw_152_body (k152 : zSt → Int32 → Int32 → Option (zSt)) (σ : zSt) (x1 : Int32) (x4 : Int32) : Option (zSt) :=
  if 256 ≤ x4 then some σ else
  zck (zin x4 256) (
  zck (zin ((zgi σ 27 x4.toNatClampNeg) &&& 31) 32) (
  zck (zin ((x1 * 256) + x4) 61440) (zbv (zsi σ 25 (((x1 * 256) + x4).toNatClampNeg) (zgi σ 29 ((zgi σ 27 x4.toNatClampNeg) &&& 31).toNatClampNeg)) (fun σ1 =>
  zbv (x4 + 1) (fun v2 =>
  k152 σ1 x1 v2)))))
noncomputable def fX3_draw_152  : Nat → zSt → Int32 → Int32 → Option (zSt)
  | 0, _, _, _ => none
  | n + 1, σ, x1, x4 => fX3_draw_152_body (fX3_draw_152  n) σ x1 x4
noncomputable def fX3_draw_144  (σ : zSt) (x1 : Int32) (x2 : Int32) : Option (zSt) :=
  zbu (fX3_mixColours σ x2) (fun σ3 =>
  fX3_draw_152 zfuel σ3 x1 0)
noncomputable def fX3_draw_139  (σ : zSt) (x1 : Int32) (x2 : Int32) (x3 : Int32) : Option (zSt) :=
  zbu (fX3_fillBack σ x3) (fun σ4 =>
  fX3_draw_144 σ4 x1 x2)
noncomputable def fX3_draw_41  (σ : zSt) (x1 : Int32) (x2 : Int32) (s0 : Int32) : Option (zSt) :=
  zbi (fX9_held σ 7) (fun σ5 v6 =>
  zbv (s0 + (v6 &&& 15)) (fun v7 =>
  zbi (fX9_held σ5 1) (fun σ8 v9 =>
  if (v9 &&& 64) = 0 then zbu (fJ7_fill_53178_k27 σ8 v7) (fun σ17 =>
  fX3_draw_144 σ17 x1 x2) else
  if x2 = 4 then zbu (fX3_drawTiles σ8 x1) (fun σ12 =>
  zbu (fX3_drawSprites σ12 x1) (fun σ13 =>
  zbi (fX9_held σ13 0) (fun σ14 v15 =>
  if (v15 &&& 32) = 0 then fX3_draw_144 σ14 x1 x2 else
  zbu (fJ7_fill_fda19_k27 σ14 0 8 v7) (fun σ16 =>
  fX3_draw_144 σ16 x1 x2)))) else
  zbu (fX3_drawOld σ8 x2 x1) (fun σ10 =>
  if x2 = 1 then fX3_draw_139 σ10 x1 x2 v7 else
  zbu (fX3_drawOldSprites σ10 x1) (fun σ11 =>
  fX3_draw_139 σ11 x1 x2 v7)))))
noncomputable def fX3_draw  (σ : zSt)  : Option (zSt) :=
  zbi (fX9_held σ 20) (fun σ18 v19 =>
  if v19 < 0 then fX3_draw_21 σ18 else
  if v19 < 240 then zbi (fX9_mode σ18 ) (fun σ20 v21 =>
  if v21 = 4 then fX3_draw_41 σ20 v19 v21 16 else
  fX3_draw_41 σ20 v19 v21 0) else
  fX3_draw_21 σ18)
set_option maxRecDepth 20000 in
set_option maxHeartbeats 4000000 in
theorem bX3_draw_21 {st : Nat → Nat} {p : Program} {l : Launch} {e : Env} {s : State} {m : MethodId} {args : Array Value} {below : List Frame} {meth : Method} {c : Code} {D : va_G} {A : Nat → Prop} {ad : Nat → Nat} {cy : Nat → ClassId} (hC : zC p m c cX3_draw 5 s args wzX3_draw RX3 meth none)  {res : zSt} {H : Heap} {locs : List Loc} {σ : zSt} {ls : Array Slot}  (hI : zI st D (tC cy) (wC ad cy σ) A s H locs) (hl : lv_has ls 5 []) (hf : fX3_draw_21  σ  = some res) : W p l e rmX3_draw s m args below meth c H locs 0 0 (zQu below args s D (tC cy) (wC ad cy) A res) (F0 m 21 ls []) := by
  have hx := hC.1
  have hb := hC.2.1
  unfold fX3_draw_21 at hf
  exact z_return hC hI hf dX3_draw_21
set_option maxRecDepth 20000 in
set_option maxHeartbeats 4000000 in
theorem bX3_draw_152_body {st : Nat → Nat} {p : Program} {l : Launch} {e : Env} {s : State} {m : MethodId} {args : Array Value} {below : List Frame} {meth : Method} {c : Code} {D : va_G} {A : Nat → Prop} {ad : Nat → Nat} {cy : Nat → ClassId} (hC : zC p m c cX3_draw 5 s args wzX3_draw RX3 meth none) {k152 : zSt → Int32 → Int32 → Option (zSt)} {res : zSt} (hk152 : ∀ (H : Heap) (locs : List Loc) (σ : zSt) (ls : Array Slot) (x1 : Int32) (x4 : Int32), zI st D (tC cy) (wC ad cy σ) A s H locs → lv_has ls 5 [(0, .ref (ad 3)), (1, .int x1), (4, .int x4)] → k152 σ x1 x4 = some res → W p l e rmX3_draw s m args below meth c H locs 0 0 (zQu below args s D (tC cy) (wC ad cy) A res) (F0 m 152 ls [])) {H : Heap} {locs : List Loc} {σ : zSt} {ls : Array Slot} {x1 : Int32} {x4 : Int32} (hI : zI st D (tC cy) (wC ad cy σ) A s H locs) (hl : lv_has ls 5 [(0, .ref (ad 3)), (1, .int x1), (4, .int x4)]) (hf : fX3_draw_152_body k152 σ x1 x4 = some res) : W p l e rmX3_draw s m args below meth c H locs 0 0 (zQu below args s D (tC cy) (wC ad cy) A res) (F0 m 152 ls []) := by
  have hx := hC.1
  have hb := hC.2.1
  unfold fX3_draw_152_body at hf
  refine lv_iload hx hb dX3_draw_152 (lv_at hl 2 rfl) ?_
  refine lv_sipush (v := 256) hx hb dX3_draw_154 (by decide) ?_
  refine lv_icmp_ge (tgt := 194) hx hb dX3_draw_157 (by decide) (fun q => ?_) (fun q => ?_)
  · replace hf := zif_t q hf
    exact z_return hC hI hf dX3_draw_194
  replace hf := zif_f q hf
  refine lv_aload_n hx hb dX3_draw_160 rfl (lv_at hl 0 rfl) ?_
  refine z_get hC hI hinX3_draw_X30 3 (wC_e3 ad cy σ) rfl 2 (by decide) (List.mem_cons_of_mem _ zw4_17) rfl dX3_draw_161 ?_
  refine lv_iload_n hx hb dX3_draw_164 rfl (lv_at hl 1 rfl) ?_
  refine lv_sipush (v := 256) hx hb dX3_draw_165 (by decide) ?_
  refine lv_imul hx hb dX3_draw_168 ?_
  refine lv_iload hx hb dX3_draw_169 (lv_at hl 2 rfl) ?_
  refine lv_iadd hx hb dX3_draw_171 ?_
  refine lv_aload_n hx hb dX3_draw_172 rfl (lv_at hl 0 rfl) ?_
  refine z_get hC hI hinX3_draw_X30 3 (wC_e3 ad cy σ) rfl 6 (by decide) (List.mem_cons_of_mem _ zw4_21) rfl dX3_draw_173 ?_
  refine lv_aload_n hx hb dX3_draw_176 rfl (lv_at hl 0 rfl) ?_
  refine z_get hC hI hinX3_draw_X30 3 (wC_e3 ad cy σ) rfl 4 (by decide) (List.mem_cons_of_mem _ zw4_19) rfl dX3_draw_177 ?_
  refine lv_iload hx hb dX3_draw_180 (lv_at hl 2 rfl) ?_
  obtain ⟨q, hf⟩ := zck_use hf
  refine z_iald hC hI 27 14 (wC_e27 ad cy σ) (tC_t27 cy) q dX3_draw_182 ?_
  refine lv_bipush (v := 31) hx hb dX3_draw_183 (by decide) ?_
  refine lv_iand hx hb dX3_draw_185 ?_
  obtain ⟨q, hf⟩ := zck_use hf
  refine z_iald hC hI 29 16 (wC_e29 ad cy σ) (tC_t29 cy) q dX3_draw_186 ?_
  obtain ⟨q, hf⟩ := zck_use hf
  obtain ⟨σ1, eσ1⟩ : ∃ z, z = zsi σ 25 (((x1 * 256) + x4).toNatClampNeg) (zgi σ 29 ((zgi σ 27 x4.toNatClampNeg) &&& 31).toNatClampNeg) := ⟨_, rfl⟩
  replace hf := zbv_use eσ1 hf
  refine z_iast hC hI 25 12 (wC_e25 ad cy σ) (tC_t25 cy) q ((wC_s25 ad cy σ _ _).trans (congrArg (wC ad cy) eσ1.symm)) dX3_draw_187 (fun H locs hI => ?_)
  obtain ⟨v2, ev2⟩ : ∃ z : Int32, z = x4 + 1 := ⟨_, rfl⟩
  replace hf := zbv_use ev2 hf
  refine lv_iinc (v := v2) (lv' := [(4, .int v2), (0, .ref (ad 3)), (1, .int x1)]) hx hb dX3_draw_188 hl (k := 2) rfl (by rw [ev2]; rfl) (by decide) rfl (fun ls hl => ?_)
  refine lv_goto (tgt := 152) hx hb dX3_draw_191 (by decide) ?_
  exact hk152 _ _ _ _ _ _ hI (lv_sub hl [1, 2, 0] rfl) hf
theorem blX3_draw_152 {st : Nat → Nat} {p : Program} {l : Launch} {e : Env} {s : State} {m : MethodId} {args : Array Value} {below : List Frame} {meth : Method} {c : Code} {D : va_G} {A : Nat → Prop} {ad : Nat → Nat} {cy : Nat → ClassId} (hC : zC p m c cX3_draw 5 s args wzX3_draw RX3 meth none)  {res : zSt} : ∀ (n : Nat) (H : Heap) (locs : List Loc) (σ : zSt) (ls : Array Slot) (x1 : Int32) (x4 : Int32), zI st D (tC cy) (wC ad cy σ) A s H locs → lv_has ls 5 [(0, .ref (ad 3)), (1, .int x1), (4, .int x4)] → fX3_draw_152  n σ x1 x4 = some res → W p l e rmX3_draw s m args below meth c H locs 0 0 (zQu below args s D (tC cy) (wC ad cy) A res) (F0 m 152 ls []) := by
  intro n
  induction n with
  | zero => intro H locs σ ls x1 x4 hI hl hf; cases hf
  | succ n ih => intro H locs σ ls x1 x4 hI hl hf; exact bX3_draw_152_body hC ih hI hl hf
set_option maxRecDepth 20000 in
set_option maxHeartbeats 4000000 in
theorem bX3_draw_144 {st : Nat → Nat} {p : Program} {l : Launch} {e : Env} {s : State} {m : MethodId} {args : Array Value} {below : List Frame} {meth : Method} {c : Code} {D : va_G} {A : Nat → Prop} {ad : Nat → Nat} {cy : Nat → ClassId} (hC : zC p m c cX3_draw 5 s args wzX3_draw RX3 meth none)  {res : zSt} {H : Heap} {locs : List Loc} {σ : zSt} {ls : Array Slot} {x1 : Int32} {x2 : Int32} (hI : zI st D (tC cy) (wC ad cy σ) A s H locs) (hl : lv_has ls 5 [(0, .ref (ad 3)), (1, .int x1), (2, .int x2)]) (hf : fX3_draw_144  σ x1 x2 = some res) : W p l e rmX3_draw s m args below meth c H locs 0 0 (zQu below args s D (tC cy) (wC ad cy) A res) (F0 m 144 ls []) := by
  have hx := hC.1
  have hb := hC.2.1
  unfold fX3_draw_144 at hf
  refine lv_aload_n hx hb dX3_draw_144 rfl (lv_at hl 0 rfl) ?_
  refine lv_iload_n hx hb dX3_draw_145 rfl (lv_at hl 2 rfl) ?_
  obtain ⟨σ3, g3, hf⟩ := zbu_use hf
  refine z_callVu (As := [.int x2]) (rest := []) hC hI (cX3_mixColours_met st l D ad cy σ x2 _ g3) (zgV zw39_15 zw39_16 zw39_17 zw2_5 zw39_18) rfl ⟨rfl, rfl⟩ 1 hdX3_mixColours ⟨Nat.le_of_ble_eq_true rfl, Nat.le_of_ble_eq_true rfl⟩ rfl rfl (wC_e3 ad cy σ) rfl hl rfl (Nat.le_of_ble_eq_true rfl) dX3_draw_146 ⟨Nat.zero_le _, Nat.zero_le _⟩ (fun H locs hI => ?_)
  refine lv_iconst (v := 0) hx hb dX3_draw_149 (by decide) ?_
  refine lv_istore (lv' := [(4, .int 0), (0, .ref (ad 3)), (1, .int x1), (2, .int x2)]) hx hb dX3_draw_150 hl (by decide) rfl (fun ls hl => ?_)
  exact blX3_draw_152 hC  zfuel _ _ _ _ _ _ hI (lv_sub hl [1, 2, 0] rfl) hf
set_option maxRecDepth 20000 in
set_option maxHeartbeats 4000000 in
theorem bX3_draw_139 {st : Nat → Nat} {p : Program} {l : Launch} {e : Env} {s : State} {m : MethodId} {args : Array Value} {below : List Frame} {meth : Method} {c : Code} {D : va_G} {A : Nat → Prop} {ad : Nat → Nat} {cy : Nat → ClassId} (hC : zC p m c cX3_draw 5 s args wzX3_draw RX3 meth none)  {res : zSt} {H : Heap} {locs : List Loc} {σ : zSt} {ls : Array Slot} {x1 : Int32} {x2 : Int32} {x3 : Int32} (hI : zI st D (tC cy) (wC ad cy σ) A s H locs) (hl : lv_has ls 5 [(0, .ref (ad 3)), (1, .int x1), (2, .int x2), (3, .int x3)]) (hf : fX3_draw_139  σ x1 x2 x3 = some res) : W p l e rmX3_draw s m args below meth c H locs 0 0 (zQu below args s D (tC cy) (wC ad cy) A res) (F0 m 139 ls []) := by
  have hx := hC.1
  have hb := hC.2.1
  unfold fX3_draw_139 at hf
  refine lv_aload_n hx hb dX3_draw_139 rfl (lv_at hl 0 rfl) ?_
  refine lv_iload_n hx hb dX3_draw_140 rfl (lv_at hl 3 rfl) ?_
  obtain ⟨σ4, g4, hf⟩ := zbu_use hf
  refine z_callVu (As := [.int x3]) (rest := []) hC hI (cX3_fillBack_met st l D ad cy σ x3 _ g4) (zgV zw39_11 zw39_12 zw39_13 zw2_5 zw39_14) rfl ⟨rfl, rfl⟩ 1 hdX3_fillBack ⟨Nat.le_of_ble_eq_true rfl, Nat.le_of_ble_eq_true rfl⟩ rfl rfl (wC_e3 ad cy σ) rfl hl rfl (Nat.le_of_ble_eq_true rfl) dX3_draw_141 ⟨Nat.zero_le _, Nat.zero_le _⟩ (fun H locs hI => ?_)
  exact bX3_draw_144 hC  hI (lv_sub hl [0, 1, 2] rfl) hf
set_option maxRecDepth 20000 in
set_option maxHeartbeats 4000000 in
theorem bX3_draw_41 {st : Nat → Nat} {p : Program} {l : Launch} {e : Env} {s : State} {m : MethodId} {args : Array Value} {below : List Frame} {meth : Method} {c : Code} {D : va_G} {A : Nat → Prop} {ad : Nat → Nat} {cy : Nat → ClassId} (hC : zC p m c cX3_draw 5 s args wzX3_draw RX3 meth none)  {res : zSt} {H : Heap} {locs : List Loc} {σ : zSt} {ls : Array Slot} {x1 : Int32} {x2 : Int32} {s0 : Int32} (hI : zI st D (tC cy) (wC ad cy σ) A s H locs) (hl : lv_has ls 5 [(0, .ref (ad 3)), (1, .int x1), (2, .int x2)]) (hf : fX3_draw_41  σ x1 x2 s0 = some res) : W p l e rmX3_draw s m args below meth c H locs 0 0 (zQu below args s D (tC cy) (wC ad cy) A res) (F0 m 41 ls [.int s0]) := by
  have hx := hC.1
  have hb := hC.2.1
  unfold fX3_draw_41 at hf
  refine lv_aload_n hx hb dX3_draw_41 rfl (lv_at hl 0 rfl) ?_
  refine z_get hC hI hinX3_draw_X30 3 (wC_e3 ad cy σ) rfl 0 (by decide) (List.mem_cons_of_mem _ zw4_22) rfl dX3_draw_42 ?_
  refine lv_bipush (v := 7) hx hb dX3_draw_45 (by decide) ?_
  obtain ⟨σ5, v6, g5, hf⟩ := zbi_use hf
  refine z_callVi (As := [.int 7]) (rest := [.int s0]) hC hI (cX9_held_met st l D ad cy σ 7 _ g5) (zgV zw35_21 zw35_13 zw35_14 zw2_1 zw35_15) rfl ⟨rfl, rfl⟩ 1 hdX9_held ⟨Nat.le_of_ble_eq_true rfl, Nat.le_of_ble_eq_true rfl⟩ rfl rfl (wC_e2 ad cy σ) rfl hl rfl (Nat.le_of_ble_eq_true rfl) dX3_draw_47 ⟨Nat.zero_le _, Nat.zero_le _⟩ (fun H locs hI => ?_)
  refine lv_bipush (v := 15) hx hb dX3_draw_50 (by decide) ?_
  refine lv_iand hx hb dX3_draw_52 ?_
  refine lv_iadd hx hb dX3_draw_53 ?_
  refine lv_topi (fun v7 ev7 => ?_)
  replace hf := zbv_use ev7 hf
  refine lv_istore_n (lv' := [(3, .int v7), (0, .ref (ad 3)), (1, .int x1), (2, .int x2)]) hx hb dX3_draw_54 rfl hl (by decide) rfl (fun ls hl => ?_)
  refine lv_aload_n hx hb dX3_draw_55 rfl (lv_at hl 1 rfl) ?_
  refine z_get hC hI hinX3_draw_X30 3 (wC_e3 ad cy σ5) rfl 0 (by decide) (List.mem_cons_of_mem _ zw4_22) rfl dX3_draw_56 ?_
  refine lv_iconst (v := 1) hx hb dX3_draw_59 (by decide) ?_
  obtain ⟨σ8, v9, g8, hf⟩ := zbi_use hf
  refine z_callVi (As := [.int 1]) (rest := []) hC hI (cX9_held_met st l D ad cy σ5 1 _ g8) (zgV zw35_21 zw35_13 zw35_14 zw2_1 zw35_15) rfl ⟨rfl, rfl⟩ 1 hdX9_held ⟨Nat.le_of_ble_eq_true rfl, Nat.le_of_ble_eq_true rfl⟩ rfl rfl (wC_e2 ad cy σ5) rfl hl rfl (Nat.le_of_ble_eq_true rfl) dX3_draw_60 ⟨Nat.zero_le _, Nat.zero_le _⟩ (fun H locs hI => ?_)
  refine lv_bipush (v := 64) hx hb dX3_draw_63 (by decide) ?_
  refine lv_iand hx hb dX3_draw_65 ?_
  refine lv_if_ne (tgt := 80) hx hb dX3_draw_66 (by decide) (fun q => ?_) (fun q => ?_)
  · replace hf := zif_f q hf
    refine lv_iload_n hx hb dX3_draw_80 rfl (lv_at hl 3 rfl) ?_
    refine lv_iconst (v := 4) hx hb dX3_draw_81 (by decide) ?_
    refine lv_icmp_ne (tgt := 123) hx hb dX3_draw_82 (by decide) (fun q => ?_) (fun q => ?_)
    · replace hf := zif_f q hf
      refine lv_aload_n hx hb dX3_draw_123 rfl (lv_at hl 1 rfl) ?_
      refine lv_iload_n hx hb dX3_draw_124 rfl (lv_at hl 3 rfl) ?_
      refine lv_iload_n hx hb dX3_draw_125 rfl (lv_at hl 2 rfl) ?_
      obtain ⟨σ10, g10, hf⟩ := zbu_use hf
      refine z_callVu (As := [.int x2, .int x1]) (rest := []) hC hI (cX3_drawOld_met st l D ad cy σ8 x2 x1 _ g10) (zgV zw37_19 zw37_20 zw37_21 zw2_5 zw37_22) rfl ⟨rfl, rfl⟩ 2 hdX3_drawOld ⟨Nat.le_of_ble_eq_true rfl, Nat.le_of_ble_eq_true rfl⟩ rfl rfl (wC_e3 ad cy σ8) rfl hl rfl (Nat.le_of_ble_eq_true rfl) dX3_draw_126 ⟨Nat.zero_le _, Nat.zero_le _⟩ (fun H locs hI => ?_)
      refine lv_iload_n hx hb dX3_draw_129 rfl (lv_at hl 3 rfl) ?_
      refine lv_iconst (v := 1) hx hb dX3_draw_130 (by decide) ?_
      refine lv_icmp_eq (tgt := 139) hx hb dX3_draw_131 (by decide) (fun q => ?_) (fun q => ?_)
      · replace hf := zif_t q hf
        exact bX3_draw_139 hC  hI (lv_sub hl [1, 2, 3, 0] rfl) hf
      replace hf := zif_f q hf
      refine lv_aload_n hx hb dX3_draw_134 rfl (lv_at hl 1 rfl) ?_
      refine lv_iload_n hx hb dX3_draw_135 rfl (lv_at hl 2 rfl) ?_
      obtain ⟨σ11, g11, hf⟩ := zbu_use hf
      refine z_callVu (As := [.int x1]) (rest := []) hC hI (cX3_drawOldSprites_met st l D ad cy σ10 x1 _ g11) (zgV zw38_19 zw38_20 zw38_21 zw2_5 zw38_22) rfl ⟨rfl, rfl⟩ 1 hdX3_drawOldSprites ⟨Nat.le_of_ble_eq_true rfl, Nat.le_of_ble_eq_true rfl⟩ rfl rfl (wC_e3 ad cy σ10) rfl hl rfl (Nat.le_of_ble_eq_true rfl) dX3_draw_136 ⟨Nat.zero_le _, Nat.zero_le _⟩ (fun H locs hI => ?_)
      exact bX3_draw_139 hC  hI (lv_sub hl [1, 2, 3, 0] rfl) hf
    replace hf := zif_t q hf
    refine lv_aload_n hx hb dX3_draw_85 rfl (lv_at hl 1 rfl) ?_
    refine lv_iload_n hx hb dX3_draw_86 rfl (lv_at hl 2 rfl) ?_
    obtain ⟨σ12, g12, hf⟩ := zbu_use hf
    refine z_callVu (As := [.int x1]) (rest := []) hC hI (cX3_drawTiles_met st l D ad cy σ8 x1 _ g12) (zgV zw36_3 zw36_4 zw36_5 zw2_5 zw36_6) rfl ⟨rfl, rfl⟩ 1 hdX3_drawTiles ⟨Nat.le_of_ble_eq_true rfl, Nat.le_of_ble_eq_true rfl⟩ rfl rfl (wC_e3 ad cy σ8) rfl hl rfl (Nat.le_of_ble_eq_true rfl) dX3_draw_87 ⟨Nat.zero_le _, Nat.zero_le _⟩ (fun H locs hI => ?_)
    refine lv_aload_n hx hb dX3_draw_90 rfl (lv_at hl 1 rfl) ?_
    refine lv_iload_n hx hb dX3_draw_91 rfl (lv_at hl 2 rfl) ?_
    obtain ⟨σ13, g13, hf⟩ := zbu_use hf
    refine z_callVu (As := [.int x1]) (rest := []) hC hI (cX3_drawSprites_met st l D ad cy σ12 x1 _ g13) (zgV zw37_2 zw37_3 zw37_4 zw2_5 zw37_5) rfl ⟨rfl, rfl⟩ 1 hdX3_drawSprites ⟨Nat.le_of_ble_eq_true rfl, Nat.le_of_ble_eq_true rfl⟩ rfl rfl (wC_e3 ad cy σ12) rfl hl rfl (Nat.le_of_ble_eq_true rfl) dX3_draw_92 ⟨Nat.zero_le _, Nat.zero_le _⟩ (fun H locs hI => ?_)
    refine lv_aload_n hx hb dX3_draw_95 rfl (lv_at hl 1 rfl) ?_
    refine z_get hC hI hinX3_draw_X30 3 (wC_e3 ad cy σ13) rfl 0 (by decide) (List.mem_cons_of_mem _ zw4_22) rfl dX3_draw_96 ?_
    refine lv_iconst (v := 0) hx hb dX3_draw_99 (by decide) ?_
    obtain ⟨σ14, v15, g14, hf⟩ := zbi_use hf
    refine z_callVi (As := [.int 0]) (rest := []) hC hI (cX9_held_met st l D ad cy σ13 0 _ g14) (zgV zw35_21 zw35_13 zw35_14 zw2_1 zw35_15) rfl ⟨rfl, rfl⟩ 1 hdX9_held ⟨Nat.le_of_ble_eq_true rfl, Nat.le_of_ble_eq_true rfl⟩ rfl rfl (wC_e2 ad cy σ13) rfl hl rfl (Nat.le_of_ble_eq_true rfl) dX3_draw_100 ⟨Nat.zero_le _, Nat.zero_le _⟩ (fun H locs hI => ?_)
    refine lv_bipush (v := 32) hx hb dX3_draw_103 (by decide) ?_
    refine lv_iand hx hb dX3_draw_105 ?_
    refine lv_if_eq (tgt := 144) hx hb dX3_draw_106 (by decide) (fun q => ?_) (fun q => ?_)
    · replace hf := zif_t q hf
      exact bX3_draw_144 hC  hI (lv_sub hl [1, 2, 3] rfl) hf
    replace hf := zif_f q hf
    refine lv_aload_n hx hb dX3_draw_109 rfl (lv_at hl 1 rfl) ?_
    refine z_get hC hI hinX3_draw_X30 3 (wC_e3 ad cy σ14) rfl 4 (by decide) (List.mem_cons_of_mem _ zw4_19) rfl dX3_draw_110 ?_
    refine lv_iconst (v := 0) hx hb dX3_draw_113 (by decide) ?_
    refine lv_bipush (v := 8) hx hb dX3_draw_114 (by decide) ?_
    refine lv_iload_n hx hb dX3_draw_116 rfl (lv_at hl 0 rfl) ?_
    obtain ⟨σ16, g16, hf⟩ := zbu_use hf
    refine z_callSu (As := [.ref (ad 27), .int 0, .int 8, .int v7]) (rest := []) hC hI (cJ7_fill_fda19_k27_met st l D ad cy σ14 0 8 v7 _ g16) (zgS zw37_18 zw5_16 zw5_13 zw5_17) rfl ⟨rfl, rfl⟩ 4 hdJ7_fill_fda19_k27 ⟨Nat.le_of_ble_eq_true rfl, Nat.le_of_ble_eq_true rfl⟩ rfl hl rfl (Nat.le_of_ble_eq_true rfl) dX3_draw_117 ⟨Nat.zero_le _, Nat.zero_le _⟩ (fun H locs hI => ?_)
    refine lv_goto (tgt := 144) hx hb dX3_draw_120 (by decide) ?_
    exact bX3_draw_144 hC  hI (lv_sub hl [1, 2, 3] rfl) hf
  replace hf := zif_t q hf
  refine lv_aload_n hx hb dX3_draw_69 rfl (lv_at hl 1 rfl) ?_
  refine z_get hC hI hinX3_draw_X30 3 (wC_e3 ad cy σ8) rfl 4 (by decide) (List.mem_cons_of_mem _ zw4_19) rfl dX3_draw_70 ?_
  refine lv_iload_n hx hb dX3_draw_73 rfl (lv_at hl 0 rfl) ?_
  obtain ⟨σ17, g17, hf⟩ := zbu_use hf
  refine z_callSu (As := [.ref (ad 27), .int v7]) (rest := []) hC hI (cJ7_fill_53178_k27_met st l D ad cy σ8 v7 _ g17) (zgS zw36_2 zw5_12 zw5_13 zw5_14) rfl ⟨rfl, rfl⟩ 2 hdJ7_fill_53178_k27 ⟨Nat.le_of_ble_eq_true rfl, Nat.le_of_ble_eq_true rfl⟩ rfl hl rfl (Nat.le_of_ble_eq_true rfl) dX3_draw_74 ⟨Nat.zero_le _, Nat.zero_le _⟩ (fun H locs hI => ?_)
  refine lv_goto (tgt := 144) hx hb dX3_draw_77 (by decide) ?_
  exact bX3_draw_144 hC  hI (lv_sub hl [1, 2, 3] rfl) hf
set_option maxRecDepth 20000 in
set_option maxHeartbeats 4000000 in
theorem bX3_draw {st : Nat → Nat} {p : Program} {l : Launch} {e : Env} {s : State} {m : MethodId} {args : Array Value} {below : List Frame} {meth : Method} {c : Code} {D : va_G} {A : Nat → Prop} {ad : Nat → Nat} {cy : Nat → ClassId} (hC : zC p m c cX3_draw 5 s args wzX3_draw RX3 meth none)  {res : zSt} {H : Heap} {locs : List Loc} {σ : zSt} {ls : Array Slot}  (hI : zI st D (tC cy) (wC ad cy σ) A s H locs) (hl : lv_has ls 5 [(0, .ref (ad 3))]) (hf : fX3_draw  σ  = some res) : W p l e rmX3_draw s m args below meth c H locs 0 0 (zQu below args s D (tC cy) (wC ad cy) A res) (F0 m 0 ls []) := by
  have hx := hC.1
  have hb := hC.2.1
  unfold fX3_draw at hf
  refine lv_aload_n hx hb dX3_draw_0 rfl (lv_at hl 0 rfl) ?_
  refine z_get hC hI hinX3_draw_X30 3 (wC_e3 ad cy σ) rfl 0 (by decide) (List.mem_cons_of_mem _ zw4_22) rfl dX3_draw_1 ?_
  refine lv_bipush (v := 20) hx hb dX3_draw_4 (by decide) ?_
  obtain ⟨σ18, v19, g18, hf⟩ := zbi_use hf
  refine z_callVi (As := [.int 20]) (rest := []) hC hI (cX9_held_met st l D ad cy σ 20 _ g18) (zgV zw35_21 zw35_13 zw35_14 zw2_1 zw35_15) rfl ⟨rfl, rfl⟩ 1 hdX9_held ⟨Nat.le_of_ble_eq_true rfl, Nat.le_of_ble_eq_true rfl⟩ rfl rfl (wC_e2 ad cy σ) rfl hl rfl (Nat.le_of_ble_eq_true rfl) dX3_draw_6 ⟨Nat.zero_le _, Nat.zero_le _⟩ (fun H locs hI => ?_)
  refine lv_istore_n (lv' := [(1, .int v19), (0, .ref (ad 3))]) hx hb dX3_draw_9 rfl hl (by decide) rfl (fun ls hl => ?_)
  refine lv_iload_n hx hb dX3_draw_10 rfl (lv_at hl 0 rfl) ?_
  refine lv_if_lt (tgt := 21) hx hb dX3_draw_11 (by decide) (fun q => ?_) (fun q => ?_)
  · replace hf := zif_t q hf
    exact bX3_draw_21 hC  hI (lv_sub hl [] rfl) hf
  replace hf := zif_f q hf
  refine lv_iload_n hx hb dX3_draw_14 rfl (lv_at hl 0 rfl) ?_
  refine lv_sipush (v := 240) hx hb dX3_draw_15 (by decide) ?_
  refine lv_icmp_lt (tgt := 22) hx hb dX3_draw_18 (by decide) (fun q => ?_) (fun q => ?_)
  · replace hf := zif_t q hf
    refine lv_aload_n hx hb dX3_draw_22 rfl (lv_at hl 1 rfl) ?_
    refine z_get hC hI hinX3_draw_X30 3 (wC_e3 ad cy σ18) rfl 0 (by decide) (List.mem_cons_of_mem _ zw4_22) rfl dX3_draw_23 ?_
    obtain ⟨σ20, v21, g20, hf⟩ := zbi_use hf
    refine z_callVi (As := []) (rest := []) hC hI (cX9_mode_met st l D ad cy σ18  _ g20) (zgV zw35_22 zw35_23 zw36_0 zw2_1 zw36_1) rfl ⟨rfl, rfl⟩ 0 hdX9_mode ⟨Nat.le_of_ble_eq_true rfl, Nat.le_of_ble_eq_true rfl⟩ rfl rfl (wC_e2 ad cy σ18) rfl hl rfl (Nat.le_of_ble_eq_true rfl) dX3_draw_26 ⟨Nat.zero_le _, Nat.zero_le _⟩ (fun H locs hI => ?_)
    refine lv_istore_n (lv' := [(2, .int v21), (1, .int v19), (0, .ref (ad 3))]) hx hb dX3_draw_29 rfl hl (by decide) rfl (fun ls hl => ?_)
    refine lv_iload_n hx hb dX3_draw_30 rfl (lv_at hl 0 rfl) ?_
    refine lv_iconst (v := 4) hx hb dX3_draw_31 (by decide) ?_
    refine lv_icmp_ne (tgt := 40) hx hb dX3_draw_32 (by decide) (fun q => ?_) (fun q => ?_)
    · replace hf := zif_f q hf
      refine lv_iconst (v := 0) hx hb dX3_draw_40 (by decide) ?_
      exact bX3_draw_41 hC  hI (lv_sub hl [2, 1, 0] rfl) hf
    replace hf := zif_t q hf
    refine lv_bipush (v := 16) hx hb dX3_draw_35 (by decide) ?_
    refine lv_goto (tgt := 41) hx hb dX3_draw_37 (by decide) ?_
    exact bX3_draw_41 hC  hI (lv_sub hl [2, 1, 0] rfl) hf
  replace hf := zif_f q hf
  exact bX3_draw_21 hC  hI (lv_sub hl [] rfl) hf
set_option maxRecDepth 20000 in
theorem cX3_draw_met (st : Nat → Nat) (l : Launch) (D : va_G) (ad : Nat → Nat) (cy : Nat → ClassId) (σ : zSt)  (res : zSt) (hf : fX3_draw σ  = some res) (sz : Nat) : zMu st l yX3_draw wzX3_draw rmX3_draw [.ref (ad 3)] D (tC cy) (wC ad cy) sz σ res :=
  zMu.of (cc := cX3_draw) (maxL := 5) (ret := none) (by decide) rfl (Nat.le_of_ble_eq_true rfl) (fun p e s m args below meth c hC A hI ls hl => bX3_draw hC hI hl hf)
theorem hdX3_draw : yX3_draw.cls = RX3 ∧ yX3_draw.cls ≠ "java/lang/invoke/MethodHandle" ∧ yX3_draw.cls ≠ "java/lang/invoke/VarHandle" ∧ (parseMethodDescriptor yX3_draw.desc).map (fun d => d.parameters.length) = some 0 := by decide +kernel
noncomputable def rmX4_clear : Room := { frames := 0, cells := 0, slots := 0, locals := 0 }
noncomputable def wzX4_clear : List Cond := .code yX4_clear cX4_clear 1 none :: wsL_law
theorem hinX4_clear_X40 : ∀ w ∈ wsX40, w ∈ wzX4_clear := fun w h => List.mem_cons_of_mem _ (inlX4 w h)
noncomputable def fX4_clear  (σ : zSt)  : Option (zSt) :=
  zck (zin 0 12) (zbv (zsi σ 34 ((0 : Int32).toNatClampNeg) 255) (fun σ1 =>
  zck (zin 1 12) (zbv (zsi σ1 34 ((1 : Int32).toNatClampNeg) 127) (fun σ2 =>
  zck (zin 2 12) (zbv (zsi σ2 34 ((2 : Int32).toNatClampNeg) 255) (fun σ3 =>
  zck (zin 3 12) (zbv (zsi σ3 34 ((3 : Int32).toNatClampNeg) 0) (fun σ4 =>
  zck (zin 4 12) (zbv (zsi σ4 34 ((4 : Int32).toNatClampNeg) 255) (fun σ5 =>
  zck (zin 5 12) (zbv (zsi σ5 34 ((5 : Int32).toNatClampNeg) 0) (fun σ6 =>
  zck (zin 6 12) (zbv (zsi σ6 34 ((6 : Int32).toNatClampNeg) 0) (fun σ7 =>
  some σ7))))))))))))))
set_option maxRecDepth 20000 in
set_option maxHeartbeats 4000000 in
theorem bX4_clear {st : Nat → Nat} {p : Program} {l : Launch} {e : Env} {s : State} {m : MethodId} {args : Array Value} {below : List Frame} {meth : Method} {c : Code} {D : va_G} {A : Nat → Prop} {ad : Nat → Nat} {cy : Nat → ClassId} (hC : zC p m c cX4_clear 1 s args wzX4_clear RX4 meth none)  {res : zSt} {H : Heap} {locs : List Loc} {σ : zSt} {ls : Array Slot}  (hI : zI st D (tC cy) (wC ad cy σ) A s H locs) (hl : lv_has ls 1 [(0, .ref (ad 6))]) (hf : fX4_clear  σ  = some res) : W p l e rmX4_clear s m args below meth c H locs 0 0 (zQu below args s D (tC cy) (wC ad cy) A res) (F0 m 0 ls []) := by
  have hx := hC.1
  have hb := hC.2.1
  unfold fX4_clear at hf
  refine lv_aload_n hx hb dX4_clear_0 rfl (lv_at hl 0 rfl) ?_
  refine z_get hC hI hinX4_clear_X40 6 (wC_e6 ad cy σ) rfl 4 (by decide) (List.mem_cons_of_mem _ zw6_15) rfl dX4_clear_1 ?_
  refine lv_iconst (v := 0) hx hb dX4_clear_4 (by decide) ?_
  refine lv_sipush (v := 255) hx hb dX4_clear_5 (by decide) ?_
  obtain ⟨q, hf⟩ := zck_use hf
  obtain ⟨σ1, eσ1⟩ : ∃ z, z = zsi σ 34 ((0 : Int32).toNatClampNeg) 255 := ⟨_, rfl⟩
  replace hf := zbv_use eσ1 hf
  refine z_iast hC hI 34 21 (wC_e34 ad cy σ) (tC_t34 cy) q ((wC_s34 ad cy σ _ _).trans (congrArg (wC ad cy) eσ1.symm)) dX4_clear_8 (fun H locs hI => ?_)
  refine lv_aload_n hx hb dX4_clear_9 rfl (lv_at hl 0 rfl) ?_
  refine z_get hC hI hinX4_clear_X40 6 (wC_e6 ad cy σ1) rfl 4 (by decide) (List.mem_cons_of_mem _ zw6_15) rfl dX4_clear_10 ?_
  refine lv_iconst (v := 1) hx hb dX4_clear_13 (by decide) ?_
  refine lv_bipush (v := 127) hx hb dX4_clear_14 (by decide) ?_
  obtain ⟨q, hf⟩ := zck_use hf
  obtain ⟨σ2, eσ2⟩ : ∃ z, z = zsi σ1 34 ((1 : Int32).toNatClampNeg) 127 := ⟨_, rfl⟩
  replace hf := zbv_use eσ2 hf
  refine z_iast hC hI 34 21 (wC_e34 ad cy σ1) (tC_t34 cy) q ((wC_s34 ad cy σ1 _ _).trans (congrArg (wC ad cy) eσ2.symm)) dX4_clear_16 (fun H locs hI => ?_)
  refine lv_aload_n hx hb dX4_clear_17 rfl (lv_at hl 0 rfl) ?_
  refine z_get hC hI hinX4_clear_X40 6 (wC_e6 ad cy σ2) rfl 4 (by decide) (List.mem_cons_of_mem _ zw6_15) rfl dX4_clear_18 ?_
  refine lv_iconst (v := 2) hx hb dX4_clear_21 (by decide) ?_
  refine lv_sipush (v := 255) hx hb dX4_clear_22 (by decide) ?_
  obtain ⟨q, hf⟩ := zck_use hf
  obtain ⟨σ3, eσ3⟩ : ∃ z, z = zsi σ2 34 ((2 : Int32).toNatClampNeg) 255 := ⟨_, rfl⟩
  replace hf := zbv_use eσ3 hf
  refine z_iast hC hI 34 21 (wC_e34 ad cy σ2) (tC_t34 cy) q ((wC_s34 ad cy σ2 _ _).trans (congrArg (wC ad cy) eσ3.symm)) dX4_clear_25 (fun H locs hI => ?_)
  refine lv_aload_n hx hb dX4_clear_26 rfl (lv_at hl 0 rfl) ?_
  refine z_get hC hI hinX4_clear_X40 6 (wC_e6 ad cy σ3) rfl 4 (by decide) (List.mem_cons_of_mem _ zw6_15) rfl dX4_clear_27 ?_
  refine lv_iconst (v := 3) hx hb dX4_clear_30 (by decide) ?_
  refine lv_iconst (v := 0) hx hb dX4_clear_31 (by decide) ?_
  obtain ⟨q, hf⟩ := zck_use hf
  obtain ⟨σ4, eσ4⟩ : ∃ z, z = zsi σ3 34 ((3 : Int32).toNatClampNeg) 0 := ⟨_, rfl⟩
  replace hf := zbv_use eσ4 hf
  refine z_iast hC hI 34 21 (wC_e34 ad cy σ3) (tC_t34 cy) q ((wC_s34 ad cy σ3 _ _).trans (congrArg (wC ad cy) eσ4.symm)) dX4_clear_32 (fun H locs hI => ?_)
  refine lv_aload_n hx hb dX4_clear_33 rfl (lv_at hl 0 rfl) ?_
  refine z_get hC hI hinX4_clear_X40 6 (wC_e6 ad cy σ4) rfl 4 (by decide) (List.mem_cons_of_mem _ zw6_15) rfl dX4_clear_34 ?_
  refine lv_iconst (v := 4) hx hb dX4_clear_37 (by decide) ?_
  refine lv_sipush (v := 255) hx hb dX4_clear_38 (by decide) ?_
  obtain ⟨q, hf⟩ := zck_use hf
  obtain ⟨σ5, eσ5⟩ : ∃ z, z = zsi σ4 34 ((4 : Int32).toNatClampNeg) 255 := ⟨_, rfl⟩
  replace hf := zbv_use eσ5 hf
  refine z_iast hC hI 34 21 (wC_e34 ad cy σ4) (tC_t34 cy) q ((wC_s34 ad cy σ4 _ _).trans (congrArg (wC ad cy) eσ5.symm)) dX4_clear_41 (fun H locs hI => ?_)
  refine lv_aload_n hx hb dX4_clear_42 rfl (lv_at hl 0 rfl) ?_
  refine z_get hC hI hinX4_clear_X40 6 (wC_e6 ad cy σ5) rfl 4 (by decide) (List.mem_cons_of_mem _ zw6_15) rfl dX4_clear_43 ?_
  refine lv_iconst (v := 5) hx hb dX4_clear_46 (by decide) ?_
  refine lv_iconst (v := 0) hx hb dX4_clear_47 (by decide) ?_
  obtain ⟨q, hf⟩ := zck_use hf
  obtain ⟨σ6, eσ6⟩ : ∃ z, z = zsi σ5 34 ((5 : Int32).toNatClampNeg) 0 := ⟨_, rfl⟩
  replace hf := zbv_use eσ6 hf
  refine z_iast hC hI 34 21 (wC_e34 ad cy σ5) (tC_t34 cy) q ((wC_s34 ad cy σ5 _ _).trans (congrArg (wC ad cy) eσ6.symm)) dX4_clear_48 (fun H locs hI => ?_)
  refine lv_aload_n hx hb dX4_clear_49 rfl (lv_at hl 0 rfl) ?_
  refine z_get hC hI hinX4_clear_X40 6 (wC_e6 ad cy σ6) rfl 4 (by decide) (List.mem_cons_of_mem _ zw6_15) rfl dX4_clear_50 ?_
  refine lv_bipush (v := 6) hx hb dX4_clear_53 (by decide) ?_
  refine lv_iconst (v := 0) hx hb dX4_clear_55 (by decide) ?_
  obtain ⟨q, hf⟩ := zck_use hf
  obtain ⟨σ7, eσ7⟩ : ∃ z, z = zsi σ6 34 ((6 : Int32).toNatClampNeg) 0 := ⟨_, rfl⟩
  replace hf := zbv_use eσ7 hf
  refine z_iast hC hI 34 21 (wC_e34 ad cy σ6) (tC_t34 cy) q ((wC_s34 ad cy σ6 _ _).trans (congrArg (wC ad cy) eσ7.symm)) dX4_clear_56 (fun H locs hI => ?_)
  exact z_return hC hI hf dX4_clear_57
set_option maxRecDepth 20000 in
theorem cX4_clear_met (st : Nat → Nat) (l : Launch) (D : va_G) (ad : Nat → Nat) (cy : Nat → ClassId) (σ : zSt)  (res : zSt) (hf : fX4_clear σ  = some res) (sz : Nat) : zMu st l yX4_clear wzX4_clear rmX4_clear [.ref (ad 6)] D (tC cy) (wC ad cy) sz σ res :=
  zMu.of (cc := cX4_clear) (maxL := 1) (ret := none) (by decide) rfl (Nat.le_of_ble_eq_true rfl) (fun p e s m args below meth c hC A hI ls hl => bX4_clear hC hI hl hf)
theorem hdX4_clear : yX4_clear.cls = RX4 ∧ yX4_clear.cls ≠ "java/lang/invoke/MethodHandle" ∧ yX4_clear.cls ≠ "java/lang/invoke/VarHandle" ∧ (parseMethodDescriptor yX4_clear.desc).map (fun d => d.parameters.length) = some 0 := by decide +kernel
noncomputable def rmX4_keep : Room := { frames := 1, cells := 0, slots := 0, locals := 64 }
noncomputable def wzX4_keep : List Cond := .code yX4_keep cX4_keep 1 none :: wsL_law
theorem hinX4_keep_X40 : ∀ w ∈ wsX40, w ∈ wzX4_keep := fun w h => List.mem_cons_of_mem _ (inlX4 w h)
noncomputable def fX4_keep  (σ : zSt)  : Option (zSt) :=
  zck (zco 0 0 12 12 12) (zbv (zcpi σ 34 35 ((0 : Int32).toNatClampNeg) ((0 : Int32).toNatClampNeg) ((12 : Int32).toNatClampNeg)) (fun σ1 =>
  some σ1))
set_option maxRecDepth 20000 in
set_option maxHeartbeats 4000000 in
theorem bX4_keep {st : Nat → Nat} {p : Program} {l : Launch} {e : Env} {s : State} {m : MethodId} {args : Array Value} {below : List Frame} {meth : Method} {c : Code} {D : va_G} {A : Nat → Prop} {ad : Nat → Nat} {cy : Nat → ClassId} (hC : zC p m c cX4_keep 1 s args wzX4_keep RX4 meth none)  {res : zSt} {H : Heap} {locs : List Loc} {σ : zSt} {ls : Array Slot}  (hI : zI st D (tC cy) (wC ad cy σ) A s H locs) (hl : lv_has ls 1 [(0, .ref (ad 6))]) (hf : fX4_keep  σ  = some res) : W p l e rmX4_keep s m args below meth c H locs 0 0 (zQu below args s D (tC cy) (wC ad cy) A res) (F0 m 0 ls []) := by
  have hx := hC.1
  have hb := hC.2.1
  unfold fX4_keep at hf
  refine lv_aload_n hx hb dX4_keep_0 rfl (lv_at hl 0 rfl) ?_
  refine z_get hC hI hinX4_keep_X40 6 (wC_e6 ad cy σ) rfl 4 (by decide) (List.mem_cons_of_mem _ zw6_15) rfl dX4_keep_1 ?_
  refine lv_iconst (v := 0) hx hb dX4_keep_4 (by decide) ?_
  refine lv_aload_n hx hb dX4_keep_5 rfl (lv_at hl 0 rfl) ?_
  refine z_get hC hI hinX4_keep_X40 6 (wC_e6 ad cy σ) rfl 5 (by decide) (List.mem_cons_of_mem _ zw6_16) rfl dX4_keep_6 ?_
  refine lv_iconst (v := 0) hx hb dX4_keep_9 (by decide) ?_
  refine lv_bipush (v := 12) hx hb dX4_keep_10 (by decide) ?_
  obtain ⟨q, hf⟩ := zck_use hf
  obtain ⟨σ1, eσ1⟩ : ∃ z, z = zcpi σ 34 35 ((0 : Int32).toNatClampNeg) ((0 : Int32).toNatClampNeg) ((12 : Int32).toNatClampNeg) := ⟨_, rfl⟩
  replace hf := zbv_use eσ1 hf
  refine z_cpi hC hI (List.mem_cons_of_mem _ zw81_9) (List.mem_cons_of_mem _ zw80_6) (List.mem_cons_of_mem _ zw80_7) (List.mem_cons_of_mem _ zw80_8) hl 34 35 21 22 (wC_e34 ad cy σ) (wC_e35 ad cy σ) (tC_t34 cy) (tC_t35 cy) q (show _ = wC ad cy σ1 from eσ1 ▸ rfl) (Nat.le_of_ble_eq_true rfl) (Nat.le_of_ble_eq_true rfl) dX4_keep_12 (fun H locs hI => ?_)
  exact z_return hC hI hf dX4_keep_15
set_option maxRecDepth 20000 in
theorem cX4_keep_met (st : Nat → Nat) (l : Launch) (D : va_G) (ad : Nat → Nat) (cy : Nat → ClassId) (σ : zSt)  (res : zSt) (hf : fX4_keep σ  = some res) (sz : Nat) : zMu st l yX4_keep wzX4_keep rmX4_keep [.ref (ad 6)] D (tC cy) (wC ad cy) sz σ res :=
  zMu.of (cc := cX4_keep) (maxL := 1) (ret := none) (by decide) rfl (Nat.le_of_ble_eq_true rfl) (fun p e s m args below meth c hC A hI ls hl => bX4_keep hC hI hl hf)
theorem hdX4_keep : yX4_keep.cls = RX4 ∧ yX4_keep.cls ≠ "java/lang/invoke/MethodHandle" ∧ yX4_keep.cls ≠ "java/lang/invoke/VarHandle" ∧ (parseMethodDescriptor yX4_keep.desc).map (fun d => d.parameters.length) = some 0 := by decide +kernel
noncomputable def rmX4_bringBack : Room := { frames := 1, cells := 0, slots := 0, locals := 64 }
noncomputable def wzX4_bringBack : List Cond := .code yX4_bringBack cX4_bringBack 1 none :: wsL_law
theorem hinX4_bringBack_X40 : ∀ w ∈ wsX40, w ∈ wzX4_bringBack := fun w h => List.mem_cons_of_mem _ (inlX4 w h)
noncomputable def fX4_bringBack  (σ : zSt)  : Option (zSt) :=
  zck (zco 0 0 12 12 12) (zbv (zcpi σ 35 34 ((0 : Int32).toNatClampNeg) ((0 : Int32).toNatClampNeg) ((12 : Int32).toNatClampNeg)) (fun σ1 =>
  some σ1))
set_option maxRecDepth 20000 in
set_option maxHeartbeats 4000000 in
theorem bX4_bringBack {st : Nat → Nat} {p : Program} {l : Launch} {e : Env} {s : State} {m : MethodId} {args : Array Value} {below : List Frame} {meth : Method} {c : Code} {D : va_G} {A : Nat → Prop} {ad : Nat → Nat} {cy : Nat → ClassId} (hC : zC p m c cX4_bringBack 1 s args wzX4_bringBack RX4 meth none)  {res : zSt} {H : Heap} {locs : List Loc} {σ : zSt} {ls : Array Slot}  (hI : zI st D (tC cy) (wC ad cy σ) A s H locs) (hl : lv_has ls 1 [(0, .ref (ad 6))]) (hf : fX4_bringBack  σ  = some res) : W p l e rmX4_bringBack s m args below meth c H locs 0 0 (zQu below args s D (tC cy) (wC ad cy) A res) (F0 m 0 ls []) := by
  have hx := hC.1
  have hb := hC.2.1
  unfold fX4_bringBack at hf
  refine lv_aload_n hx hb dX4_bringBack_0 rfl (lv_at hl 0 rfl) ?_
  refine z_get hC hI hinX4_bringBack_X40 6 (wC_e6 ad cy σ) rfl 5 (by decide) (List.mem_cons_of_mem _ zw6_16) rfl dX4_bringBack_1 ?_
  refine lv_iconst (v := 0) hx hb dX4_bringBack_4 (by decide) ?_
  refine lv_aload_n hx hb dX4_bringBack_5 rfl (lv_at hl 0 rfl) ?_
  refine z_get hC hI hinX4_bringBack_X40 6 (wC_e6 ad cy σ) rfl 4 (by decide) (List.mem_cons_of_mem _ zw6_15) rfl dX4_bringBack_6 ?_
  refine lv_iconst (v := 0) hx hb dX4_bringBack_9 (by decide) ?_
  refine lv_bipush (v := 12) hx hb dX4_bringBack_10 (by decide) ?_
  obtain ⟨q, hf⟩ := zck_use hf
  obtain ⟨σ1, eσ1⟩ : ∃ z, z = zcpi σ 35 34 ((0 : Int32).toNatClampNeg) ((0 : Int32).toNatClampNeg) ((12 : Int32).toNatClampNeg) := ⟨_, rfl⟩
  replace hf := zbv_use eσ1 hf
  refine z_cpi hC hI (List.mem_cons_of_mem _ zw81_9) (List.mem_cons_of_mem _ zw80_6) (List.mem_cons_of_mem _ zw80_7) (List.mem_cons_of_mem _ zw80_8) hl 35 34 22 21 (wC_e35 ad cy σ) (wC_e34 ad cy σ) (tC_t35 cy) (tC_t34 cy) q (show _ = wC ad cy σ1 from eσ1 ▸ rfl) (Nat.le_of_ble_eq_true rfl) (Nat.le_of_ble_eq_true rfl) dX4_bringBack_12 (fun H locs hI => ?_)
  exact z_return hC hI hf dX4_bringBack_15
set_option maxRecDepth 20000 in
theorem cX4_bringBack_met (st : Nat → Nat) (l : Launch) (D : va_G) (ad : Nat → Nat) (cy : Nat → ClassId) (σ : zSt)  (res : zSt) (hf : fX4_bringBack σ  = some res) (sz : Nat) : zMu st l yX4_bringBack wzX4_bringBack rmX4_bringBack [.ref (ad 6)] D (tC cy) (wC ad cy) sz σ res :=
  zMu.of (cc := cX4_bringBack) (maxL := 1) (ret := none) (by decide) rfl (Nat.le_of_ble_eq_true rfl) (fun p e s m args below meth c hC A hI ls hl => bX4_bringBack hC hI hl hf)
theorem hdX4_bringBack : yX4_bringBack.cls = RX4 ∧ yX4_bringBack.cls ≠ "java/lang/invoke/MethodHandle" ∧ yX4_bringBack.cls ≠ "java/lang/invoke/VarHandle" ∧ (parseMethodDescriptor yX4_bringBack.desc).map (fun d => d.parameters.length) = some 0 := by decide +kernel
noncomputable def rmX4_value : Room := { frames := 0, cells := 0, slots := 0, locals := 0 }
noncomputable def wzX4_value : List Cond := .code yX4_value cX4_value 2 (some .int) :: wsL_law
theorem hinX4_value_X40 : ∀ w ∈ wsX40, w ∈ wzX4_value := fun w h => List.mem_cons_of_mem _ (inlX4 w h)
noncomputable def fX4_value_20  (σ : zSt) (s0 : Int32) : Option (zSt × Int32) :=
  some (σ, s0)
noncomputable def fX4_value_19  (σ : zSt)  : Option (zSt × Int32) :=
  fX4_value_20 σ 0
noncomputable def fX4_value  (σ : zSt) (x1 : Int32) : Option (zSt × Int32) :=
  if x1 < 0 then fX4_value_19 σ else
  if 12 ≤ x1 then fX4_value_19 σ else
  zck (zin x1 12) (
  fX4_value_20 σ (zgi σ 34 x1.toNatClampNeg))
set_option maxRecDepth 20000 in
set_option maxHeartbeats 4000000 in
theorem bX4_value_20 {st : Nat → Nat} {p : Program} {l : Launch} {e : Env} {s : State} {m : MethodId} {args : Array Value} {below : List Frame} {meth : Method} {c : Code} {D : va_G} {A : Nat → Prop} {ad : Nat → Nat} {cy : Nat → ClassId} (hC : zC p m c cX4_value 2 s args wzX4_value RX4 meth (some .int))  {res : zSt × Int32} {H : Heap} {locs : List Loc} {σ : zSt} {ls : Array Slot} {s0 : Int32} (hI : zI st D (tC cy) (wC ad cy σ) A s H locs) (hl : lv_has ls 2 []) (hf : fX4_value_20  σ s0 = some res) : W p l e rmX4_value s m args below meth c H locs 0 0 (zQi below args s D (tC cy) (wC ad cy) A res) (F0 m 20 ls [.int s0]) := by
  have hx := hC.1
  have hb := hC.2.1
  unfold fX4_value_20 at hf
  exact z_ireturn hC hI hf dX4_value_20
set_option maxRecDepth 20000 in
set_option maxHeartbeats 4000000 in
theorem bX4_value_19 {st : Nat → Nat} {p : Program} {l : Launch} {e : Env} {s : State} {m : MethodId} {args : Array Value} {below : List Frame} {meth : Method} {c : Code} {D : va_G} {A : Nat → Prop} {ad : Nat → Nat} {cy : Nat → ClassId} (hC : zC p m c cX4_value 2 s args wzX4_value RX4 meth (some .int))  {res : zSt × Int32} {H : Heap} {locs : List Loc} {σ : zSt} {ls : Array Slot}  (hI : zI st D (tC cy) (wC ad cy σ) A s H locs) (hl : lv_has ls 2 []) (hf : fX4_value_19  σ  = some res) : W p l e rmX4_value s m args below meth c H locs 0 0 (zQi below args s D (tC cy) (wC ad cy) A res) (F0 m 19 ls []) := by
  have hx := hC.1
  have hb := hC.2.1
  unfold fX4_value_19 at hf
  refine lv_iconst (v := 0) hx hb dX4_value_19 (by decide) ?_
  exact bX4_value_20 hC  hI hl hf
set_option maxRecDepth 20000 in
set_option maxHeartbeats 4000000 in
theorem bX4_value {st : Nat → Nat} {p : Program} {l : Launch} {e : Env} {s : State} {m : MethodId} {args : Array Value} {below : List Frame} {meth : Method} {c : Code} {D : va_G} {A : Nat → Prop} {ad : Nat → Nat} {cy : Nat → ClassId} (hC : zC p m c cX4_value 2 s args wzX4_value RX4 meth (some .int))  {res : zSt × Int32} {H : Heap} {locs : List Loc} {σ : zSt} {ls : Array Slot} {x1 : Int32} (hI : zI st D (tC cy) (wC ad cy σ) A s H locs) (hl : lv_has ls 2 [(0, .ref (ad 6)), (1, .int x1)]) (hf : fX4_value  σ x1 = some res) : W p l e rmX4_value s m args below meth c H locs 0 0 (zQi below args s D (tC cy) (wC ad cy) A res) (F0 m 0 ls []) := by
  have hx := hC.1
  have hb := hC.2.1
  unfold fX4_value at hf
  refine lv_iload_n hx hb dX4_value_0 rfl (lv_at hl 1 rfl) ?_
  refine lv_if_lt (tgt := 19) hx hb dX4_value_1 (by decide) (fun q => ?_) (fun q => ?_)
  · replace hf := zif_t q hf
    exact bX4_value_19 hC  hI (lv_sub hl [] rfl) hf
  replace hf := zif_f q hf
  refine lv_iload_n hx hb dX4_value_4 rfl (lv_at hl 1 rfl) ?_
  refine lv_bipush (v := 12) hx hb dX4_value_5 (by decide) ?_
  refine lv_icmp_ge (tgt := 19) hx hb dX4_value_7 (by decide) (fun q => ?_) (fun q => ?_)
  · replace hf := zif_t q hf
    exact bX4_value_19 hC  hI (lv_sub hl [] rfl) hf
  replace hf := zif_f q hf
  refine lv_aload_n hx hb dX4_value_10 rfl (lv_at hl 0 rfl) ?_
  refine z_get hC hI hinX4_value_X40 6 (wC_e6 ad cy σ) rfl 4 (by decide) (List.mem_cons_of_mem _ zw6_15) rfl dX4_value_11 ?_
  refine lv_iload_n hx hb dX4_value_14 rfl (lv_at hl 1 rfl) ?_
  obtain ⟨q, hf⟩ := zck_use hf
  refine z_iald hC hI 34 21 (wC_e34 ad cy σ) (tC_t34 cy) q dX4_value_15 ?_
  refine lv_goto (tgt := 20) hx hb dX4_value_16 (by decide) ?_
  exact bX4_value_20 hC  hI (lv_sub hl [] rfl) hf
set_option maxRecDepth 20000 in
theorem cX4_value_met (st : Nat → Nat) (l : Launch) (D : va_G) (ad : Nat → Nat) (cy : Nat → ClassId) (σ : zSt) (x1 : Int32) (res : zSt × Int32) (hf : fX4_value σ x1 = some res) (sz : Nat) : zMi st l yX4_value wzX4_value rmX4_value [.ref (ad 6), .int x1] D (tC cy) (wC ad cy) sz σ res :=
  zMi.of (cc := cX4_value) (maxL := 2) (ret := (some .int)) (by decide) rfl (Nat.le_of_ble_eq_true rfl) (fun p e s m args below meth c hC A hI ls hl => bX4_value hC hI hl hf)
theorem hdX4_value : yX4_value.cls = RX4 ∧ yX4_value.cls ≠ "java/lang/invoke/MethodHandle" ∧ yX4_value.cls ≠ "java/lang/invoke/VarHandle" ∧ (parseMethodDescriptor yX4_value.desc).map (fun d => d.parameters.length) = some 1 := by decide +kernel
noncomputable def rmX4_canPress : Room := { frames := 0, cells := 0, slots := 0, locals := 0 }
noncomputable def wzX4_canPress : List Cond := .code yX4_canPress cX4_canPress 2 (some .boolean) :: wsL_law
noncomputable def fX4_canPress_24  (σ : zSt) (s0 : Int32) : Option (zSt × Int32) :=
  zck (zbo s0) (some (σ, s0))
noncomputable def fX4_canPress_23  (σ : zSt)  : Option (zSt × Int32) :=
  fX4_canPress_24 σ 0
noncomputable def fX4_canPress  (σ : zSt) (x0 : Int32) (x1 : Int32) : Option (zSt × Int32) :=
  if x0 < 0 then fX4_canPress_23 σ else
  if 1 < x0 then fX4_canPress_23 σ else
  if x1 < 0 then fX4_canPress_23 σ else
  if 63 < x1 then fX4_canPress_23 σ else
  fX4_canPress_24 σ 1
set_option maxRecDepth 20000 in
set_option maxHeartbeats 4000000 in
theorem bX4_canPress_24 {st : Nat → Nat} {p : Program} {l : Launch} {e : Env} {s : State} {m : MethodId} {args : Array Value} {below : List Frame} {meth : Method} {c : Code} {D : va_G} {A : Nat → Prop} {ad : Nat → Nat} {cy : Nat → ClassId} (hC : zC p m c cX4_canPress 2 s args wzX4_canPress RX4 meth (some .boolean))  {res : zSt × Int32} {H : Heap} {locs : List Loc} {σ : zSt} {ls : Array Slot} {s0 : Int32} (hI : zI st D (tC cy) (wC ad cy σ) A s H locs) (hl : lv_has ls 2 []) (hf : fX4_canPress_24  σ s0 = some res) : W p l e rmX4_canPress s m args below meth c H locs 0 0 (zQi below args s D (tC cy) (wC ad cy) A res) (F0 m 24 ls [.int s0]) := by
  have hx := hC.1
  have hb := hC.2.1
  unfold fX4_canPress_24 at hf
  obtain ⟨q, hf⟩ := zck_use hf
  exact z_zreturn hC hI (zbo_n q) hf dX4_canPress_24
set_option maxRecDepth 20000 in
set_option maxHeartbeats 4000000 in
theorem bX4_canPress_23 {st : Nat → Nat} {p : Program} {l : Launch} {e : Env} {s : State} {m : MethodId} {args : Array Value} {below : List Frame} {meth : Method} {c : Code} {D : va_G} {A : Nat → Prop} {ad : Nat → Nat} {cy : Nat → ClassId} (hC : zC p m c cX4_canPress 2 s args wzX4_canPress RX4 meth (some .boolean))  {res : zSt × Int32} {H : Heap} {locs : List Loc} {σ : zSt} {ls : Array Slot}  (hI : zI st D (tC cy) (wC ad cy σ) A s H locs) (hl : lv_has ls 2 []) (hf : fX4_canPress_23  σ  = some res) : W p l e rmX4_canPress s m args below meth c H locs 0 0 (zQi below args s D (tC cy) (wC ad cy) A res) (F0 m 23 ls []) := by
  have hx := hC.1
  have hb := hC.2.1
  unfold fX4_canPress_23 at hf
  refine lv_iconst (v := 0) hx hb dX4_canPress_23 (by decide) ?_
  exact bX4_canPress_24 hC  hI hl hf
set_option maxRecDepth 20000 in
set_option maxHeartbeats 4000000 in
theorem bX4_canPress {st : Nat → Nat} {p : Program} {l : Launch} {e : Env} {s : State} {m : MethodId} {args : Array Value} {below : List Frame} {meth : Method} {c : Code} {D : va_G} {A : Nat → Prop} {ad : Nat → Nat} {cy : Nat → ClassId} (hC : zC p m c cX4_canPress 2 s args wzX4_canPress RX4 meth (some .boolean))  {res : zSt × Int32} {H : Heap} {locs : List Loc} {σ : zSt} {ls : Array Slot} {x0 : Int32} {x1 : Int32} (hI : zI st D (tC cy) (wC ad cy σ) A s H locs) (hl : lv_has ls 2 [(0, .int x0), (1, .int x1)]) (hf : fX4_canPress  σ x0 x1 = some res) : W p l e rmX4_canPress s m args below meth c H locs 0 0 (zQi below args s D (tC cy) (wC ad cy) A res) (F0 m 0 ls []) := by
  have hx := hC.1
  have hb := hC.2.1
  unfold fX4_canPress at hf
  refine lv_iload_n hx hb dX4_canPress_0 rfl (lv_at hl 0 rfl) ?_
  refine lv_if_lt (tgt := 23) hx hb dX4_canPress_1 (by decide) (fun q => ?_) (fun q => ?_)
  · replace hf := zif_t q hf
    exact bX4_canPress_23 hC  hI (lv_sub hl [] rfl) hf
  replace hf := zif_f q hf
  refine lv_iload_n hx hb dX4_canPress_4 rfl (lv_at hl 0 rfl) ?_
  refine lv_iconst (v := 1) hx hb dX4_canPress_5 (by decide) ?_
  refine lv_icmp_gt (tgt := 23) hx hb dX4_canPress_6 (by decide) (fun q => ?_) (fun q => ?_)
  · replace hf := zif_t q hf
    exact bX4_canPress_23 hC  hI (lv_sub hl [] rfl) hf
  replace hf := zif_f q hf
  refine lv_iload_n hx hb dX4_canPress_9 rfl (lv_at hl 1 rfl) ?_
  refine lv_if_lt (tgt := 23) hx hb dX4_canPress_10 (by decide) (fun q => ?_) (fun q => ?_)
  · replace hf := zif_t q hf
    exact bX4_canPress_23 hC  hI (lv_sub hl [] rfl) hf
  replace hf := zif_f q hf
  refine lv_iload_n hx hb dX4_canPress_13 rfl (lv_at hl 1 rfl) ?_
  refine lv_bipush (v := 63) hx hb dX4_canPress_14 (by decide) ?_
  refine lv_icmp_gt (tgt := 23) hx hb dX4_canPress_16 (by decide) (fun q => ?_) (fun q => ?_)
  · replace hf := zif_t q hf
    exact bX4_canPress_23 hC  hI (lv_sub hl [] rfl) hf
  replace hf := zif_f q hf
  refine lv_iconst (v := 1) hx hb dX4_canPress_19 (by decide) ?_
  refine lv_goto (tgt := 24) hx hb dX4_canPress_20 (by decide) ?_
  exact bX4_canPress_24 hC  hI (lv_sub hl [] rfl) hf
set_option maxRecDepth 20000 in
theorem cX4_canPress_met (st : Nat → Nat) (l : Launch) (D : va_G) (ad : Nat → Nat) (cy : Nat → ClassId) (σ : zSt) (x0 : Int32) (x1 : Int32) (res : zSt × Int32) (hf : fX4_canPress σ x0 x1 = some res) (sz : Nat) : zMi st l yX4_canPress wzX4_canPress rmX4_canPress [.int x0, .int x1] D (tC cy) (wC ad cy) sz σ res :=
  zMi.of (cc := cX4_canPress) (maxL := 2) (ret := (some .boolean)) (by decide) rfl (Nat.le_of_ble_eq_true rfl) (fun p e s m args below meth c hC A hI ls hl => bX4_canPress hC hI hl hf)
theorem hdX4_canPress : yX4_canPress.cls ≠ "java/lang/invoke/MethodHandle" ∧ yX4_canPress.cls ≠ "java/lang/invoke/VarHandle" ∧ (parseMethodDescriptor yX4_canPress.desc).map (fun d => d.parameters.length) = some 2 := by decide +kernel
noncomputable def rmX4_holdStart : Room := { frames := 0, cells := 0, slots := 0, locals := 0 }
noncomputable def wzX4_holdStart : List Cond := .code yX4_holdStart cX4_holdStart 2 none :: wsL_law
theorem hinX4_holdStart_X40 : ∀ w ∈ wsX40, w ∈ wzX4_holdStart := fun w h => List.mem_cons_of_mem _ (inlX4 w h)
noncomputable def fX4_holdStart_15  (σ : zSt) (s0 : Int32) (s1 : Int32) : Option (zSt) :=
  zck (zin s1 12) (zbv (zsi σ 34 (s1.toNatClampNeg) s0) (fun σ1 =>
  some σ1))
noncomputable def fX4_holdStart  (σ : zSt) (x1 : Int32) : Option (zSt) :=
  if x1 = 0 then fX4_holdStart_15 σ 0 9 else
  fX4_holdStart_15 σ 1 9
set_option maxRecDepth 20000 in
set_option maxHeartbeats 4000000 in
theorem bX4_holdStart_15 {st : Nat → Nat} {p : Program} {l : Launch} {e : Env} {s : State} {m : MethodId} {args : Array Value} {below : List Frame} {meth : Method} {c : Code} {D : va_G} {A : Nat → Prop} {ad : Nat → Nat} {cy : Nat → ClassId} (hC : zC p m c cX4_holdStart 2 s args wzX4_holdStart RX4 meth none)  {res : zSt} {H : Heap} {locs : List Loc} {σ : zSt} {ls : Array Slot} {s0 : Int32} {s1 : Int32} (hI : zI st D (tC cy) (wC ad cy σ) A s H locs) (hl : lv_has ls 2 []) (hf : fX4_holdStart_15  σ s0 s1 = some res) : W p l e rmX4_holdStart s m args below meth c H locs 0 0 (zQu below args s D (tC cy) (wC ad cy) A res) (F0 m 15 ls [.int s0, .int s1, .ref (ad 34)]) := by
  have hx := hC.1
  have hb := hC.2.1
  unfold fX4_holdStart_15 at hf
  obtain ⟨q, hf⟩ := zck_use hf
  obtain ⟨σ1, eσ1⟩ : ∃ z, z = zsi σ 34 (s1.toNatClampNeg) s0 := ⟨_, rfl⟩
  replace hf := zbv_use eσ1 hf
  refine z_iast hC hI 34 21 (wC_e34 ad cy σ) (tC_t34 cy) q ((wC_s34 ad cy σ _ _).trans (congrArg (wC ad cy) eσ1.symm)) dX4_holdStart_15 (fun H locs hI => ?_)
  exact z_return hC hI hf dX4_holdStart_16
set_option maxRecDepth 20000 in
set_option maxHeartbeats 4000000 in
theorem bX4_holdStart {st : Nat → Nat} {p : Program} {l : Launch} {e : Env} {s : State} {m : MethodId} {args : Array Value} {below : List Frame} {meth : Method} {c : Code} {D : va_G} {A : Nat → Prop} {ad : Nat → Nat} {cy : Nat → ClassId} (hC : zC p m c cX4_holdStart 2 s args wzX4_holdStart RX4 meth none)  {res : zSt} {H : Heap} {locs : List Loc} {σ : zSt} {ls : Array Slot} {x1 : Int32} (hI : zI st D (tC cy) (wC ad cy σ) A s H locs) (hl : lv_has ls 2 [(0, .ref (ad 6)), (1, .int x1)]) (hf : fX4_holdStart  σ x1 = some res) : W p l e rmX4_holdStart s m args below meth c H locs 0 0 (zQu below args s D (tC cy) (wC ad cy) A res) (F0 m 0 ls []) := by
  have hx := hC.1
  have hb := hC.2.1
  unfold fX4_holdStart at hf
  refine lv_aload_n hx hb dX4_holdStart_0 rfl (lv_at hl 0 rfl) ?_
  refine z_get hC hI hinX4_holdStart_X40 6 (wC_e6 ad cy σ) rfl 4 (by decide) (List.mem_cons_of_mem _ zw6_15) rfl dX4_holdStart_1 ?_
  refine lv_bipush (v := 9) hx hb dX4_holdStart_4 (by decide) ?_
  refine lv_iload_n hx hb dX4_holdStart_6 rfl (lv_at hl 1 rfl) ?_
  refine lv_if_eq (tgt := 14) hx hb dX4_holdStart_7 (by decide) (fun q => ?_) (fun q => ?_)
  · replace hf := zif_t q hf
    refine lv_iconst (v := 0) hx hb dX4_holdStart_14 (by decide) ?_
    exact bX4_holdStart_15 hC  hI (lv_sub hl [] rfl) hf
  replace hf := zif_f q hf
  refine lv_iconst (v := 1) hx hb dX4_holdStart_10 (by decide) ?_
  refine lv_goto (tgt := 15) hx hb dX4_holdStart_11 (by decide) ?_
  exact bX4_holdStart_15 hC  hI (lv_sub hl [] rfl) hf
set_option maxRecDepth 20000 in
theorem cX4_holdStart_met (st : Nat → Nat) (l : Launch) (D : va_G) (ad : Nat → Nat) (cy : Nat → ClassId) (σ : zSt) (x1 : Int32) (res : zSt) (hf : fX4_holdStart σ x1 = some res) (sz : Nat) : zMu st l yX4_holdStart wzX4_holdStart rmX4_holdStart [.ref (ad 6), .int x1] D (tC cy) (wC ad cy) sz σ res :=
  zMu.of (cc := cX4_holdStart) (maxL := 2) (ret := none) (by decide) rfl (Nat.le_of_ble_eq_true rfl) (fun p e s m args below meth c hC A hI ls hl => bX4_holdStart hC hI hl hf)
theorem hdX4_holdStart : yX4_holdStart.cls = RX4 ∧ yX4_holdStart.cls ≠ "java/lang/invoke/MethodHandle" ∧ yX4_holdStart.cls ≠ "java/lang/invoke/VarHandle" ∧ (parseMethodDescriptor yX4_holdStart.desc).map (fun d => d.parameters.length) = some 1 := by decide +kernel
noncomputable def rmX4_lines : Room := { frames := 0, cells := 0, slots := 0, locals := 0 }
noncomputable def wzX4_lines : List Cond := .code yX4_lines cX4_lines 4 (some .int) :: wsL_law
theorem hinX4_lines_X40 : ∀ w ∈ wsX40, w ∈ wzX4_lines := fun w h => List.mem_cons_of_mem _ (inlX4 w h)
noncomputable def fX4_lines_52  (σ : zSt) (x2 : Int32) (s0 : Int32) : Option (zSt × Int32) :=
  some (σ, x2 ||| (s0 <<< ((1 : Int32) &&& 31)))
noncomputable def fX4_lines_28  (σ : zSt) (x1 : Int32) (s0 : Int32) : Option (zSt × Int32) :=
  if (x1 &&& 8) = 0 then fX4_lines_52 σ s0 ((x1 >>> ((7 : Int32) &&& 31)) &&& 1) else
  zck (zin 11 12) (
  fX4_lines_52 σ s0 (zgi σ 34 (11 : Int32).toNatClampNeg))
noncomputable def fX4_lines  (σ : zSt)  : Option (zSt × Int32) :=
  zck (zin 0 12) (
  zbv (zgi σ 34 (0 : Int32).toNatClampNeg) (fun v1 =>
  if (v1 &&& 2) = 0 then fX4_lines_28 σ v1 ((v1 >>> ((5 : Int32) &&& 31)) &&& 1) else
  zck (zin 10 12) (
  fX4_lines_28 σ v1 (zgi σ 34 (10 : Int32).toNatClampNeg))))
set_option maxRecDepth 20000 in
set_option maxHeartbeats 4000000 in
theorem bX4_lines_52 {st : Nat → Nat} {p : Program} {l : Launch} {e : Env} {s : State} {m : MethodId} {args : Array Value} {below : List Frame} {meth : Method} {c : Code} {D : va_G} {A : Nat → Prop} {ad : Nat → Nat} {cy : Nat → ClassId} (hC : zC p m c cX4_lines 4 s args wzX4_lines RX4 meth (some .int))  {res : zSt × Int32} {H : Heap} {locs : List Loc} {σ : zSt} {ls : Array Slot} {x2 : Int32} {s0 : Int32} (hI : zI st D (tC cy) (wC ad cy σ) A s H locs) (hl : lv_has ls 4 [(2, .int x2)]) (hf : fX4_lines_52  σ x2 s0 = some res) : W p l e rmX4_lines s m args below meth c H locs 0 0 (zQi below args s D (tC cy) (wC ad cy) A res) (F0 m 52 ls [.int s0]) := by
  have hx := hC.1
  have hb := hC.2.1
  unfold fX4_lines_52 at hf
  refine lv_istore_n (lv' := [(3, .int s0), (2, .int x2)]) hx hb dX4_lines_52 rfl hl (by decide) rfl (fun ls hl => ?_)
  refine lv_iload_n hx hb dX4_lines_53 rfl (lv_at hl 1 rfl) ?_
  refine lv_iload_n hx hb dX4_lines_54 rfl (lv_at hl 0 rfl) ?_
  refine lv_iconst (v := 1) hx hb dX4_lines_55 (by decide) ?_
  refine lv_ishl hx hb dX4_lines_56 ?_
  refine lv_ior hx hb dX4_lines_57 ?_
  exact z_ireturn hC hI hf dX4_lines_58
set_option maxRecDepth 20000 in
set_option maxHeartbeats 4000000 in
theorem bX4_lines_28 {st : Nat → Nat} {p : Program} {l : Launch} {e : Env} {s : State} {m : MethodId} {args : Array Value} {below : List Frame} {meth : Method} {c : Code} {D : va_G} {A : Nat → Prop} {ad : Nat → Nat} {cy : Nat → ClassId} (hC : zC p m c cX4_lines 4 s args wzX4_lines RX4 meth (some .int))  {res : zSt × Int32} {H : Heap} {locs : List Loc} {σ : zSt} {ls : Array Slot} {x1 : Int32} {s0 : Int32} (hI : zI st D (tC cy) (wC ad cy σ) A s H locs) (hl : lv_has ls 4 [(0, .ref (ad 6)), (1, .int x1)]) (hf : fX4_lines_28  σ x1 s0 = some res) : W p l e rmX4_lines s m args below meth c H locs 0 0 (zQi below args s D (tC cy) (wC ad cy) A res) (F0 m 28 ls [.int s0]) := by
  have hx := hC.1
  have hb := hC.2.1
  unfold fX4_lines_28 at hf
  refine lv_istore_n (lv' := [(2, .int s0), (0, .ref (ad 6)), (1, .int x1)]) hx hb dX4_lines_28 rfl hl (by decide) rfl (fun ls hl => ?_)
  refine lv_iload_n hx hb dX4_lines_29 rfl (lv_at hl 2 rfl) ?_
  refine lv_bipush (v := 8) hx hb dX4_lines_30 (by decide) ?_
  refine lv_iand hx hb dX4_lines_32 ?_
  refine lv_if_ne (tgt := 45) hx hb dX4_lines_33 (by decide) (fun q => ?_) (fun q => ?_)
  · replace hf := zif_f q hf
    refine lv_aload_n hx hb dX4_lines_45 rfl (lv_at hl 1 rfl) ?_
    refine z_get hC hI hinX4_lines_X40 6 (wC_e6 ad cy σ) rfl 4 (by decide) (List.mem_cons_of_mem _ zw6_15) rfl dX4_lines_46 ?_
    refine lv_bipush (v := 11) hx hb dX4_lines_49 (by decide) ?_
    obtain ⟨q, hf⟩ := zck_use hf
    refine z_iald hC hI 34 21 (wC_e34 ad cy σ) (tC_t34 cy) q dX4_lines_51 ?_
    exact bX4_lines_52 hC  hI (lv_sub hl [0] rfl) hf
  replace hf := zif_t q hf
  refine lv_iload_n hx hb dX4_lines_36 rfl (lv_at hl 2 rfl) ?_
  refine lv_bipush (v := 7) hx hb dX4_lines_37 (by decide) ?_
  refine lv_ishr hx hb dX4_lines_39 ?_
  refine lv_iconst (v := 1) hx hb dX4_lines_40 (by decide) ?_
  refine lv_iand hx hb dX4_lines_41 ?_
  refine lv_goto (tgt := 52) hx hb dX4_lines_42 (by decide) ?_
  exact bX4_lines_52 hC  hI (lv_sub hl [0] rfl) hf
set_option maxRecDepth 20000 in
set_option maxHeartbeats 4000000 in
theorem bX4_lines {st : Nat → Nat} {p : Program} {l : Launch} {e : Env} {s : State} {m : MethodId} {args : Array Value} {below : List Frame} {meth : Method} {c : Code} {D : va_G} {A : Nat → Prop} {ad : Nat → Nat} {cy : Nat → ClassId} (hC : zC p m c cX4_lines 4 s args wzX4_lines RX4 meth (some .int))  {res : zSt × Int32} {H : Heap} {locs : List Loc} {σ : zSt} {ls : Array Slot}  (hI : zI st D (tC cy) (wC ad cy σ) A s H locs) (hl : lv_has ls 4 [(0, .ref (ad 6))]) (hf : fX4_lines  σ  = some res) : W p l e rmX4_lines s m args below meth c H locs 0 0 (zQi below args s D (tC cy) (wC ad cy) A res) (F0 m 0 ls []) := by
  have hx := hC.1
  have hb := hC.2.1
  unfold fX4_lines at hf
  refine lv_aload_n hx hb dX4_lines_0 rfl (lv_at hl 0 rfl) ?_
  refine z_get hC hI hinX4_lines_X40 6 (wC_e6 ad cy σ) rfl 4 (by decide) (List.mem_cons_of_mem _ zw6_15) rfl dX4_lines_1 ?_
  refine lv_iconst (v := 0) hx hb dX4_lines_4 (by decide) ?_
  obtain ⟨q, hf⟩ := zck_use hf
  refine z_iald hC hI 34 21 (wC_e34 ad cy σ) (tC_t34 cy) q dX4_lines_5 ?_
  refine lv_topi (fun v1 ev1 => ?_)
  replace hf := zbv_use ev1 hf
  refine lv_istore_n (lv' := [(1, .int v1), (0, .ref (ad 6))]) hx hb dX4_lines_6 rfl hl (by decide) rfl (fun ls hl => ?_)
  refine lv_iload_n hx hb dX4_lines_7 rfl (lv_at hl 0 rfl) ?_
  refine lv_iconst (v := 2) hx hb dX4_lines_8 (by decide) ?_
  refine lv_iand hx hb dX4_lines_9 ?_
  refine lv_if_ne (tgt := 21) hx hb dX4_lines_10 (by decide) (fun q => ?_) (fun q => ?_)
  · replace hf := zif_f q hf
    refine lv_aload_n hx hb dX4_lines_21 rfl (lv_at hl 1 rfl) ?_
    refine z_get hC hI hinX4_lines_X40 6 (wC_e6 ad cy σ) rfl 4 (by decide) (List.mem_cons_of_mem _ zw6_15) rfl dX4_lines_22 ?_
    refine lv_bipush (v := 10) hx hb dX4_lines_25 (by decide) ?_
    obtain ⟨q, hf⟩ := zck_use hf
    refine z_iald hC hI 34 21 (wC_e34 ad cy σ) (tC_t34 cy) q dX4_lines_27 ?_
    exact bX4_lines_28 hC  hI (lv_sub hl [1, 0] rfl) hf
  replace hf := zif_t q hf
  refine lv_iload_n hx hb dX4_lines_13 rfl (lv_at hl 0 rfl) ?_
  refine lv_iconst (v := 5) hx hb dX4_lines_14 (by decide) ?_
  refine lv_ishr hx hb dX4_lines_15 ?_
  refine lv_iconst (v := 1) hx hb dX4_lines_16 (by decide) ?_
  refine lv_iand hx hb dX4_lines_17 ?_
  refine lv_goto (tgt := 28) hx hb dX4_lines_18 (by decide) ?_
  exact bX4_lines_28 hC  hI (lv_sub hl [1, 0] rfl) hf
set_option maxRecDepth 20000 in
theorem cX4_lines_met (st : Nat → Nat) (l : Launch) (D : va_G) (ad : Nat → Nat) (cy : Nat → ClassId) (σ : zSt)  (res : zSt × Int32) (hf : fX4_lines σ  = some res) (sz : Nat) : zMi st l yX4_lines wzX4_lines rmX4_lines [.ref (ad 6)] D (tC cy) (wC ad cy) sz σ res :=
  zMi.of (cc := cX4_lines) (maxL := 4) (ret := (some .int)) (by decide) rfl (Nat.le_of_ble_eq_true rfl) (fun p e s m args below meth c hC A hI ls hl => bX4_lines hC hI hl hf)
theorem hdX4_lines : yX4_lines.cls = RX4 ∧ yX4_lines.cls ≠ "java/lang/invoke/MethodHandle" ∧ yX4_lines.cls ≠ "java/lang/invoke/VarHandle" ∧ (parseMethodDescriptor yX4_lines.desc).map (fun d => d.parameters.length) = some 0 := by decide +kernel
noncomputable def rmX9_hCount : Room := { frames := 0, cells := 0, slots := 0, locals := 0 }
noncomputable def wzX9_hCount : List Cond := .code yX9_hCount cX9_hCount 2 (some .int) :: wsL_law
theorem hinX9_hCount_X90 : ∀ w ∈ wsX90, w ∈ wzX9_hCount := fun w h => List.mem_cons_of_mem _ (inlX9 w h)
noncomputable def fX9_hCount_27  (σ : zSt) (s0 : Int32) : Option (zSt × Int32) :=
  some (σ, s0)
noncomputable def fX9_hCount  (σ : zSt)  : Option (zSt × Int32) :=
  zck (zin 21 96) (
  zck (decide (¬ 4 = 0)) (
  zbv (((zgi σ 23 (21 : Int32).toNatClampNeg) * 3) / 4) (fun v1 =>
  if v1 < 148 then fX9_hCount_27 σ v1 else
  fX9_hCount_27 σ (v1 + 85))))
set_option maxRecDepth 20000 in
set_option maxHeartbeats 4000000 in
theorem bX9_hCount_27 {st : Nat → Nat} {p : Program} {l : Launch} {e : Env} {s : State} {m : MethodId} {args : Array Value} {below : List Frame} {meth : Method} {c : Code} {D : va_G} {A : Nat → Prop} {ad : Nat → Nat} {cy : Nat → ClassId} (hC : zC p m c cX9_hCount 2 s args wzX9_hCount RX9 meth (some .int))  {res : zSt × Int32} {H : Heap} {locs : List Loc} {σ : zSt} {ls : Array Slot} {s0 : Int32} (hI : zI st D (tC cy) (wC ad cy σ) A s H locs) (hl : lv_has ls 2 []) (hf : fX9_hCount_27  σ s0 = some res) : W p l e rmX9_hCount s m args below meth c H locs 0 0 (zQi below args s D (tC cy) (wC ad cy) A res) (F0 m 27 ls [.int s0]) := by
  have hx := hC.1
  have hb := hC.2.1
  unfold fX9_hCount_27 at hf
  exact z_ireturn hC hI hf dX9_hCount_27
set_option maxRecDepth 20000 in
set_option maxHeartbeats 4000000 in
theorem bX9_hCount {st : Nat → Nat} {p : Program} {l : Launch} {e : Env} {s : State} {m : MethodId} {args : Array Value} {below : List Frame} {meth : Method} {c : Code} {D : va_G} {A : Nat → Prop} {ad : Nat → Nat} {cy : Nat → ClassId} (hC : zC p m c cX9_hCount 2 s args wzX9_hCount RX9 meth (some .int))  {res : zSt × Int32} {H : Heap} {locs : List Loc} {σ : zSt} {ls : Array Slot}  (hI : zI st D (tC cy) (wC ad cy σ) A s H locs) (hl : lv_has ls 2 [(0, .ref (ad 2))]) (hf : fX9_hCount  σ  = some res) : W p l e rmX9_hCount s m args below meth c H locs 0 0 (zQi below args s D (tC cy) (wC ad cy) A res) (F0 m 0 ls []) := by
  have hx := hC.1
  have hb := hC.2.1
  unfold fX9_hCount at hf
  refine lv_aload_n hx hb dX9_hCount_0 rfl (lv_at hl 0 rfl) ?_
  refine z_get hC hI hinX9_hCount_X90 2 (wC_e2 ad cy σ) rfl 4 (by decide) (List.mem_cons_of_mem _ zw4_8) rfl dX9_hCount_1 ?_
  refine lv_bipush (v := 21) hx hb dX9_hCount_4 (by decide) ?_
  obtain ⟨q, hf⟩ := zck_use hf
  refine z_iald hC hI 23 10 (wC_e23 ad cy σ) (tC_t23 cy) q dX9_hCount_6 ?_
  refine lv_iconst (v := 3) hx hb dX9_hCount_7 (by decide) ?_
  refine lv_imul hx hb dX9_hCount_8 ?_
  refine lv_iconst (v := 4) hx hb dX9_hCount_9 (by decide) ?_
  obtain ⟨q, hf⟩ := zck_use hf
  refine lv_idiv hx hb dX9_hCount_10 (of_decide_eq_true q) ?_
  refine lv_topi (fun v1 ev1 => ?_)
  replace hf := zbv_use ev1 hf
  refine lv_istore_n (lv' := [(1, .int v1), (0, .ref (ad 2))]) hx hb dX9_hCount_11 rfl hl (by decide) rfl (fun ls hl => ?_)
  refine lv_iload_n hx hb dX9_hCount_12 rfl (lv_at hl 0 rfl) ?_
  refine lv_sipush (v := 148) hx hb dX9_hCount_13 (by decide) ?_
  refine lv_icmp_lt (tgt := 26) hx hb dX9_hCount_16 (by decide) (fun q => ?_) (fun q => ?_)
  · replace hf := zif_t q hf
    refine lv_iload_n hx hb dX9_hCount_26 rfl (lv_at hl 0 rfl) ?_
    exact bX9_hCount_27 hC  hI (lv_sub hl [] rfl) hf
  replace hf := zif_f q hf
  refine lv_iload_n hx hb dX9_hCount_19 rfl (lv_at hl 0 rfl) ?_
  refine lv_bipush (v := 85) hx hb dX9_hCount_20 (by decide) ?_
  refine lv_iadd hx hb dX9_hCount_22 ?_
  refine lv_goto (tgt := 27) hx hb dX9_hCount_23 (by decide) ?_
  exact bX9_hCount_27 hC  hI (lv_sub hl [] rfl) hf
set_option maxRecDepth 20000 in
theorem cX9_hCount_met (st : Nat → Nat) (l : Launch) (D : va_G) (ad : Nat → Nat) (cy : Nat → ClassId) (σ : zSt)  (res : zSt × Int32) (hf : fX9_hCount σ  = some res) (sz : Nat) : zMi st l yX9_hCount wzX9_hCount rmX9_hCount [.ref (ad 2)] D (tC cy) (wC ad cy) sz σ res :=
  zMi.of (cc := cX9_hCount) (maxL := 2) (ret := (some .int)) (by decide) rfl (Nat.le_of_ble_eq_true rfl) (fun p e s m args below meth c hC A hI ls hl => bX9_hCount hC hI hl hf)
theorem hdX9_hCount : yX9_hCount.cls = RX9 ∧ yX9_hCount.cls ≠ "java/lang/invoke/MethodHandle" ∧ yX9_hCount.cls ≠ "java/lang/invoke/VarHandle" ∧ (parseMethodDescriptor yX9_hCount.desc).map (fun d => d.parameters.length) = some 0 := by decide +kernel
noncomputable def rmX4_changeLines : Room := { frames := 1, cells := 0, slots := 0, locals := 23 }
noncomputable def wzX4_changeLines : List Cond := .code yX4_changeLines cX4_changeLines 4 none :: wsL_law
theorem hinX4_changeLines_X40 : ∀ w ∈ wsX40, w ∈ wzX4_changeLines := fun w h => List.mem_cons_of_mem _ (inlX4 w h)
noncomputable def fX4_changeLines_37  (σ : zSt)  : Option (zSt) :=
  some σ
noncomputable def fX4_changeLines  (σ : zSt) (x1 : Int32) (x2 : Int32) : Option (zSt) :=
  zbi (fX4_lines σ ) (fun σ1 v2 =>
  zck (zin x1 12) (zbv (zsi σ1 34 (x1.toNatClampNeg) x2) (fun σ3 =>
  zbi (fX4_lines σ3 ) (fun σ4 v5 =>
  if (v5 &&& (v2 ^^^ (-1))) = 0 then fX4_changeLines_37 σ4 else
  zbi (fX9_hCount σ4 ) (fun σ6 v7 =>
  zck (zin 6 12) (zbv (zsi σ6 34 ((6 : Int32).toNatClampNeg) v7) (fun σ8 =>
  fX4_changeLines_37 σ8)))))))
set_option maxRecDepth 20000 in
set_option maxHeartbeats 4000000 in
theorem bX4_changeLines_37 {st : Nat → Nat} {p : Program} {l : Launch} {e : Env} {s : State} {m : MethodId} {args : Array Value} {below : List Frame} {meth : Method} {c : Code} {D : va_G} {A : Nat → Prop} {ad : Nat → Nat} {cy : Nat → ClassId} (hC : zC p m c cX4_changeLines 4 s args wzX4_changeLines RX4 meth none)  {res : zSt} {H : Heap} {locs : List Loc} {σ : zSt} {ls : Array Slot}  (hI : zI st D (tC cy) (wC ad cy σ) A s H locs) (hl : lv_has ls 4 []) (hf : fX4_changeLines_37  σ  = some res) : W p l e rmX4_changeLines s m args below meth c H locs 0 0 (zQu below args s D (tC cy) (wC ad cy) A res) (F0 m 37 ls []) := by
  have hx := hC.1
  have hb := hC.2.1
  unfold fX4_changeLines_37 at hf
  exact z_return hC hI hf dX4_changeLines_37
set_option maxRecDepth 20000 in
set_option maxHeartbeats 4000000 in
theorem bX4_changeLines {st : Nat → Nat} {p : Program} {l : Launch} {e : Env} {s : State} {m : MethodId} {args : Array Value} {below : List Frame} {meth : Method} {c : Code} {D : va_G} {A : Nat → Prop} {ad : Nat → Nat} {cy : Nat → ClassId} (hC : zC p m c cX4_changeLines 4 s args wzX4_changeLines RX4 meth none)  {res : zSt} {H : Heap} {locs : List Loc} {σ : zSt} {ls : Array Slot} {x1 : Int32} {x2 : Int32} (hI : zI st D (tC cy) (wC ad cy σ) A s H locs) (hl : lv_has ls 4 [(0, .ref (ad 6)), (1, .int x1), (2, .int x2)]) (hf : fX4_changeLines  σ x1 x2 = some res) : W p l e rmX4_changeLines s m args below meth c H locs 0 0 (zQu below args s D (tC cy) (wC ad cy) A res) (F0 m 0 ls []) := by
  have hx := hC.1
  have hb := hC.2.1
  unfold fX4_changeLines at hf
  refine lv_aload_n hx hb dX4_changeLines_0 rfl (lv_at hl 0 rfl) ?_
  obtain ⟨σ1, v2, g1, hf⟩ := zbi_use hf
  refine z_callVi (As := []) (rest := []) hC hI (cX4_lines_met st l D ad cy σ  _ g1) (zgV zw26_21 zw26_22 zw26_23 zw2_17 zw27_0) rfl ⟨rfl, rfl⟩ 0 hdX4_lines ⟨Nat.le_of_ble_eq_true rfl, Nat.le_of_ble_eq_true rfl⟩ rfl rfl (wC_e6 ad cy σ) rfl hl rfl (Nat.le_of_ble_eq_true rfl) dX4_changeLines_1 ⟨Nat.zero_le _, Nat.zero_le _⟩ (fun H locs hI => ?_)
  refine lv_istore_n (lv' := [(3, .int v2), (0, .ref (ad 6)), (1, .int x1), (2, .int x2)]) hx hb dX4_changeLines_4 rfl hl (by decide) rfl (fun ls hl => ?_)
  refine lv_aload_n hx hb dX4_changeLines_5 rfl (lv_at hl 1 rfl) ?_
  refine z_get hC hI hinX4_changeLines_X40 6 (wC_e6 ad cy σ1) rfl 4 (by decide) (List.mem_cons_of_mem _ zw6_15) rfl dX4_changeLines_6 ?_
  refine lv_iload_n hx hb dX4_changeLines_9 rfl (lv_at hl 2 rfl) ?_
  refine lv_iload_n hx hb dX4_changeLines_10 rfl (lv_at hl 3 rfl) ?_
  obtain ⟨q, hf⟩ := zck_use hf
  obtain ⟨σ3, eσ3⟩ : ∃ z, z = zsi σ1 34 (x1.toNatClampNeg) x2 := ⟨_, rfl⟩
  replace hf := zbv_use eσ3 hf
  refine z_iast hC hI 34 21 (wC_e34 ad cy σ1) (tC_t34 cy) q ((wC_s34 ad cy σ1 _ _).trans (congrArg (wC ad cy) eσ3.symm)) dX4_changeLines_11 (fun H locs hI => ?_)
  refine lv_aload_n hx hb dX4_changeLines_12 rfl (lv_at hl 1 rfl) ?_
  obtain ⟨σ4, v5, g4, hf⟩ := zbi_use hf
  refine z_callVi (As := []) (rest := []) hC hI (cX4_lines_met st l D ad cy σ3  _ g4) (zgV zw26_21 zw26_22 zw26_23 zw2_17 zw27_0) rfl ⟨rfl, rfl⟩ 0 hdX4_lines ⟨Nat.le_of_ble_eq_true rfl, Nat.le_of_ble_eq_true rfl⟩ rfl rfl (wC_e6 ad cy σ3) rfl hl rfl (Nat.le_of_ble_eq_true rfl) dX4_changeLines_13 ⟨Nat.zero_le _, Nat.zero_le _⟩ (fun H locs hI => ?_)
  refine lv_iload_n hx hb dX4_changeLines_16 rfl (lv_at hl 0 rfl) ?_
  refine lv_iconst (v := (-1)) hx hb dX4_changeLines_17 (by decide) ?_
  refine lv_ixor hx hb dX4_changeLines_18 ?_
  refine lv_iand hx hb dX4_changeLines_19 ?_
  refine lv_if_eq (tgt := 37) hx hb dX4_changeLines_20 (by decide) (fun q => ?_) (fun q => ?_)
  · replace hf := zif_t q hf
    exact bX4_changeLines_37 hC  hI (lv_sub hl [] rfl) hf
  replace hf := zif_f q hf
  refine lv_aload_n hx hb dX4_changeLines_23 rfl (lv_at hl 1 rfl) ?_
  refine z_get hC hI hinX4_changeLines_X40 6 (wC_e6 ad cy σ4) rfl 4 (by decide) (List.mem_cons_of_mem _ zw6_15) rfl dX4_changeLines_24 ?_
  refine lv_bipush (v := 6) hx hb dX4_changeLines_27 (by decide) ?_
  refine lv_aload_n hx hb dX4_changeLines_29 rfl (lv_at hl 1 rfl) ?_
  refine z_get hC hI hinX4_changeLines_X40 6 (wC_e6 ad cy σ4) rfl 1 (by decide) (List.mem_cons_of_mem _ zw6_18) rfl dX4_changeLines_30 ?_
  obtain ⟨σ6, v7, g6, hf⟩ := zbi_use hf
  refine z_callVi (As := []) (rest := [.int 6, .ref (ad 34)]) hC hI (cX9_hCount_met st l D ad cy σ4  _ g6) (zgV zw28_1 zw28_2 zw28_3 zw2_1 zw28_4) rfl ⟨rfl, rfl⟩ 0 hdX9_hCount ⟨Nat.le_of_ble_eq_true rfl, Nat.le_of_ble_eq_true rfl⟩ rfl rfl (wC_e2 ad cy σ4) rfl hl rfl (Nat.le_of_ble_eq_true rfl) dX4_changeLines_33 ⟨Nat.zero_le _, Nat.zero_le _⟩ (fun H locs hI => ?_)
  obtain ⟨q, hf⟩ := zck_use hf
  obtain ⟨σ8, eσ8⟩ : ∃ z, z = zsi σ6 34 ((6 : Int32).toNatClampNeg) v7 := ⟨_, rfl⟩
  replace hf := zbv_use eσ8 hf
  refine z_iast hC hI 34 21 (wC_e34 ad cy σ6) (tC_t34 cy) q ((wC_s34 ad cy σ6 _ _).trans (congrArg (wC ad cy) eσ8.symm)) dX4_changeLines_36 (fun H locs hI => ?_)
  exact bX4_changeLines_37 hC  hI (lv_sub hl [] rfl) hf
set_option maxRecDepth 20000 in
theorem cX4_changeLines_met (st : Nat → Nat) (l : Launch) (D : va_G) (ad : Nat → Nat) (cy : Nat → ClassId) (σ : zSt) (x1 : Int32) (x2 : Int32) (res : zSt) (hf : fX4_changeLines σ x1 x2 = some res) (sz : Nat) : zMu st l yX4_changeLines wzX4_changeLines rmX4_changeLines [.ref (ad 6), .int x1, .int x2] D (tC cy) (wC ad cy) sz σ res :=
  zMu.of (cc := cX4_changeLines) (maxL := 4) (ret := none) (by decide) rfl (Nat.le_of_ble_eq_true rfl) (fun p e s m args below meth c hC A hI ls hl => bX4_changeLines hC hI hl hf)
theorem hdX4_changeLines : yX4_changeLines.cls = RX4 ∧ yX4_changeLines.cls ≠ "java/lang/invoke/MethodHandle" ∧ yX4_changeLines.cls ≠ "java/lang/invoke/VarHandle" ∧ (parseMethodDescriptor yX4_changeLines.desc).map (fun d => d.parameters.length) = some 2 := by decide +kernel
noncomputable def rmX4_moveLine : Room := { frames := 2, cells := 0, slots := 0, locals := 46 }
noncomputable def wzX4_moveLine : List Cond := .code yX4_moveLine cX4_moveLine 3 none :: wsL_law
noncomputable def fX4_moveLine_16  (σ : zSt) (s0 : Int32) (s1 : Int32) : Option (zSt) :=
  zbu (fX4_changeLines σ s1 s0) (fun σ1 =>
  some σ1)
noncomputable def fX4_moveLine  (σ : zSt) (x1 : Int32) (x2 : Int32) : Option (zSt) :=
  if x2 = 0 then fX4_moveLine_16 σ 0 (10 + (x1 &&& 1)) else
  fX4_moveLine_16 σ 1 (10 + (x1 &&& 1))
set_option maxRecDepth 20000 in
set_option maxHeartbeats 4000000 in
theorem bX4_moveLine_16 {st : Nat → Nat} {p : Program} {l : Launch} {e : Env} {s : State} {m : MethodId} {args : Array Value} {below : List Frame} {meth : Method} {c : Code} {D : va_G} {A : Nat → Prop} {ad : Nat → Nat} {cy : Nat → ClassId} (hC : zC p m c cX4_moveLine 3 s args wzX4_moveLine RX4 meth none)  {res : zSt} {H : Heap} {locs : List Loc} {σ : zSt} {ls : Array Slot} {s0 : Int32} {s1 : Int32} (hI : zI st D (tC cy) (wC ad cy σ) A s H locs) (hl : lv_has ls 3 []) (hf : fX4_moveLine_16  σ s0 s1 = some res) : W p l e rmX4_moveLine s m args below meth c H locs 0 0 (zQu below args s D (tC cy) (wC ad cy) A res) (F0 m 16 ls [.int s0, .int s1, .ref (ad 6)]) := by
  have hx := hC.1
  have hb := hC.2.1
  unfold fX4_moveLine_16 at hf
  obtain ⟨σ1, g1, hf⟩ := zbu_use hf
  refine z_callVu (As := [.int s1, .int s0]) (rest := []) hC hI (cX4_changeLines_met st l D ad cy σ s1 s0 _ g1) (zgV zw27_21 zw27_22 zw27_23 zw2_17 zw28_0) rfl ⟨rfl, rfl⟩ 2 hdX4_changeLines ⟨Nat.le_of_ble_eq_true rfl, Nat.le_of_ble_eq_true rfl⟩ rfl rfl (wC_e6 ad cy σ) rfl hl rfl (Nat.le_of_ble_eq_true rfl) dX4_moveLine_16 ⟨Nat.zero_le _, Nat.zero_le _⟩ (fun H locs hI => ?_)
  exact z_return hC hI hf dX4_moveLine_19
set_option maxRecDepth 20000 in
set_option maxHeartbeats 4000000 in
theorem bX4_moveLine {st : Nat → Nat} {p : Program} {l : Launch} {e : Env} {s : State} {m : MethodId} {args : Array Value} {below : List Frame} {meth : Method} {c : Code} {D : va_G} {A : Nat → Prop} {ad : Nat → Nat} {cy : Nat → ClassId} (hC : zC p m c cX4_moveLine 3 s args wzX4_moveLine RX4 meth none)  {res : zSt} {H : Heap} {locs : List Loc} {σ : zSt} {ls : Array Slot} {x1 : Int32} {x2 : Int32} (hI : zI st D (tC cy) (wC ad cy σ) A s H locs) (hl : lv_has ls 3 [(0, .ref (ad 6)), (1, .int x1), (2, .int x2)]) (hf : fX4_moveLine  σ x1 x2 = some res) : W p l e rmX4_moveLine s m args below meth c H locs 0 0 (zQu below args s D (tC cy) (wC ad cy) A res) (F0 m 0 ls []) := by
  have hx := hC.1
  have hb := hC.2.1
  unfold fX4_moveLine at hf
  refine lv_aload_n hx hb dX4_moveLine_0 rfl (lv_at hl 0 rfl) ?_
  refine lv_bipush (v := 10) hx hb dX4_moveLine_1 (by decide) ?_
  refine lv_iload_n hx hb dX4_moveLine_3 rfl (lv_at hl 1 rfl) ?_
  refine lv_iconst (v := 1) hx hb dX4_moveLine_4 (by decide) ?_
  refine lv_iand hx hb dX4_moveLine_5 ?_
  refine lv_iadd hx hb dX4_moveLine_6 ?_
  refine lv_iload_n hx hb dX4_moveLine_7 rfl (lv_at hl 2 rfl) ?_
  refine lv_if_eq (tgt := 15) hx hb dX4_moveLine_8 (by decide) (fun q => ?_) (fun q => ?_)
  · replace hf := zif_t q hf
    refine lv_iconst (v := 0) hx hb dX4_moveLine_15 (by decide) ?_
    exact bX4_moveLine_16 hC  hI (lv_sub hl [] rfl) hf
  replace hf := zif_f q hf
  refine lv_iconst (v := 1) hx hb dX4_moveLine_11 (by decide) ?_
  refine lv_goto (tgt := 16) hx hb dX4_moveLine_12 (by decide) ?_
  exact bX4_moveLine_16 hC  hI (lv_sub hl [] rfl) hf
set_option maxRecDepth 20000 in
theorem cX4_moveLine_met (st : Nat → Nat) (l : Launch) (D : va_G) (ad : Nat → Nat) (cy : Nat → ClassId) (σ : zSt) (x1 : Int32) (x2 : Int32) (res : zSt) (hf : fX4_moveLine σ x1 x2 = some res) (sz : Nat) : zMu st l yX4_moveLine wzX4_moveLine rmX4_moveLine [.ref (ad 6), .int x1, .int x2] D (tC cy) (wC ad cy) sz σ res :=
  zMu.of (cc := cX4_moveLine) (maxL := 3) (ret := none) (by decide) rfl (Nat.le_of_ble_eq_true rfl) (fun p e s m args below meth c hC A hI ls hl => bX4_moveLine hC hI hl hf)
theorem hdX4_moveLine : yX4_moveLine.cls = RX4 ∧ yX4_moveLine.cls ≠ "java/lang/invoke/MethodHandle" ∧ yX4_moveLine.cls ≠ "java/lang/invoke/VarHandle" ∧ (parseMethodDescriptor yX4_moveLine.desc).map (fun d => d.parameters.length) = some 2 := by decide +kernel
noncomputable def rmX10_value : Room := { frames := 0, cells := 0, slots := 0, locals := 0 }
noncomputable def wzX10_value : List Cond := .code yX10_value cX10_value 2 (some .int) :: wsL_law
theorem hinX10_value_X100 : ∀ w ∈ wsX100, w ∈ wzX10_value := fun w h => List.mem_cons_of_mem _ (inlX10 w h)
noncomputable def fX10_value_11  (σ : zSt)  : Option (zSt × Int32) :=
  some (σ, 0)
noncomputable def fX10_value_38  (σ : zSt) (s0 : Int32) : Option (zSt × Int32) :=
  some (σ, s0)
noncomputable def fX10_value  (σ : zSt) (x1 : Int32) : Option (zSt × Int32) :=
  if x1 < 0 then fX10_value_11 σ else
  if x1 < 272 then if x1 = 66 then zck (zin 66 272) (
  fX10_value_38 σ ((zgi σ 32 (66 : Int32).toNatClampNeg) &&& 65535)) else
  zck (zin x1 272) (
  fX10_value_38 σ (zgi σ 32 x1.toNatClampNeg)) else
  fX10_value_11 σ
set_option maxRecDepth 20000 in
set_option maxHeartbeats 4000000 in
theorem bX10_value_11 {st : Nat → Nat} {p : Program} {l : Launch} {e : Env} {s : State} {m : MethodId} {args : Array Value} {below : List Frame} {meth : Method} {c : Code} {D : va_G} {A : Nat → Prop} {ad : Nat → Nat} {cy : Nat → ClassId} (hC : zC p m c cX10_value 2 s args wzX10_value RX10 meth (some .int))  {res : zSt × Int32} {H : Heap} {locs : List Loc} {σ : zSt} {ls : Array Slot}  (hI : zI st D (tC cy) (wC ad cy σ) A s H locs) (hl : lv_has ls 2 []) (hf : fX10_value_11  σ  = some res) : W p l e rmX10_value s m args below meth c H locs 0 0 (zQi below args s D (tC cy) (wC ad cy) A res) (F0 m 11 ls []) := by
  have hx := hC.1
  have hb := hC.2.1
  unfold fX10_value_11 at hf
  refine lv_iconst (v := 0) hx hb dX10_value_11 (by decide) ?_
  exact z_ireturn hC hI hf dX10_value_12
set_option maxRecDepth 20000 in
set_option maxHeartbeats 4000000 in
theorem bX10_value_38 {st : Nat → Nat} {p : Program} {l : Launch} {e : Env} {s : State} {m : MethodId} {args : Array Value} {below : List Frame} {meth : Method} {c : Code} {D : va_G} {A : Nat → Prop} {ad : Nat → Nat} {cy : Nat → ClassId} (hC : zC p m c cX10_value 2 s args wzX10_value RX10 meth (some .int))  {res : zSt × Int32} {H : Heap} {locs : List Loc} {σ : zSt} {ls : Array Slot} {s0 : Int32} (hI : zI st D (tC cy) (wC ad cy σ) A s H locs) (hl : lv_has ls 2 []) (hf : fX10_value_38  σ s0 = some res) : W p l e rmX10_value s m args below meth c H locs 0 0 (zQi below args s D (tC cy) (wC ad cy) A res) (F0 m 38 ls [.int s0]) := by
  have hx := hC.1
  have hb := hC.2.1
  unfold fX10_value_38 at hf
  exact z_ireturn hC hI hf dX10_value_38
set_option maxRecDepth 20000 in
set_option maxHeartbeats 4000000 in
theorem bX10_value {st : Nat → Nat} {p : Program} {l : Launch} {e : Env} {s : State} {m : MethodId} {args : Array Value} {below : List Frame} {meth : Method} {c : Code} {D : va_G} {A : Nat → Prop} {ad : Nat → Nat} {cy : Nat → ClassId} (hC : zC p m c cX10_value 2 s args wzX10_value RX10 meth (some .int))  {res : zSt × Int32} {H : Heap} {locs : List Loc} {σ : zSt} {ls : Array Slot} {x1 : Int32} (hI : zI st D (tC cy) (wC ad cy σ) A s H locs) (hl : lv_has ls 2 [(0, .ref (ad 5)), (1, .int x1)]) (hf : fX10_value  σ x1 = some res) : W p l e rmX10_value s m args below meth c H locs 0 0 (zQi below args s D (tC cy) (wC ad cy) A res) (F0 m 0 ls []) := by
  have hx := hC.1
  have hb := hC.2.1
  unfold fX10_value at hf
  refine lv_iload_n hx hb dX10_value_0 rfl (lv_at hl 1 rfl) ?_
  refine lv_if_lt (tgt := 11) hx hb dX10_value_1 (by decide) (fun q => ?_) (fun q => ?_)
  · replace hf := zif_t q hf
    exact bX10_value_11 hC  hI (lv_sub hl [] rfl) hf
  replace hf := zif_f q hf
  refine lv_iload_n hx hb dX10_value_4 rfl (lv_at hl 1 rfl) ?_
  refine lv_sipush (v := 272) hx hb dX10_value_5 (by decide) ?_
  refine lv_icmp_lt (tgt := 13) hx hb dX10_value_8 (by decide) (fun q => ?_) (fun q => ?_)
  · replace hf := zif_t q hf
    refine lv_iload_n hx hb dX10_value_13 rfl (lv_at hl 1 rfl) ?_
    refine lv_bipush (v := 66) hx hb dX10_value_14 (by decide) ?_
    refine lv_icmp_ne (tgt := 32) hx hb dX10_value_16 (by decide) (fun q => ?_) (fun q => ?_)
    · replace hf := zif_f q hf
      refine lv_aload_n hx hb dX10_value_32 rfl (lv_at hl 0 rfl) ?_
      refine z_get hC hI hinX10_value_X100 5 (wC_e5 ad cy σ) rfl 0 (by decide) (List.mem_cons_of_mem _ zw6_4) rfl dX10_value_33 ?_
      refine lv_iload_n hx hb dX10_value_36 rfl (lv_at hl 1 rfl) ?_
      obtain ⟨q, hf⟩ := zck_use hf
      refine z_iald hC hI 32 19 (wC_e32 ad cy σ) (tC_t32 cy) q dX10_value_37 ?_
      exact bX10_value_38 hC  hI (lv_sub hl [] rfl) hf
    replace hf := zif_t q hf
    refine lv_aload_n hx hb dX10_value_19 rfl (lv_at hl 0 rfl) ?_
    refine z_get hC hI hinX10_value_X100 5 (wC_e5 ad cy σ) rfl 0 (by decide) (List.mem_cons_of_mem _ zw6_4) rfl dX10_value_20 ?_
    refine lv_bipush (v := 66) hx hb dX10_value_23 (by decide) ?_
    obtain ⟨q, hf⟩ := zck_use hf
    refine z_iald hC hI 32 19 (wC_e32 ad cy σ) (tC_t32 cy) q dX10_value_25 ?_
    refine lv_ldc (v := 65535) hx hb hC.2.2.2.1 (hC.2.2.2.2.1 _ (List.mem_cons_of_mem _ zw26_12)) dX10_value_26 ?_
    refine lv_iand hx hb dX10_value_28 ?_
    refine lv_goto (tgt := 38) hx hb dX10_value_29 (by decide) ?_
    exact bX10_value_38 hC  hI (lv_sub hl [] rfl) hf
  replace hf := zif_f q hf
  exact bX10_value_11 hC  hI (lv_sub hl [] rfl) hf
set_option maxRecDepth 20000 in
theorem cX10_value_met (st : Nat → Nat) (l : Launch) (D : va_G) (ad : Nat → Nat) (cy : Nat → ClassId) (σ : zSt) (x1 : Int32) (res : zSt × Int32) (hf : fX10_value σ x1 = some res) (sz : Nat) : zMi st l yX10_value wzX10_value rmX10_value [.ref (ad 5), .int x1] D (tC cy) (wC ad cy) sz σ res :=
  zMi.of (cc := cX10_value) (maxL := 2) (ret := (some .int)) (by decide) rfl (Nat.le_of_ble_eq_true rfl) (fun p e s m args below meth c hC A hI ls hl => bX10_value hC hI hl hf)
theorem hdX10_value : yX10_value.cls = RX10 ∧ yX10_value.cls ≠ "java/lang/invoke/MethodHandle" ∧ yX10_value.cls ≠ "java/lang/invoke/VarHandle" ∧ (parseMethodDescriptor yX10_value.desc).map (fun d => d.parameters.length) = some 1 := by decide +kernel
noncomputable def rmX4_readEvenPads : Room := { frames := 0, cells := 0, slots := 0, locals := 0 }
noncomputable def wzX4_readEvenPads : List Cond := .code yX4_readEvenPads cX4_readEvenPads 2 (some .int) :: wsL_law
theorem hinX4_readEvenPads_X40 : ∀ w ∈ wsX40, w ∈ wzX4_readEvenPads := fun w h => List.mem_cons_of_mem _ (inlX4 w h)
noncomputable def fX4_readEvenPads_56  (σ : zSt) (s0 : Int32) : Option (zSt × Int32) :=
  some (σ, s0)
noncomputable def fX4_readEvenPads  (σ : zSt)  : Option (zSt × Int32) :=
  zck (zin 7 12) (
  zck (zin 8 12) (
  zbv ((((zgi σ 34 (7 : Int32).toNatClampNeg) ||| ((zgi σ 34 (8 : Int32).toNatClampNeg) <<< ((6 : Int32) &&& 31))) ^^^ (-1)) &&& 255) (fun v1 =>
  zck (zin 0 12) (
  if ((zgi σ 34 (0 : Int32).toNatClampNeg) &&& 1) = 0 then zck (zin 0 12) (
  fX4_readEvenPads_56 σ ((v1 &&& (-33)) ||| (((zgi σ 34 (0 : Int32).toNatClampNeg) &&& 16) <<< ((1 : Int32) &&& 31)))) else
  fX4_readEvenPads_56 σ v1))))
set_option maxRecDepth 20000 in
set_option maxHeartbeats 4000000 in
theorem bX4_readEvenPads_56 {st : Nat → Nat} {p : Program} {l : Launch} {e : Env} {s : State} {m : MethodId} {args : Array Value} {below : List Frame} {meth : Method} {c : Code} {D : va_G} {A : Nat → Prop} {ad : Nat → Nat} {cy : Nat → ClassId} (hC : zC p m c cX4_readEvenPads 2 s args wzX4_readEvenPads RX4 meth (some .int))  {res : zSt × Int32} {H : Heap} {locs : List Loc} {σ : zSt} {ls : Array Slot} {s0 : Int32} (hI : zI st D (tC cy) (wC ad cy σ) A s H locs) (hl : lv_has ls 2 []) (hf : fX4_readEvenPads_56  σ s0 = some res) : W p l e rmX4_readEvenPads s m args below meth c H locs 0 0 (zQi below args s D (tC cy) (wC ad cy) A res) (F0 m 56 ls [.int s0]) := by
  have hx := hC.1
  have hb := hC.2.1
  unfold fX4_readEvenPads_56 at hf
  exact z_ireturn hC hI hf dX4_readEvenPads_56
set_option maxRecDepth 20000 in
set_option maxHeartbeats 4000000 in
theorem bX4_readEvenPads {st : Nat → Nat} {p : Program} {l : Launch} {e : Env} {s : State} {m : MethodId} {args : Array Value} {below : List Frame} {meth : Method} {c : Code} {D : va_G} {A : Nat → Prop} {ad : Nat → Nat} {cy : Nat → ClassId} (hC : zC p m c cX4_readEvenPads 2 s args wzX4_readEvenPads RX4 meth (some .int))  {res : zSt × Int32} {H : Heap} {locs : List Loc} {σ : zSt} {ls : Array Slot}  (hI : zI st D (tC cy) (wC ad cy σ) A s H locs) (hl : lv_has ls 2 [(0, .ref (ad 6))]) (hf : fX4_readEvenPads  σ  = some res) : W p l e rmX4_readEvenPads s m args below meth c H locs 0 0 (zQi below args s D (tC cy) (wC ad cy) A res) (F0 m 0 ls []) := by
  have hx := hC.1
  have hb := hC.2.1
  unfold fX4_readEvenPads at hf
  refine lv_aload_n hx hb dX4_readEvenPads_0 rfl (lv_at hl 0 rfl) ?_
  refine z_get hC hI hinX4_readEvenPads_X40 6 (wC_e6 ad cy σ) rfl 4 (by decide) (List.mem_cons_of_mem _ zw6_15) rfl dX4_readEvenPads_1 ?_
  refine lv_bipush (v := 7) hx hb dX4_readEvenPads_4 (by decide) ?_
  obtain ⟨q, hf⟩ := zck_use hf
  refine z_iald hC hI 34 21 (wC_e34 ad cy σ) (tC_t34 cy) q dX4_readEvenPads_6 ?_
  refine lv_aload_n hx hb dX4_readEvenPads_7 rfl (lv_at hl 0 rfl) ?_
  refine z_get hC hI hinX4_readEvenPads_X40 6 (wC_e6 ad cy σ) rfl 4 (by decide) (List.mem_cons_of_mem _ zw6_15) rfl dX4_readEvenPads_8 ?_
  refine lv_bipush (v := 8) hx hb dX4_readEvenPads_11 (by decide) ?_
  obtain ⟨q, hf⟩ := zck_use hf
  refine z_iald hC hI 34 21 (wC_e34 ad cy σ) (tC_t34 cy) q dX4_readEvenPads_13 ?_
  refine lv_bipush (v := 6) hx hb dX4_readEvenPads_14 (by decide) ?_
  refine lv_ishl hx hb dX4_readEvenPads_16 ?_
  refine lv_ior hx hb dX4_readEvenPads_17 ?_
  refine lv_iconst (v := (-1)) hx hb dX4_readEvenPads_18 (by decide) ?_
  refine lv_ixor hx hb dX4_readEvenPads_19 ?_
  refine lv_sipush (v := 255) hx hb dX4_readEvenPads_20 (by decide) ?_
  refine lv_iand hx hb dX4_readEvenPads_23 ?_
  refine lv_topi (fun v1 ev1 => ?_)
  replace hf := zbv_use ev1 hf
  refine lv_istore_n (lv' := [(1, .int v1), (0, .ref (ad 6))]) hx hb dX4_readEvenPads_24 rfl hl (by decide) rfl (fun ls hl => ?_)
  refine lv_aload_n hx hb dX4_readEvenPads_25 rfl (lv_at hl 1 rfl) ?_
  refine z_get hC hI hinX4_readEvenPads_X40 6 (wC_e6 ad cy σ) rfl 4 (by decide) (List.mem_cons_of_mem _ zw6_15) rfl dX4_readEvenPads_26 ?_
  refine lv_iconst (v := 0) hx hb dX4_readEvenPads_29 (by decide) ?_
  obtain ⟨q, hf⟩ := zck_use hf
  refine z_iald hC hI 34 21 (wC_e34 ad cy σ) (tC_t34 cy) q dX4_readEvenPads_30 ?_
  refine lv_iconst (v := 1) hx hb dX4_readEvenPads_31 (by decide) ?_
  refine lv_iand hx hb dX4_readEvenPads_32 ?_
  refine lv_if_ne (tgt := 55) hx hb dX4_readEvenPads_33 (by decide) (fun q => ?_) (fun q => ?_)
  · replace hf := zif_f q hf
    refine lv_iload_n hx hb dX4_readEvenPads_55 rfl (lv_at hl 0 rfl) ?_
    exact bX4_readEvenPads_56 hC  hI (lv_sub hl [] rfl) hf
  replace hf := zif_t q hf
  refine lv_iload_n hx hb dX4_readEvenPads_36 rfl (lv_at hl 0 rfl) ?_
  refine lv_bipush (v := (-33)) hx hb dX4_readEvenPads_37 (by decide) ?_
  refine lv_iand hx hb dX4_readEvenPads_39 ?_
  refine lv_aload_n hx hb dX4_readEvenPads_40 rfl (lv_at hl 1 rfl) ?_
  refine z_get hC hI hinX4_readEvenPads_X40 6 (wC_e6 ad cy σ) rfl 4 (by decide) (List.mem_cons_of_mem _ zw6_15) rfl dX4_readEvenPads_41 ?_
  refine lv_iconst (v := 0) hx hb dX4_readEvenPads_44 (by decide) ?_
  obtain ⟨q, hf⟩ := zck_use hf
  refine z_iald hC hI 34 21 (wC_e34 ad cy σ) (tC_t34 cy) q dX4_readEvenPads_45 ?_
  refine lv_bipush (v := 16) hx hb dX4_readEvenPads_46 (by decide) ?_
  refine lv_iand hx hb dX4_readEvenPads_48 ?_
  refine lv_iconst (v := 1) hx hb dX4_readEvenPads_49 (by decide) ?_
  refine lv_ishl hx hb dX4_readEvenPads_50 ?_
  refine lv_ior hx hb dX4_readEvenPads_51 ?_
  refine lv_goto (tgt := 56) hx hb dX4_readEvenPads_52 (by decide) ?_
  exact bX4_readEvenPads_56 hC  hI (lv_sub hl [] rfl) hf
set_option maxRecDepth 20000 in
theorem cX4_readEvenPads_met (st : Nat → Nat) (l : Launch) (D : va_G) (ad : Nat → Nat) (cy : Nat → ClassId) (σ : zSt)  (res : zSt × Int32) (hf : fX4_readEvenPads σ  = some res) (sz : Nat) : zMi st l yX4_readEvenPads wzX4_readEvenPads rmX4_readEvenPads [.ref (ad 6)] D (tC cy) (wC ad cy) sz σ res :=
  zMi.of (cc := cX4_readEvenPads) (maxL := 2) (ret := (some .int)) (by decide) rfl (Nat.le_of_ble_eq_true rfl) (fun p e s m args below meth c hC A hI ls hl => bX4_readEvenPads hC hI hl hf)
theorem hdX4_readEvenPads : yX4_readEvenPads.cls = RX4 ∧ yX4_readEvenPads.cls ≠ "java/lang/invoke/MethodHandle" ∧ yX4_readEvenPads.cls ≠ "java/lang/invoke/VarHandle" ∧ (parseMethodDescriptor yX4_readEvenPads.desc).map (fun d => d.parameters.length) = some 0 := by decide +kernel
end ZJN1
