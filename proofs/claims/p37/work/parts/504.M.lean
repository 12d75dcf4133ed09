section ZJN0
noncomputable def kn_cX12_instruction : Nat := 0xacdc00b6d900b62a2abf00b5032aae00b5032a
theorem zk_cX12_instruction : zkd cX12_instruction.data.toList kn_cX12_instruction = true := by decide +kernel
theorem zn_cX12_instruction : cX12_instruction.data.toList.length = 19 := by decide +kernel
theorem dX12_instruction_0 : decode cX12_instruction 0 = .ok (.aload_n 0, 1) := zo_42 (zkb zk_cX12_instruction zn_cX12_instruction rfl)
theorem dX12_instruction_1 : decode cX12_instruction 1 = .ok (.iconst 0, 1) := zo_3 (zkb zk_cX12_instruction zn_cX12_instruction rfl)
theorem dX12_instruction_2 : decode cX12_instruction 2 = .ok (.putfield 174, 3) := zo_181 (b1 := 0) (b2 := 174) (zkb3 zk_cX12_instruction zn_cX12_instruction rfl) rfl
theorem dX12_instruction_5 : decode cX12_instruction 5 = .ok (.aload_n 0, 1) := zo_42 (zkb zk_cX12_instruction zn_cX12_instruction rfl)
theorem dX12_instruction_6 : decode cX12_instruction 6 = .ok (.iconst 0, 1) := zo_3 (zkb zk_cX12_instruction zn_cX12_instruction rfl)
theorem dX12_instruction_7 : decode cX12_instruction 7 = .ok (.putfield 191, 3) := zo_181 (b1 := 0) (b2 := 191) (zkb3 zk_cX12_instruction zn_cX12_instruction rfl) rfl
theorem dX12_instruction_10 : decode cX12_instruction 10 = .ok (.aload_n 0, 1) := zo_42 (zkb zk_cX12_instruction zn_cX12_instruction rfl)
theorem dX12_instruction_11 : decode cX12_instruction 11 = .ok (.aload_n 0, 1) := zo_42 (zkb zk_cX12_instruction zn_cX12_instruction rfl)
theorem dX12_instruction_12 : decode cX12_instruction 12 = .ok (.invokevirtual 217, 3) := zo_182 (b1 := 0) (b2 := 217) (zkb3 zk_cX12_instruction zn_cX12_instruction rfl) rfl
theorem dX12_instruction_15 : decode cX12_instruction 15 = .ok (.invokevirtual 220, 3) := zo_182 (b1 := 0) (b2 := 220) (zkb3 zk_cX12_instruction zn_cX12_instruction rfl) rfl
theorem dX12_instruction_18 : decode cX12_instruction 18 = .ok (.ireturn, 1) := zo_172 (zkb zk_cX12_instruction zn_cX12_instruction rfl)
noncomputable def kn_cX12_plain : Nat := 0xacf100b61d1c2a0900a7ee00b61d1c2a0c00a2071dac070400a707100800a006101deb00b6e500b61d2a1c2aac070400a707100800a006101d09009f06101c14009f76101be800b6e500b61d2a1c2a0d00a74f041a101600b42a0e00a076101bace200b61d1c2a0900a7df00b61d1c2a0c00a2071d65000000310000001c00000002000000000000007c000000000000aa7a06101b3e7e07101b3d7e07107a061b
theorem zk_cX12_plain : zkd cX12_plain.data.toList kn_cX12_plain = true := by decide +kernel
theorem zn_cX12_plain : cX12_plain.data.toList.length = 161 := by decide +kernel
theorem dX12_plain_0 : decode cX12_plain 0 = .ok (.iload_n 1, 1) := zo_27 (zkb zk_cX12_plain zn_cX12_plain rfl)
theorem dX12_plain_1 : decode cX12_plain 1 = .ok (.iconst 3, 1) := zo_6 (zkb zk_cX12_plain zn_cX12_plain rfl)
theorem dX12_plain_2 : decode cX12_plain 2 = .ok (.ishr, 1) := zo_122 (zkb zk_cX12_plain zn_cX12_plain rfl)
theorem dX12_plain_3 : decode cX12_plain 3 = .ok (.bipush 7, 2) := zo_16 (b1 := 7) (zkb2 zk_cX12_plain zn_cX12_plain rfl) rfl
theorem dX12_plain_5 : decode cX12_plain 5 = .ok (.iand, 1) := zo_126 (zkb zk_cX12_plain zn_cX12_plain rfl)
theorem dX12_plain_6 : decode cX12_plain 6 = .ok (.istore_n 2, 1) := zo_61 (zkb zk_cX12_plain zn_cX12_plain rfl)
theorem dX12_plain_7 : decode cX12_plain 7 = .ok (.iload_n 1, 1) := zo_27 (zkb zk_cX12_plain zn_cX12_plain rfl)
theorem dX12_plain_8 : decode cX12_plain 8 = .ok (.bipush 7, 2) := zo_16 (b1 := 7) (zkb2 zk_cX12_plain zn_cX12_plain rfl) rfl
theorem dX12_plain_10 : decode cX12_plain 10 = .ok (.iand, 1) := zo_126 (zkb zk_cX12_plain zn_cX12_plain rfl)
theorem dX12_plain_11 : decode cX12_plain 11 = .ok (.istore_n 3, 1) := zo_62 (zkb zk_cX12_plain zn_cX12_plain rfl)
theorem dX12_plain_12 : decode cX12_plain 12 = .ok (.iload_n 1, 1) := zo_27 (zkb zk_cX12_plain zn_cX12_plain rfl)
theorem dX12_plain_13 : decode cX12_plain 13 = .ok (.bipush 6, 2) := zo_16 (b1 := 6) (zkb2 zk_cX12_plain zn_cX12_plain rfl) rfl
theorem dX12_plain_15 : decode cX12_plain 15 = .ok (.ishr, 1) := zo_122 (zkb zk_cX12_plain zn_cX12_plain rfl)
theorem dX12_plain_16 : decode cX12_plain 16 = .ok (.tableswitch 124 0 2 #[28, 49, 101], 28) := by decide +kernel
theorem dX12_plain_44 : decode cX12_plain 44 = .ok (.iload_n 3, 1) := zo_29 (zkb zk_cX12_plain zn_cX12_plain rfl)
theorem dX12_plain_45 : decode cX12_plain 45 = .ok (.iconst 4, 1) := zo_7 (zkb zk_cX12_plain zn_cX12_plain rfl)
theorem dX12_plain_46 : decode cX12_plain 46 = .ok (.if_icmp .ge 12, 3) := zo_162 (b1 := 0) (b2 := 12) (zkb3 zk_cX12_plain zn_cX12_plain rfl) rfl
theorem dX12_plain_49 : decode cX12_plain 49 = .ok (.aload_n 0, 1) := zo_42 (zkb zk_cX12_plain zn_cX12_plain rfl)
theorem dX12_plain_50 : decode cX12_plain 50 = .ok (.iload_n 2, 1) := zo_28 (zkb zk_cX12_plain zn_cX12_plain rfl)
theorem dX12_plain_51 : decode cX12_plain 51 = .ok (.iload_n 3, 1) := zo_29 (zkb zk_cX12_plain zn_cX12_plain rfl)
theorem dX12_plain_52 : decode cX12_plain 52 = .ok (.invokevirtual 223, 3) := zo_182 (b1 := 0) (b2 := 223) (zkb3 zk_cX12_plain zn_cX12_plain rfl) rfl
theorem dX12_plain_55 : decode cX12_plain 55 = .ok (.goto 9, 3) := zo_167 (b1 := 0) (b2 := 9) (zkb3 zk_cX12_plain zn_cX12_plain rfl) rfl
theorem dX12_plain_58 : decode cX12_plain 58 = .ok (.aload_n 0, 1) := zo_42 (zkb zk_cX12_plain zn_cX12_plain rfl)
theorem dX12_plain_59 : decode cX12_plain 59 = .ok (.iload_n 2, 1) := zo_28 (zkb zk_cX12_plain zn_cX12_plain rfl)
theorem dX12_plain_60 : decode cX12_plain 60 = .ok (.iload_n 3, 1) := zo_29 (zkb zk_cX12_plain zn_cX12_plain rfl)
theorem dX12_plain_61 : decode cX12_plain 61 = .ok (.invokevirtual 226, 3) := zo_182 (b1 := 0) (b2 := 226) (zkb3 zk_cX12_plain zn_cX12_plain rfl) rfl
theorem dX12_plain_64 : decode cX12_plain 64 = .ok (.ireturn, 1) := zo_172 (zkb zk_cX12_plain zn_cX12_plain rfl)
theorem dX12_plain_65 : decode cX12_plain 65 = .ok (.iload_n 1, 1) := zo_27 (zkb zk_cX12_plain zn_cX12_plain rfl)
theorem dX12_plain_66 : decode cX12_plain 66 = .ok (.bipush 118, 2) := zo_16 (b1 := 118) (zkb2 zk_cX12_plain zn_cX12_plain rfl) rfl
theorem dX12_plain_68 : decode cX12_plain 68 = .ok (.if_icmp .ne 14, 3) := zo_160 (b1 := 0) (b2 := 14) (zkb3 zk_cX12_plain zn_cX12_plain rfl) rfl
theorem dX12_plain_71 : decode cX12_plain 71 = .ok (.aload_n 0, 1) := zo_42 (zkb zk_cX12_plain zn_cX12_plain rfl)
theorem dX12_plain_72 : decode cX12_plain 72 = .ok (.getfield 22, 3) := zo_180 (b1 := 0) (b2 := 22) (zkb3 zk_cX12_plain zn_cX12_plain rfl) rfl
theorem dX12_plain_75 : decode cX12_plain 75 = .ok (.bipush 26, 2) := zo_16 (b1 := 26) (zkb2 zk_cX12_plain zn_cX12_plain rfl) rfl
theorem dX12_plain_77 : decode cX12_plain 77 = .ok (.iconst 1, 1) := zo_4 (zkb zk_cX12_plain zn_cX12_plain rfl)
theorem dX12_plain_78 : decode cX12_plain 78 = .ok (.iastore, 1) := zo_79 (zkb zk_cX12_plain zn_cX12_plain rfl)
theorem dX12_plain_79 : decode cX12_plain 79 = .ok (.goto 13, 3) := zo_167 (b1 := 0) (b2 := 13) (zkb3 zk_cX12_plain zn_cX12_plain rfl) rfl
theorem dX12_plain_82 : decode cX12_plain 82 = .ok (.aload_n 0, 1) := zo_42 (zkb zk_cX12_plain zn_cX12_plain rfl)
theorem dX12_plain_83 : decode cX12_plain 83 = .ok (.iload_n 2, 1) := zo_28 (zkb zk_cX12_plain zn_cX12_plain rfl)
theorem dX12_plain_84 : decode cX12_plain 84 = .ok (.aload_n 0, 1) := zo_42 (zkb zk_cX12_plain zn_cX12_plain rfl)
theorem dX12_plain_85 : decode cX12_plain 85 = .ok (.iload_n 3, 1) := zo_29 (zkb zk_cX12_plain zn_cX12_plain rfl)
theorem dX12_plain_86 : decode cX12_plain 86 = .ok (.invokevirtual 229, 3) := zo_182 (b1 := 0) (b2 := 229) (zkb3 zk_cX12_plain zn_cX12_plain rfl) rfl
theorem dX12_plain_89 : decode cX12_plain 89 = .ok (.invokevirtual 232, 3) := zo_182 (b1 := 0) (b2 := 232) (zkb3 zk_cX12_plain zn_cX12_plain rfl) rfl
theorem dX12_plain_92 : decode cX12_plain 92 = .ok (.iload_n 1, 1) := zo_27 (zkb zk_cX12_plain zn_cX12_plain rfl)
theorem dX12_plain_93 : decode cX12_plain 93 = .ok (.bipush 118, 2) := zo_16 (b1 := 118) (zkb2 zk_cX12_plain zn_cX12_plain rfl) rfl
theorem dX12_plain_95 : decode cX12_plain 95 = .ok (.if_icmp .eq 20, 3) := zo_159 (b1 := 0) (b2 := 20) (zkb3 zk_cX12_plain zn_cX12_plain rfl) rfl
theorem dX12_plain_98 : decode cX12_plain 98 = .ok (.iload_n 2, 1) := zo_28 (zkb zk_cX12_plain zn_cX12_plain rfl)
theorem dX12_plain_99 : decode cX12_plain 99 = .ok (.bipush 6, 2) := zo_16 (b1 := 6) (zkb2 zk_cX12_plain zn_cX12_plain rfl) rfl
theorem dX12_plain_101 : decode cX12_plain 101 = .ok (.if_icmp .eq 9, 3) := zo_159 (b1 := 0) (b2 := 9) (zkb3 zk_cX12_plain zn_cX12_plain rfl) rfl
theorem dX12_plain_104 : decode cX12_plain 104 = .ok (.iload_n 3, 1) := zo_29 (zkb zk_cX12_plain zn_cX12_plain rfl)
theorem dX12_plain_105 : decode cX12_plain 105 = .ok (.bipush 6, 2) := zo_16 (b1 := 6) (zkb2 zk_cX12_plain zn_cX12_plain rfl) rfl
theorem dX12_plain_107 : decode cX12_plain 107 = .ok (.if_icmp .ne 8, 3) := zo_160 (b1 := 0) (b2 := 8) (zkb3 zk_cX12_plain zn_cX12_plain rfl) rfl
theorem dX12_plain_110 : decode cX12_plain 110 = .ok (.bipush 7, 2) := zo_16 (b1 := 7) (zkb2 zk_cX12_plain zn_cX12_plain rfl) rfl
theorem dX12_plain_112 : decode cX12_plain 112 = .ok (.goto 4, 3) := zo_167 (b1 := 0) (b2 := 4) (zkb3 zk_cX12_plain zn_cX12_plain rfl) rfl
theorem dX12_plain_115 : decode cX12_plain 115 = .ok (.iconst 4, 1) := zo_7 (zkb zk_cX12_plain zn_cX12_plain rfl)
theorem dX12_plain_116 : decode cX12_plain 116 = .ok (.ireturn, 1) := zo_172 (zkb zk_cX12_plain zn_cX12_plain rfl)
theorem dX12_plain_117 : decode cX12_plain 117 = .ok (.aload_n 0, 1) := zo_42 (zkb zk_cX12_plain zn_cX12_plain rfl)
theorem dX12_plain_118 : decode cX12_plain 118 = .ok (.iload_n 2, 1) := zo_28 (zkb zk_cX12_plain zn_cX12_plain rfl)
theorem dX12_plain_119 : decode cX12_plain 119 = .ok (.aload_n 0, 1) := zo_42 (zkb zk_cX12_plain zn_cX12_plain rfl)
theorem dX12_plain_120 : decode cX12_plain 120 = .ok (.iload_n 3, 1) := zo_29 (zkb zk_cX12_plain zn_cX12_plain rfl)
theorem dX12_plain_121 : decode cX12_plain 121 = .ok (.invokevirtual 229, 3) := zo_182 (b1 := 0) (b2 := 229) (zkb3 zk_cX12_plain zn_cX12_plain rfl) rfl
theorem dX12_plain_124 : decode cX12_plain 124 = .ok (.invokevirtual 235, 3) := zo_182 (b1 := 0) (b2 := 235) (zkb3 zk_cX12_plain zn_cX12_plain rfl) rfl
theorem dX12_plain_127 : decode cX12_plain 127 = .ok (.iload_n 3, 1) := zo_29 (zkb zk_cX12_plain zn_cX12_plain rfl)
theorem dX12_plain_128 : decode cX12_plain 128 = .ok (.bipush 6, 2) := zo_16 (b1 := 6) (zkb2 zk_cX12_plain zn_cX12_plain rfl) rfl
theorem dX12_plain_130 : decode cX12_plain 130 = .ok (.if_icmp .ne 8, 3) := zo_160 (b1 := 0) (b2 := 8) (zkb3 zk_cX12_plain zn_cX12_plain rfl) rfl
theorem dX12_plain_133 : decode cX12_plain 133 = .ok (.bipush 7, 2) := zo_16 (b1 := 7) (zkb2 zk_cX12_plain zn_cX12_plain rfl) rfl
theorem dX12_plain_135 : decode cX12_plain 135 = .ok (.goto 4, 3) := zo_167 (b1 := 0) (b2 := 4) (zkb3 zk_cX12_plain zn_cX12_plain rfl) rfl
theorem dX12_plain_138 : decode cX12_plain 138 = .ok (.iconst 4, 1) := zo_7 (zkb zk_cX12_plain zn_cX12_plain rfl)
theorem dX12_plain_139 : decode cX12_plain 139 = .ok (.ireturn, 1) := zo_172 (zkb zk_cX12_plain zn_cX12_plain rfl)
theorem dX12_plain_140 : decode cX12_plain 140 = .ok (.iload_n 3, 1) := zo_29 (zkb zk_cX12_plain zn_cX12_plain rfl)
theorem dX12_plain_141 : decode cX12_plain 141 = .ok (.iconst 4, 1) := zo_7 (zkb zk_cX12_plain zn_cX12_plain rfl)
theorem dX12_plain_142 : decode cX12_plain 142 = .ok (.if_icmp .ge 12, 3) := zo_162 (b1 := 0) (b2 := 12) (zkb3 zk_cX12_plain zn_cX12_plain rfl) rfl
theorem dX12_plain_145 : decode cX12_plain 145 = .ok (.aload_n 0, 1) := zo_42 (zkb zk_cX12_plain zn_cX12_plain rfl)
theorem dX12_plain_146 : decode cX12_plain 146 = .ok (.iload_n 2, 1) := zo_28 (zkb zk_cX12_plain zn_cX12_plain rfl)
theorem dX12_plain_147 : decode cX12_plain 147 = .ok (.iload_n 3, 1) := zo_29 (zkb zk_cX12_plain zn_cX12_plain rfl)
theorem dX12_plain_148 : decode cX12_plain 148 = .ok (.invokevirtual 238, 3) := zo_182 (b1 := 0) (b2 := 238) (zkb3 zk_cX12_plain zn_cX12_plain rfl) rfl
theorem dX12_plain_151 : decode cX12_plain 151 = .ok (.goto 9, 3) := zo_167 (b1 := 0) (b2 := 9) (zkb3 zk_cX12_plain zn_cX12_plain rfl) rfl
theorem dX12_plain_154 : decode cX12_plain 154 = .ok (.aload_n 0, 1) := zo_42 (zkb zk_cX12_plain zn_cX12_plain rfl)
theorem dX12_plain_155 : decode cX12_plain 155 = .ok (.iload_n 2, 1) := zo_28 (zkb zk_cX12_plain zn_cX12_plain rfl)
theorem dX12_plain_156 : decode cX12_plain 156 = .ok (.iload_n 3, 1) := zo_29 (zkb zk_cX12_plain zn_cX12_plain rfl)
theorem dX12_plain_157 : decode cX12_plain 157 = .ok (.invokevirtual 241, 3) := zo_182 (b1 := 0) (b2 := 241) (zkb3 zk_cX12_plain zn_cX12_plain rfl) rfl
theorem dX12_plain_160 : decode cX12_plain 160 = .ok (.ireturn, 1) := zo_172 (zkb zk_cX12_plain zn_cX12_plain rfl)
noncomputable def kn_cX12_singles : Nat := 0xac07ca00b62e031600b42a2ac600b603042ac600b6030400a70407009acd00b6032a0b009f06101b032ac600b6030400a7040700a004cd00b6032a1000a007101b072a4400a7ca00b62e031600b42a2ac600b604042ac600b604072a4f82ff00112e5c031600b42a2800a0081b6e00a71901b62a0a00a0071b7a00a7c600b603042ac600b603072aca00b62e031600b42a2a4f1601b62e031600b42a1b2a031600b42a2d00a2071bac070400a70b100800a006101bc600b6030400a7040700a0081c042ac600b6030400a7040700a07f100500a78000110900a0071c1d052ac600b6030400a7040700a00f100500a7030700a0071c7e0f101d072a1301b61d2ae800b61d1b2a3e7eff001160020400a7040700a0071ce500b61b2a7600a206101cac07100500a70a100800a006101be800b6d000b62a1b2a1a00a006101c
theorem zk_cX12_singles : zkd cX12_singles.data.toList kn_cX12_singles = true := by decide +kernel
theorem zn_cX12_singles : cX12_singles.data.toList.length = 318 := by decide +kernel
theorem dX12_singles_0 : decode cX12_singles 0 = .ok (.iload_n 2, 1) := zo_28 (zkb zk_cX12_singles zn_cX12_singles rfl)
theorem dX12_singles_1 : decode cX12_singles 1 = .ok (.bipush 6, 2) := zo_16 (b1 := 6) (zkb2 zk_cX12_singles zn_cX12_singles rfl) rfl
theorem dX12_singles_3 : decode cX12_singles 3 = .ok (.if_icmp .ne 26, 3) := zo_160 (b1 := 0) (b2 := 26) (zkb3 zk_cX12_singles zn_cX12_singles rfl) rfl
theorem dX12_singles_6 : decode cX12_singles 6 = .ok (.aload_n 0, 1) := zo_42 (zkb zk_cX12_singles zn_cX12_singles rfl)
theorem dX12_singles_7 : decode cX12_singles 7 = .ok (.iload_n 1, 1) := zo_27 (zkb zk_cX12_singles zn_cX12_singles rfl)
theorem dX12_singles_8 : decode cX12_singles 8 = .ok (.aload_n 0, 1) := zo_42 (zkb zk_cX12_singles zn_cX12_singles rfl)
theorem dX12_singles_9 : decode cX12_singles 9 = .ok (.invokevirtual 208, 3) := zo_182 (b1 := 0) (b2 := 208) (zkb3 zk_cX12_singles zn_cX12_singles rfl) rfl
theorem dX12_singles_12 : decode cX12_singles 12 = .ok (.invokevirtual 232, 3) := zo_182 (b1 := 0) (b2 := 232) (zkb3 zk_cX12_singles zn_cX12_singles rfl) rfl
theorem dX12_singles_15 : decode cX12_singles 15 = .ok (.iload_n 1, 1) := zo_27 (zkb zk_cX12_singles zn_cX12_singles rfl)
theorem dX12_singles_16 : decode cX12_singles 16 = .ok (.bipush 6, 2) := zo_16 (b1 := 6) (zkb2 zk_cX12_singles zn_cX12_singles rfl) rfl
theorem dX12_singles_18 : decode cX12_singles 18 = .ok (.if_icmp .ne 8, 3) := zo_160 (b1 := 0) (b2 := 8) (zkb3 zk_cX12_singles zn_cX12_singles rfl) rfl
theorem dX12_singles_21 : decode cX12_singles 21 = .ok (.bipush 10, 2) := zo_16 (b1 := 10) (zkb2 zk_cX12_singles zn_cX12_singles rfl) rfl
theorem dX12_singles_23 : decode cX12_singles 23 = .ok (.goto 5, 3) := zo_167 (b1 := 0) (b2 := 5) (zkb3 zk_cX12_singles zn_cX12_singles rfl) rfl
theorem dX12_singles_26 : decode cX12_singles 26 = .ok (.bipush 7, 2) := zo_16 (b1 := 7) (zkb2 zk_cX12_singles zn_cX12_singles rfl) rfl
theorem dX12_singles_28 : decode cX12_singles 28 = .ok (.ireturn, 1) := zo_172 (zkb zk_cX12_singles zn_cX12_singles rfl)
theorem dX12_singles_29 : decode cX12_singles 29 = .ok (.iload_n 2, 1) := zo_28 (zkb zk_cX12_singles zn_cX12_singles rfl)
theorem dX12_singles_30 : decode cX12_singles 30 = .ok (.bipush 6, 2) := zo_16 (b1 := 6) (zkb2 zk_cX12_singles zn_cX12_singles rfl) rfl
theorem dX12_singles_32 : decode cX12_singles 32 = .ok (.if_icmp .ge 118, 3) := zo_162 (b1 := 0) (b2 := 118) (zkb3 zk_cX12_singles zn_cX12_singles rfl) rfl
theorem dX12_singles_35 : decode cX12_singles 35 = .ok (.aload_n 0, 1) := zo_42 (zkb zk_cX12_singles zn_cX12_singles rfl)
theorem dX12_singles_36 : decode cX12_singles 36 = .ok (.iload_n 1, 1) := zo_27 (zkb zk_cX12_singles zn_cX12_singles rfl)
theorem dX12_singles_37 : decode cX12_singles 37 = .ok (.invokevirtual 229, 3) := zo_182 (b1 := 0) (b2 := 229) (zkb3 zk_cX12_singles zn_cX12_singles rfl) rfl
theorem dX12_singles_40 : decode cX12_singles 40 = .ok (.iload_n 2, 1) := zo_28 (zkb zk_cX12_singles zn_cX12_singles rfl)
theorem dX12_singles_41 : decode cX12_singles 41 = .ok (.iconst 4, 1) := zo_7 (zkb zk_cX12_singles zn_cX12_singles rfl)
theorem dX12_singles_42 : decode cX12_singles 42 = .ok (.if_icmp .ne 7, 3) := zo_160 (b1 := 0) (b2 := 7) (zkb3 zk_cX12_singles zn_cX12_singles rfl) rfl
theorem dX12_singles_45 : decode cX12_singles 45 = .ok (.iconst 1, 1) := zo_4 (zkb zk_cX12_singles zn_cX12_singles rfl)
theorem dX12_singles_46 : decode cX12_singles 46 = .ok (.goto 4, 3) := zo_167 (b1 := 0) (b2 := 4) (zkb3 zk_cX12_singles zn_cX12_singles rfl) rfl
theorem dX12_singles_49 : decode cX12_singles 49 = .ok (.iconst (-1), 1) := zo_2 (zkb zk_cX12_singles zn_cX12_singles rfl)
theorem dX12_singles_50 : decode cX12_singles 50 = .ok (.iadd, 1) := zo_96 (zkb zk_cX12_singles zn_cX12_singles rfl)
theorem dX12_singles_51 : decode cX12_singles 51 = .ok (.sipush 255, 3) := zo_17 (b1 := 0) (b2 := 255) (zkb3 zk_cX12_singles zn_cX12_singles rfl) rfl
theorem dX12_singles_54 : decode cX12_singles 54 = .ok (.iand, 1) := zo_126 (zkb zk_cX12_singles zn_cX12_singles rfl)
theorem dX12_singles_55 : decode cX12_singles 55 = .ok (.istore_n 3, 1) := zo_62 (zkb zk_cX12_singles zn_cX12_singles rfl)
theorem dX12_singles_56 : decode cX12_singles 56 = .ok (.aload_n 0, 1) := zo_42 (zkb zk_cX12_singles zn_cX12_singles rfl)
theorem dX12_singles_57 : decode cX12_singles 57 = .ok (.iload_n 1, 1) := zo_27 (zkb zk_cX12_singles zn_cX12_singles rfl)
theorem dX12_singles_58 : decode cX12_singles 58 = .ok (.iload_n 3, 1) := zo_29 (zkb zk_cX12_singles zn_cX12_singles rfl)
theorem dX12_singles_59 : decode cX12_singles 59 = .ok (.invokevirtual 232, 3) := zo_182 (b1 := 0) (b2 := 232) (zkb3 zk_cX12_singles zn_cX12_singles rfl) rfl
theorem dX12_singles_62 : decode cX12_singles 62 = .ok (.aload_n 0, 1) := zo_42 (zkb zk_cX12_singles zn_cX12_singles rfl)
theorem dX12_singles_63 : decode cX12_singles 63 = .ok (.iload_n 3, 1) := zo_29 (zkb zk_cX12_singles zn_cX12_singles rfl)
theorem dX12_singles_64 : decode cX12_singles 64 = .ok (.invokevirtual 275, 3) := zo_182 (b1 := 1) (b2 := 19) (zkb3 zk_cX12_singles zn_cX12_singles rfl) rfl
theorem dX12_singles_67 : decode cX12_singles 67 = .ok (.aload_n 0, 1) := zo_42 (zkb zk_cX12_singles zn_cX12_singles rfl)
theorem dX12_singles_68 : decode cX12_singles 68 = .ok (.iconst 4, 1) := zo_7 (zkb zk_cX12_singles zn_cX12_singles rfl)
theorem dX12_singles_69 : decode cX12_singles 69 = .ok (.iload_n 3, 1) := zo_29 (zkb zk_cX12_singles zn_cX12_singles rfl)
theorem dX12_singles_70 : decode cX12_singles 70 = .ok (.bipush 15, 2) := zo_16 (b1 := 15) (zkb2 zk_cX12_singles zn_cX12_singles rfl) rfl
theorem dX12_singles_72 : decode cX12_singles 72 = .ok (.iand, 1) := zo_126 (zkb zk_cX12_singles zn_cX12_singles rfl)
theorem dX12_singles_73 : decode cX12_singles 73 = .ok (.iload_n 2, 1) := zo_28 (zkb zk_cX12_singles zn_cX12_singles rfl)
theorem dX12_singles_74 : decode cX12_singles 74 = .ok (.iconst 4, 1) := zo_7 (zkb zk_cX12_singles zn_cX12_singles rfl)
theorem dX12_singles_75 : decode cX12_singles 75 = .ok (.if_icmp .ne 7, 3) := zo_160 (b1 := 0) (b2 := 7) (zkb3 zk_cX12_singles zn_cX12_singles rfl) rfl
theorem dX12_singles_78 : decode cX12_singles 78 = .ok (.iconst 0, 1) := zo_3 (zkb zk_cX12_singles zn_cX12_singles rfl)
theorem dX12_singles_79 : decode cX12_singles 79 = .ok (.goto 5, 3) := zo_167 (b1 := 0) (b2 := 5) (zkb3 zk_cX12_singles zn_cX12_singles rfl) rfl
theorem dX12_singles_82 : decode cX12_singles 82 = .ok (.bipush 15, 2) := zo_16 (b1 := 15) (zkb2 zk_cX12_singles zn_cX12_singles rfl) rfl
theorem dX12_singles_84 : decode cX12_singles 84 = .ok (.if_icmp .ne 7, 3) := zo_160 (b1 := 0) (b2 := 7) (zkb3 zk_cX12_singles zn_cX12_singles rfl) rfl
theorem dX12_singles_87 : decode cX12_singles 87 = .ok (.iconst 1, 1) := zo_4 (zkb zk_cX12_singles zn_cX12_singles rfl)
theorem dX12_singles_88 : decode cX12_singles 88 = .ok (.goto 4, 3) := zo_167 (b1 := 0) (b2 := 4) (zkb3 zk_cX12_singles zn_cX12_singles rfl) rfl
theorem dX12_singles_91 : decode cX12_singles 91 = .ok (.iconst 0, 1) := zo_3 (zkb zk_cX12_singles zn_cX12_singles rfl)
theorem dX12_singles_92 : decode cX12_singles 92 = .ok (.invokevirtual 198, 3) := zo_182 (b1 := 0) (b2 := 198) (zkb3 zk_cX12_singles zn_cX12_singles rfl) rfl
theorem dX12_singles_95 : decode cX12_singles 95 = .ok (.aload_n 0, 1) := zo_42 (zkb zk_cX12_singles zn_cX12_singles rfl)
theorem dX12_singles_96 : decode cX12_singles 96 = .ok (.iconst 2, 1) := zo_5 (zkb zk_cX12_singles zn_cX12_singles rfl)
theorem dX12_singles_97 : decode cX12_singles 97 = .ok (.iload_n 3, 1) := zo_29 (zkb zk_cX12_singles zn_cX12_singles rfl)
theorem dX12_singles_98 : decode cX12_singles 98 = .ok (.iload_n 2, 1) := zo_28 (zkb zk_cX12_singles zn_cX12_singles rfl)
theorem dX12_singles_99 : decode cX12_singles 99 = .ok (.iconst 4, 1) := zo_7 (zkb zk_cX12_singles zn_cX12_singles rfl)
theorem dX12_singles_100 : decode cX12_singles 100 = .ok (.if_icmp .ne 9, 3) := zo_160 (b1 := 0) (b2 := 9) (zkb3 zk_cX12_singles zn_cX12_singles rfl) rfl
theorem dX12_singles_103 : decode cX12_singles 103 = .ok (.sipush 128, 3) := zo_17 (b1 := 0) (b2 := 128) (zkb3 zk_cX12_singles zn_cX12_singles rfl) rfl
theorem dX12_singles_106 : decode cX12_singles 106 = .ok (.goto 5, 3) := zo_167 (b1 := 0) (b2 := 5) (zkb3 zk_cX12_singles zn_cX12_singles rfl) rfl
theorem dX12_singles_109 : decode cX12_singles 109 = .ok (.bipush 127, 2) := zo_16 (b1 := 127) (zkb2 zk_cX12_singles zn_cX12_singles rfl) rfl
theorem dX12_singles_111 : decode cX12_singles 111 = .ok (.if_icmp .ne 7, 3) := zo_160 (b1 := 0) (b2 := 7) (zkb3 zk_cX12_singles zn_cX12_singles rfl) rfl
theorem dX12_singles_114 : decode cX12_singles 114 = .ok (.iconst 1, 1) := zo_4 (zkb zk_cX12_singles zn_cX12_singles rfl)
theorem dX12_singles_115 : decode cX12_singles 115 = .ok (.goto 4, 3) := zo_167 (b1 := 0) (b2 := 4) (zkb3 zk_cX12_singles zn_cX12_singles rfl) rfl
theorem dX12_singles_118 : decode cX12_singles 118 = .ok (.iconst 0, 1) := zo_3 (zkb zk_cX12_singles zn_cX12_singles rfl)
theorem dX12_singles_119 : decode cX12_singles 119 = .ok (.invokevirtual 198, 3) := zo_182 (b1 := 0) (b2 := 198) (zkb3 zk_cX12_singles zn_cX12_singles rfl) rfl
theorem dX12_singles_122 : decode cX12_singles 122 = .ok (.aload_n 0, 1) := zo_42 (zkb zk_cX12_singles zn_cX12_singles rfl)
theorem dX12_singles_123 : decode cX12_singles 123 = .ok (.iconst 1, 1) := zo_4 (zkb zk_cX12_singles zn_cX12_singles rfl)
theorem dX12_singles_124 : decode cX12_singles 124 = .ok (.iload_n 2, 1) := zo_28 (zkb zk_cX12_singles zn_cX12_singles rfl)
theorem dX12_singles_125 : decode cX12_singles 125 = .ok (.iconst 5, 1) := zo_8 (zkb zk_cX12_singles zn_cX12_singles rfl)
theorem dX12_singles_126 : decode cX12_singles 126 = .ok (.if_icmp .ne 7, 3) := zo_160 (b1 := 0) (b2 := 7) (zkb3 zk_cX12_singles zn_cX12_singles rfl) rfl
theorem dX12_singles_129 : decode cX12_singles 129 = .ok (.iconst 1, 1) := zo_4 (zkb zk_cX12_singles zn_cX12_singles rfl)
theorem dX12_singles_130 : decode cX12_singles 130 = .ok (.goto 4, 3) := zo_167 (b1 := 0) (b2 := 4) (zkb3 zk_cX12_singles zn_cX12_singles rfl) rfl
theorem dX12_singles_133 : decode cX12_singles 133 = .ok (.iconst 0, 1) := zo_3 (zkb zk_cX12_singles zn_cX12_singles rfl)
theorem dX12_singles_134 : decode cX12_singles 134 = .ok (.invokevirtual 198, 3) := zo_182 (b1 := 0) (b2 := 198) (zkb3 zk_cX12_singles zn_cX12_singles rfl) rfl
theorem dX12_singles_137 : decode cX12_singles 137 = .ok (.iload_n 1, 1) := zo_27 (zkb zk_cX12_singles zn_cX12_singles rfl)
theorem dX12_singles_138 : decode cX12_singles 138 = .ok (.bipush 6, 2) := zo_16 (b1 := 6) (zkb2 zk_cX12_singles zn_cX12_singles rfl) rfl
theorem dX12_singles_140 : decode cX12_singles 140 = .ok (.if_icmp .ne 8, 3) := zo_160 (b1 := 0) (b2 := 8) (zkb3 zk_cX12_singles zn_cX12_singles rfl) rfl
theorem dX12_singles_143 : decode cX12_singles 143 = .ok (.bipush 11, 2) := zo_16 (b1 := 11) (zkb2 zk_cX12_singles zn_cX12_singles rfl) rfl
theorem dX12_singles_145 : decode cX12_singles 145 = .ok (.goto 4, 3) := zo_167 (b1 := 0) (b2 := 4) (zkb3 zk_cX12_singles zn_cX12_singles rfl) rfl
theorem dX12_singles_148 : decode cX12_singles 148 = .ok (.iconst 4, 1) := zo_7 (zkb zk_cX12_singles zn_cX12_singles rfl)
theorem dX12_singles_149 : decode cX12_singles 149 = .ok (.ireturn, 1) := zo_172 (zkb zk_cX12_singles zn_cX12_singles rfl)
theorem dX12_singles_150 : decode cX12_singles 150 = .ok (.iload_n 1, 1) := zo_27 (zkb zk_cX12_singles zn_cX12_singles rfl)
theorem dX12_singles_151 : decode cX12_singles 151 = .ok (.iconst 4, 1) := zo_7 (zkb zk_cX12_singles zn_cX12_singles rfl)
theorem dX12_singles_152 : decode cX12_singles 152 = .ok (.if_icmp .ge 45, 3) := zo_162 (b1 := 0) (b2 := 45) (zkb3 zk_cX12_singles zn_cX12_singles rfl) rfl
theorem dX12_singles_155 : decode cX12_singles 155 = .ok (.aload_n 0, 1) := zo_42 (zkb zk_cX12_singles zn_cX12_singles rfl)
theorem dX12_singles_156 : decode cX12_singles 156 = .ok (.getfield 22, 3) := zo_180 (b1 := 0) (b2 := 22) (zkb3 zk_cX12_singles zn_cX12_singles rfl) rfl
theorem dX12_singles_159 : decode cX12_singles 159 = .ok (.iconst 0, 1) := zo_3 (zkb zk_cX12_singles zn_cX12_singles rfl)
theorem dX12_singles_160 : decode cX12_singles 160 = .ok (.aload_n 0, 1) := zo_42 (zkb zk_cX12_singles zn_cX12_singles rfl)
theorem dX12_singles_161 : decode cX12_singles 161 = .ok (.iload_n 1, 1) := zo_27 (zkb zk_cX12_singles zn_cX12_singles rfl)
theorem dX12_singles_162 : decode cX12_singles 162 = .ok (.aload_n 0, 1) := zo_42 (zkb zk_cX12_singles zn_cX12_singles rfl)
theorem dX12_singles_163 : decode cX12_singles 163 = .ok (.getfield 22, 3) := zo_180 (b1 := 0) (b2 := 22) (zkb3 zk_cX12_singles zn_cX12_singles rfl) rfl
theorem dX12_singles_166 : decode cX12_singles 166 = .ok (.iconst 0, 1) := zo_3 (zkb zk_cX12_singles zn_cX12_singles rfl)
theorem dX12_singles_167 : decode cX12_singles 167 = .ok (.iaload, 1) := zo_46 (zkb zk_cX12_singles zn_cX12_singles rfl)
theorem dX12_singles_168 : decode cX12_singles 168 = .ok (.invokevirtual 278, 3) := zo_182 (b1 := 1) (b2 := 22) (zkb3 zk_cX12_singles zn_cX12_singles rfl) rfl
theorem dX12_singles_171 : decode cX12_singles 171 = .ok (.iastore, 1) := zo_79 (zkb zk_cX12_singles zn_cX12_singles rfl)
theorem dX12_singles_172 : decode cX12_singles 172 = .ok (.aload_n 0, 1) := zo_42 (zkb zk_cX12_singles zn_cX12_singles rfl)
theorem dX12_singles_173 : decode cX12_singles 173 = .ok (.aload_n 0, 1) := zo_42 (zkb zk_cX12_singles zn_cX12_singles rfl)
theorem dX12_singles_174 : decode cX12_singles 174 = .ok (.getfield 22, 3) := zo_180 (b1 := 0) (b2 := 22) (zkb3 zk_cX12_singles zn_cX12_singles rfl) rfl
theorem dX12_singles_177 : decode cX12_singles 177 = .ok (.iconst 0, 1) := zo_3 (zkb zk_cX12_singles zn_cX12_singles rfl)
theorem dX12_singles_178 : decode cX12_singles 178 = .ok (.iaload, 1) := zo_46 (zkb zk_cX12_singles zn_cX12_singles rfl)
theorem dX12_singles_179 : decode cX12_singles 179 = .ok (.invokevirtual 202, 3) := zo_182 (b1 := 0) (b2 := 202) (zkb3 zk_cX12_singles zn_cX12_singles rfl) rfl
theorem dX12_singles_182 : decode cX12_singles 182 = .ok (.aload_n 0, 1) := zo_42 (zkb zk_cX12_singles zn_cX12_singles rfl)
theorem dX12_singles_183 : decode cX12_singles 183 = .ok (.iconst 4, 1) := zo_7 (zkb zk_cX12_singles zn_cX12_singles rfl)
theorem dX12_singles_184 : decode cX12_singles 184 = .ok (.iconst 0, 1) := zo_3 (zkb zk_cX12_singles zn_cX12_singles rfl)
theorem dX12_singles_185 : decode cX12_singles 185 = .ok (.invokevirtual 198, 3) := zo_182 (b1 := 0) (b2 := 198) (zkb3 zk_cX12_singles zn_cX12_singles rfl) rfl
theorem dX12_singles_188 : decode cX12_singles 188 = .ok (.aload_n 0, 1) := zo_42 (zkb zk_cX12_singles zn_cX12_singles rfl)
theorem dX12_singles_189 : decode cX12_singles 189 = .ok (.iconst 1, 1) := zo_4 (zkb zk_cX12_singles zn_cX12_singles rfl)
theorem dX12_singles_190 : decode cX12_singles 190 = .ok (.iconst 0, 1) := zo_3 (zkb zk_cX12_singles zn_cX12_singles rfl)
theorem dX12_singles_191 : decode cX12_singles 191 = .ok (.invokevirtual 198, 3) := zo_182 (b1 := 0) (b2 := 198) (zkb3 zk_cX12_singles zn_cX12_singles rfl) rfl
theorem dX12_singles_194 : decode cX12_singles 194 = .ok (.goto 122, 3) := zo_167 (b1 := 0) (b2 := 122) (zkb3 zk_cX12_singles zn_cX12_singles rfl) rfl
theorem dX12_singles_197 : decode cX12_singles 197 = .ok (.iload_n 1, 1) := zo_27 (zkb zk_cX12_singles zn_cX12_singles rfl)
theorem dX12_singles_198 : decode cX12_singles 198 = .ok (.iconst 4, 1) := zo_7 (zkb zk_cX12_singles zn_cX12_singles rfl)
theorem dX12_singles_199 : decode cX12_singles 199 = .ok (.if_icmp .ne 10, 3) := zo_160 (b1 := 0) (b2 := 10) (zkb3 zk_cX12_singles zn_cX12_singles rfl) rfl
theorem dX12_singles_202 : decode cX12_singles 202 = .ok (.aload_n 0, 1) := zo_42 (zkb zk_cX12_singles zn_cX12_singles rfl)
theorem dX12_singles_203 : decode cX12_singles 203 = .ok (.invokevirtual 281, 3) := zo_182 (b1 := 1) (b2 := 25) (zkb3 zk_cX12_singles zn_cX12_singles rfl) rfl
theorem dX12_singles_206 : decode cX12_singles 206 = .ok (.goto 110, 3) := zo_167 (b1 := 0) (b2 := 110) (zkb3 zk_cX12_singles zn_cX12_singles rfl) rfl
theorem dX12_singles_209 : decode cX12_singles 209 = .ok (.iload_n 1, 1) := zo_27 (zkb zk_cX12_singles zn_cX12_singles rfl)
theorem dX12_singles_210 : decode cX12_singles 210 = .ok (.iconst 5, 1) := zo_8 (zkb zk_cX12_singles zn_cX12_singles rfl)
theorem dX12_singles_211 : decode cX12_singles 211 = .ok (.if_icmp .ne 40, 3) := zo_160 (b1 := 0) (b2 := 40) (zkb3 zk_cX12_singles zn_cX12_singles rfl) rfl
theorem dX12_singles_214 : decode cX12_singles 214 = .ok (.aload_n 0, 1) := zo_42 (zkb zk_cX12_singles zn_cX12_singles rfl)
theorem dX12_singles_215 : decode cX12_singles 215 = .ok (.getfield 22, 3) := zo_180 (b1 := 0) (b2 := 22) (zkb3 zk_cX12_singles zn_cX12_singles rfl) rfl
theorem dX12_singles_218 : decode cX12_singles 218 = .ok (.iconst 0, 1) := zo_3 (zkb zk_cX12_singles zn_cX12_singles rfl)
theorem dX12_singles_219 : decode cX12_singles 219 = .ok (.dup2, 1) := zo_92 (zkb zk_cX12_singles zn_cX12_singles rfl)
theorem dX12_singles_220 : decode cX12_singles 220 = .ok (.iaload, 1) := zo_46 (zkb zk_cX12_singles zn_cX12_singles rfl)
theorem dX12_singles_221 : decode cX12_singles 221 = .ok (.sipush 255, 3) := zo_17 (b1 := 0) (b2 := 255) (zkb3 zk_cX12_singles zn_cX12_singles rfl) rfl
theorem dX12_singles_224 : decode cX12_singles 224 = .ok (.ixor, 1) := zo_130 (zkb zk_cX12_singles zn_cX12_singles rfl)
theorem dX12_singles_225 : decode cX12_singles 225 = .ok (.iastore, 1) := zo_79 (zkb zk_cX12_singles zn_cX12_singles rfl)
theorem dX12_singles_226 : decode cX12_singles 226 = .ok (.aload_n 0, 1) := zo_42 (zkb zk_cX12_singles zn_cX12_singles rfl)
theorem dX12_singles_227 : decode cX12_singles 227 = .ok (.iconst 4, 1) := zo_7 (zkb zk_cX12_singles zn_cX12_singles rfl)
theorem dX12_singles_228 : decode cX12_singles 228 = .ok (.iconst 1, 1) := zo_4 (zkb zk_cX12_singles zn_cX12_singles rfl)
theorem dX12_singles_229 : decode cX12_singles 229 = .ok (.invokevirtual 198, 3) := zo_182 (b1 := 0) (b2 := 198) (zkb3 zk_cX12_singles zn_cX12_singles rfl) rfl
theorem dX12_singles_232 : decode cX12_singles 232 = .ok (.aload_n 0, 1) := zo_42 (zkb zk_cX12_singles zn_cX12_singles rfl)
theorem dX12_singles_233 : decode cX12_singles 233 = .ok (.iconst 1, 1) := zo_4 (zkb zk_cX12_singles zn_cX12_singles rfl)
theorem dX12_singles_234 : decode cX12_singles 234 = .ok (.iconst 1, 1) := zo_4 (zkb zk_cX12_singles zn_cX12_singles rfl)
theorem dX12_singles_235 : decode cX12_singles 235 = .ok (.invokevirtual 198, 3) := zo_182 (b1 := 0) (b2 := 198) (zkb3 zk_cX12_singles zn_cX12_singles rfl) rfl
theorem dX12_singles_238 : decode cX12_singles 238 = .ok (.aload_n 0, 1) := zo_42 (zkb zk_cX12_singles zn_cX12_singles rfl)
theorem dX12_singles_239 : decode cX12_singles 239 = .ok (.aload_n 0, 1) := zo_42 (zkb zk_cX12_singles zn_cX12_singles rfl)
theorem dX12_singles_240 : decode cX12_singles 240 = .ok (.getfield 22, 3) := zo_180 (b1 := 0) (b2 := 22) (zkb3 zk_cX12_singles zn_cX12_singles rfl) rfl
theorem dX12_singles_243 : decode cX12_singles 243 = .ok (.iconst 0, 1) := zo_3 (zkb zk_cX12_singles zn_cX12_singles rfl)
theorem dX12_singles_244 : decode cX12_singles 244 = .ok (.iaload, 1) := zo_46 (zkb zk_cX12_singles zn_cX12_singles rfl)
theorem dX12_singles_245 : decode cX12_singles 245 = .ok (.invokevirtual 202, 3) := zo_182 (b1 := 0) (b2 := 202) (zkb3 zk_cX12_singles zn_cX12_singles rfl) rfl
theorem dX12_singles_248 : decode cX12_singles 248 = .ok (.goto 68, 3) := zo_167 (b1 := 0) (b2 := 68) (zkb3 zk_cX12_singles zn_cX12_singles rfl) rfl
theorem dX12_singles_251 : decode cX12_singles 251 = .ok (.aload_n 0, 1) := zo_42 (zkb zk_cX12_singles zn_cX12_singles rfl)
theorem dX12_singles_252 : decode cX12_singles 252 = .ok (.iconst 4, 1) := zo_7 (zkb zk_cX12_singles zn_cX12_singles rfl)
theorem dX12_singles_253 : decode cX12_singles 253 = .ok (.iload_n 1, 1) := zo_27 (zkb zk_cX12_singles zn_cX12_singles rfl)
theorem dX12_singles_254 : decode cX12_singles 254 = .ok (.bipush 7, 2) := zo_16 (b1 := 7) (zkb2 zk_cX12_singles zn_cX12_singles rfl) rfl
theorem dX12_singles_256 : decode cX12_singles 256 = .ok (.if_icmp .ne 16, 3) := zo_160 (b1 := 0) (b2 := 16) (zkb3 zk_cX12_singles zn_cX12_singles rfl) rfl
theorem dX12_singles_259 : decode cX12_singles 259 = .ok (.aload_n 0, 1) := zo_42 (zkb zk_cX12_singles zn_cX12_singles rfl)
theorem dX12_singles_260 : decode cX12_singles 260 = .ok (.iconst 0, 1) := zo_3 (zkb zk_cX12_singles zn_cX12_singles rfl)
theorem dX12_singles_261 : decode cX12_singles 261 = .ok (.invokevirtual 205, 3) := zo_182 (b1 := 0) (b2 := 205) (zkb3 zk_cX12_singles zn_cX12_singles rfl) rfl
theorem dX12_singles_264 : decode cX12_singles 264 = .ok (.iconst 1, 1) := zo_4 (zkb zk_cX12_singles zn_cX12_singles rfl)
theorem dX12_singles_265 : decode cX12_singles 265 = .ok (.if_icmp .ne 7, 3) := zo_160 (b1 := 0) (b2 := 7) (zkb3 zk_cX12_singles zn_cX12_singles rfl) rfl
theorem dX12_singles_268 : decode cX12_singles 268 = .ok (.iconst 1, 1) := zo_4 (zkb zk_cX12_singles zn_cX12_singles rfl)
theorem dX12_singles_269 : decode cX12_singles 269 = .ok (.goto 4, 3) := zo_167 (b1 := 0) (b2 := 4) (zkb3 zk_cX12_singles zn_cX12_singles rfl) rfl
theorem dX12_singles_272 : decode cX12_singles 272 = .ok (.iconst 0, 1) := zo_3 (zkb zk_cX12_singles zn_cX12_singles rfl)
theorem dX12_singles_273 : decode cX12_singles 273 = .ok (.invokevirtual 198, 3) := zo_182 (b1 := 0) (b2 := 198) (zkb3 zk_cX12_singles zn_cX12_singles rfl) rfl
theorem dX12_singles_276 : decode cX12_singles 276 = .ok (.aload_n 0, 1) := zo_42 (zkb zk_cX12_singles zn_cX12_singles rfl)
theorem dX12_singles_277 : decode cX12_singles 277 = .ok (.iconst 0, 1) := zo_3 (zkb zk_cX12_singles zn_cX12_singles rfl)
theorem dX12_singles_278 : decode cX12_singles 278 = .ok (.iload_n 1, 1) := zo_27 (zkb zk_cX12_singles zn_cX12_singles rfl)
theorem dX12_singles_279 : decode cX12_singles 279 = .ok (.bipush 6, 2) := zo_16 (b1 := 6) (zkb2 zk_cX12_singles zn_cX12_singles rfl) rfl
theorem dX12_singles_281 : decode cX12_singles 281 = .ok (.if_icmp .eq 11, 3) := zo_159 (b1 := 0) (b2 := 11) (zkb3 zk_cX12_singles zn_cX12_singles rfl) rfl
theorem dX12_singles_284 : decode cX12_singles 284 = .ok (.aload_n 0, 1) := zo_42 (zkb zk_cX12_singles zn_cX12_singles rfl)
theorem dX12_singles_285 : decode cX12_singles 285 = .ok (.iconst 0, 1) := zo_3 (zkb zk_cX12_singles zn_cX12_singles rfl)
theorem dX12_singles_286 : decode cX12_singles 286 = .ok (.invokevirtual 205, 3) := zo_182 (b1 := 0) (b2 := 205) (zkb3 zk_cX12_singles zn_cX12_singles rfl) rfl
theorem dX12_singles_289 : decode cX12_singles 289 = .ok (.ifCond .ne 7, 3) := zo_154 (b1 := 0) (b2 := 7) (zkb3 zk_cX12_singles zn_cX12_singles rfl) rfl
theorem dX12_singles_292 : decode cX12_singles 292 = .ok (.iconst 1, 1) := zo_4 (zkb zk_cX12_singles zn_cX12_singles rfl)
theorem dX12_singles_293 : decode cX12_singles 293 = .ok (.goto 4, 3) := zo_167 (b1 := 0) (b2 := 4) (zkb3 zk_cX12_singles zn_cX12_singles rfl) rfl
theorem dX12_singles_296 : decode cX12_singles 296 = .ok (.iconst 0, 1) := zo_3 (zkb zk_cX12_singles zn_cX12_singles rfl)
theorem dX12_singles_297 : decode cX12_singles 297 = .ok (.invokevirtual 198, 3) := zo_182 (b1 := 0) (b2 := 198) (zkb3 zk_cX12_singles zn_cX12_singles rfl) rfl
theorem dX12_singles_300 : decode cX12_singles 300 = .ok (.aload_n 0, 1) := zo_42 (zkb zk_cX12_singles zn_cX12_singles rfl)
theorem dX12_singles_301 : decode cX12_singles 301 = .ok (.iconst 1, 1) := zo_4 (zkb zk_cX12_singles zn_cX12_singles rfl)
theorem dX12_singles_302 : decode cX12_singles 302 = .ok (.iconst 0, 1) := zo_3 (zkb zk_cX12_singles zn_cX12_singles rfl)
theorem dX12_singles_303 : decode cX12_singles 303 = .ok (.invokevirtual 198, 3) := zo_182 (b1 := 0) (b2 := 198) (zkb3 zk_cX12_singles zn_cX12_singles rfl) rfl
theorem dX12_singles_306 : decode cX12_singles 306 = .ok (.aload_n 0, 1) := zo_42 (zkb zk_cX12_singles zn_cX12_singles rfl)
theorem dX12_singles_307 : decode cX12_singles 307 = .ok (.aload_n 0, 1) := zo_42 (zkb zk_cX12_singles zn_cX12_singles rfl)
theorem dX12_singles_308 : decode cX12_singles 308 = .ok (.getfield 22, 3) := zo_180 (b1 := 0) (b2 := 22) (zkb3 zk_cX12_singles zn_cX12_singles rfl) rfl
theorem dX12_singles_311 : decode cX12_singles 311 = .ok (.iconst 0, 1) := zo_3 (zkb zk_cX12_singles zn_cX12_singles rfl)
theorem dX12_singles_312 : decode cX12_singles 312 = .ok (.iaload, 1) := zo_46 (zkb zk_cX12_singles zn_cX12_singles rfl)
theorem dX12_singles_313 : decode cX12_singles 313 = .ok (.invokevirtual 202, 3) := zo_182 (b1 := 0) (b2 := 202) (zkb3 zk_cX12_singles zn_cX12_singles rfl) rfl
theorem dX12_singles_316 : decode cX12_singles 316 = .ok (.iconst 4, 1) := zo_7 (zkb zk_cX12_singles zn_cX12_singles rfl)
theorem dX12_singles_317 : decode cX12_singles 317 = .ok (.ireturn, 1) := zo_172 (zkb zk_cX12_singles zn_cX12_singles rfl)
noncomputable def kn_cX12_adjusts : Nat := 0xb1c600b61c01b82e031600b42a052a1301b62e031600b42a2a4f7eff0011641c1b0600a7601c1b09009acd00b6042a031600b42ac600b6030400a7040700a206107e0f101b1000a004cd00b6072a1a00a7031e00a7040700a409107e0f101b14009acd00b6042a072ac600b604032a6002840c00a004cd00b6032a0c00a39900111b0602840600a004cd00b6072a0c00a309107e0f101b3d033c2e031600b42a
theorem zk_cX12_adjusts : zkd cX12_adjusts.data.toList kn_cX12_adjusts = true := by decide +kernel
theorem zn_cX12_adjusts : cX12_adjusts.data.toList.length = 160 := by decide +kernel
theorem dX12_adjusts_0 : decode cX12_adjusts 0 = .ok (.aload_n 0, 1) := zo_42 (zkb zk_cX12_adjusts zn_cX12_adjusts rfl)
theorem dX12_adjusts_1 : decode cX12_adjusts 1 = .ok (.getfield 22, 3) := zo_180 (b1 := 0) (b2 := 22) (zkb3 zk_cX12_adjusts zn_cX12_adjusts rfl) rfl
theorem dX12_adjusts_4 : decode cX12_adjusts 4 = .ok (.iconst 0, 1) := zo_3 (zkb zk_cX12_adjusts zn_cX12_adjusts rfl)
theorem dX12_adjusts_5 : decode cX12_adjusts 5 = .ok (.iaload, 1) := zo_46 (zkb zk_cX12_adjusts zn_cX12_adjusts rfl)
theorem dX12_adjusts_6 : decode cX12_adjusts 6 = .ok (.istore_n 1, 1) := zo_60 (zkb zk_cX12_adjusts zn_cX12_adjusts rfl)
theorem dX12_adjusts_7 : decode cX12_adjusts 7 = .ok (.iconst 0, 1) := zo_3 (zkb zk_cX12_adjusts zn_cX12_adjusts rfl)
theorem dX12_adjusts_8 : decode cX12_adjusts 8 = .ok (.istore_n 2, 1) := zo_61 (zkb zk_cX12_adjusts zn_cX12_adjusts rfl)
theorem dX12_adjusts_9 : decode cX12_adjusts 9 = .ok (.iload_n 1, 1) := zo_27 (zkb zk_cX12_adjusts zn_cX12_adjusts rfl)
theorem dX12_adjusts_10 : decode cX12_adjusts 10 = .ok (.bipush 15, 2) := zo_16 (b1 := 15) (zkb2 zk_cX12_adjusts zn_cX12_adjusts rfl) rfl
theorem dX12_adjusts_12 : decode cX12_adjusts 12 = .ok (.iand, 1) := zo_126 (zkb zk_cX12_adjusts zn_cX12_adjusts rfl)
theorem dX12_adjusts_13 : decode cX12_adjusts 13 = .ok (.bipush 9, 2) := zo_16 (b1 := 9) (zkb2 zk_cX12_adjusts zn_cX12_adjusts rfl) rfl
theorem dX12_adjusts_15 : decode cX12_adjusts 15 = .ok (.if_icmp .gt 12, 3) := zo_163 (b1 := 0) (b2 := 12) (zkb3 zk_cX12_adjusts zn_cX12_adjusts rfl) rfl
theorem dX12_adjusts_18 : decode cX12_adjusts 18 = .ok (.aload_n 0, 1) := zo_42 (zkb zk_cX12_adjusts zn_cX12_adjusts rfl)
theorem dX12_adjusts_19 : decode cX12_adjusts 19 = .ok (.iconst 4, 1) := zo_7 (zkb zk_cX12_adjusts zn_cX12_adjusts rfl)
theorem dX12_adjusts_20 : decode cX12_adjusts 20 = .ok (.invokevirtual 205, 3) := zo_182 (b1 := 0) (b2 := 205) (zkb3 zk_cX12_adjusts zn_cX12_adjusts rfl) rfl
theorem dX12_adjusts_23 : decode cX12_adjusts 23 = .ok (.iconst 1, 1) := zo_4 (zkb zk_cX12_adjusts zn_cX12_adjusts rfl)
theorem dX12_adjusts_24 : decode cX12_adjusts 24 = .ok (.if_icmp .ne 6, 3) := zo_160 (b1 := 0) (b2 := 6) (zkb3 zk_cX12_adjusts zn_cX12_adjusts rfl) rfl
theorem dX12_adjusts_27 : decode cX12_adjusts 27 = .ok (.iinc 2 6, 3) := zo_132 (b1 := 2) (b2 := 6) (zkb3 zk_cX12_adjusts zn_cX12_adjusts rfl) rfl
theorem dX12_adjusts_30 : decode cX12_adjusts 30 = .ok (.iload_n 1, 1) := zo_27 (zkb zk_cX12_adjusts zn_cX12_adjusts rfl)
theorem dX12_adjusts_31 : decode cX12_adjusts 31 = .ok (.sipush 153, 3) := zo_17 (b1 := 0) (b2 := 153) (zkb3 zk_cX12_adjusts zn_cX12_adjusts rfl) rfl
theorem dX12_adjusts_34 : decode cX12_adjusts 34 = .ok (.if_icmp .gt 12, 3) := zo_163 (b1 := 0) (b2 := 12) (zkb3 zk_cX12_adjusts zn_cX12_adjusts rfl) rfl
theorem dX12_adjusts_37 : decode cX12_adjusts 37 = .ok (.aload_n 0, 1) := zo_42 (zkb zk_cX12_adjusts zn_cX12_adjusts rfl)
theorem dX12_adjusts_38 : decode cX12_adjusts 38 = .ok (.iconst 0, 1) := zo_3 (zkb zk_cX12_adjusts zn_cX12_adjusts rfl)
theorem dX12_adjusts_39 : decode cX12_adjusts 39 = .ok (.invokevirtual 205, 3) := zo_182 (b1 := 0) (b2 := 205) (zkb3 zk_cX12_adjusts zn_cX12_adjusts rfl) rfl
theorem dX12_adjusts_42 : decode cX12_adjusts 42 = .ok (.iconst 1, 1) := zo_4 (zkb zk_cX12_adjusts zn_cX12_adjusts rfl)
theorem dX12_adjusts_43 : decode cX12_adjusts 43 = .ok (.if_icmp .ne 12, 3) := zo_160 (b1 := 0) (b2 := 12) (zkb3 zk_cX12_adjusts zn_cX12_adjusts rfl) rfl
theorem dX12_adjusts_46 : decode cX12_adjusts 46 = .ok (.iinc 2 96, 3) := zo_132 (b1 := 2) (b2 := 96) (zkb3 zk_cX12_adjusts zn_cX12_adjusts rfl) rfl
theorem dX12_adjusts_49 : decode cX12_adjusts 49 = .ok (.aload_n 0, 1) := zo_42 (zkb zk_cX12_adjusts zn_cX12_adjusts rfl)
theorem dX12_adjusts_50 : decode cX12_adjusts 50 = .ok (.iconst 0, 1) := zo_3 (zkb zk_cX12_adjusts zn_cX12_adjusts rfl)
theorem dX12_adjusts_51 : decode cX12_adjusts 51 = .ok (.iconst 1, 1) := zo_4 (zkb zk_cX12_adjusts zn_cX12_adjusts rfl)
theorem dX12_adjusts_52 : decode cX12_adjusts 52 = .ok (.invokevirtual 198, 3) := zo_182 (b1 := 0) (b2 := 198) (zkb3 zk_cX12_adjusts zn_cX12_adjusts rfl) rfl
theorem dX12_adjusts_55 : decode cX12_adjusts 55 = .ok (.aload_n 0, 1) := zo_42 (zkb zk_cX12_adjusts zn_cX12_adjusts rfl)
theorem dX12_adjusts_56 : decode cX12_adjusts 56 = .ok (.iconst 4, 1) := zo_7 (zkb zk_cX12_adjusts zn_cX12_adjusts rfl)
theorem dX12_adjusts_57 : decode cX12_adjusts 57 = .ok (.aload_n 0, 1) := zo_42 (zkb zk_cX12_adjusts zn_cX12_adjusts rfl)
theorem dX12_adjusts_58 : decode cX12_adjusts 58 = .ok (.iconst 1, 1) := zo_4 (zkb zk_cX12_adjusts zn_cX12_adjusts rfl)
theorem dX12_adjusts_59 : decode cX12_adjusts 59 = .ok (.invokevirtual 205, 3) := zo_182 (b1 := 0) (b2 := 205) (zkb3 zk_cX12_adjusts zn_cX12_adjusts rfl) rfl
theorem dX12_adjusts_62 : decode cX12_adjusts 62 = .ok (.ifCond .ne 20, 3) := zo_154 (b1 := 0) (b2 := 20) (zkb3 zk_cX12_adjusts zn_cX12_adjusts rfl) rfl
theorem dX12_adjusts_65 : decode cX12_adjusts 65 = .ok (.iload_n 1, 1) := zo_27 (zkb zk_cX12_adjusts zn_cX12_adjusts rfl)
theorem dX12_adjusts_66 : decode cX12_adjusts 66 = .ok (.bipush 15, 2) := zo_16 (b1 := 15) (zkb2 zk_cX12_adjusts zn_cX12_adjusts rfl) rfl
theorem dX12_adjusts_68 : decode cX12_adjusts 68 = .ok (.iand, 1) := zo_126 (zkb zk_cX12_adjusts zn_cX12_adjusts rfl)
theorem dX12_adjusts_69 : decode cX12_adjusts 69 = .ok (.bipush 9, 2) := zo_16 (b1 := 9) (zkb2 zk_cX12_adjusts zn_cX12_adjusts rfl) rfl
theorem dX12_adjusts_71 : decode cX12_adjusts 71 = .ok (.if_icmp .le 7, 3) := zo_164 (b1 := 0) (b2 := 7) (zkb3 zk_cX12_adjusts zn_cX12_adjusts rfl) rfl
theorem dX12_adjusts_74 : decode cX12_adjusts 74 = .ok (.iconst 1, 1) := zo_4 (zkb zk_cX12_adjusts zn_cX12_adjusts rfl)
theorem dX12_adjusts_75 : decode cX12_adjusts 75 = .ok (.goto 30, 3) := zo_167 (b1 := 0) (b2 := 30) (zkb3 zk_cX12_adjusts zn_cX12_adjusts rfl) rfl
theorem dX12_adjusts_78 : decode cX12_adjusts 78 = .ok (.iconst 0, 1) := zo_3 (zkb zk_cX12_adjusts zn_cX12_adjusts rfl)
theorem dX12_adjusts_79 : decode cX12_adjusts 79 = .ok (.goto 26, 3) := zo_167 (b1 := 0) (b2 := 26) (zkb3 zk_cX12_adjusts zn_cX12_adjusts rfl) rfl
theorem dX12_adjusts_82 : decode cX12_adjusts 82 = .ok (.aload_n 0, 1) := zo_42 (zkb zk_cX12_adjusts zn_cX12_adjusts rfl)
theorem dX12_adjusts_83 : decode cX12_adjusts 83 = .ok (.iconst 4, 1) := zo_7 (zkb zk_cX12_adjusts zn_cX12_adjusts rfl)
theorem dX12_adjusts_84 : decode cX12_adjusts 84 = .ok (.invokevirtual 205, 3) := zo_182 (b1 := 0) (b2 := 205) (zkb3 zk_cX12_adjusts zn_cX12_adjusts rfl) rfl
theorem dX12_adjusts_87 : decode cX12_adjusts 87 = .ok (.iconst 1, 1) := zo_4 (zkb zk_cX12_adjusts zn_cX12_adjusts rfl)
theorem dX12_adjusts_88 : decode cX12_adjusts 88 = .ok (.if_icmp .ne 16, 3) := zo_160 (b1 := 0) (b2 := 16) (zkb3 zk_cX12_adjusts zn_cX12_adjusts rfl) rfl
theorem dX12_adjusts_91 : decode cX12_adjusts 91 = .ok (.iload_n 1, 1) := zo_27 (zkb zk_cX12_adjusts zn_cX12_adjusts rfl)
theorem dX12_adjusts_92 : decode cX12_adjusts 92 = .ok (.bipush 15, 2) := zo_16 (b1 := 15) (zkb2 zk_cX12_adjusts zn_cX12_adjusts rfl) rfl
theorem dX12_adjusts_94 : decode cX12_adjusts 94 = .ok (.iand, 1) := zo_126 (zkb zk_cX12_adjusts zn_cX12_adjusts rfl)
theorem dX12_adjusts_95 : decode cX12_adjusts 95 = .ok (.bipush 6, 2) := zo_16 (b1 := 6) (zkb2 zk_cX12_adjusts zn_cX12_adjusts rfl) rfl
theorem dX12_adjusts_97 : decode cX12_adjusts 97 = .ok (.if_icmp .ge 7, 3) := zo_162 (b1 := 0) (b2 := 7) (zkb3 zk_cX12_adjusts zn_cX12_adjusts rfl) rfl
theorem dX12_adjusts_100 : decode cX12_adjusts 100 = .ok (.iconst 1, 1) := zo_4 (zkb zk_cX12_adjusts zn_cX12_adjusts rfl)
theorem dX12_adjusts_101 : decode cX12_adjusts 101 = .ok (.goto 4, 3) := zo_167 (b1 := 0) (b2 := 4) (zkb3 zk_cX12_adjusts zn_cX12_adjusts rfl) rfl
theorem dX12_adjusts_104 : decode cX12_adjusts 104 = .ok (.iconst 0, 1) := zo_3 (zkb zk_cX12_adjusts zn_cX12_adjusts rfl)
theorem dX12_adjusts_105 : decode cX12_adjusts 105 = .ok (.invokevirtual 198, 3) := zo_182 (b1 := 0) (b2 := 198) (zkb3 zk_cX12_adjusts zn_cX12_adjusts rfl) rfl
theorem dX12_adjusts_108 : decode cX12_adjusts 108 = .ok (.aload_n 0, 1) := zo_42 (zkb zk_cX12_adjusts zn_cX12_adjusts rfl)
theorem dX12_adjusts_109 : decode cX12_adjusts 109 = .ok (.getfield 22, 3) := zo_180 (b1 := 0) (b2 := 22) (zkb3 zk_cX12_adjusts zn_cX12_adjusts rfl) rfl
theorem dX12_adjusts_112 : decode cX12_adjusts 112 = .ok (.iconst 0, 1) := zo_3 (zkb zk_cX12_adjusts zn_cX12_adjusts rfl)
theorem dX12_adjusts_113 : decode cX12_adjusts 113 = .ok (.aload_n 0, 1) := zo_42 (zkb zk_cX12_adjusts zn_cX12_adjusts rfl)
theorem dX12_adjusts_114 : decode cX12_adjusts 114 = .ok (.iconst 1, 1) := zo_4 (zkb zk_cX12_adjusts zn_cX12_adjusts rfl)
theorem dX12_adjusts_115 : decode cX12_adjusts 115 = .ok (.invokevirtual 205, 3) := zo_182 (b1 := 0) (b2 := 205) (zkb3 zk_cX12_adjusts zn_cX12_adjusts rfl) rfl
theorem dX12_adjusts_118 : decode cX12_adjusts 118 = .ok (.ifCond .ne 9, 3) := zo_154 (b1 := 0) (b2 := 9) (zkb3 zk_cX12_adjusts zn_cX12_adjusts rfl) rfl
theorem dX12_adjusts_121 : decode cX12_adjusts 121 = .ok (.iload_n 1, 1) := zo_27 (zkb zk_cX12_adjusts zn_cX12_adjusts rfl)
theorem dX12_adjusts_122 : decode cX12_adjusts 122 = .ok (.iload_n 2, 1) := zo_28 (zkb zk_cX12_adjusts zn_cX12_adjusts rfl)
theorem dX12_adjusts_123 : decode cX12_adjusts 123 = .ok (.iadd, 1) := zo_96 (zkb zk_cX12_adjusts zn_cX12_adjusts rfl)
theorem dX12_adjusts_124 : decode cX12_adjusts 124 = .ok (.goto 6, 3) := zo_167 (b1 := 0) (b2 := 6) (zkb3 zk_cX12_adjusts zn_cX12_adjusts rfl) rfl
theorem dX12_adjusts_127 : decode cX12_adjusts 127 = .ok (.iload_n 1, 1) := zo_27 (zkb zk_cX12_adjusts zn_cX12_adjusts rfl)
theorem dX12_adjusts_128 : decode cX12_adjusts 128 = .ok (.iload_n 2, 1) := zo_28 (zkb zk_cX12_adjusts zn_cX12_adjusts rfl)
theorem dX12_adjusts_129 : decode cX12_adjusts 129 = .ok (.isub, 1) := zo_100 (zkb zk_cX12_adjusts zn_cX12_adjusts rfl)
theorem dX12_adjusts_130 : decode cX12_adjusts 130 = .ok (.sipush 255, 3) := zo_17 (b1 := 0) (b2 := 255) (zkb3 zk_cX12_adjusts zn_cX12_adjusts rfl) rfl
theorem dX12_adjusts_133 : decode cX12_adjusts 133 = .ok (.iand, 1) := zo_126 (zkb zk_cX12_adjusts zn_cX12_adjusts rfl)
theorem dX12_adjusts_134 : decode cX12_adjusts 134 = .ok (.iastore, 1) := zo_79 (zkb zk_cX12_adjusts zn_cX12_adjusts rfl)
theorem dX12_adjusts_135 : decode cX12_adjusts 135 = .ok (.aload_n 0, 1) := zo_42 (zkb zk_cX12_adjusts zn_cX12_adjusts rfl)
theorem dX12_adjusts_136 : decode cX12_adjusts 136 = .ok (.aload_n 0, 1) := zo_42 (zkb zk_cX12_adjusts zn_cX12_adjusts rfl)
theorem dX12_adjusts_137 : decode cX12_adjusts 137 = .ok (.getfield 22, 3) := zo_180 (b1 := 0) (b2 := 22) (zkb3 zk_cX12_adjusts zn_cX12_adjusts rfl) rfl
theorem dX12_adjusts_140 : decode cX12_adjusts 140 = .ok (.iconst 0, 1) := zo_3 (zkb zk_cX12_adjusts zn_cX12_adjusts rfl)
theorem dX12_adjusts_141 : decode cX12_adjusts 141 = .ok (.iaload, 1) := zo_46 (zkb zk_cX12_adjusts zn_cX12_adjusts rfl)
theorem dX12_adjusts_142 : decode cX12_adjusts 142 = .ok (.invokevirtual 275, 3) := zo_182 (b1 := 1) (b2 := 19) (zkb3 zk_cX12_adjusts zn_cX12_adjusts rfl) rfl
theorem dX12_adjusts_145 : decode cX12_adjusts 145 = .ok (.aload_n 0, 1) := zo_42 (zkb zk_cX12_adjusts zn_cX12_adjusts rfl)
theorem dX12_adjusts_146 : decode cX12_adjusts 146 = .ok (.iconst 2, 1) := zo_5 (zkb zk_cX12_adjusts zn_cX12_adjusts rfl)
theorem dX12_adjusts_147 : decode cX12_adjusts 147 = .ok (.aload_n 0, 1) := zo_42 (zkb zk_cX12_adjusts zn_cX12_adjusts rfl)
theorem dX12_adjusts_148 : decode cX12_adjusts 148 = .ok (.getfield 22, 3) := zo_180 (b1 := 0) (b2 := 22) (zkb3 zk_cX12_adjusts zn_cX12_adjusts rfl) rfl
theorem dX12_adjusts_151 : decode cX12_adjusts 151 = .ok (.iconst 0, 1) := zo_3 (zkb zk_cX12_adjusts zn_cX12_adjusts rfl)
theorem dX12_adjusts_152 : decode cX12_adjusts 152 = .ok (.iaload, 1) := zo_46 (zkb zk_cX12_adjusts zn_cX12_adjusts rfl)
theorem dX12_adjusts_153 : decode cX12_adjusts 153 = .ok (.invokestatic 284, 3) := zo_184 (b1 := 1) (b2 := 28) (zkb3 zk_cX12_adjusts zn_cX12_adjusts rfl) rfl
theorem dX12_adjusts_156 : decode cX12_adjusts 156 = .ok (.invokevirtual 198, 3) := zo_182 (b1 := 0) (b2 := 198) (zkb3 zk_cX12_adjusts zn_cX12_adjusts rfl) rfl
theorem dX12_adjusts_159 : decode cX12_adjusts 159 = .ok (.return_, 1) := zo_177 (zkb zk_cX12_adjusts zn_cX12_adjusts rfl)
noncomputable def kn_cX12_answers : Nat := 0xb14f031a101600b42ad300b62a
theorem zk_cX12_answers : zkd cX12_answers.data.toList kn_cX12_answers = true := by decide +kernel
theorem zn_cX12_answers : cX12_answers.data.toList.length = 13 := by decide +kernel
theorem dX12_answers_0 : decode cX12_answers 0 = .ok (.aload_n 0, 1) := zo_42 (zkb zk_cX12_answers zn_cX12_answers rfl)
theorem dX12_answers_1 : decode cX12_answers 1 = .ok (.invokevirtual 211, 3) := zo_182 (b1 := 0) (b2 := 211) (zkb3 zk_cX12_answers zn_cX12_answers rfl) rfl
theorem dX12_answers_4 : decode cX12_answers 4 = .ok (.aload_n 0, 1) := zo_42 (zkb zk_cX12_answers zn_cX12_answers rfl)
theorem dX12_answers_5 : decode cX12_answers 5 = .ok (.getfield 22, 3) := zo_180 (b1 := 0) (b2 := 22) (zkb3 zk_cX12_answers zn_cX12_answers rfl) rfl
theorem dX12_answers_8 : decode cX12_answers 8 = .ok (.bipush 26, 2) := zo_16 (b1 := 26) (zkb2 zk_cX12_answers zn_cX12_answers rfl) rfl
theorem dX12_answers_10 : decode cX12_answers 10 = .ok (.iconst 0, 1) := zo_3 (zkb zk_cX12_answers zn_cX12_answers rfl)
theorem dX12_answers_11 : decode cX12_answers 11 = .ok (.iastore, 1) := zo_79 (zkb zk_cX12_answers zn_cX12_answers rfl)
theorem dX12_answers_12 : decode cX12_answers 12 = .ok (.return_, 1) := zo_177 (zkb zk_cX12_answers zn_cX12_answers rfl)
noncomputable def kn_cX12_reg : Nat := 0xac2e601b2f101600b42a
theorem zk_cX12_reg : zkd cX12_reg.data.toList kn_cX12_reg = true := by decide +kernel
theorem zn_cX12_reg : cX12_reg.data.toList.length = 10 := by decide +kernel
theorem dX12_reg_0 : decode cX12_reg 0 = .ok (.aload_n 0, 1) := zo_42 (zkb zk_cX12_reg zn_cX12_reg rfl)
theorem dX12_reg_1 : decode cX12_reg 1 = .ok (.getfield 22, 3) := zo_180 (b1 := 0) (b2 := 22) (zkb3 zk_cX12_reg zn_cX12_reg rfl) rfl
theorem dX12_reg_4 : decode cX12_reg 4 = .ok (.bipush 47, 2) := zo_16 (b1 := 47) (zkb2 zk_cX12_reg zn_cX12_reg rfl) rfl
theorem dX12_reg_6 : decode cX12_reg 6 = .ok (.iload_n 1, 1) := zo_27 (zkb zk_cX12_reg zn_cX12_reg rfl)
theorem dX12_reg_7 : decode cX12_reg 7 = .ok (.iadd, 1) := zo_96 (zkb zk_cX12_reg zn_cX12_reg rfl)
theorem dX12_reg_8 : decode cX12_reg 8 = .ok (.iaload, 1) := zo_46 (zkb zk_cX12_reg zn_cX12_reg rfl)
theorem dX12_reg_9 : decode cX12_reg 9 = .ok (.ireturn, 1) := zo_172 (zkb zk_cX12_reg zn_cX12_reg rfl)
noncomputable def kn_cX12_tileDot : Nat := 0xac0415d9ffa70105840436807805157e047a641c07109101b660051560681d07681b20102a04152700a2070515053603043603
theorem zk_cX12_tileDot : zkd cX12_tileDot.data.toList kn_cX12_tileDot = true := by decide +kernel
theorem zn_cX12_tileDot : cX12_tileDot.data.toList.length = 51 := by decide +kernel
theorem dX12_tileDot_0 : decode cX12_tileDot 0 = .ok (.iconst 0, 1) := zo_3 (zkb zk_cX12_tileDot zn_cX12_tileDot rfl)
theorem dX12_tileDot_1 : decode cX12_tileDot 1 = .ok (.istore 4, 2) := zo_54 (b1 := 4) (zkb2 zk_cX12_tileDot zn_cX12_tileDot rfl)
theorem dX12_tileDot_3 : decode cX12_tileDot 3 = .ok (.iconst 0, 1) := zo_3 (zkb zk_cX12_tileDot zn_cX12_tileDot rfl)
theorem dX12_tileDot_4 : decode cX12_tileDot 4 = .ok (.istore 5, 2) := zo_54 (b1 := 5) (zkb2 zk_cX12_tileDot zn_cX12_tileDot rfl)
theorem dX12_tileDot_6 : decode cX12_tileDot 6 = .ok (.iload 5, 2) := zo_21 (b1 := 5) (zkb2 zk_cX12_tileDot zn_cX12_tileDot rfl)
theorem dX12_tileDot_8 : decode cX12_tileDot 8 = .ok (.iconst 4, 1) := zo_7 (zkb zk_cX12_tileDot zn_cX12_tileDot rfl)
theorem dX12_tileDot_9 : decode cX12_tileDot 9 = .ok (.if_icmp .ge 39, 3) := zo_162 (b1 := 0) (b2 := 39) (zkb3 zk_cX12_tileDot zn_cX12_tileDot rfl) rfl
theorem dX12_tileDot_12 : decode cX12_tileDot 12 = .ok (.iload 4, 2) := zo_21 (b1 := 4) (zkb2 zk_cX12_tileDot zn_cX12_tileDot rfl)
theorem dX12_tileDot_14 : decode cX12_tileDot 14 = .ok (.aload_n 0, 1) := zo_42 (zkb zk_cX12_tileDot zn_cX12_tileDot rfl)
theorem dX12_tileDot_15 : decode cX12_tileDot 15 = .ok (.bipush 32, 2) := zo_16 (b1 := 32) (zkb2 zk_cX12_tileDot zn_cX12_tileDot rfl) rfl
theorem dX12_tileDot_17 : decode cX12_tileDot 17 = .ok (.iload_n 1, 1) := zo_27 (zkb zk_cX12_tileDot zn_cX12_tileDot rfl)
theorem dX12_tileDot_18 : decode cX12_tileDot 18 = .ok (.imul, 1) := zo_104 (zkb zk_cX12_tileDot zn_cX12_tileDot rfl)
theorem dX12_tileDot_19 : decode cX12_tileDot 19 = .ok (.iconst 4, 1) := zo_7 (zkb zk_cX12_tileDot zn_cX12_tileDot rfl)
theorem dX12_tileDot_20 : decode cX12_tileDot 20 = .ok (.iload_n 3, 1) := zo_29 (zkb zk_cX12_tileDot zn_cX12_tileDot rfl)
theorem dX12_tileDot_21 : decode cX12_tileDot 21 = .ok (.imul, 1) := zo_104 (zkb zk_cX12_tileDot zn_cX12_tileDot rfl)
theorem dX12_tileDot_22 : decode cX12_tileDot 22 = .ok (.iadd, 1) := zo_96 (zkb zk_cX12_tileDot zn_cX12_tileDot rfl)
theorem dX12_tileDot_23 : decode cX12_tileDot 23 = .ok (.iload 5, 2) := zo_21 (b1 := 5) (zkb2 zk_cX12_tileDot zn_cX12_tileDot rfl)
theorem dX12_tileDot_25 : decode cX12_tileDot 25 = .ok (.iadd, 1) := zo_96 (zkb zk_cX12_tileDot zn_cX12_tileDot rfl)
theorem dX12_tileDot_26 : decode cX12_tileDot 26 = .ok (.invokevirtual 401, 3) := zo_182 (b1 := 1) (b2 := 145) (zkb3 zk_cX12_tileDot zn_cX12_tileDot rfl) rfl
theorem dX12_tileDot_29 : decode cX12_tileDot 29 = .ok (.bipush 7, 2) := zo_16 (b1 := 7) (zkb2 zk_cX12_tileDot zn_cX12_tileDot rfl) rfl
theorem dX12_tileDot_31 : decode cX12_tileDot 31 = .ok (.iload_n 2, 1) := zo_28 (zkb zk_cX12_tileDot zn_cX12_tileDot rfl)
theorem dX12_tileDot_32 : decode cX12_tileDot 32 = .ok (.isub, 1) := zo_100 (zkb zk_cX12_tileDot zn_cX12_tileDot rfl)
theorem dX12_tileDot_33 : decode cX12_tileDot 33 = .ok (.ishr, 1) := zo_122 (zkb zk_cX12_tileDot zn_cX12_tileDot rfl)
theorem dX12_tileDot_34 : decode cX12_tileDot 34 = .ok (.iconst 1, 1) := zo_4 (zkb zk_cX12_tileDot zn_cX12_tileDot rfl)
theorem dX12_tileDot_35 : decode cX12_tileDot 35 = .ok (.iand, 1) := zo_126 (zkb zk_cX12_tileDot zn_cX12_tileDot rfl)
theorem dX12_tileDot_36 : decode cX12_tileDot 36 = .ok (.iload 5, 2) := zo_21 (b1 := 5) (zkb2 zk_cX12_tileDot zn_cX12_tileDot rfl)
theorem dX12_tileDot_38 : decode cX12_tileDot 38 = .ok (.ishl, 1) := zo_120 (zkb zk_cX12_tileDot zn_cX12_tileDot rfl)
theorem dX12_tileDot_39 : decode cX12_tileDot 39 = .ok (.ior, 1) := zo_128 (zkb zk_cX12_tileDot zn_cX12_tileDot rfl)
theorem dX12_tileDot_40 : decode cX12_tileDot 40 = .ok (.istore 4, 2) := zo_54 (b1 := 4) (zkb2 zk_cX12_tileDot zn_cX12_tileDot rfl)
theorem dX12_tileDot_42 : decode cX12_tileDot 42 = .ok (.iinc 5 1, 3) := zo_132 (b1 := 5) (b2 := 1) (zkb3 zk_cX12_tileDot zn_cX12_tileDot rfl) rfl
theorem dX12_tileDot_45 : decode cX12_tileDot 45 = .ok (.goto (-39), 3) := zo_167 (b1 := 255) (b2 := 217) (zkb3 zk_cX12_tileDot zn_cX12_tileDot rfl) rfl
theorem dX12_tileDot_48 : decode cX12_tileDot 48 = .ok (.iload 4, 2) := zo_21 (b1 := 4) (zkb2 zk_cX12_tileDot zn_cX12_tileDot rfl)
theorem dX12_tileDot_50 : decode cX12_tileDot 50 = .ok (.ireturn, 1) := zo_172 (zkb zk_cX12_tileDot zn_cX12_tileDot rfl)
noncomputable def kn_cX12_tile : Nat := 0xb154030400a7040700997e001011091510009e0c151c5600b42a4f60030400a710100800997e00081109150c151c5300b42a0c36b201b60b150a157eff011109152a0b3670081007150800a764700810071507100e00997e00041109150a3670081006150800a764700810061507100e00997e00021109150936807808109101b6600408152a9101b608152a083660686c081006150560686c08100715401004150736700001110600a7e000110900991d602e41101600b42a1b1a00a71b0700a0048b01b60710032a1200a4bf00111c06367eff00116405151c05369d01b608102a0900a7030700a0048b01b60610032a1200a210101b0436600007116870076c079d01b6052a0010111400a7687e0e107010109d01b6052a0004111500991d3e030400a7040700a0c000119701b62a
theorem zk_cX12_tile : zkd cX12_tile.data.toList kn_cX12_tile = true := by decide +kernel
theorem zn_cX12_tile : cX12_tile.data.toList.length = 304 := by decide +kernel
theorem dX12_tile_0 : decode cX12_tile 0 = .ok (.aload_n 0, 1) := zo_42 (zkb zk_cX12_tile zn_cX12_tile rfl)
theorem dX12_tile_1 : decode cX12_tile 1 = .ok (.invokevirtual 407, 3) := zo_182 (b1 := 1) (b2 := 151) (zkb3 zk_cX12_tile zn_cX12_tile rfl) rfl
theorem dX12_tile_4 : decode cX12_tile 4 = .ok (.sipush 192, 3) := zo_17 (b1 := 0) (b2 := 192) (zkb3 zk_cX12_tile zn_cX12_tile rfl) rfl
theorem dX12_tile_7 : decode cX12_tile 7 = .ok (.if_icmp .ne 7, 3) := zo_160 (b1 := 0) (b2 := 7) (zkb3 zk_cX12_tile zn_cX12_tile rfl) rfl
theorem dX12_tile_10 : decode cX12_tile 10 = .ok (.iconst 1, 1) := zo_4 (zkb zk_cX12_tile zn_cX12_tile rfl)
theorem dX12_tile_11 : decode cX12_tile 11 = .ok (.goto 4, 3) := zo_167 (b1 := 0) (b2 := 4) (zkb3 zk_cX12_tile zn_cX12_tile rfl) rfl
theorem dX12_tile_14 : decode cX12_tile 14 = .ok (.iconst 0, 1) := zo_3 (zkb zk_cX12_tile zn_cX12_tile rfl)
theorem dX12_tile_15 : decode cX12_tile 15 = .ok (.istore_n 3, 1) := zo_62 (zkb zk_cX12_tile zn_cX12_tile rfl)
theorem dX12_tile_16 : decode cX12_tile 16 = .ok (.iload_n 3, 1) := zo_29 (zkb zk_cX12_tile zn_cX12_tile rfl)
theorem dX12_tile_17 : decode cX12_tile 17 = .ok (.ifCond .eq 21, 3) := zo_153 (b1 := 0) (b2 := 21) (zkb3 zk_cX12_tile zn_cX12_tile rfl) rfl
theorem dX12_tile_20 : decode cX12_tile 20 = .ok (.sipush 1024, 3) := zo_17 (b1 := 4) (b2 := 0) (zkb3 zk_cX12_tile zn_cX12_tile rfl) rfl
theorem dX12_tile_23 : decode cX12_tile 23 = .ok (.aload_n 0, 1) := zo_42 (zkb zk_cX12_tile zn_cX12_tile rfl)
theorem dX12_tile_24 : decode cX12_tile 24 = .ok (.iconst 2, 1) := zo_5 (zkb zk_cX12_tile zn_cX12_tile rfl)
theorem dX12_tile_25 : decode cX12_tile 25 = .ok (.invokevirtual 413, 3) := zo_182 (b1 := 1) (b2 := 157) (zkb3 zk_cX12_tile zn_cX12_tile rfl) rfl
theorem dX12_tile_28 : decode cX12_tile 28 = .ok (.bipush 16, 2) := zo_16 (b1 := 16) (zkb2 zk_cX12_tile zn_cX12_tile rfl) rfl
theorem dX12_tile_30 : decode cX12_tile 30 = .ok (.irem, 1) := zo_112 (zkb zk_cX12_tile zn_cX12_tile rfl)
theorem dX12_tile_31 : decode cX12_tile 31 = .ok (.bipush 14, 2) := zo_16 (b1 := 14) (zkb2 zk_cX12_tile zn_cX12_tile rfl) rfl
theorem dX12_tile_33 : decode cX12_tile 33 = .ok (.iand, 1) := zo_126 (zkb zk_cX12_tile zn_cX12_tile rfl)
theorem dX12_tile_34 : decode cX12_tile 34 = .ok (.imul, 1) := zo_104 (zkb zk_cX12_tile zn_cX12_tile rfl)
theorem dX12_tile_35 : decode cX12_tile 35 = .ok (.goto 20, 3) := zo_167 (b1 := 0) (b2 := 20) (zkb3 zk_cX12_tile zn_cX12_tile rfl) rfl
theorem dX12_tile_38 : decode cX12_tile 38 = .ok (.sipush 4096, 3) := zo_17 (b1 := 16) (b2 := 0) (zkb3 zk_cX12_tile zn_cX12_tile rfl) rfl
theorem dX12_tile_41 : decode cX12_tile 41 = .ok (.aload_n 0, 1) := zo_42 (zkb zk_cX12_tile zn_cX12_tile rfl)
theorem dX12_tile_42 : decode cX12_tile 42 = .ok (.iconst 2, 1) := zo_5 (zkb zk_cX12_tile zn_cX12_tile rfl)
theorem dX12_tile_43 : decode cX12_tile 43 = .ok (.invokevirtual 413, 3) := zo_182 (b1 := 1) (b2 := 157) (zkb3 zk_cX12_tile zn_cX12_tile rfl) rfl
theorem dX12_tile_46 : decode cX12_tile 46 = .ok (.iconst 4, 1) := zo_7 (zkb zk_cX12_tile zn_cX12_tile rfl)
theorem dX12_tile_47 : decode cX12_tile 47 = .ok (.idiv, 1) := zo_108 (zkb zk_cX12_tile zn_cX12_tile rfl)
theorem dX12_tile_48 : decode cX12_tile 48 = .ok (.iconst 4, 1) := zo_7 (zkb zk_cX12_tile zn_cX12_tile rfl)
theorem dX12_tile_49 : decode cX12_tile 49 = .ok (.irem, 1) := zo_112 (zkb zk_cX12_tile zn_cX12_tile rfl)
theorem dX12_tile_50 : decode cX12_tile 50 = .ok (.imul, 1) := zo_104 (zkb zk_cX12_tile zn_cX12_tile rfl)
theorem dX12_tile_51 : decode cX12_tile 51 = .ok (.sipush 1792, 3) := zo_17 (b1 := 7) (b2 := 0) (zkb3 zk_cX12_tile zn_cX12_tile rfl) rfl
theorem dX12_tile_54 : decode cX12_tile 54 = .ok (.iadd, 1) := zo_96 (zkb zk_cX12_tile zn_cX12_tile rfl)
theorem dX12_tile_55 : decode cX12_tile 55 = .ok (.istore 4, 2) := zo_54 (b1 := 4) (zkb2 zk_cX12_tile zn_cX12_tile rfl)
theorem dX12_tile_57 : decode cX12_tile 57 = .ok (.iload_n 1, 1) := zo_27 (zkb zk_cX12_tile zn_cX12_tile rfl)
theorem dX12_tile_58 : decode cX12_tile 58 = .ok (.bipush 16, 2) := zo_16 (b1 := 16) (zkb2 zk_cX12_tile zn_cX12_tile rfl) rfl
theorem dX12_tile_60 : decode cX12_tile 60 = .ok (.if_icmp .ge 18, 3) := zo_162 (b1 := 0) (b2 := 18) (zkb3 zk_cX12_tile zn_cX12_tile rfl) rfl
theorem dX12_tile_63 : decode cX12_tile 63 = .ok (.aload_n 0, 1) := zo_42 (zkb zk_cX12_tile zn_cX12_tile rfl)
theorem dX12_tile_64 : decode cX12_tile 64 = .ok (.iconst 0, 1) := zo_3 (zkb zk_cX12_tile zn_cX12_tile rfl)
theorem dX12_tile_65 : decode cX12_tile 65 = .ok (.bipush 6, 2) := zo_16 (b1 := 6) (zkb2 zk_cX12_tile zn_cX12_tile rfl) rfl
theorem dX12_tile_67 : decode cX12_tile 67 = .ok (.invokevirtual 395, 3) := zo_182 (b1 := 1) (b2 := 139) (zkb3 zk_cX12_tile zn_cX12_tile rfl) rfl
theorem dX12_tile_70 : decode cX12_tile 70 = .ok (.iconst 1, 1) := zo_4 (zkb zk_cX12_tile zn_cX12_tile rfl)
theorem dX12_tile_71 : decode cX12_tile 71 = .ok (.if_icmp .ne 7, 3) := zo_160 (b1 := 0) (b2 := 7) (zkb3 zk_cX12_tile zn_cX12_tile rfl) rfl
theorem dX12_tile_74 : decode cX12_tile 74 = .ok (.iconst 0, 1) := zo_3 (zkb zk_cX12_tile zn_cX12_tile rfl)
theorem dX12_tile_75 : decode cX12_tile 75 = .ok (.goto 9, 3) := zo_167 (b1 := 0) (b2 := 9) (zkb3 zk_cX12_tile zn_cX12_tile rfl) rfl
theorem dX12_tile_78 : decode cX12_tile 78 = .ok (.aload_n 0, 1) := zo_42 (zkb zk_cX12_tile zn_cX12_tile rfl)
theorem dX12_tile_79 : decode cX12_tile 79 = .ok (.bipush 8, 2) := zo_16 (b1 := 8) (zkb2 zk_cX12_tile zn_cX12_tile rfl) rfl
theorem dX12_tile_81 : decode cX12_tile 81 = .ok (.invokevirtual 413, 3) := zo_182 (b1 := 1) (b2 := 157) (zkb3 zk_cX12_tile zn_cX12_tile rfl) rfl
theorem dX12_tile_84 : decode cX12_tile 84 = .ok (.istore 5, 2) := zo_54 (b1 := 5) (zkb2 zk_cX12_tile zn_cX12_tile rfl)
theorem dX12_tile_86 : decode cX12_tile 86 = .ok (.iload_n 2, 1) := zo_28 (zkb zk_cX12_tile zn_cX12_tile rfl)
theorem dX12_tile_87 : decode cX12_tile 87 = .ok (.iload 5, 2) := zo_21 (b1 := 5) (zkb2 zk_cX12_tile zn_cX12_tile rfl)
theorem dX12_tile_89 : decode cX12_tile 89 = .ok (.isub, 1) := zo_100 (zkb zk_cX12_tile zn_cX12_tile rfl)
theorem dX12_tile_90 : decode cX12_tile 90 = .ok (.sipush 255, 3) := zo_17 (b1 := 0) (b2 := 255) (zkb3 zk_cX12_tile zn_cX12_tile rfl) rfl
theorem dX12_tile_93 : decode cX12_tile 93 = .ok (.iand, 1) := zo_126 (zkb zk_cX12_tile zn_cX12_tile rfl)
theorem dX12_tile_94 : decode cX12_tile 94 = .ok (.istore 6, 2) := zo_54 (b1 := 6) (zkb2 zk_cX12_tile zn_cX12_tile rfl)
theorem dX12_tile_96 : decode cX12_tile 96 = .ok (.iload_n 2, 1) := zo_28 (zkb zk_cX12_tile zn_cX12_tile rfl)
theorem dX12_tile_97 : decode cX12_tile 97 = .ok (.sipush 191, 3) := zo_17 (b1 := 0) (b2 := 191) (zkb3 zk_cX12_tile zn_cX12_tile rfl) rfl
theorem dX12_tile_100 : decode cX12_tile 100 = .ok (.if_icmp .le 18, 3) := zo_164 (b1 := 0) (b2 := 18) (zkb3 zk_cX12_tile zn_cX12_tile rfl) rfl
theorem dX12_tile_103 : decode cX12_tile 103 = .ok (.aload_n 0, 1) := zo_42 (zkb zk_cX12_tile zn_cX12_tile rfl)
theorem dX12_tile_104 : decode cX12_tile 104 = .ok (.iconst 0, 1) := zo_3 (zkb zk_cX12_tile zn_cX12_tile rfl)
theorem dX12_tile_105 : decode cX12_tile 105 = .ok (.bipush 7, 2) := zo_16 (b1 := 7) (zkb2 zk_cX12_tile zn_cX12_tile rfl) rfl
theorem dX12_tile_107 : decode cX12_tile 107 = .ok (.invokevirtual 395, 3) := zo_182 (b1 := 1) (b2 := 139) (zkb3 zk_cX12_tile zn_cX12_tile rfl) rfl
theorem dX12_tile_110 : decode cX12_tile 110 = .ok (.iconst 1, 1) := zo_4 (zkb zk_cX12_tile zn_cX12_tile rfl)
theorem dX12_tile_111 : decode cX12_tile 111 = .ok (.if_icmp .ne 7, 3) := zo_160 (b1 := 0) (b2 := 7) (zkb3 zk_cX12_tile zn_cX12_tile rfl) rfl
theorem dX12_tile_114 : decode cX12_tile 114 = .ok (.iload_n 1, 1) := zo_27 (zkb zk_cX12_tile zn_cX12_tile rfl)
theorem dX12_tile_115 : decode cX12_tile 115 = .ok (.goto 26, 3) := zo_167 (b1 := 0) (b2 := 26) (zkb3 zk_cX12_tile zn_cX12_tile rfl) rfl
theorem dX12_tile_118 : decode cX12_tile 118 = .ok (.iload_n 1, 1) := zo_27 (zkb zk_cX12_tile zn_cX12_tile rfl)
theorem dX12_tile_119 : decode cX12_tile 119 = .ok (.aload_n 0, 1) := zo_42 (zkb zk_cX12_tile zn_cX12_tile rfl)
theorem dX12_tile_120 : decode cX12_tile 120 = .ok (.getfield 22, 3) := zo_180 (b1 := 0) (b2 := 22) (zkb3 zk_cX12_tile zn_cX12_tile rfl) rfl
theorem dX12_tile_123 : decode cX12_tile 123 = .ok (.bipush 65, 2) := zo_16 (b1 := 65) (zkb2 zk_cX12_tile zn_cX12_tile rfl) rfl
theorem dX12_tile_125 : decode cX12_tile 125 = .ok (.iaload, 1) := zo_46 (zkb zk_cX12_tile zn_cX12_tile rfl)
theorem dX12_tile_126 : decode cX12_tile 126 = .ok (.iadd, 1) := zo_96 (zkb zk_cX12_tile zn_cX12_tile rfl)
theorem dX12_tile_127 : decode cX12_tile 127 = .ok (.iload_n 3, 1) := zo_29 (zkb zk_cX12_tile zn_cX12_tile rfl)
theorem dX12_tile_128 : decode cX12_tile 128 = .ok (.ifCond .eq 9, 3) := zo_153 (b1 := 0) (b2 := 9) (zkb3 zk_cX12_tile zn_cX12_tile rfl) rfl
theorem dX12_tile_131 : decode cX12_tile 131 = .ok (.sipush 224, 3) := zo_17 (b1 := 0) (b2 := 224) (zkb3 zk_cX12_tile zn_cX12_tile rfl) rfl
theorem dX12_tile_134 : decode cX12_tile 134 = .ok (.goto 6, 3) := zo_167 (b1 := 0) (b2 := 6) (zkb3 zk_cX12_tile zn_cX12_tile rfl) rfl
theorem dX12_tile_137 : decode cX12_tile 137 = .ok (.sipush 256, 3) := zo_17 (b1 := 1) (b2 := 0) (zkb3 zk_cX12_tile zn_cX12_tile rfl) rfl
theorem dX12_tile_140 : decode cX12_tile 140 = .ok (.irem, 1) := zo_112 (zkb zk_cX12_tile zn_cX12_tile rfl)
theorem dX12_tile_141 : decode cX12_tile 141 = .ok (.istore 7, 2) := zo_54 (b1 := 7) (zkb2 zk_cX12_tile zn_cX12_tile rfl)
theorem dX12_tile_143 : decode cX12_tile 143 = .ok (.iload 4, 2) := zo_21 (b1 := 4) (zkb2 zk_cX12_tile zn_cX12_tile rfl)
theorem dX12_tile_145 : decode cX12_tile 145 = .ok (.bipush 64, 2) := zo_16 (b1 := 64) (zkb2 zk_cX12_tile zn_cX12_tile rfl) rfl
theorem dX12_tile_147 : decode cX12_tile 147 = .ok (.iload 7, 2) := zo_21 (b1 := 7) (zkb2 zk_cX12_tile zn_cX12_tile rfl)
theorem dX12_tile_149 : decode cX12_tile 149 = .ok (.bipush 8, 2) := zo_16 (b1 := 8) (zkb2 zk_cX12_tile zn_cX12_tile rfl) rfl
theorem dX12_tile_151 : decode cX12_tile 151 = .ok (.idiv, 1) := zo_108 (zkb zk_cX12_tile zn_cX12_tile rfl)
theorem dX12_tile_152 : decode cX12_tile 152 = .ok (.imul, 1) := zo_104 (zkb zk_cX12_tile zn_cX12_tile rfl)
theorem dX12_tile_153 : decode cX12_tile 153 = .ok (.iadd, 1) := zo_96 (zkb zk_cX12_tile zn_cX12_tile rfl)
theorem dX12_tile_154 : decode cX12_tile 154 = .ok (.iconst 2, 1) := zo_5 (zkb zk_cX12_tile zn_cX12_tile rfl)
theorem dX12_tile_155 : decode cX12_tile 155 = .ok (.iload 6, 2) := zo_21 (b1 := 6) (zkb2 zk_cX12_tile zn_cX12_tile rfl)
theorem dX12_tile_157 : decode cX12_tile 157 = .ok (.bipush 8, 2) := zo_16 (b1 := 8) (zkb2 zk_cX12_tile zn_cX12_tile rfl) rfl
theorem dX12_tile_159 : decode cX12_tile 159 = .ok (.idiv, 1) := zo_108 (zkb zk_cX12_tile zn_cX12_tile rfl)
theorem dX12_tile_160 : decode cX12_tile 160 = .ok (.imul, 1) := zo_104 (zkb zk_cX12_tile zn_cX12_tile rfl)
theorem dX12_tile_161 : decode cX12_tile 161 = .ok (.iadd, 1) := zo_96 (zkb zk_cX12_tile zn_cX12_tile rfl)
theorem dX12_tile_162 : decode cX12_tile 162 = .ok (.istore 8, 2) := zo_54 (b1 := 8) (zkb2 zk_cX12_tile zn_cX12_tile rfl)
theorem dX12_tile_164 : decode cX12_tile 164 = .ok (.aload_n 0, 1) := zo_42 (zkb zk_cX12_tile zn_cX12_tile rfl)
theorem dX12_tile_165 : decode cX12_tile 165 = .ok (.iload 8, 2) := zo_21 (b1 := 8) (zkb2 zk_cX12_tile zn_cX12_tile rfl)
theorem dX12_tile_167 : decode cX12_tile 167 = .ok (.invokevirtual 401, 3) := zo_182 (b1 := 1) (b2 := 145) (zkb3 zk_cX12_tile zn_cX12_tile rfl) rfl
theorem dX12_tile_170 : decode cX12_tile 170 = .ok (.aload_n 0, 1) := zo_42 (zkb zk_cX12_tile zn_cX12_tile rfl)
theorem dX12_tile_171 : decode cX12_tile 171 = .ok (.iload 8, 2) := zo_21 (b1 := 8) (zkb2 zk_cX12_tile zn_cX12_tile rfl)
theorem dX12_tile_173 : decode cX12_tile 173 = .ok (.iconst 1, 1) := zo_4 (zkb zk_cX12_tile zn_cX12_tile rfl)
theorem dX12_tile_174 : decode cX12_tile 174 = .ok (.iadd, 1) := zo_96 (zkb zk_cX12_tile zn_cX12_tile rfl)
theorem dX12_tile_175 : decode cX12_tile 175 = .ok (.invokevirtual 401, 3) := zo_182 (b1 := 1) (b2 := 145) (zkb3 zk_cX12_tile zn_cX12_tile rfl) rfl
theorem dX12_tile_178 : decode cX12_tile 178 = .ok (.bipush 8, 2) := zo_16 (b1 := 8) (zkb2 zk_cX12_tile zn_cX12_tile rfl) rfl
theorem dX12_tile_180 : decode cX12_tile 180 = .ok (.ishl, 1) := zo_120 (zkb zk_cX12_tile zn_cX12_tile rfl)
theorem dX12_tile_181 : decode cX12_tile 181 = .ok (.ior, 1) := zo_128 (zkb zk_cX12_tile zn_cX12_tile rfl)
theorem dX12_tile_182 : decode cX12_tile 182 = .ok (.istore 9, 2) := zo_54 (b1 := 9) (zkb2 zk_cX12_tile zn_cX12_tile rfl)
theorem dX12_tile_184 : decode cX12_tile 184 = .ok (.iload 9, 2) := zo_21 (b1 := 9) (zkb2 zk_cX12_tile zn_cX12_tile rfl)
theorem dX12_tile_186 : decode cX12_tile 186 = .ok (.sipush 512, 3) := zo_17 (b1 := 2) (b2 := 0) (zkb3 zk_cX12_tile zn_cX12_tile rfl) rfl
theorem dX12_tile_189 : decode cX12_tile 189 = .ok (.iand, 1) := zo_126 (zkb zk_cX12_tile zn_cX12_tile rfl)
theorem dX12_tile_190 : decode cX12_tile 190 = .ok (.ifCond .eq 14, 3) := zo_153 (b1 := 0) (b2 := 14) (zkb3 zk_cX12_tile zn_cX12_tile rfl) rfl
theorem dX12_tile_193 : decode cX12_tile 193 = .ok (.bipush 7, 2) := zo_16 (b1 := 7) (zkb2 zk_cX12_tile zn_cX12_tile rfl) rfl
theorem dX12_tile_195 : decode cX12_tile 195 = .ok (.iload 6, 2) := zo_21 (b1 := 6) (zkb2 zk_cX12_tile zn_cX12_tile rfl)
theorem dX12_tile_197 : decode cX12_tile 197 = .ok (.bipush 8, 2) := zo_16 (b1 := 8) (zkb2 zk_cX12_tile zn_cX12_tile rfl) rfl
theorem dX12_tile_199 : decode cX12_tile 199 = .ok (.irem, 1) := zo_112 (zkb zk_cX12_tile zn_cX12_tile rfl)
theorem dX12_tile_200 : decode cX12_tile 200 = .ok (.isub, 1) := zo_100 (zkb zk_cX12_tile zn_cX12_tile rfl)
theorem dX12_tile_201 : decode cX12_tile 201 = .ok (.goto 8, 3) := zo_167 (b1 := 0) (b2 := 8) (zkb3 zk_cX12_tile zn_cX12_tile rfl) rfl
theorem dX12_tile_204 : decode cX12_tile 204 = .ok (.iload 6, 2) := zo_21 (b1 := 6) (zkb2 zk_cX12_tile zn_cX12_tile rfl)
theorem dX12_tile_206 : decode cX12_tile 206 = .ok (.bipush 8, 2) := zo_16 (b1 := 8) (zkb2 zk_cX12_tile zn_cX12_tile rfl) rfl
theorem dX12_tile_208 : decode cX12_tile 208 = .ok (.irem, 1) := zo_112 (zkb zk_cX12_tile zn_cX12_tile rfl)
theorem dX12_tile_209 : decode cX12_tile 209 = .ok (.istore 10, 2) := zo_54 (b1 := 10) (zkb2 zk_cX12_tile zn_cX12_tile rfl)
theorem dX12_tile_211 : decode cX12_tile 211 = .ok (.iload 9, 2) := zo_21 (b1 := 9) (zkb2 zk_cX12_tile zn_cX12_tile rfl)
theorem dX12_tile_213 : decode cX12_tile 213 = .ok (.sipush 1024, 3) := zo_17 (b1 := 4) (b2 := 0) (zkb3 zk_cX12_tile zn_cX12_tile rfl) rfl
theorem dX12_tile_216 : decode cX12_tile 216 = .ok (.iand, 1) := zo_126 (zkb zk_cX12_tile zn_cX12_tile rfl)
theorem dX12_tile_217 : decode cX12_tile 217 = .ok (.ifCond .eq 14, 3) := zo_153 (b1 := 0) (b2 := 14) (zkb3 zk_cX12_tile zn_cX12_tile rfl) rfl
theorem dX12_tile_220 : decode cX12_tile 220 = .ok (.bipush 7, 2) := zo_16 (b1 := 7) (zkb2 zk_cX12_tile zn_cX12_tile rfl) rfl
theorem dX12_tile_222 : decode cX12_tile 222 = .ok (.iload 7, 2) := zo_21 (b1 := 7) (zkb2 zk_cX12_tile zn_cX12_tile rfl)
theorem dX12_tile_224 : decode cX12_tile 224 = .ok (.bipush 8, 2) := zo_16 (b1 := 8) (zkb2 zk_cX12_tile zn_cX12_tile rfl) rfl
theorem dX12_tile_226 : decode cX12_tile 226 = .ok (.irem, 1) := zo_112 (zkb zk_cX12_tile zn_cX12_tile rfl)
theorem dX12_tile_227 : decode cX12_tile 227 = .ok (.isub, 1) := zo_100 (zkb zk_cX12_tile zn_cX12_tile rfl)
theorem dX12_tile_228 : decode cX12_tile 228 = .ok (.goto 8, 3) := zo_167 (b1 := 0) (b2 := 8) (zkb3 zk_cX12_tile zn_cX12_tile rfl) rfl
theorem dX12_tile_231 : decode cX12_tile 231 = .ok (.iload 7, 2) := zo_21 (b1 := 7) (zkb2 zk_cX12_tile zn_cX12_tile rfl)
theorem dX12_tile_233 : decode cX12_tile 233 = .ok (.bipush 8, 2) := zo_16 (b1 := 8) (zkb2 zk_cX12_tile zn_cX12_tile rfl) rfl
theorem dX12_tile_235 : decode cX12_tile 235 = .ok (.irem, 1) := zo_112 (zkb zk_cX12_tile zn_cX12_tile rfl)
theorem dX12_tile_236 : decode cX12_tile 236 = .ok (.istore 11, 2) := zo_54 (b1 := 11) (zkb2 zk_cX12_tile zn_cX12_tile rfl)
theorem dX12_tile_238 : decode cX12_tile 238 = .ok (.aload_n 0, 1) := zo_42 (zkb zk_cX12_tile zn_cX12_tile rfl)
theorem dX12_tile_239 : decode cX12_tile 239 = .ok (.iload 9, 2) := zo_21 (b1 := 9) (zkb2 zk_cX12_tile zn_cX12_tile rfl)
theorem dX12_tile_241 : decode cX12_tile 241 = .ok (.sipush 511, 3) := zo_17 (b1 := 1) (b2 := 255) (zkb3 zk_cX12_tile zn_cX12_tile rfl) rfl
theorem dX12_tile_244 : decode cX12_tile 244 = .ok (.iand, 1) := zo_126 (zkb zk_cX12_tile zn_cX12_tile rfl)
theorem dX12_tile_245 : decode cX12_tile 245 = .ok (.iload 10, 2) := zo_21 (b1 := 10) (zkb2 zk_cX12_tile zn_cX12_tile rfl)
theorem dX12_tile_247 : decode cX12_tile 247 = .ok (.iload 11, 2) := zo_21 (b1 := 11) (zkb2 zk_cX12_tile zn_cX12_tile rfl)
theorem dX12_tile_249 : decode cX12_tile 249 = .ok (.invokevirtual 434, 3) := zo_182 (b1 := 1) (b2 := 178) (zkb3 zk_cX12_tile zn_cX12_tile rfl) rfl
theorem dX12_tile_252 : decode cX12_tile 252 = .ok (.istore 12, 2) := zo_54 (b1 := 12) (zkb2 zk_cX12_tile zn_cX12_tile rfl)
theorem dX12_tile_254 : decode cX12_tile 254 = .ok (.aload_n 0, 1) := zo_42 (zkb zk_cX12_tile zn_cX12_tile rfl)
theorem dX12_tile_255 : decode cX12_tile 255 = .ok (.getfield 83, 3) := zo_180 (b1 := 0) (b2 := 83) (zkb3 zk_cX12_tile zn_cX12_tile rfl) rfl
theorem dX12_tile_258 : decode cX12_tile 258 = .ok (.iload_n 2, 1) := zo_28 (zkb zk_cX12_tile zn_cX12_tile rfl)
theorem dX12_tile_259 : decode cX12_tile 259 = .ok (.iload 12, 2) := zo_21 (b1 := 12) (zkb2 zk_cX12_tile zn_cX12_tile rfl)
theorem dX12_tile_261 : decode cX12_tile 261 = .ok (.iload 9, 2) := zo_21 (b1 := 9) (zkb2 zk_cX12_tile zn_cX12_tile rfl)
theorem dX12_tile_263 : decode cX12_tile 263 = .ok (.sipush 2048, 3) := zo_17 (b1 := 8) (b2 := 0) (zkb3 zk_cX12_tile zn_cX12_tile rfl) rfl
theorem dX12_tile_266 : decode cX12_tile 266 = .ok (.iand, 1) := zo_126 (zkb zk_cX12_tile zn_cX12_tile rfl)
theorem dX12_tile_267 : decode cX12_tile 267 = .ok (.ifCond .eq 8, 3) := zo_153 (b1 := 0) (b2 := 8) (zkb3 zk_cX12_tile zn_cX12_tile rfl) rfl
theorem dX12_tile_270 : decode cX12_tile 270 = .ok (.bipush 16, 2) := zo_16 (b1 := 16) (zkb2 zk_cX12_tile zn_cX12_tile rfl) rfl
theorem dX12_tile_272 : decode cX12_tile 272 = .ok (.goto 4, 3) := zo_167 (b1 := 0) (b2 := 4) (zkb3 zk_cX12_tile zn_cX12_tile rfl) rfl
theorem dX12_tile_275 : decode cX12_tile 275 = .ok (.iconst 0, 1) := zo_3 (zkb zk_cX12_tile zn_cX12_tile rfl)
theorem dX12_tile_276 : decode cX12_tile 276 = .ok (.iadd, 1) := zo_96 (zkb zk_cX12_tile zn_cX12_tile rfl)
theorem dX12_tile_277 : decode cX12_tile 277 = .ok (.iastore, 1) := zo_79 (zkb zk_cX12_tile zn_cX12_tile rfl)
theorem dX12_tile_278 : decode cX12_tile 278 = .ok (.aload_n 0, 1) := zo_42 (zkb zk_cX12_tile zn_cX12_tile rfl)
theorem dX12_tile_279 : decode cX12_tile 279 = .ok (.getfield 86, 3) := zo_180 (b1 := 0) (b2 := 86) (zkb3 zk_cX12_tile zn_cX12_tile rfl) rfl
theorem dX12_tile_282 : decode cX12_tile 282 = .ok (.iload_n 2, 1) := zo_28 (zkb zk_cX12_tile zn_cX12_tile rfl)
theorem dX12_tile_283 : decode cX12_tile 283 = .ok (.iload 12, 2) := zo_21 (b1 := 12) (zkb2 zk_cX12_tile zn_cX12_tile rfl)
theorem dX12_tile_285 : decode cX12_tile 285 = .ok (.ifCond .le 16, 3) := zo_158 (b1 := 0) (b2 := 16) (zkb3 zk_cX12_tile zn_cX12_tile rfl) rfl
theorem dX12_tile_288 : decode cX12_tile 288 = .ok (.iload 9, 2) := zo_21 (b1 := 9) (zkb2 zk_cX12_tile zn_cX12_tile rfl)
theorem dX12_tile_290 : decode cX12_tile 290 = .ok (.sipush 4096, 3) := zo_17 (b1 := 16) (b2 := 0) (zkb3 zk_cX12_tile zn_cX12_tile rfl) rfl
theorem dX12_tile_293 : decode cX12_tile 293 = .ok (.iand, 1) := zo_126 (zkb zk_cX12_tile zn_cX12_tile rfl)
theorem dX12_tile_294 : decode cX12_tile 294 = .ok (.ifCond .eq 7, 3) := zo_153 (b1 := 0) (b2 := 7) (zkb3 zk_cX12_tile zn_cX12_tile rfl) rfl
theorem dX12_tile_297 : decode cX12_tile 297 = .ok (.iconst 1, 1) := zo_4 (zkb zk_cX12_tile zn_cX12_tile rfl)
theorem dX12_tile_298 : decode cX12_tile 298 = .ok (.goto 4, 3) := zo_167 (b1 := 0) (b2 := 4) (zkb3 zk_cX12_tile zn_cX12_tile rfl) rfl
theorem dX12_tile_301 : decode cX12_tile 301 = .ok (.iconst 0, 1) := zo_3 (zkb zk_cX12_tile zn_cX12_tile rfl)
theorem dX12_tile_302 : decode cX12_tile 302 = .ok (.bastore, 1) := zo_84 (zkb zk_cX12_tile zn_cX12_tile rfl)
theorem dX12_tile_303 : decode cX12_tile 303 = .ok (.return_, 1) := zo_177 (zkb zk_cX12_tile zn_cX12_tile rfl)
noncomputable def kn_cX12_sprites : Nat := 0xb1e9fea7010784a0ffa7010c844f600d1510100e155a00b42a0f00a74f8020102e5c3e101600b42a12009e2e0e155a00b42a2800a70600a4ff00110e1533009b0e153800990d150e36600c150b150d36b201b67008106c1d09156c1d0c150a152a5d00a2681d08100c150c36030b3664030400a708100800a0048b01b606032a9101b66068071505608000111c2a0a360a150500a7606c08106c1d09157efe01110a151400a0101004150a3660030400a70001110900a0048b01b60506102a9101b66068071505608100111c2a010584b14f8040102e5c3e101600b42a1000a008100515e000a70600a1681d0415091509367eff001164046408151bb10400a0d0001108150c0099061508369101b66007151c2a1601a2401007150736030636030400a7040700a0c000119701b62a053603043608100500a710100800a0048b01b604042a3e040400a7050700a0048b01b603042a3d687040106c059d01b6082a000111
theorem zk_cX12_sprites : zkd cX12_sprites.data.toList kn_cX12_sprites = true := by decide +kernel
theorem zn_cX12_sprites : cX12_sprites.data.toList.length = 356 := by decide +kernel
theorem dX12_sprites_0 : decode cX12_sprites 0 = .ok (.sipush 256, 3) := zo_17 (b1 := 1) (b2 := 0) (zkb3 zk_cX12_sprites zn_cX12_sprites rfl) rfl
theorem dX12_sprites_3 : decode cX12_sprites 3 = .ok (.aload_n 0, 1) := zo_42 (zkb zk_cX12_sprites zn_cX12_sprites rfl)
theorem dX12_sprites_4 : decode cX12_sprites 4 = .ok (.iconst 5, 1) := zo_8 (zkb zk_cX12_sprites zn_cX12_sprites rfl)
theorem dX12_sprites_5 : decode cX12_sprites 5 = .ok (.invokevirtual 413, 3) := zo_182 (b1 := 1) (b2 := 157) (zkb3 zk_cX12_sprites zn_cX12_sprites rfl) rfl
theorem dX12_sprites_8 : decode cX12_sprites 8 = .ok (.iconst 2, 1) := zo_5 (zkb zk_cX12_sprites zn_cX12_sprites rfl)
theorem dX12_sprites_9 : decode cX12_sprites 9 = .ok (.idiv, 1) := zo_108 (zkb zk_cX12_sprites zn_cX12_sprites rfl)
theorem dX12_sprites_10 : decode cX12_sprites 10 = .ok (.bipush 64, 2) := zo_16 (b1 := 64) (zkb2 zk_cX12_sprites zn_cX12_sprites rfl) rfl
theorem dX12_sprites_12 : decode cX12_sprites 12 = .ok (.irem, 1) := zo_112 (zkb zk_cX12_sprites zn_cX12_sprites rfl)
theorem dX12_sprites_13 : decode cX12_sprites 13 = .ok (.imul, 1) := zo_104 (zkb zk_cX12_sprites zn_cX12_sprites rfl)
theorem dX12_sprites_14 : decode cX12_sprites 14 = .ok (.istore_n 2, 1) := zo_61 (zkb zk_cX12_sprites zn_cX12_sprites rfl)
theorem dX12_sprites_15 : decode cX12_sprites 15 = .ok (.aload_n 0, 1) := zo_42 (zkb zk_cX12_sprites zn_cX12_sprites rfl)
theorem dX12_sprites_16 : decode cX12_sprites 16 = .ok (.iconst 1, 1) := zo_4 (zkb zk_cX12_sprites zn_cX12_sprites rfl)
theorem dX12_sprites_17 : decode cX12_sprites 17 = .ok (.iconst 0, 1) := zo_3 (zkb zk_cX12_sprites zn_cX12_sprites rfl)
theorem dX12_sprites_18 : decode cX12_sprites 18 = .ok (.invokevirtual 395, 3) := zo_182 (b1 := 1) (b2 := 139) (zkb3 zk_cX12_sprites zn_cX12_sprites rfl) rfl
theorem dX12_sprites_21 : decode cX12_sprites 21 = .ok (.iconst 1, 1) := zo_4 (zkb zk_cX12_sprites zn_cX12_sprites rfl)
theorem dX12_sprites_22 : decode cX12_sprites 22 = .ok (.if_icmp .ne 7, 3) := zo_160 (b1 := 0) (b2 := 7) (zkb3 zk_cX12_sprites zn_cX12_sprites rfl) rfl
theorem dX12_sprites_25 : decode cX12_sprites 25 = .ok (.iconst 2, 1) := zo_5 (zkb zk_cX12_sprites zn_cX12_sprites rfl)
theorem dX12_sprites_26 : decode cX12_sprites 26 = .ok (.goto 4, 3) := zo_167 (b1 := 0) (b2 := 4) (zkb3 zk_cX12_sprites zn_cX12_sprites rfl) rfl
theorem dX12_sprites_29 : decode cX12_sprites 29 = .ok (.iconst 1, 1) := zo_4 (zkb zk_cX12_sprites zn_cX12_sprites rfl)
theorem dX12_sprites_30 : decode cX12_sprites 30 = .ok (.istore_n 3, 1) := zo_62 (zkb zk_cX12_sprites zn_cX12_sprites rfl)
theorem dX12_sprites_31 : decode cX12_sprites 31 = .ok (.aload_n 0, 1) := zo_42 (zkb zk_cX12_sprites zn_cX12_sprites rfl)
theorem dX12_sprites_32 : decode cX12_sprites 32 = .ok (.iconst 1, 1) := zo_4 (zkb zk_cX12_sprites zn_cX12_sprites rfl)
theorem dX12_sprites_33 : decode cX12_sprites 33 = .ok (.iconst 1, 1) := zo_4 (zkb zk_cX12_sprites zn_cX12_sprites rfl)
theorem dX12_sprites_34 : decode cX12_sprites 34 = .ok (.invokevirtual 395, 3) := zo_182 (b1 := 1) (b2 := 139) (zkb3 zk_cX12_sprites zn_cX12_sprites rfl) rfl
theorem dX12_sprites_37 : decode cX12_sprites 37 = .ok (.iconst 1, 1) := zo_4 (zkb zk_cX12_sprites zn_cX12_sprites rfl)
theorem dX12_sprites_38 : decode cX12_sprites 38 = .ok (.if_icmp .ne 8, 3) := zo_160 (b1 := 0) (b2 := 8) (zkb3 zk_cX12_sprites zn_cX12_sprites rfl) rfl
theorem dX12_sprites_41 : decode cX12_sprites 41 = .ok (.bipush 16, 2) := zo_16 (b1 := 16) (zkb2 zk_cX12_sprites zn_cX12_sprites rfl) rfl
theorem dX12_sprites_43 : decode cX12_sprites 43 = .ok (.goto 5, 3) := zo_167 (b1 := 0) (b2 := 5) (zkb3 zk_cX12_sprites zn_cX12_sprites rfl) rfl
theorem dX12_sprites_46 : decode cX12_sprites 46 = .ok (.bipush 8, 2) := zo_16 (b1 := 8) (zkb2 zk_cX12_sprites zn_cX12_sprites rfl) rfl
theorem dX12_sprites_48 : decode cX12_sprites 48 = .ok (.istore 4, 2) := zo_54 (b1 := 4) (zkb2 zk_cX12_sprites zn_cX12_sprites rfl)
theorem dX12_sprites_50 : decode cX12_sprites 50 = .ok (.iconst 0, 1) := zo_3 (zkb zk_cX12_sprites zn_cX12_sprites rfl)
theorem dX12_sprites_51 : decode cX12_sprites 51 = .ok (.istore 5, 2) := zo_54 (b1 := 5) (zkb2 zk_cX12_sprites zn_cX12_sprites rfl)
theorem dX12_sprites_53 : decode cX12_sprites 53 = .ok (.aload_n 0, 1) := zo_42 (zkb zk_cX12_sprites zn_cX12_sprites rfl)
theorem dX12_sprites_54 : decode cX12_sprites 54 = .ok (.invokevirtual 407, 3) := zo_182 (b1 := 1) (b2 := 151) (zkb3 zk_cX12_sprites zn_cX12_sprites rfl) rfl
theorem dX12_sprites_57 : decode cX12_sprites 57 = .ok (.sipush 192, 3) := zo_17 (b1 := 0) (b2 := 192) (zkb3 zk_cX12_sprites zn_cX12_sprites rfl) rfl
theorem dX12_sprites_60 : decode cX12_sprites 60 = .ok (.if_icmp .ne 7, 3) := zo_160 (b1 := 0) (b2 := 7) (zkb3 zk_cX12_sprites zn_cX12_sprites rfl) rfl
theorem dX12_sprites_63 : decode cX12_sprites 63 = .ok (.iconst 1, 1) := zo_4 (zkb zk_cX12_sprites zn_cX12_sprites rfl)
theorem dX12_sprites_64 : decode cX12_sprites 64 = .ok (.goto 4, 3) := zo_167 (b1 := 0) (b2 := 4) (zkb3 zk_cX12_sprites zn_cX12_sprites rfl) rfl
theorem dX12_sprites_67 : decode cX12_sprites 67 = .ok (.iconst 0, 1) := zo_3 (zkb zk_cX12_sprites zn_cX12_sprites rfl)
theorem dX12_sprites_68 : decode cX12_sprites 68 = .ok (.istore 6, 2) := zo_54 (b1 := 6) (zkb2 zk_cX12_sprites zn_cX12_sprites rfl)
theorem dX12_sprites_70 : decode cX12_sprites 70 = .ok (.iconst 0, 1) := zo_3 (zkb zk_cX12_sprites zn_cX12_sprites rfl)
theorem dX12_sprites_71 : decode cX12_sprites 71 = .ok (.istore 7, 2) := zo_54 (b1 := 7) (zkb2 zk_cX12_sprites zn_cX12_sprites rfl)
theorem dX12_sprites_73 : decode cX12_sprites 73 = .ok (.iload 7, 2) := zo_21 (b1 := 7) (zkb2 zk_cX12_sprites zn_cX12_sprites rfl)
theorem dX12_sprites_75 : decode cX12_sprites 75 = .ok (.bipush 64, 2) := zo_16 (b1 := 64) (zkb2 zk_cX12_sprites zn_cX12_sprites rfl) rfl
theorem dX12_sprites_77 : decode cX12_sprites 77 = .ok (.if_icmp .ge 278, 3) := zo_162 (b1 := 1) (b2 := 22) (zkb3 zk_cX12_sprites zn_cX12_sprites rfl) rfl
theorem dX12_sprites_80 : decode cX12_sprites 80 = .ok (.aload_n 0, 1) := zo_42 (zkb zk_cX12_sprites zn_cX12_sprites rfl)
theorem dX12_sprites_81 : decode cX12_sprites 81 = .ok (.iload_n 2, 1) := zo_28 (zkb zk_cX12_sprites zn_cX12_sprites rfl)
theorem dX12_sprites_82 : decode cX12_sprites 82 = .ok (.iload 7, 2) := zo_21 (b1 := 7) (zkb2 zk_cX12_sprites zn_cX12_sprites rfl)
theorem dX12_sprites_84 : decode cX12_sprites 84 = .ok (.iadd, 1) := zo_96 (zkb zk_cX12_sprites zn_cX12_sprites rfl)
theorem dX12_sprites_85 : decode cX12_sprites 85 = .ok (.invokevirtual 401, 3) := zo_182 (b1 := 1) (b2 := 145) (zkb3 zk_cX12_sprites zn_cX12_sprites rfl) rfl
theorem dX12_sprites_88 : decode cX12_sprites 88 = .ok (.istore 8, 2) := zo_54 (b1 := 8) (zkb2 zk_cX12_sprites zn_cX12_sprites rfl)
theorem dX12_sprites_90 : decode cX12_sprites 90 = .ok (.iload 6, 2) := zo_21 (b1 := 6) (zkb2 zk_cX12_sprites zn_cX12_sprites rfl)
theorem dX12_sprites_92 : decode cX12_sprites 92 = .ok (.ifCond .eq 12, 3) := zo_153 (b1 := 0) (b2 := 12) (zkb3 zk_cX12_sprites zn_cX12_sprites rfl) rfl
theorem dX12_sprites_95 : decode cX12_sprites 95 = .ok (.iload 8, 2) := zo_21 (b1 := 8) (zkb2 zk_cX12_sprites zn_cX12_sprites rfl)
theorem dX12_sprites_97 : decode cX12_sprites 97 = .ok (.sipush 208, 3) := zo_17 (b1 := 0) (b2 := 208) (zkb3 zk_cX12_sprites zn_cX12_sprites rfl) rfl
theorem dX12_sprites_100 : decode cX12_sprites 100 = .ok (.if_icmp .ne 4, 3) := zo_160 (b1 := 0) (b2 := 4) (zkb3 zk_cX12_sprites zn_cX12_sprites rfl) rfl
theorem dX12_sprites_103 : decode cX12_sprites 103 = .ok (.return_, 1) := zo_177 (zkb zk_cX12_sprites zn_cX12_sprites rfl)
theorem dX12_sprites_104 : decode cX12_sprites 104 = .ok (.iload_n 1, 1) := zo_27 (zkb zk_cX12_sprites zn_cX12_sprites rfl)
theorem dX12_sprites_105 : decode cX12_sprites 105 = .ok (.iload 8, 2) := zo_21 (b1 := 8) (zkb2 zk_cX12_sprites zn_cX12_sprites rfl)
theorem dX12_sprites_107 : decode cX12_sprites 107 = .ok (.isub, 1) := zo_100 (zkb zk_cX12_sprites zn_cX12_sprites rfl)
theorem dX12_sprites_108 : decode cX12_sprites 108 = .ok (.iconst 1, 1) := zo_4 (zkb zk_cX12_sprites zn_cX12_sprites rfl)
theorem dX12_sprites_109 : decode cX12_sprites 109 = .ok (.isub, 1) := zo_100 (zkb zk_cX12_sprites zn_cX12_sprites rfl)
theorem dX12_sprites_110 : decode cX12_sprites 110 = .ok (.sipush 255, 3) := zo_17 (b1 := 0) (b2 := 255) (zkb3 zk_cX12_sprites zn_cX12_sprites rfl) rfl
theorem dX12_sprites_113 : decode cX12_sprites 113 = .ok (.iand, 1) := zo_126 (zkb zk_cX12_sprites zn_cX12_sprites rfl)
theorem dX12_sprites_114 : decode cX12_sprites 114 = .ok (.istore 9, 2) := zo_54 (b1 := 9) (zkb2 zk_cX12_sprites zn_cX12_sprites rfl)
theorem dX12_sprites_116 : decode cX12_sprites 116 = .ok (.iload 9, 2) := zo_21 (b1 := 9) (zkb2 zk_cX12_sprites zn_cX12_sprites rfl)
theorem dX12_sprites_118 : decode cX12_sprites 118 = .ok (.iload 4, 2) := zo_21 (b1 := 4) (zkb2 zk_cX12_sprites zn_cX12_sprites rfl)
theorem dX12_sprites_120 : decode cX12_sprites 120 = .ok (.iload_n 3, 1) := zo_29 (zkb zk_cX12_sprites zn_cX12_sprites rfl)
theorem dX12_sprites_121 : decode cX12_sprites 121 = .ok (.imul, 1) := zo_104 (zkb zk_cX12_sprites zn_cX12_sprites rfl)
theorem dX12_sprites_122 : decode cX12_sprites 122 = .ok (.if_icmp .lt 6, 3) := zo_161 (b1 := 0) (b2 := 6) (zkb3 zk_cX12_sprites zn_cX12_sprites rfl) rfl
theorem dX12_sprites_125 : decode cX12_sprites 125 = .ok (.goto 224, 3) := zo_167 (b1 := 0) (b2 := 224) (zkb3 zk_cX12_sprites zn_cX12_sprites rfl) rfl
theorem dX12_sprites_128 : decode cX12_sprites 128 = .ok (.iload 5, 2) := zo_21 (b1 := 5) (zkb2 zk_cX12_sprites zn_cX12_sprites rfl)
theorem dX12_sprites_130 : decode cX12_sprites 130 = .ok (.bipush 8, 2) := zo_16 (b1 := 8) (zkb2 zk_cX12_sprites zn_cX12_sprites rfl) rfl
theorem dX12_sprites_132 : decode cX12_sprites 132 = .ok (.if_icmp .ne 16, 3) := zo_160 (b1 := 0) (b2 := 16) (zkb3 zk_cX12_sprites zn_cX12_sprites rfl) rfl
theorem dX12_sprites_135 : decode cX12_sprites 135 = .ok (.aload_n 0, 1) := zo_42 (zkb zk_cX12_sprites zn_cX12_sprites rfl)
theorem dX12_sprites_136 : decode cX12_sprites 136 = .ok (.getfield 22, 3) := zo_180 (b1 := 0) (b2 := 22) (zkb3 zk_cX12_sprites zn_cX12_sprites rfl) rfl
theorem dX12_sprites_139 : decode cX12_sprites 139 = .ok (.bipush 62, 2) := zo_16 (b1 := 62) (zkb2 zk_cX12_sprites zn_cX12_sprites rfl) rfl
theorem dX12_sprites_141 : decode cX12_sprites 141 = .ok (.dup2, 1) := zo_92 (zkb zk_cX12_sprites zn_cX12_sprites rfl)
theorem dX12_sprites_142 : decode cX12_sprites 142 = .ok (.iaload, 1) := zo_46 (zkb zk_cX12_sprites zn_cX12_sprites rfl)
theorem dX12_sprites_143 : decode cX12_sprites 143 = .ok (.bipush 64, 2) := zo_16 (b1 := 64) (zkb2 zk_cX12_sprites zn_cX12_sprites rfl) rfl
theorem dX12_sprites_145 : decode cX12_sprites 145 = .ok (.ior, 1) := zo_128 (zkb zk_cX12_sprites zn_cX12_sprites rfl)
theorem dX12_sprites_146 : decode cX12_sprites 146 = .ok (.iastore, 1) := zo_79 (zkb zk_cX12_sprites zn_cX12_sprites rfl)
theorem dX12_sprites_147 : decode cX12_sprites 147 = .ok (.return_, 1) := zo_177 (zkb zk_cX12_sprites zn_cX12_sprites rfl)
theorem dX12_sprites_148 : decode cX12_sprites 148 = .ok (.iinc 5 1, 3) := zo_132 (b1 := 5) (b2 := 1) (zkb3 zk_cX12_sprites zn_cX12_sprites rfl) rfl
theorem dX12_sprites_151 : decode cX12_sprites 151 = .ok (.aload_n 0, 1) := zo_42 (zkb zk_cX12_sprites zn_cX12_sprites rfl)
theorem dX12_sprites_152 : decode cX12_sprites 152 = .ok (.iload_n 2, 1) := zo_28 (zkb zk_cX12_sprites zn_cX12_sprites rfl)
theorem dX12_sprites_153 : decode cX12_sprites 153 = .ok (.sipush 129, 3) := zo_17 (b1 := 0) (b2 := 129) (zkb3 zk_cX12_sprites zn_cX12_sprites rfl) rfl
theorem dX12_sprites_156 : decode cX12_sprites 156 = .ok (.iadd, 1) := zo_96 (zkb zk_cX12_sprites zn_cX12_sprites rfl)
theorem dX12_sprites_157 : decode cX12_sprites 157 = .ok (.iconst 2, 1) := zo_5 (zkb zk_cX12_sprites zn_cX12_sprites rfl)
theorem dX12_sprites_158 : decode cX12_sprites 158 = .ok (.iload 7, 2) := zo_21 (b1 := 7) (zkb2 zk_cX12_sprites zn_cX12_sprites rfl)
theorem dX12_sprites_160 : decode cX12_sprites 160 = .ok (.imul, 1) := zo_104 (zkb zk_cX12_sprites zn_cX12_sprites rfl)
theorem dX12_sprites_161 : decode cX12_sprites 161 = .ok (.iadd, 1) := zo_96 (zkb zk_cX12_sprites zn_cX12_sprites rfl)
theorem dX12_sprites_162 : decode cX12_sprites 162 = .ok (.invokevirtual 401, 3) := zo_182 (b1 := 1) (b2 := 145) (zkb3 zk_cX12_sprites zn_cX12_sprites rfl) rfl
theorem dX12_sprites_165 : decode cX12_sprites 165 = .ok (.aload_n 0, 1) := zo_42 (zkb zk_cX12_sprites zn_cX12_sprites rfl)
theorem dX12_sprites_166 : decode cX12_sprites 166 = .ok (.bipush 6, 2) := zo_16 (b1 := 6) (zkb2 zk_cX12_sprites zn_cX12_sprites rfl) rfl
theorem dX12_sprites_168 : decode cX12_sprites 168 = .ok (.iconst 2, 1) := zo_5 (zkb zk_cX12_sprites zn_cX12_sprites rfl)
theorem dX12_sprites_169 : decode cX12_sprites 169 = .ok (.invokevirtual 395, 3) := zo_182 (b1 := 1) (b2 := 139) (zkb3 zk_cX12_sprites zn_cX12_sprites rfl) rfl
theorem dX12_sprites_172 : decode cX12_sprites 172 = .ok (.iconst 1, 1) := zo_4 (zkb zk_cX12_sprites zn_cX12_sprites rfl)
theorem dX12_sprites_173 : decode cX12_sprites 173 = .ok (.if_icmp .ne 9, 3) := zo_160 (b1 := 0) (b2 := 9) (zkb3 zk_cX12_sprites zn_cX12_sprites rfl) rfl
theorem dX12_sprites_176 : decode cX12_sprites 176 = .ok (.sipush 256, 3) := zo_17 (b1 := 1) (b2 := 0) (zkb3 zk_cX12_sprites zn_cX12_sprites rfl) rfl
theorem dX12_sprites_179 : decode cX12_sprites 179 = .ok (.goto 4, 3) := zo_167 (b1 := 0) (b2 := 4) (zkb3 zk_cX12_sprites zn_cX12_sprites rfl) rfl
theorem dX12_sprites_182 : decode cX12_sprites 182 = .ok (.iconst 0, 1) := zo_3 (zkb zk_cX12_sprites zn_cX12_sprites rfl)
theorem dX12_sprites_183 : decode cX12_sprites 183 = .ok (.iadd, 1) := zo_96 (zkb zk_cX12_sprites zn_cX12_sprites rfl)
theorem dX12_sprites_184 : decode cX12_sprites 184 = .ok (.istore 10, 2) := zo_54 (b1 := 10) (zkb2 zk_cX12_sprites zn_cX12_sprites rfl)
theorem dX12_sprites_186 : decode cX12_sprites 186 = .ok (.iload 4, 2) := zo_21 (b1 := 4) (zkb2 zk_cX12_sprites zn_cX12_sprites rfl)
theorem dX12_sprites_188 : decode cX12_sprites 188 = .ok (.bipush 16, 2) := zo_16 (b1 := 16) (zkb2 zk_cX12_sprites zn_cX12_sprites rfl) rfl
theorem dX12_sprites_190 : decode cX12_sprites 190 = .ok (.if_icmp .ne 20, 3) := zo_160 (b1 := 0) (b2 := 20) (zkb3 zk_cX12_sprites zn_cX12_sprites rfl) rfl
theorem dX12_sprites_193 : decode cX12_sprites 193 = .ok (.iload 10, 2) := zo_21 (b1 := 10) (zkb2 zk_cX12_sprites zn_cX12_sprites rfl)
theorem dX12_sprites_195 : decode cX12_sprites 195 = .ok (.sipush 510, 3) := zo_17 (b1 := 1) (b2 := 254) (zkb3 zk_cX12_sprites zn_cX12_sprites rfl) rfl
theorem dX12_sprites_198 : decode cX12_sprites 198 = .ok (.iand, 1) := zo_126 (zkb zk_cX12_sprites zn_cX12_sprites rfl)
theorem dX12_sprites_199 : decode cX12_sprites 199 = .ok (.iload 9, 2) := zo_21 (b1 := 9) (zkb2 zk_cX12_sprites zn_cX12_sprites rfl)
theorem dX12_sprites_201 : decode cX12_sprites 201 = .ok (.iload_n 3, 1) := zo_29 (zkb zk_cX12_sprites zn_cX12_sprites rfl)
theorem dX12_sprites_202 : decode cX12_sprites 202 = .ok (.idiv, 1) := zo_108 (zkb zk_cX12_sprites zn_cX12_sprites rfl)
theorem dX12_sprites_203 : decode cX12_sprites 203 = .ok (.bipush 8, 2) := zo_16 (b1 := 8) (zkb2 zk_cX12_sprites zn_cX12_sprites rfl) rfl
theorem dX12_sprites_205 : decode cX12_sprites 205 = .ok (.idiv, 1) := zo_108 (zkb zk_cX12_sprites zn_cX12_sprites rfl)
theorem dX12_sprites_206 : decode cX12_sprites 206 = .ok (.iadd, 1) := zo_96 (zkb zk_cX12_sprites zn_cX12_sprites rfl)
theorem dX12_sprites_207 : decode cX12_sprites 207 = .ok (.goto 5, 3) := zo_167 (b1 := 0) (b2 := 5) (zkb3 zk_cX12_sprites zn_cX12_sprites rfl) rfl
theorem dX12_sprites_210 : decode cX12_sprites 210 = .ok (.iload 10, 2) := zo_21 (b1 := 10) (zkb2 zk_cX12_sprites zn_cX12_sprites rfl)
theorem dX12_sprites_212 : decode cX12_sprites 212 = .ok (.istore 10, 2) := zo_54 (b1 := 10) (zkb2 zk_cX12_sprites zn_cX12_sprites rfl)
theorem dX12_sprites_214 : decode cX12_sprites 214 = .ok (.aload_n 0, 1) := zo_42 (zkb zk_cX12_sprites zn_cX12_sprites rfl)
theorem dX12_sprites_215 : decode cX12_sprites 215 = .ok (.iload_n 2, 1) := zo_28 (zkb zk_cX12_sprites zn_cX12_sprites rfl)
theorem dX12_sprites_216 : decode cX12_sprites 216 = .ok (.sipush 128, 3) := zo_17 (b1 := 0) (b2 := 128) (zkb3 zk_cX12_sprites zn_cX12_sprites rfl) rfl
theorem dX12_sprites_219 : decode cX12_sprites 219 = .ok (.iadd, 1) := zo_96 (zkb zk_cX12_sprites zn_cX12_sprites rfl)
theorem dX12_sprites_220 : decode cX12_sprites 220 = .ok (.iconst 2, 1) := zo_5 (zkb zk_cX12_sprites zn_cX12_sprites rfl)
theorem dX12_sprites_221 : decode cX12_sprites 221 = .ok (.iload 7, 2) := zo_21 (b1 := 7) (zkb2 zk_cX12_sprites zn_cX12_sprites rfl)
theorem dX12_sprites_223 : decode cX12_sprites 223 = .ok (.imul, 1) := zo_104 (zkb zk_cX12_sprites zn_cX12_sprites rfl)
theorem dX12_sprites_224 : decode cX12_sprites 224 = .ok (.iadd, 1) := zo_96 (zkb zk_cX12_sprites zn_cX12_sprites rfl)
theorem dX12_sprites_225 : decode cX12_sprites 225 = .ok (.invokevirtual 401, 3) := zo_182 (b1 := 1) (b2 := 145) (zkb3 zk_cX12_sprites zn_cX12_sprites rfl) rfl
theorem dX12_sprites_228 : decode cX12_sprites 228 = .ok (.aload_n 0, 1) := zo_42 (zkb zk_cX12_sprites zn_cX12_sprites rfl)
theorem dX12_sprites_229 : decode cX12_sprites 229 = .ok (.iconst 0, 1) := zo_3 (zkb zk_cX12_sprites zn_cX12_sprites rfl)
theorem dX12_sprites_230 : decode cX12_sprites 230 = .ok (.iconst 3, 1) := zo_6 (zkb zk_cX12_sprites zn_cX12_sprites rfl)
theorem dX12_sprites_231 : decode cX12_sprites 231 = .ok (.invokevirtual 395, 3) := zo_182 (b1 := 1) (b2 := 139) (zkb3 zk_cX12_sprites zn_cX12_sprites rfl) rfl
theorem dX12_sprites_234 : decode cX12_sprites 234 = .ok (.iconst 1, 1) := zo_4 (zkb zk_cX12_sprites zn_cX12_sprites rfl)
theorem dX12_sprites_235 : decode cX12_sprites 235 = .ok (.if_icmp .ne 8, 3) := zo_160 (b1 := 0) (b2 := 8) (zkb3 zk_cX12_sprites zn_cX12_sprites rfl) rfl
theorem dX12_sprites_238 : decode cX12_sprites 238 = .ok (.bipush 8, 2) := zo_16 (b1 := 8) (zkb2 zk_cX12_sprites zn_cX12_sprites rfl) rfl
theorem dX12_sprites_240 : decode cX12_sprites 240 = .ok (.goto 4, 3) := zo_167 (b1 := 0) (b2 := 4) (zkb3 zk_cX12_sprites zn_cX12_sprites rfl) rfl
theorem dX12_sprites_243 : decode cX12_sprites 243 = .ok (.iconst 0, 1) := zo_3 (zkb zk_cX12_sprites zn_cX12_sprites rfl)
theorem dX12_sprites_244 : decode cX12_sprites 244 = .ok (.isub, 1) := zo_100 (zkb zk_cX12_sprites zn_cX12_sprites rfl)
theorem dX12_sprites_245 : decode cX12_sprites 245 = .ok (.istore 11, 2) := zo_54 (b1 := 11) (zkb2 zk_cX12_sprites zn_cX12_sprites rfl)
theorem dX12_sprites_247 : decode cX12_sprites 247 = .ok (.iconst 0, 1) := zo_3 (zkb zk_cX12_sprites zn_cX12_sprites rfl)
theorem dX12_sprites_248 : decode cX12_sprites 248 = .ok (.istore 12, 2) := zo_54 (b1 := 12) (zkb2 zk_cX12_sprites zn_cX12_sprites rfl)
theorem dX12_sprites_250 : decode cX12_sprites 250 = .ok (.iload 12, 2) := zo_21 (b1 := 12) (zkb2 zk_cX12_sprites zn_cX12_sprites rfl)
theorem dX12_sprites_252 : decode cX12_sprites 252 = .ok (.bipush 8, 2) := zo_16 (b1 := 8) (zkb2 zk_cX12_sprites zn_cX12_sprites rfl) rfl
theorem dX12_sprites_254 : decode cX12_sprites 254 = .ok (.iload_n 3, 1) := zo_29 (zkb zk_cX12_sprites zn_cX12_sprites rfl)
theorem dX12_sprites_255 : decode cX12_sprites 255 = .ok (.imul, 1) := zo_104 (zkb zk_cX12_sprites zn_cX12_sprites rfl)
theorem dX12_sprites_256 : decode cX12_sprites 256 = .ok (.if_icmp .ge 93, 3) := zo_162 (b1 := 0) (b2 := 93) (zkb3 zk_cX12_sprites zn_cX12_sprites rfl) rfl
theorem dX12_sprites_259 : decode cX12_sprites 259 = .ok (.aload_n 0, 1) := zo_42 (zkb zk_cX12_sprites zn_cX12_sprites rfl)
theorem dX12_sprites_260 : decode cX12_sprites 260 = .ok (.iload 10, 2) := zo_21 (b1 := 10) (zkb2 zk_cX12_sprites zn_cX12_sprites rfl)
theorem dX12_sprites_262 : decode cX12_sprites 262 = .ok (.iload 12, 2) := zo_21 (b1 := 12) (zkb2 zk_cX12_sprites zn_cX12_sprites rfl)
theorem dX12_sprites_264 : decode cX12_sprites 264 = .ok (.iload_n 3, 1) := zo_29 (zkb zk_cX12_sprites zn_cX12_sprites rfl)
theorem dX12_sprites_265 : decode cX12_sprites 265 = .ok (.idiv, 1) := zo_108 (zkb zk_cX12_sprites zn_cX12_sprites rfl)
theorem dX12_sprites_266 : decode cX12_sprites 266 = .ok (.iload 9, 2) := zo_21 (b1 := 9) (zkb2 zk_cX12_sprites zn_cX12_sprites rfl)
theorem dX12_sprites_268 : decode cX12_sprites 268 = .ok (.iload_n 3, 1) := zo_29 (zkb zk_cX12_sprites zn_cX12_sprites rfl)
theorem dX12_sprites_269 : decode cX12_sprites 269 = .ok (.idiv, 1) := zo_108 (zkb zk_cX12_sprites zn_cX12_sprites rfl)
theorem dX12_sprites_270 : decode cX12_sprites 270 = .ok (.bipush 8, 2) := zo_16 (b1 := 8) (zkb2 zk_cX12_sprites zn_cX12_sprites rfl) rfl
theorem dX12_sprites_272 : decode cX12_sprites 272 = .ok (.irem, 1) := zo_112 (zkb zk_cX12_sprites zn_cX12_sprites rfl)
theorem dX12_sprites_273 : decode cX12_sprites 273 = .ok (.invokevirtual 434, 3) := zo_182 (b1 := 1) (b2 := 178) (zkb3 zk_cX12_sprites zn_cX12_sprites rfl) rfl
theorem dX12_sprites_276 : decode cX12_sprites 276 = .ok (.istore 13, 2) := zo_54 (b1 := 13) (zkb2 zk_cX12_sprites zn_cX12_sprites rfl)
theorem dX12_sprites_278 : decode cX12_sprites 278 = .ok (.iload 11, 2) := zo_21 (b1 := 11) (zkb2 zk_cX12_sprites zn_cX12_sprites rfl)
theorem dX12_sprites_280 : decode cX12_sprites 280 = .ok (.iload 12, 2) := zo_21 (b1 := 12) (zkb2 zk_cX12_sprites zn_cX12_sprites rfl)
theorem dX12_sprites_282 : decode cX12_sprites 282 = .ok (.iadd, 1) := zo_96 (zkb zk_cX12_sprites zn_cX12_sprites rfl)
theorem dX12_sprites_283 : decode cX12_sprites 283 = .ok (.istore 14, 2) := zo_54 (b1 := 14) (zkb2 zk_cX12_sprites zn_cX12_sprites rfl)
theorem dX12_sprites_285 : decode cX12_sprites 285 = .ok (.iload 13, 2) := zo_21 (b1 := 13) (zkb2 zk_cX12_sprites zn_cX12_sprites rfl)
theorem dX12_sprites_287 : decode cX12_sprites 287 = .ok (.ifCond .eq 56, 3) := zo_153 (b1 := 0) (b2 := 56) (zkb3 zk_cX12_sprites zn_cX12_sprites rfl) rfl
theorem dX12_sprites_290 : decode cX12_sprites 290 = .ok (.iload 14, 2) := zo_21 (b1 := 14) (zkb2 zk_cX12_sprites zn_cX12_sprites rfl)
theorem dX12_sprites_292 : decode cX12_sprites 292 = .ok (.ifCond .lt 51, 3) := zo_155 (b1 := 0) (b2 := 51) (zkb3 zk_cX12_sprites zn_cX12_sprites rfl) rfl
theorem dX12_sprites_295 : decode cX12_sprites 295 = .ok (.iload 14, 2) := zo_21 (b1 := 14) (zkb2 zk_cX12_sprites zn_cX12_sprites rfl)
theorem dX12_sprites_297 : decode cX12_sprites 297 = .ok (.sipush 255, 3) := zo_17 (b1 := 0) (b2 := 255) (zkb3 zk_cX12_sprites zn_cX12_sprites rfl) rfl
theorem dX12_sprites_300 : decode cX12_sprites 300 = .ok (.if_icmp .le 6, 3) := zo_164 (b1 := 0) (b2 := 6) (zkb3 zk_cX12_sprites zn_cX12_sprites rfl) rfl
theorem dX12_sprites_303 : decode cX12_sprites 303 = .ok (.goto 40, 3) := zo_167 (b1 := 0) (b2 := 40) (zkb3 zk_cX12_sprites zn_cX12_sprites rfl) rfl
theorem dX12_sprites_306 : decode cX12_sprites 306 = .ok (.aload_n 0, 1) := zo_42 (zkb zk_cX12_sprites zn_cX12_sprites rfl)
theorem dX12_sprites_307 : decode cX12_sprites 307 = .ok (.getfield 90, 3) := zo_180 (b1 := 0) (b2 := 90) (zkb3 zk_cX12_sprites zn_cX12_sprites rfl) rfl
theorem dX12_sprites_310 : decode cX12_sprites 310 = .ok (.iload 14, 2) := zo_21 (b1 := 14) (zkb2 zk_cX12_sprites zn_cX12_sprites rfl)
theorem dX12_sprites_312 : decode cX12_sprites 312 = .ok (.iaload, 1) := zo_46 (zkb zk_cX12_sprites zn_cX12_sprites rfl)
theorem dX12_sprites_313 : decode cX12_sprites 313 = .ok (.ifCond .le 18, 3) := zo_158 (b1 := 0) (b2 := 18) (zkb3 zk_cX12_sprites zn_cX12_sprites rfl) rfl
theorem dX12_sprites_316 : decode cX12_sprites 316 = .ok (.aload_n 0, 1) := zo_42 (zkb zk_cX12_sprites zn_cX12_sprites rfl)
theorem dX12_sprites_317 : decode cX12_sprites 317 = .ok (.getfield 22, 3) := zo_180 (b1 := 0) (b2 := 22) (zkb3 zk_cX12_sprites zn_cX12_sprites rfl) rfl
theorem dX12_sprites_320 : decode cX12_sprites 320 = .ok (.bipush 62, 2) := zo_16 (b1 := 62) (zkb2 zk_cX12_sprites zn_cX12_sprites rfl) rfl
theorem dX12_sprites_322 : decode cX12_sprites 322 = .ok (.dup2, 1) := zo_92 (zkb zk_cX12_sprites zn_cX12_sprites rfl)
theorem dX12_sprites_323 : decode cX12_sprites 323 = .ok (.iaload, 1) := zo_46 (zkb zk_cX12_sprites zn_cX12_sprites rfl)
theorem dX12_sprites_324 : decode cX12_sprites 324 = .ok (.bipush 32, 2) := zo_16 (b1 := 32) (zkb2 zk_cX12_sprites zn_cX12_sprites rfl) rfl
theorem dX12_sprites_326 : decode cX12_sprites 326 = .ok (.ior, 1) := zo_128 (zkb zk_cX12_sprites zn_cX12_sprites rfl)
theorem dX12_sprites_327 : decode cX12_sprites 327 = .ok (.iastore, 1) := zo_79 (zkb zk_cX12_sprites zn_cX12_sprites rfl)
theorem dX12_sprites_328 : decode cX12_sprites 328 = .ok (.goto 15, 3) := zo_167 (b1 := 0) (b2 := 15) (zkb3 zk_cX12_sprites zn_cX12_sprites rfl) rfl
theorem dX12_sprites_331 : decode cX12_sprites 331 = .ok (.aload_n 0, 1) := zo_42 (zkb zk_cX12_sprites zn_cX12_sprites rfl)
theorem dX12_sprites_332 : decode cX12_sprites 332 = .ok (.getfield 90, 3) := zo_180 (b1 := 0) (b2 := 90) (zkb3 zk_cX12_sprites zn_cX12_sprites rfl) rfl
theorem dX12_sprites_335 : decode cX12_sprites 335 = .ok (.iload 14, 2) := zo_21 (b1 := 14) (zkb2 zk_cX12_sprites zn_cX12_sprites rfl)
theorem dX12_sprites_337 : decode cX12_sprites 337 = .ok (.bipush 16, 2) := zo_16 (b1 := 16) (zkb2 zk_cX12_sprites zn_cX12_sprites rfl) rfl
theorem dX12_sprites_339 : decode cX12_sprites 339 = .ok (.iload 13, 2) := zo_21 (b1 := 13) (zkb2 zk_cX12_sprites zn_cX12_sprites rfl)
theorem dX12_sprites_341 : decode cX12_sprites 341 = .ok (.iadd, 1) := zo_96 (zkb zk_cX12_sprites zn_cX12_sprites rfl)
theorem dX12_sprites_342 : decode cX12_sprites 342 = .ok (.iastore, 1) := zo_79 (zkb zk_cX12_sprites zn_cX12_sprites rfl)
theorem dX12_sprites_343 : decode cX12_sprites 343 = .ok (.iinc 12 1, 3) := zo_132 (b1 := 12) (b2 := 1) (zkb3 zk_cX12_sprites zn_cX12_sprites rfl) rfl
theorem dX12_sprites_346 : decode cX12_sprites 346 = .ok (.goto (-96), 3) := zo_167 (b1 := 255) (b2 := 160) (zkb3 zk_cX12_sprites zn_cX12_sprites rfl) rfl
theorem dX12_sprites_349 : decode cX12_sprites 349 = .ok (.iinc 7 1, 3) := zo_132 (b1 := 7) (b2 := 1) (zkb3 zk_cX12_sprites zn_cX12_sprites rfl) rfl
theorem dX12_sprites_352 : decode cX12_sprites 352 = .ok (.goto (-279), 3) := zo_167 (b1 := 254) (b2 := 233) (zkb3 zk_cX12_sprites zn_cX12_sprites rfl) rfl
theorem dX12_sprites_355 : decode cX12_sprites 355 = .ok (.return_, 1) := zo_177 (zkb zk_cX12_sprites zn_cX12_sprites rfl)
noncomputable def rmX12_adjusts : Room := { frames := 3, cells := 0, slots := 0, locals := 64 }
noncomputable def wzX12_adjusts : List Cond := .code yX12_adjusts cX12_adjusts 3 none :: wsL_law
theorem hinX12_adjusts_X120 : ∀ w ∈ wsX120, w ∈ wzX12_adjusts := fun w h => List.mem_cons_of_mem _ (inlX12 w h)
noncomputable def fX12_adjusts_130  (σ : zSt) (s0 : Int32) (s1 : Int32) : Option (zSt) :=
  zck (zin s1 1048) (zbv (zsi σ 3 (s1.toNatClampNeg) (s0 &&& 255)) (fun σ1 =>
  zck (zin 0 1048) (
  zbu (fX12_by σ1 (zgi σ1 3 (0 : Int32).toNatClampNeg)) (fun σ2 =>
  zck (zin 0 1048) (
  zbi (fX12_isEven σ2 (zgi σ2 3 (0 : Int32).toNatClampNeg)) (fun σ3 v4 =>
  zbu (fX12_put σ3 2 v4) (fun σ5 =>
  some σ5)))))))
noncomputable def fX12_adjusts_105  (σ : zSt) (x1 : Int32) (x2 : Int32) (s0 : Int32) (s1 : Int32) : Option (zSt) :=
  zbu (fX12_put σ s1 s0) (fun σ6 =>
  zbi (fX12_flag σ6 1) (fun σ7 v8 =>
  if v8 = 0 then fX12_adjusts_130 σ7 (x1 + x2) 0 else
  fX12_adjusts_130 σ7 (x1 - x2) 0))
noncomputable def fX12_adjusts_104  (σ : zSt) (x1 : Int32) (x2 : Int32) (s0 : Int32) : Option (zSt) :=
  fX12_adjusts_105 σ x1 x2 0 s0
noncomputable def fX12_adjusts_55  (σ : zSt) (x1 : Int32) (x2 : Int32) : Option (zSt) :=
  zbi (fX12_flag σ 1) (fun σ9 v10 =>
  if v10 = 0 then if (x1 &&& 15) ≤ 9 then fX12_adjusts_105 σ9 x1 x2 0 4 else
  fX12_adjusts_105 σ9 x1 x2 1 4 else
  zbi (fX12_flag σ9 4) (fun σ11 v12 =>
  if v12 = 1 then if 6 ≤ (x1 &&& 15) then fX12_adjusts_104 σ11 x1 x2 4 else
  fX12_adjusts_105 σ11 x1 x2 1 4 else
  fX12_adjusts_104 σ11 x1 x2 4))
noncomputable def fX12_adjusts_46  (σ : zSt) (x1 : Int32) (x2 : Int32) : Option (zSt) :=
  zbv (x2 + 96) (fun v13 =>
  zbu (fX12_put σ 0 1) (fun σ14 =>
  fX12_adjusts_55 σ14 x1 v13))
noncomputable def fX12_adjusts_30  (σ : zSt) (x1 : Int32) (x2 : Int32) : Option (zSt) :=
  if 153 < x1 then fX12_adjusts_46 σ x1 x2 else
  zbi (fX12_flag σ 0) (fun σ15 v16 =>
  if v16 = 1 then fX12_adjusts_46 σ15 x1 x2 else
  fX12_adjusts_55 σ15 x1 x2)
noncomputable def fX12_adjusts_27  (σ : zSt) (x1 : Int32) (x2 : Int32) : Option (zSt) :=
  zbv (x2 + 6) (fun v17 =>
  fX12_adjusts_30 σ x1 v17)
noncomputable def fX12_adjusts  (σ : zSt)  : Option (zSt) :=
  zck (zin 0 1048) (
  zbv (zgi σ 3 (0 : Int32).toNatClampNeg) (fun v18 =>
  if 9 < (v18 &&& 15) then fX12_adjusts_27 σ v18 0 else
  zbi (fX12_flag σ 4) (fun σ19 v20 =>
  if v20 = 1 then fX12_adjusts_27 σ19 v18 0 else
  fX12_adjusts_30 σ19 v18 0)))
set_option maxRecDepth 20000 in
set_option maxHeartbeats 4000000 in
theorem bX12_adjusts_130 {st : Nat → Nat} {p : Program} {l : Launch} {e : Env} {s : State} {m : MethodId} {args : Array Value} {below : List Frame} {meth : Method} {c : Code} {D : va_G} {A : Nat → Prop} {ad : Nat → Nat} {cy : Nat → ClassId} (hC : zC p m c cX12_adjusts 3 s args wzX12_adjusts RX12 meth none)  {res : zSt} {H : Heap} {locs : List Loc} {σ : zSt} {ls : Array Slot} {s0 : Int32} {s1 : Int32} (hI : zI st D (tM cy) (wM ad cy σ) A s H locs) (hl : lv_has ls 3 [(0, .ref (ad 0))]) (hf : fX12_adjusts_130  σ s0 s1 = some res) : W p l e rmX12_adjusts s m args below meth c H locs 0 0 (zQu below args s D (tM cy) (wM ad cy) A res) (F0 m 130 ls [.int s0, .int s1, .ref (ad 3)]) := by
  have hx := hC.1
  have hb := hC.2.1
  unfold fX12_adjusts_130 at hf
  refine lv_sipush (v := 255) hx hb dX12_adjusts_130 (by decide) ?_
  refine lv_iand hx hb dX12_adjusts_133 ?_
  obtain ⟨q, hf⟩ := zck_use hf
  obtain ⟨σ1, eσ1⟩ : ∃ z, z = zsi σ 3 (s1.toNatClampNeg) (s0 &&& 255) := ⟨_, rfl⟩
  replace hf := zbv_use eσ1 hf
  refine z_iast hC hI 3 2 (wM_e3 ad cy σ) (tM_t3 cy) q ((wM_s3 ad cy σ _ _).trans (congrArg (wM ad cy) eσ1.symm)) dX12_adjusts_134 (fun H locs hI => ?_)
  refine lv_aload_n hx hb dX12_adjusts_135 rfl (lv_at hl 0 rfl) ?_
  refine lv_aload_n hx hb dX12_adjusts_136 rfl (lv_at hl 0 rfl) ?_
  refine z_get hC hI hinX12_adjusts_X120 0 (wM_e0 ad cy σ1) rfl 10 (by decide) (List.mem_cons_of_mem _ zw9_7) rfl dX12_adjusts_137 ?_
  refine lv_iconst (v := 0) hx hb dX12_adjusts_140 (by decide) ?_
  obtain ⟨q, hf⟩ := zck_use hf
  refine z_iald hC hI 3 2 (wM_e3 ad cy σ1) (tM_t3 cy) q dX12_adjusts_141 ?_
  obtain ⟨σ2, g2, hf⟩ := zbu_use hf
  refine z_callVu (As := [.int (zgi σ1 3 (0 : Int32).toNatClampNeg)]) (rest := []) hC hI (cX12_by_met st l D ad cy σ1 (zgi σ1 3 (0 : Int32).toNatClampNeg) _ g2) (zgV zw53_22 zw53_23 zw54_0 zw1_5 zw54_1) rfl ⟨rfl, rfl⟩ 1 hdX12_by ⟨Nat.le_of_ble_eq_true rfl, Nat.le_of_ble_eq_true rfl⟩ rfl rfl (wM_e0 ad cy σ1) rfl hl rfl (Nat.le_of_ble_eq_true rfl) dX12_adjusts_142 ⟨Nat.zero_le _, Nat.zero_le _⟩ (fun H locs hI => ?_)
  refine lv_aload_n hx hb dX12_adjusts_145 rfl (lv_at hl 0 rfl) ?_
  refine lv_iconst (v := 2) hx hb dX12_adjusts_146 (by decide) ?_
  refine lv_aload_n hx hb dX12_adjusts_147 rfl (lv_at hl 0 rfl) ?_
  refine z_get hC hI hinX12_adjusts_X120 0 (wM_e0 ad cy σ2) rfl 10 (by decide) (List.mem_cons_of_mem _ zw9_7) rfl dX12_adjusts_148 ?_
  refine lv_iconst (v := 0) hx hb dX12_adjusts_151 (by decide) ?_
  obtain ⟨q, hf⟩ := zck_use hf
  refine z_iald hC hI 3 2 (wM_e3 ad cy σ2) (tM_t3 cy) q dX12_adjusts_152 ?_
  obtain ⟨σ3, v4, g3, hf⟩ := zbi_use hf
  refine z_callSi (As := [.int (zgi σ2 3 (0 : Int32).toNatClampNeg)]) (rest := [.int 2, .ref (ad 0)]) hC hI (cX12_isEven_met st l D ad cy σ2 (zgi σ2 3 (0 : Int32).toNatClampNeg) _ g3) (zgS zw54_10 zw54_11 zw1_5 zw54_12) rfl ⟨rfl, rfl⟩ 1 hdX12_isEven ⟨Nat.le_of_ble_eq_true rfl, Nat.le_of_ble_eq_true rfl⟩ rfl hl rfl (Nat.le_of_ble_eq_true rfl) dX12_adjusts_153 ⟨Nat.zero_le _, Nat.zero_le _⟩ (fun H locs hI => ?_)
  obtain ⟨σ5, g5, hf⟩ := zbu_use hf
  refine z_callVu (As := [.int 2, .int v4]) (rest := []) hC hI (cX12_put_met st l D ad cy σ3 2 v4 _ g5) (zgV zw52_13 zw52_14 zw52_15 zw1_5 zw52_16) rfl ⟨rfl, rfl⟩ 2 hdX12_put ⟨Nat.le_of_ble_eq_true rfl, Nat.le_of_ble_eq_true rfl⟩ rfl rfl (wM_e0 ad cy σ3) rfl hl rfl (Nat.le_of_ble_eq_true rfl) dX12_adjusts_156 ⟨Nat.zero_le _, Nat.zero_le _⟩ (fun H locs hI => ?_)
  exact z_return hC hI hf dX12_adjusts_159
set_option maxRecDepth 20000 in
set_option maxHeartbeats 4000000 in
theorem bX12_adjusts_105 {st : Nat → Nat} {p : Program} {l : Launch} {e : Env} {s : State} {m : MethodId} {args : Array Value} {below : List Frame} {meth : Method} {c : Code} {D : va_G} {A : Nat → Prop} {ad : Nat → Nat} {cy : Nat → ClassId} (hC : zC p m c cX12_adjusts 3 s args wzX12_adjusts RX12 meth none)  {res : zSt} {H : Heap} {locs : List Loc} {σ : zSt} {ls : Array Slot} {x1 : Int32} {x2 : Int32} {s0 : Int32} {s1 : Int32} (hI : zI st D (tM cy) (wM ad cy σ) A s H locs) (hl : lv_has ls 3 [(0, .ref (ad 0)), (1, .int x1), (2, .int x2)]) (hf : fX12_adjusts_105  σ x1 x2 s0 s1 = some res) : W p l e rmX12_adjusts s m args below meth c H locs 0 0 (zQu below args s D (tM cy) (wM ad cy) A res) (F0 m 105 ls [.int s0, .int s1, .ref (ad 0)]) := by
  have hx := hC.1
  have hb := hC.2.1
  unfold fX12_adjusts_105 at hf
  obtain ⟨σ6, g6, hf⟩ := zbu_use hf
  refine z_callVu (As := [.int s1, .int s0]) (rest := []) hC hI (cX12_put_met st l D ad cy σ s1 s0 _ g6) (zgV zw52_13 zw52_14 zw52_15 zw1_5 zw52_16) rfl ⟨rfl, rfl⟩ 2 hdX12_put ⟨Nat.le_of_ble_eq_true rfl, Nat.le_of_ble_eq_true rfl⟩ rfl rfl (wM_e0 ad cy σ) rfl hl rfl (Nat.le_of_ble_eq_true rfl) dX12_adjusts_105 ⟨Nat.zero_le _, Nat.zero_le _⟩ (fun H locs hI => ?_)
  refine lv_aload_n hx hb dX12_adjusts_108 rfl (lv_at hl 0 rfl) ?_
  refine z_get hC hI hinX12_adjusts_X120 0 (wM_e0 ad cy σ6) rfl 10 (by decide) (List.mem_cons_of_mem _ zw9_7) rfl dX12_adjusts_109 ?_
  refine lv_iconst (v := 0) hx hb dX12_adjusts_112 (by decide) ?_
  refine lv_aload_n hx hb dX12_adjusts_113 rfl (lv_at hl 0 rfl) ?_
  refine lv_iconst (v := 1) hx hb dX12_adjusts_114 (by decide) ?_
  obtain ⟨σ7, v8, g7, hf⟩ := zbi_use hf
  refine z_callVi (As := [.int 1]) (rest := [.int 0, .ref (ad 3)]) hC hI (cX12_flag_met st l D ad cy σ6 1 _ g7) (zgV zw51_1 zw51_2 zw51_3 zw1_5 zw51_4) rfl ⟨rfl, rfl⟩ 1 hdX12_flag ⟨Nat.le_of_ble_eq_true rfl, Nat.le_of_ble_eq_true rfl⟩ rfl rfl (wM_e0 ad cy σ6) rfl hl rfl (Nat.le_of_ble_eq_true rfl) dX12_adjusts_115 ⟨Nat.zero_le _, Nat.zero_le _⟩ (fun H locs hI => ?_)
  refine lv_if_ne (tgt := 127) hx hb dX12_adjusts_118 (by decide) (fun q => ?_) (fun q => ?_)
  · replace hf := zif_f q hf
    refine lv_iload_n hx hb dX12_adjusts_127 rfl (lv_at hl 1 rfl) ?_
    refine lv_iload_n hx hb dX12_adjusts_128 rfl (lv_at hl 2 rfl) ?_
    refine lv_isub hx hb dX12_adjusts_129 ?_
    exact bX12_adjusts_130 hC  hI (lv_sub hl [0] rfl) hf
  replace hf := zif_t q hf
  refine lv_iload_n hx hb dX12_adjusts_121 rfl (lv_at hl 1 rfl) ?_
  refine lv_iload_n hx hb dX12_adjusts_122 rfl (lv_at hl 2 rfl) ?_
  refine lv_iadd hx hb dX12_adjusts_123 ?_
  refine lv_goto (tgt := 130) hx hb dX12_adjusts_124 (by decide) ?_
  exact bX12_adjusts_130 hC  hI (lv_sub hl [0] rfl) hf
set_option maxRecDepth 20000 in
set_option maxHeartbeats 4000000 in
theorem bX12_adjusts_104 {st : Nat → Nat} {p : Program} {l : Launch} {e : Env} {s : State} {m : MethodId} {args : Array Value} {below : List Frame} {meth : Method} {c : Code} {D : va_G} {A : Nat → Prop} {ad : Nat → Nat} {cy : Nat → ClassId} (hC : zC p m c cX12_adjusts 3 s args wzX12_adjusts RX12 meth none)  {res : zSt} {H : Heap} {locs : List Loc} {σ : zSt} {ls : Array Slot} {x1 : Int32} {x2 : Int32} {s0 : Int32} (hI : zI st D (tM cy) (wM ad cy σ) A s H locs) (hl : lv_has ls 3 [(0, .ref (ad 0)), (1, .int x1), (2, .int x2)]) (hf : fX12_adjusts_104  σ x1 x2 s0 = some res) : W p l e rmX12_adjusts s m args below meth c H locs 0 0 (zQu below args s D (tM cy) (wM ad cy) A res) (F0 m 104 ls [.int s0, .ref (ad 0)]) := by
  have hx := hC.1
  have hb := hC.2.1
  unfold fX12_adjusts_104 at hf
  refine lv_iconst (v := 0) hx hb dX12_adjusts_104 (by decide) ?_
  exact bX12_adjusts_105 hC  hI hl hf
set_option maxRecDepth 20000 in
set_option maxHeartbeats 4000000 in
theorem bX12_adjusts_55 {st : Nat → Nat} {p : Program} {l : Launch} {e : Env} {s : State} {m : MethodId} {args : Array Value} {below : List Frame} {meth : Method} {c : Code} {D : va_G} {A : Nat → Prop} {ad : Nat → Nat} {cy : Nat → ClassId} (hC : zC p m c cX12_adjusts 3 s args wzX12_adjusts RX12 meth none)  {res : zSt} {H : Heap} {locs : List Loc} {σ : zSt} {ls : Array Slot} {x1 : Int32} {x2 : Int32} (hI : zI st D (tM cy) (wM ad cy σ) A s H locs) (hl : lv_has ls 3 [(0, .ref (ad 0)), (1, .int x1), (2, .int x2)]) (hf : fX12_adjusts_55  σ x1 x2 = some res) : W p l e rmX12_adjusts s m args below meth c H locs 0 0 (zQu below args s D (tM cy) (wM ad cy) A res) (F0 m 55 ls []) := by
  have hx := hC.1
  have hb := hC.2.1
  unfold fX12_adjusts_55 at hf
  refine lv_aload_n hx hb dX12_adjusts_55 rfl (lv_at hl 0 rfl) ?_
  refine lv_iconst (v := 4) hx hb dX12_adjusts_56 (by decide) ?_
  refine lv_aload_n hx hb dX12_adjusts_57 rfl (lv_at hl 0 rfl) ?_
  refine lv_iconst (v := 1) hx hb dX12_adjusts_58 (by decide) ?_
  obtain ⟨σ9, v10, g9, hf⟩ := zbi_use hf
  refine z_callVi (As := [.int 1]) (rest := [.int 4, .ref (ad 0)]) hC hI (cX12_flag_met st l D ad cy σ 1 _ g9) (zgV zw51_1 zw51_2 zw51_3 zw1_5 zw51_4) rfl ⟨rfl, rfl⟩ 1 hdX12_flag ⟨Nat.le_of_ble_eq_true rfl, Nat.le_of_ble_eq_true rfl⟩ rfl rfl (wM_e0 ad cy σ) rfl hl rfl (Nat.le_of_ble_eq_true rfl) dX12_adjusts_59 ⟨Nat.zero_le _, Nat.zero_le _⟩ (fun H locs hI => ?_)
  refine lv_if_ne (tgt := 82) hx hb dX12_adjusts_62 (by decide) (fun q => ?_) (fun q => ?_)
  · replace hf := zif_f q hf
    refine lv_aload_n hx hb dX12_adjusts_82 rfl (lv_at hl 0 rfl) ?_
    refine lv_iconst (v := 4) hx hb dX12_adjusts_83 (by decide) ?_
    obtain ⟨σ11, v12, g11, hf⟩ := zbi_use hf
    refine z_callVi (As := [.int 4]) (rest := [.int 4, .ref (ad 0)]) hC hI (cX12_flag_met st l D ad cy σ9 4 _ g11) (zgV zw51_1 zw51_2 zw51_3 zw1_5 zw51_4) rfl ⟨rfl, rfl⟩ 1 hdX12_flag ⟨Nat.le_of_ble_eq_true rfl, Nat.le_of_ble_eq_true rfl⟩ rfl rfl (wM_e0 ad cy σ9) rfl hl rfl (Nat.le_of_ble_eq_true rfl) dX12_adjusts_84 ⟨Nat.zero_le _, Nat.zero_le _⟩ (fun H locs hI => ?_)
    refine lv_iconst (v := 1) hx hb dX12_adjusts_87 (by decide) ?_
    refine lv_icmp_ne (tgt := 104) hx hb dX12_adjusts_88 (by decide) (fun q => ?_) (fun q => ?_)
    · replace hf := zif_f q hf
      exact bX12_adjusts_104 hC  hI hl hf
    replace hf := zif_t q hf
    refine lv_iload_n hx hb dX12_adjusts_91 rfl (lv_at hl 1 rfl) ?_
    refine lv_bipush (v := 15) hx hb dX12_adjusts_92 (by decide) ?_
    refine lv_iand hx hb dX12_adjusts_94 ?_
    refine lv_bipush (v := 6) hx hb dX12_adjusts_95 (by decide) ?_
    refine lv_icmp_ge (tgt := 104) hx hb dX12_adjusts_97 (by decide) (fun q => ?_) (fun q => ?_)
    · replace hf := zif_t q hf
      exact bX12_adjusts_104 hC  hI hl hf
    replace hf := zif_f q hf
    refine lv_iconst (v := 1) hx hb dX12_adjusts_100 (by decide) ?_
    refine lv_goto (tgt := 105) hx hb dX12_adjusts_101 (by decide) ?_
    exact bX12_adjusts_105 hC  hI hl hf
  replace hf := zif_t q hf
  refine lv_iload_n hx hb dX12_adjusts_65 rfl (lv_at hl 1 rfl) ?_
  refine lv_bipush (v := 15) hx hb dX12_adjusts_66 (by decide) ?_
  refine lv_iand hx hb dX12_adjusts_68 ?_
  refine lv_bipush (v := 9) hx hb dX12_adjusts_69 (by decide) ?_
  refine lv_icmp_le (tgt := 78) hx hb dX12_adjusts_71 (by decide) (fun q => ?_) (fun q => ?_)
  · replace hf := zif_t q hf
    refine lv_iconst (v := 0) hx hb dX12_adjusts_78 (by decide) ?_
    refine lv_goto (tgt := 105) hx hb dX12_adjusts_79 (by decide) ?_
    exact bX12_adjusts_105 hC  hI hl hf
  replace hf := zif_f q hf
  refine lv_iconst (v := 1) hx hb dX12_adjusts_74 (by decide) ?_
  refine lv_goto (tgt := 105) hx hb dX12_adjusts_75 (by decide) ?_
  exact bX12_adjusts_105 hC  hI hl hf
set_option maxRecDepth 20000 in
set_option maxHeartbeats 4000000 in
theorem bX12_adjusts_46 {st : Nat → Nat} {p : Program} {l : Launch} {e : Env} {s : State} {m : MethodId} {args : Array Value} {below : List Frame} {meth : Method} {c : Code} {D : va_G} {A : Nat → Prop} {ad : Nat → Nat} {cy : Nat → ClassId} (hC : zC p m c cX12_adjusts 3 s args wzX12_adjusts RX12 meth none)  {res : zSt} {H : Heap} {locs : List Loc} {σ : zSt} {ls : Array Slot} {x1 : Int32} {x2 : Int32} (hI : zI st D (tM cy) (wM ad cy σ) A s H locs) (hl : lv_has ls 3 [(0, .ref (ad 0)), (1, .int x1), (2, .int x2)]) (hf : fX12_adjusts_46  σ x1 x2 = some res) : W p l e rmX12_adjusts s m args below meth c H locs 0 0 (zQu below args s D (tM cy) (wM ad cy) A res) (F0 m 46 ls []) := by
  have hx := hC.1
  have hb := hC.2.1
  unfold fX12_adjusts_46 at hf
  obtain ⟨v13, ev13⟩ : ∃ z : Int32, z = x2 + 96 := ⟨_, rfl⟩
  replace hf := zbv_use ev13 hf
  refine lv_iinc (v := v13) (lv' := [(2, .int v13), (0, .ref (ad 0)), (1, .int x1)]) hx hb dX12_adjusts_46 hl (k := 2) rfl (by rw [ev13]; rfl) (by decide) rfl (fun ls hl => ?_)
  refine lv_aload_n hx hb dX12_adjusts_49 rfl (lv_at hl 1 rfl) ?_
  refine lv_iconst (v := 0) hx hb dX12_adjusts_50 (by decide) ?_
  refine lv_iconst (v := 1) hx hb dX12_adjusts_51 (by decide) ?_
  obtain ⟨σ14, g14, hf⟩ := zbu_use hf
  refine z_callVu (As := [.int 0, .int 1]) (rest := []) hC hI (cX12_put_met st l D ad cy σ 0 1 _ g14) (zgV zw52_13 zw52_14 zw52_15 zw1_5 zw52_16) rfl ⟨rfl, rfl⟩ 2 hdX12_put ⟨Nat.le_of_ble_eq_true rfl, Nat.le_of_ble_eq_true rfl⟩ rfl rfl (wM_e0 ad cy σ) rfl hl rfl (Nat.le_of_ble_eq_true rfl) dX12_adjusts_52 ⟨Nat.zero_le _, Nat.zero_le _⟩ (fun H locs hI => ?_)
  exact bX12_adjusts_55 hC  hI (lv_sub hl [1, 2, 0] rfl) hf
set_option maxRecDepth 20000 in
set_option maxHeartbeats 4000000 in
theorem bX12_adjusts_30 {st : Nat → Nat} {p : Program} {l : Launch} {e : Env} {s : State} {m : MethodId} {args : Array Value} {below : List Frame} {meth : Method} {c : Code} {D : va_G} {A : Nat → Prop} {ad : Nat → Nat} {cy : Nat → ClassId} (hC : zC p m c cX12_adjusts 3 s args wzX12_adjusts RX12 meth none)  {res : zSt} {H : Heap} {locs : List Loc} {σ : zSt} {ls : Array Slot} {x1 : Int32} {x2 : Int32} (hI : zI st D (tM cy) (wM ad cy σ) A s H locs) (hl : lv_has ls 3 [(0, .ref (ad 0)), (1, .int x1), (2, .int x2)]) (hf : fX12_adjusts_30  σ x1 x2 = some res) : W p l e rmX12_adjusts s m args below meth c H locs 0 0 (zQu below args s D (tM cy) (wM ad cy) A res) (F0 m 30 ls []) := by
  have hx := hC.1
  have hb := hC.2.1
  unfold fX12_adjusts_30 at hf
  refine lv_iload_n hx hb dX12_adjusts_30 rfl (lv_at hl 1 rfl) ?_
  refine lv_sipush (v := 153) hx hb dX12_adjusts_31 (by decide) ?_
  refine lv_icmp_gt (tgt := 46) hx hb dX12_adjusts_34 (by decide) (fun q => ?_) (fun q => ?_)
  · replace hf := zif_t q hf
    exact bX12_adjusts_46 hC  hI hl hf
  replace hf := zif_f q hf
  refine lv_aload_n hx hb dX12_adjusts_37 rfl (lv_at hl 0 rfl) ?_
  refine lv_iconst (v := 0) hx hb dX12_adjusts_38 (by decide) ?_
  obtain ⟨σ15, v16, g15, hf⟩ := zbi_use hf
  refine z_callVi (As := [.int 0]) (rest := []) hC hI (cX12_flag_met st l D ad cy σ 0 _ g15) (zgV zw51_1 zw51_2 zw51_3 zw1_5 zw51_4) rfl ⟨rfl, rfl⟩ 1 hdX12_flag ⟨Nat.le_of_ble_eq_true rfl, Nat.le_of_ble_eq_true rfl⟩ rfl rfl (wM_e0 ad cy σ) rfl hl rfl (Nat.le_of_ble_eq_true rfl) dX12_adjusts_39 ⟨Nat.zero_le _, Nat.zero_le _⟩ (fun H locs hI => ?_)
  refine lv_iconst (v := 1) hx hb dX12_adjusts_42 (by decide) ?_
  refine lv_icmp_ne (tgt := 55) hx hb dX12_adjusts_43 (by decide) (fun q => ?_) (fun q => ?_)
  · replace hf := zif_f q hf
    exact bX12_adjusts_55 hC  hI hl hf
  replace hf := zif_t q hf
  exact bX12_adjusts_46 hC  hI hl hf
set_option maxRecDepth 20000 in
set_option maxHeartbeats 4000000 in
theorem bX12_adjusts_27 {st : Nat → Nat} {p : Program} {l : Launch} {e : Env} {s : State} {m : MethodId} {args : Array Value} {below : List Frame} {meth : Method} {c : Code} {D : va_G} {A : Nat → Prop} {ad : Nat → Nat} {cy : Nat → ClassId} (hC : zC p m c cX12_adjusts 3 s args wzX12_adjusts RX12 meth none)  {res : zSt} {H : Heap} {locs : List Loc} {σ : zSt} {ls : Array Slot} {x1 : Int32} {x2 : Int32} (hI : zI st D (tM cy) (wM ad cy σ) A s H locs) (hl : lv_has ls 3 [(0, .ref (ad 0)), (1, .int x1), (2, .int x2)]) (hf : fX12_adjusts_27  σ x1 x2 = some res) : W p l e rmX12_adjusts s m args below meth c H locs 0 0 (zQu below args s D (tM cy) (wM ad cy) A res) (F0 m 27 ls []) := by
  have hx := hC.1
  have hb := hC.2.1
  unfold fX12_adjusts_27 at hf
  obtain ⟨v17, ev17⟩ : ∃ z : Int32, z = x2 + 6 := ⟨_, rfl⟩
  replace hf := zbv_use ev17 hf
  refine lv_iinc (v := v17) (lv' := [(2, .int v17), (0, .ref (ad 0)), (1, .int x1)]) hx hb dX12_adjusts_27 hl (k := 2) rfl (by rw [ev17]; rfl) (by decide) rfl (fun ls hl => ?_)
  exact bX12_adjusts_30 hC  hI (lv_sub hl [1, 2, 0] rfl) hf
set_option maxRecDepth 20000 in
set_option maxHeartbeats 4000000 in
theorem bX12_adjusts {st : Nat → Nat} {p : Program} {l : Launch} {e : Env} {s : State} {m : MethodId} {args : Array Value} {below : List Frame} {meth : Method} {c : Code} {D : va_G} {A : Nat → Prop} {ad : Nat → Nat} {cy : Nat → ClassId} (hC : zC p m c cX12_adjusts 3 s args wzX12_adjusts RX12 meth none)  {res : zSt} {H : Heap} {locs : List Loc} {σ : zSt} {ls : Array Slot}  (hI : zI st D (tM cy) (wM ad cy σ) A s H locs) (hl : lv_has ls 3 [(0, .ref (ad 0))]) (hf : fX12_adjusts  σ  = some res) : W p l e rmX12_adjusts s m args below meth c H locs 0 0 (zQu below args s D (tM cy) (wM ad cy) A res) (F0 m 0 ls []) := by
  have hx := hC.1
  have hb := hC.2.1
  unfold fX12_adjusts at hf
  refine lv_aload_n hx hb dX12_adjusts_0 rfl (lv_at hl 0 rfl) ?_
  refine z_get hC hI hinX12_adjusts_X120 0 (wM_e0 ad cy σ) rfl 10 (by decide) (List.mem_cons_of_mem _ zw9_7) rfl dX12_adjusts_1 ?_
  refine lv_iconst (v := 0) hx hb dX12_adjusts_4 (by decide) ?_
  obtain ⟨q, hf⟩ := zck_use hf
  refine z_iald hC hI 3 2 (wM_e3 ad cy σ) (tM_t3 cy) q dX12_adjusts_5 ?_
  refine lv_topi (fun v18 ev18 => ?_)
  replace hf := zbv_use ev18 hf
  refine lv_istore_n (lv' := [(1, .int v18), (0, .ref (ad 0))]) hx hb dX12_adjusts_6 rfl hl (by decide) rfl (fun ls hl => ?_)
  refine lv_iconst (v := 0) hx hb dX12_adjusts_7 (by decide) ?_
  refine lv_istore_n (lv' := [(2, .int 0), (1, .int v18), (0, .ref (ad 0))]) hx hb dX12_adjusts_8 rfl hl (by decide) rfl (fun ls hl => ?_)
  refine lv_iload_n hx hb dX12_adjusts_9 rfl (lv_at hl 1 rfl) ?_
  refine lv_bipush (v := 15) hx hb dX12_adjusts_10 (by decide) ?_
  refine lv_iand hx hb dX12_adjusts_12 ?_
  refine lv_bipush (v := 9) hx hb dX12_adjusts_13 (by decide) ?_
  refine lv_icmp_gt (tgt := 27) hx hb dX12_adjusts_15 (by decide) (fun q => ?_) (fun q => ?_)
  · replace hf := zif_t q hf
    exact bX12_adjusts_27 hC  hI (lv_sub hl [2, 1, 0] rfl) hf
  replace hf := zif_f q hf
  refine lv_aload_n hx hb dX12_adjusts_18 rfl (lv_at hl 2 rfl) ?_
  refine lv_iconst (v := 4) hx hb dX12_adjusts_19 (by decide) ?_
  obtain ⟨σ19, v20, g19, hf⟩ := zbi_use hf
  refine z_callVi (As := [.int 4]) (rest := []) hC hI (cX12_flag_met st l D ad cy σ 4 _ g19) (zgV zw51_1 zw51_2 zw51_3 zw1_5 zw51_4) rfl ⟨rfl, rfl⟩ 1 hdX12_flag ⟨Nat.le_of_ble_eq_true rfl, Nat.le_of_ble_eq_true rfl⟩ rfl rfl (wM_e0 ad cy σ) rfl hl rfl (Nat.le_of_ble_eq_true rfl) dX12_adjusts_20 ⟨Nat.zero_le _, Nat.zero_le _⟩ (fun H locs hI => ?_)
  refine lv_iconst (v := 1) hx hb dX12_adjusts_23 (by decide) ?_
  refine lv_icmp_ne (tgt := 30) hx hb dX12_adjusts_24 (by decide) (fun q => ?_) (fun q => ?_)
  · replace hf := zif_f q hf
    exact bX12_adjusts_30 hC  hI (lv_sub hl [2, 1, 0] rfl) hf
  replace hf := zif_t q hf
  exact bX12_adjusts_27 hC  hI (lv_sub hl [2, 1, 0] rfl) hf
set_option maxRecDepth 20000 in
theorem cX12_adjusts_met (st : Nat → Nat) (l : Launch) (D : va_G) (ad : Nat → Nat) (cy : Nat → ClassId) (σ : zSt)  (res : zSt) (hf : fX12_adjusts σ  = some res) (sz : Nat) : zMu st l yX12_adjusts wzX12_adjusts rmX12_adjusts [.ref (ad 0)] D (tM cy) (wM ad cy) sz σ res :=
  zMu.of (cc := cX12_adjusts) (maxL := 3) (ret := none) (by decide) rfl (Nat.le_of_ble_eq_true rfl) (fun p e s m args below meth c hC A hI ls hl => bX12_adjusts hC hI hl hf)
theorem hdX12_adjusts : yX12_adjusts.cls = RX12 ∧ yX12_adjusts.cls ≠ "java/lang/invoke/MethodHandle" ∧ yX12_adjusts.cls ≠ "java/lang/invoke/VarHandle" ∧ (parseMethodDescriptor yX12_adjusts.desc).map (fun d => d.parameters.length) = some 0 := by decide +kernel
noncomputable def rmX12_singles : Room := { frames := 4, cells := 0, slots := 0, locals := 86 }
noncomputable def wzX12_singles : List Cond := .code yX12_singles cX12_singles 4 (some .int) :: wsL_law
theorem hinX12_singles_X120 : ∀ w ∈ wsX120, w ∈ wzX12_singles := fun w h => List.mem_cons_of_mem _ (inlX12 w h)
noncomputable def fX12_singles_28  (σ : zSt) (s0 : Int32) : Option (zSt × Int32) :=
  some (σ, s0)
noncomputable def fX12_singles_149  (σ : zSt) (s0 : Int32) : Option (zSt × Int32) :=
  some (σ, s0)
noncomputable def fX12_singles_134  (σ : zSt) (x1 : Int32) (s0 : Int32) (s1 : Int32) : Option (zSt × Int32) :=
  zbu (fX12_put σ s1 s0) (fun σ1 =>
  if x1 = 6 then fX12_singles_149 σ1 11 else
  fX12_singles_149 σ1 4)
noncomputable def fX12_singles_119  (σ : zSt) (x1 : Int32) (x2 : Int32) (s0 : Int32) (s1 : Int32) : Option (zSt × Int32) :=
  zbu (fX12_put σ s1 s0) (fun σ2 =>
  if x2 = 5 then fX12_singles_134 σ2 x1 1 1 else
  fX12_singles_134 σ2 x1 0 1)
noncomputable def fX12_singles_111  (σ : zSt) (x1 : Int32) (x2 : Int32) (s0 : Int32) (s1 : Int32) (s2 : Int32) : Option (zSt × Int32) :=
  if s1 = s0 then fX12_singles_119 σ x1 x2 1 s2 else
  fX12_singles_119 σ x1 x2 0 s2
noncomputable def fX12_singles_92  (σ : zSt) (x1 : Int32) (x2 : Int32) (x3 : Int32) (s0 : Int32) (s1 : Int32) : Option (zSt × Int32) :=
  zbu (fX12_put σ s1 s0) (fun σ3 =>
  if x2 = 4 then fX12_singles_111 σ3 x1 x2 128 x3 2 else
  fX12_singles_111 σ3 x1 x2 127 x3 2)
noncomputable def fX12_singles_84  (σ : zSt) (x1 : Int32) (x2 : Int32) (x3 : Int32) (s0 : Int32) (s1 : Int32) (s2 : Int32) : Option (zSt × Int32) :=
  if s1 = s0 then fX12_singles_92 σ x1 x2 x3 1 s2 else
  fX12_singles_92 σ x1 x2 x3 0 s2
noncomputable def fX12_singles_50  (σ : zSt) (x1 : Int32) (x2 : Int32) (s0 : Int32) (s1 : Int32) : Option (zSt × Int32) :=
  zbv ((s1 + s0) &&& 255) (fun v4 =>
  zbu (fX12_rTo σ x1 v4) (fun σ5 =>
  zbu (fX12_by σ5 v4) (fun σ6 =>
  if x2 = 4 then fX12_singles_84 σ6 x1 x2 v4 0 (v4 &&& 15) 4 else
  fX12_singles_84 σ6 x1 x2 v4 15 (v4 &&& 15) 4)))
noncomputable def fX12_singles_316  (σ : zSt)  : Option (zSt × Int32) :=
  some (σ, 4)
noncomputable def fX12_singles_297  (σ : zSt) (s0 : Int32) (s1 : Int32) : Option (zSt × Int32) :=
  zbu (fX12_put σ s1 s0) (fun σ7 =>
  zbu (fX12_put σ7 1 0) (fun σ8 =>
  zck (zin 0 1048) (
  zbu (fX12_xy σ8 (zgi σ8 3 (0 : Int32).toNatClampNeg)) (fun σ9 =>
  fX12_singles_316 σ9))))
noncomputable def fX12_singles_292  (σ : zSt) (s0 : Int32) : Option (zSt × Int32) :=
  fX12_singles_297 σ 1 s0
noncomputable def fX12_singles_273  (σ : zSt) (x1 : Int32) (s0 : Int32) (s1 : Int32) : Option (zSt × Int32) :=
  zbu (fX12_put σ s1 s0) (fun σ10 =>
  if x1 = 6 then fX12_singles_292 σ10 0 else
  zbi (fX12_flag σ10 0) (fun σ11 v12 =>
  if v12 = 0 then fX12_singles_292 σ11 0 else
  fX12_singles_297 σ11 0 0))
noncomputable def fX12_singles_272  (σ : zSt) (x1 : Int32) (s0 : Int32) : Option (zSt × Int32) :=
  fX12_singles_273 σ x1 0 s0
noncomputable def fX12_singles  (σ : zSt) (x1 : Int32) (x2 : Int32) : Option (zSt × Int32) :=
  if x2 = 6 then zbi (fX12_next σ ) (fun σ28 v29 =>
  zbu (fX12_rTo σ28 x1 v29) (fun σ30 =>
  if x1 = 6 then fX12_singles_28 σ30 10 else
  fX12_singles_28 σ30 7)) else
  if 6 ≤ x2 then if 4 ≤ x1 then if x1 = 4 then zbu (fX12_adjusts σ ) (fun σ19 =>
  fX12_singles_316 σ19) else
  if x1 = 5 then zck (zin 0 1048) (
  zck (zin 0 1048) (zbv (zsi σ 3 ((0 : Int32).toNatClampNeg) ((zgi σ 3 (0 : Int32).toNatClampNeg) ^^^ 255)) (fun σ15 =>
  zbu (fX12_put σ15 4 1) (fun σ16 =>
  zbu (fX12_put σ16 1 1) (fun σ17 =>
  zck (zin 0 1048) (
  zbu (fX12_xy σ17 (zgi σ17 3 (0 : Int32).toNatClampNeg)) (fun σ18 =>
  fX12_singles_316 σ18))))))) else
  if x1 = 7 then zbi (fX12_flag σ 0) (fun σ13 v14 =>
  if v14 = 1 then fX12_singles_273 σ13 x1 1 4 else
  fX12_singles_272 σ13 x1 4) else
  fX12_singles_272 σ x1 4 else
  zck (zin 0 1048) (
  zbi (fX12_turned σ x1 (zgi σ 3 (0 : Int32).toNatClampNeg)) (fun σ20 v21 =>
  zck (zin 0 1048) (zbv (zsi σ20 3 ((0 : Int32).toNatClampNeg) v21) (fun σ22 =>
  zck (zin 0 1048) (
  zbu (fX12_xy σ22 (zgi σ22 3 (0 : Int32).toNatClampNeg)) (fun σ23 =>
  zbu (fX12_put σ23 4 0) (fun σ24 =>
  zbu (fX12_put σ24 1 0) (fun σ25 =>
  fX12_singles_316 σ25)))))))) else
  zbi (fX12_r σ x1) (fun σ26 v27 =>
  if x2 = 4 then fX12_singles_50 σ26 x1 x2 1 v27 else
  fX12_singles_50 σ26 x1 x2 (-1) v27)
set_option maxRecDepth 20000 in
set_option maxHeartbeats 4000000 in
theorem bX12_singles_28 {st : Nat → Nat} {p : Program} {l : Launch} {e : Env} {s : State} {m : MethodId} {args : Array Value} {below : List Frame} {meth : Method} {c : Code} {D : va_G} {A : Nat → Prop} {ad : Nat → Nat} {cy : Nat → ClassId} (hC : zC p m c cX12_singles 4 s args wzX12_singles RX12 meth (some .int))  {res : zSt × Int32} {H : Heap} {locs : List Loc} {σ : zSt} {ls : Array Slot} {s0 : Int32} (hI : zI st D (tM cy) (wM ad cy σ) A s H locs) (hl : lv_has ls 4 []) (hf : fX12_singles_28  σ s0 = some res) : W p l e rmX12_singles s m args below meth c H locs 0 0 (zQi below args s D (tM cy) (wM ad cy) A res) (F0 m 28 ls [.int s0]) := by
  have hx := hC.1
  have hb := hC.2.1
  unfold fX12_singles_28 at hf
  exact z_ireturn hC hI hf dX12_singles_28
set_option maxRecDepth 20000 in
set_option maxHeartbeats 4000000 in
theorem bX12_singles_149 {st : Nat → Nat} {p : Program} {l : Launch} {e : Env} {s : State} {m : MethodId} {args : Array Value} {below : List Frame} {meth : Method} {c : Code} {D : va_G} {A : Nat → Prop} {ad : Nat → Nat} {cy : Nat → ClassId} (hC : zC p m c cX12_singles 4 s args wzX12_singles RX12 meth (some .int))  {res : zSt × Int32} {H : Heap} {locs : List Loc} {σ : zSt} {ls : Array Slot} {s0 : Int32} (hI : zI st D (tM cy) (wM ad cy σ) A s H locs) (hl : lv_has ls 4 []) (hf : fX12_singles_149  σ s0 = some res) : W p l e rmX12_singles s m args below meth c H locs 0 0 (zQi below args s D (tM cy) (wM ad cy) A res) (F0 m 149 ls [.int s0]) := by
  have hx := hC.1
  have hb := hC.2.1
  unfold fX12_singles_149 at hf
  exact z_ireturn hC hI hf dX12_singles_149
set_option maxRecDepth 20000 in
set_option maxHeartbeats 4000000 in
theorem bX12_singles_134 {st : Nat → Nat} {p : Program} {l : Launch} {e : Env} {s : State} {m : MethodId} {args : Array Value} {below : List Frame} {meth : Method} {c : Code} {D : va_G} {A : Nat → Prop} {ad : Nat → Nat} {cy : Nat → ClassId} (hC : zC p m c cX12_singles 4 s args wzX12_singles RX12 meth (some .int))  {res : zSt × Int32} {H : Heap} {locs : List Loc} {σ : zSt} {ls : Array Slot} {x1 : Int32} {s0 : Int32} {s1 : Int32} (hI : zI st D (tM cy) (wM ad cy σ) A s H locs) (hl : lv_has ls 4 [(1, .int x1)]) (hf : fX12_singles_134  σ x1 s0 s1 = some res) : W p l e rmX12_singles s m args below meth c H locs 0 0 (zQi below args s D (tM cy) (wM ad cy) A res) (F0 m 134 ls [.int s0, .int s1, .ref (ad 0)]) := by
  have hx := hC.1
  have hb := hC.2.1
  unfold fX12_singles_134 at hf
  obtain ⟨σ1, g1, hf⟩ := zbu_use hf
  refine z_callVu (As := [.int s1, .int s0]) (rest := []) hC hI (cX12_put_met st l D ad cy σ s1 s0 _ g1) (zgV zw52_13 zw52_14 zw52_15 zw1_5 zw52_16) rfl ⟨rfl, rfl⟩ 2 hdX12_put ⟨Nat.le_of_ble_eq_true rfl, Nat.le_of_ble_eq_true rfl⟩ rfl rfl (wM_e0 ad cy σ) rfl hl rfl (Nat.le_of_ble_eq_true rfl) dX12_singles_134 ⟨Nat.zero_le _, Nat.zero_le _⟩ (fun H locs hI => ?_)
  refine lv_iload_n hx hb dX12_singles_137 rfl (lv_at hl 0 rfl) ?_
  refine lv_bipush (v := 6) hx hb dX12_singles_138 (by decide) ?_
  refine lv_icmp_ne (tgt := 148) hx hb dX12_singles_140 (by decide) (fun q => ?_) (fun q => ?_)
  · replace hf := zif_f q hf
    refine lv_iconst (v := 4) hx hb dX12_singles_148 (by decide) ?_
    exact bX12_singles_149 hC  hI (lv_sub hl [] rfl) hf
  replace hf := zif_t q hf
  refine lv_bipush (v := 11) hx hb dX12_singles_143 (by decide) ?_
  refine lv_goto (tgt := 149) hx hb dX12_singles_145 (by decide) ?_
  exact bX12_singles_149 hC  hI (lv_sub hl [] rfl) hf
set_option maxRecDepth 20000 in
set_option maxHeartbeats 4000000 in
theorem bX12_singles_119 {st : Nat → Nat} {p : Program} {l : Launch} {e : Env} {s : State} {m : MethodId} {args : Array Value} {below : List Frame} {meth : Method} {c : Code} {D : va_G} {A : Nat → Prop} {ad : Nat → Nat} {cy : Nat → ClassId} (hC : zC p m c cX12_singles 4 s args wzX12_singles RX12 meth (some .int))  {res : zSt × Int32} {H : Heap} {locs : List Loc} {σ : zSt} {ls : Array Slot} {x1 : Int32} {x2 : Int32} {s0 : Int32} {s1 : Int32} (hI : zI st D (tM cy) (wM ad cy σ) A s H locs) (hl : lv_has ls 4 [(0, .ref (ad 0)), (1, .int x1), (2, .int x2)]) (hf : fX12_singles_119  σ x1 x2 s0 s1 = some res) : W p l e rmX12_singles s m args below meth c H locs 0 0 (zQi below args s D (tM cy) (wM ad cy) A res) (F0 m 119 ls [.int s0, .int s1, .ref (ad 0)]) := by
  have hx := hC.1
  have hb := hC.2.1
  unfold fX12_singles_119 at hf
  obtain ⟨σ2, g2, hf⟩ := zbu_use hf
  refine z_callVu (As := [.int s1, .int s0]) (rest := []) hC hI (cX12_put_met st l D ad cy σ s1 s0 _ g2) (zgV zw52_13 zw52_14 zw52_15 zw1_5 zw52_16) rfl ⟨rfl, rfl⟩ 2 hdX12_put ⟨Nat.le_of_ble_eq_true rfl, Nat.le_of_ble_eq_true rfl⟩ rfl rfl (wM_e0 ad cy σ) rfl hl rfl (Nat.le_of_ble_eq_true rfl) dX12_singles_119 ⟨Nat.zero_le _, Nat.zero_le _⟩ (fun H locs hI => ?_)
  refine lv_aload_n hx hb dX12_singles_122 rfl (lv_at hl 0 rfl) ?_
  refine lv_iconst (v := 1) hx hb dX12_singles_123 (by decide) ?_
  refine lv_iload_n hx hb dX12_singles_124 rfl (lv_at hl 2 rfl) ?_
  refine lv_iconst (v := 5) hx hb dX12_singles_125 (by decide) ?_
  refine lv_icmp_ne (tgt := 133) hx hb dX12_singles_126 (by decide) (fun q => ?_) (fun q => ?_)
  · replace hf := zif_f q hf
    refine lv_iconst (v := 0) hx hb dX12_singles_133 (by decide) ?_
    exact bX12_singles_134 hC  hI (lv_sub hl [1] rfl) hf
  replace hf := zif_t q hf
  refine lv_iconst (v := 1) hx hb dX12_singles_129 (by decide) ?_
  refine lv_goto (tgt := 134) hx hb dX12_singles_130 (by decide) ?_
  exact bX12_singles_134 hC  hI (lv_sub hl [1] rfl) hf
set_option maxRecDepth 20000 in
set_option maxHeartbeats 4000000 in
theorem bX12_singles_111 {st : Nat → Nat} {p : Program} {l : Launch} {e : Env} {s : State} {m : MethodId} {args : Array Value} {below : List Frame} {meth : Method} {c : Code} {D : va_G} {A : Nat → Prop} {ad : Nat → Nat} {cy : Nat → ClassId} (hC : zC p m c cX12_singles 4 s args wzX12_singles RX12 meth (some .int))  {res : zSt × Int32} {H : Heap} {locs : List Loc} {σ : zSt} {ls : Array Slot} {x1 : Int32} {x2 : Int32} {s0 : Int32} {s1 : Int32} {s2 : Int32} (hI : zI st D (tM cy) (wM ad cy σ) A s H locs) (hl : lv_has ls 4 [(0, .ref (ad 0)), (1, .int x1), (2, .int x2)]) (hf : fX12_singles_111  σ x1 x2 s0 s1 s2 = some res) : W p l e rmX12_singles s m args below meth c H locs 0 0 (zQi below args s D (tM cy) (wM ad cy) A res) (F0 m 111 ls [.int s0, .int s1, .int s2, .ref (ad 0)]) := by
  have hx := hC.1
  have hb := hC.2.1
  unfold fX12_singles_111 at hf
  refine lv_icmp_ne (tgt := 118) hx hb dX12_singles_111 (by decide) (fun q => ?_) (fun q => ?_)
  · replace hf := zif_f q hf
    refine lv_iconst (v := 0) hx hb dX12_singles_118 (by decide) ?_
    exact bX12_singles_119 hC  hI hl hf
  replace hf := zif_t q hf
  refine lv_iconst (v := 1) hx hb dX12_singles_114 (by decide) ?_
  refine lv_goto (tgt := 119) hx hb dX12_singles_115 (by decide) ?_
  exact bX12_singles_119 hC  hI hl hf
set_option maxRecDepth 20000 in
set_option maxHeartbeats 4000000 in
theorem bX12_singles_92 {st : Nat → Nat} {p : Program} {l : Launch} {e : Env} {s : State} {m : MethodId} {args : Array Value} {below : List Frame} {meth : Method} {c : Code} {D : va_G} {A : Nat → Prop} {ad : Nat → Nat} {cy : Nat → ClassId} (hC : zC p m c cX12_singles 4 s args wzX12_singles RX12 meth (some .int))  {res : zSt × Int32} {H : Heap} {locs : List Loc} {σ : zSt} {ls : Array Slot} {x1 : Int32} {x2 : Int32} {x3 : Int32} {s0 : Int32} {s1 : Int32} (hI : zI st D (tM cy) (wM ad cy σ) A s H locs) (hl : lv_has ls 4 [(0, .ref (ad 0)), (1, .int x1), (2, .int x2), (3, .int x3)]) (hf : fX12_singles_92  σ x1 x2 x3 s0 s1 = some res) : W p l e rmX12_singles s m args below meth c H locs 0 0 (zQi below args s D (tM cy) (wM ad cy) A res) (F0 m 92 ls [.int s0, .int s1, .ref (ad 0)]) := by
  have hx := hC.1
  have hb := hC.2.1
  unfold fX12_singles_92 at hf
  obtain ⟨σ3, g3, hf⟩ := zbu_use hf
  refine z_callVu (As := [.int s1, .int s0]) (rest := []) hC hI (cX12_put_met st l D ad cy σ s1 s0 _ g3) (zgV zw52_13 zw52_14 zw52_15 zw1_5 zw52_16) rfl ⟨rfl, rfl⟩ 2 hdX12_put ⟨Nat.le_of_ble_eq_true rfl, Nat.le_of_ble_eq_true rfl⟩ rfl rfl (wM_e0 ad cy σ) rfl hl rfl (Nat.le_of_ble_eq_true rfl) dX12_singles_92 ⟨Nat.zero_le _, Nat.zero_le _⟩ (fun H locs hI => ?_)
  refine lv_aload_n hx hb dX12_singles_95 rfl (lv_at hl 0 rfl) ?_
  refine lv_iconst (v := 2) hx hb dX12_singles_96 (by decide) ?_
  refine lv_iload_n hx hb dX12_singles_97 rfl (lv_at hl 3 rfl) ?_
  refine lv_iload_n hx hb dX12_singles_98 rfl (lv_at hl 2 rfl) ?_
  refine lv_iconst (v := 4) hx hb dX12_singles_99 (by decide) ?_
  refine lv_icmp_ne (tgt := 109) hx hb dX12_singles_100 (by decide) (fun q => ?_) (fun q => ?_)
  · replace hf := zif_f q hf
    refine lv_bipush (v := 127) hx hb dX12_singles_109 (by decide) ?_
    exact bX12_singles_111 hC  hI (lv_sub hl [0, 1, 2] rfl) hf
  replace hf := zif_t q hf
  refine lv_sipush (v := 128) hx hb dX12_singles_103 (by decide) ?_
  refine lv_goto (tgt := 111) hx hb dX12_singles_106 (by decide) ?_
  exact bX12_singles_111 hC  hI (lv_sub hl [0, 1, 2] rfl) hf
set_option maxRecDepth 20000 in
set_option maxHeartbeats 4000000 in
theorem bX12_singles_84 {st : Nat → Nat} {p : Program} {l : Launch} {e : Env} {s : State} {m : MethodId} {args : Array Value} {below : List Frame} {meth : Method} {c : Code} {D : va_G} {A : Nat → Prop} {ad : Nat → Nat} {cy : Nat → ClassId} (hC : zC p m c cX12_singles 4 s args wzX12_singles RX12 meth (some .int))  {res : zSt × Int32} {H : Heap} {locs : List Loc} {σ : zSt} {ls : Array Slot} {x1 : Int32} {x2 : Int32} {x3 : Int32} {s0 : Int32} {s1 : Int32} {s2 : Int32} (hI : zI st D (tM cy) (wM ad cy σ) A s H locs) (hl : lv_has ls 4 [(0, .ref (ad 0)), (1, .int x1), (2, .int x2), (3, .int x3)]) (hf : fX12_singles_84  σ x1 x2 x3 s0 s1 s2 = some res) : W p l e rmX12_singles s m args below meth c H locs 0 0 (zQi below args s D (tM cy) (wM ad cy) A res) (F0 m 84 ls [.int s0, .int s1, .int s2, .ref (ad 0)]) := by
  have hx := hC.1
  have hb := hC.2.1
  unfold fX12_singles_84 at hf
  refine lv_icmp_ne (tgt := 91) hx hb dX12_singles_84 (by decide) (fun q => ?_) (fun q => ?_)
  · replace hf := zif_f q hf
    refine lv_iconst (v := 0) hx hb dX12_singles_91 (by decide) ?_
    exact bX12_singles_92 hC  hI hl hf
  replace hf := zif_t q hf
  refine lv_iconst (v := 1) hx hb dX12_singles_87 (by decide) ?_
  refine lv_goto (tgt := 92) hx hb dX12_singles_88 (by decide) ?_
  exact bX12_singles_92 hC  hI hl hf
set_option maxRecDepth 20000 in
set_option maxHeartbeats 4000000 in
theorem bX12_singles_50 {st : Nat → Nat} {p : Program} {l : Launch} {e : Env} {s : State} {m : MethodId} {args : Array Value} {below : List Frame} {meth : Method} {c : Code} {D : va_G} {A : Nat → Prop} {ad : Nat → Nat} {cy : Nat → ClassId} (hC : zC p m c cX12_singles 4 s args wzX12_singles RX12 meth (some .int))  {res : zSt × Int32} {H : Heap} {locs : List Loc} {σ : zSt} {ls : Array Slot} {x1 : Int32} {x2 : Int32} {s0 : Int32} {s1 : Int32} (hI : zI st D (tM cy) (wM ad cy σ) A s H locs) (hl : lv_has ls 4 [(0, .ref (ad 0)), (1, .int x1), (2, .int x2)]) (hf : fX12_singles_50  σ x1 x2 s0 s1 = some res) : W p l e rmX12_singles s m args below meth c H locs 0 0 (zQi below args s D (tM cy) (wM ad cy) A res) (F0 m 50 ls [.int s0, .int s1]) := by
  have hx := hC.1
  have hb := hC.2.1
  unfold fX12_singles_50 at hf
  refine lv_iadd hx hb dX12_singles_50 ?_
  refine lv_sipush (v := 255) hx hb dX12_singles_51 (by decide) ?_
  refine lv_iand hx hb dX12_singles_54 ?_
  refine lv_topi (fun v4 ev4 => ?_)
  replace hf := zbv_use ev4 hf
  refine lv_istore_n (lv' := [(3, .int v4), (0, .ref (ad 0)), (1, .int x1), (2, .int x2)]) hx hb dX12_singles_55 rfl hl (by decide) rfl (fun ls hl => ?_)
  refine lv_aload_n hx hb dX12_singles_56 rfl (lv_at hl 1 rfl) ?_
  refine lv_iload_n hx hb dX12_singles_57 rfl (lv_at hl 2 rfl) ?_
  refine lv_iload_n hx hb dX12_singles_58 rfl (lv_at hl 0 rfl) ?_
  obtain ⟨σ5, g5, hf⟩ := zbu_use hf
  refine z_callVu (As := [.int x1, .int v4]) (rest := []) hC hI (cX12_rTo_met st l D ad cy σ x1 v4 _ g5) (zgV zw53_9 zw53_10 zw53_11 zw1_5 zw53_12) rfl ⟨rfl, rfl⟩ 2 hdX12_rTo ⟨Nat.le_of_ble_eq_true rfl, Nat.le_of_ble_eq_true rfl⟩ rfl rfl (wM_e0 ad cy σ) rfl hl rfl (Nat.le_of_ble_eq_true rfl) dX12_singles_59 ⟨Nat.zero_le _, Nat.zero_le _⟩ (fun H locs hI => ?_)
  refine lv_aload_n hx hb dX12_singles_62 rfl (lv_at hl 1 rfl) ?_
  refine lv_iload_n hx hb dX12_singles_63 rfl (lv_at hl 0 rfl) ?_
  obtain ⟨σ6, g6, hf⟩ := zbu_use hf
  refine z_callVu (As := [.int v4]) (rest := []) hC hI (cX12_by_met st l D ad cy σ5 v4 _ g6) (zgV zw53_22 zw53_23 zw54_0 zw1_5 zw54_1) rfl ⟨rfl, rfl⟩ 1 hdX12_by ⟨Nat.le_of_ble_eq_true rfl, Nat.le_of_ble_eq_true rfl⟩ rfl rfl (wM_e0 ad cy σ5) rfl hl rfl (Nat.le_of_ble_eq_true rfl) dX12_singles_64 ⟨Nat.zero_le _, Nat.zero_le _⟩ (fun H locs hI => ?_)
  refine lv_aload_n hx hb dX12_singles_67 rfl (lv_at hl 1 rfl) ?_
  refine lv_iconst (v := 4) hx hb dX12_singles_68 (by decide) ?_
  refine lv_iload_n hx hb dX12_singles_69 rfl (lv_at hl 0 rfl) ?_
  refine lv_bipush (v := 15) hx hb dX12_singles_70 (by decide) ?_
  refine lv_iand hx hb dX12_singles_72 ?_
  refine lv_iload_n hx hb dX12_singles_73 rfl (lv_at hl 3 rfl) ?_
  refine lv_iconst (v := 4) hx hb dX12_singles_74 (by decide) ?_
  refine lv_icmp_ne (tgt := 82) hx hb dX12_singles_75 (by decide) (fun q => ?_) (fun q => ?_)
  · replace hf := zif_f q hf
    refine lv_bipush (v := 15) hx hb dX12_singles_82 (by decide) ?_
    exact bX12_singles_84 hC  hI (lv_sub hl [1, 2, 3, 0] rfl) hf
  replace hf := zif_t q hf
  refine lv_iconst (v := 0) hx hb dX12_singles_78 (by decide) ?_
  refine lv_goto (tgt := 84) hx hb dX12_singles_79 (by decide) ?_
  exact bX12_singles_84 hC  hI (lv_sub hl [1, 2, 3, 0] rfl) hf
set_option maxRecDepth 20000 in
set_option maxHeartbeats 4000000 in
theorem bX12_singles_316 {st : Nat → Nat} {p : Program} {l : Launch} {e : Env} {s : State} {m : MethodId} {args : Array Value} {below : List Frame} {meth : Method} {c : Code} {D : va_G} {A : Nat → Prop} {ad : Nat → Nat} {cy : Nat → ClassId} (hC : zC p m c cX12_singles 4 s args wzX12_singles RX12 meth (some .int))  {res : zSt × Int32} {H : Heap} {locs : List Loc} {σ : zSt} {ls : Array Slot}  (hI : zI st D (tM cy) (wM ad cy σ) A s H locs) (hl : lv_has ls 4 []) (hf : fX12_singles_316  σ  = some res) : W p l e rmX12_singles s m args below meth c H locs 0 0 (zQi below args s D (tM cy) (wM ad cy) A res) (F0 m 316 ls []) := by
  have hx := hC.1
  have hb := hC.2.1
  unfold fX12_singles_316 at hf
  refine lv_iconst (v := 4) hx hb dX12_singles_316 (by decide) ?_
  exact z_ireturn hC hI hf dX12_singles_317
set_option maxRecDepth 20000 in
set_option maxHeartbeats 4000000 in
theorem bX12_singles_297 {st : Nat → Nat} {p : Program} {l : Launch} {e : Env} {s : State} {m : MethodId} {args : Array Value} {below : List Frame} {meth : Method} {c : Code} {D : va_G} {A : Nat → Prop} {ad : Nat → Nat} {cy : Nat → ClassId} (hC : zC p m c cX12_singles 4 s args wzX12_singles RX12 meth (some .int))  {res : zSt × Int32} {H : Heap} {locs : List Loc} {σ : zSt} {ls : Array Slot} {s0 : Int32} {s1 : Int32} (hI : zI st D (tM cy) (wM ad cy σ) A s H locs) (hl : lv_has ls 4 [(0, .ref (ad 0))]) (hf : fX12_singles_297  σ s0 s1 = some res) : W p l e rmX12_singles s m args below meth c H locs 0 0 (zQi below args s D (tM cy) (wM ad cy) A res) (F0 m 297 ls [.int s0, .int s1, .ref (ad 0)]) := by
  have hx := hC.1
  have hb := hC.2.1
  unfold fX12_singles_297 at hf
  obtain ⟨σ7, g7, hf⟩ := zbu_use hf
  refine z_callVu (As := [.int s1, .int s0]) (rest := []) hC hI (cX12_put_met st l D ad cy σ s1 s0 _ g7) (zgV zw52_13 zw52_14 zw52_15 zw1_5 zw52_16) rfl ⟨rfl, rfl⟩ 2 hdX12_put ⟨Nat.le_of_ble_eq_true rfl, Nat.le_of_ble_eq_true rfl⟩ rfl rfl (wM_e0 ad cy σ) rfl hl rfl (Nat.le_of_ble_eq_true rfl) dX12_singles_297 ⟨Nat.zero_le _, Nat.zero_le _⟩ (fun H locs hI => ?_)
  refine lv_aload_n hx hb dX12_singles_300 rfl (lv_at hl 0 rfl) ?_
  refine lv_iconst (v := 1) hx hb dX12_singles_301 (by decide) ?_
  refine lv_iconst (v := 0) hx hb dX12_singles_302 (by decide) ?_
  obtain ⟨σ8, g8, hf⟩ := zbu_use hf
  refine z_callVu (As := [.int 1, .int 0]) (rest := []) hC hI (cX12_put_met st l D ad cy σ7 1 0 _ g8) (zgV zw52_13 zw52_14 zw52_15 zw1_5 zw52_16) rfl ⟨rfl, rfl⟩ 2 hdX12_put ⟨Nat.le_of_ble_eq_true rfl, Nat.le_of_ble_eq_true rfl⟩ rfl rfl (wM_e0 ad cy σ7) rfl hl rfl (Nat.le_of_ble_eq_true rfl) dX12_singles_303 ⟨Nat.zero_le _, Nat.zero_le _⟩ (fun H locs hI => ?_)
  refine lv_aload_n hx hb dX12_singles_306 rfl (lv_at hl 0 rfl) ?_
  refine lv_aload_n hx hb dX12_singles_307 rfl (lv_at hl 0 rfl) ?_
  refine z_get hC hI hinX12_singles_X120 0 (wM_e0 ad cy σ8) rfl 10 (by decide) (List.mem_cons_of_mem _ zw9_7) rfl dX12_singles_308 ?_
  refine lv_iconst (v := 0) hx hb dX12_singles_311 (by decide) ?_
  obtain ⟨q, hf⟩ := zck_use hf
  refine z_iald hC hI 3 2 (wM_e3 ad cy σ8) (tM_t3 cy) q dX12_singles_312 ?_
  obtain ⟨σ9, g9, hf⟩ := zbu_use hf
  refine z_callVu (As := [.int (zgi σ8 3 (0 : Int32).toNatClampNeg)]) (rest := []) hC hI (cX12_xy_met st l D ad cy σ8 (zgi σ8 3 (0 : Int32).toNatClampNeg) _ g9) (zgV zw52_17 zw52_18 zw52_19 zw1_5 zw52_20) rfl ⟨rfl, rfl⟩ 1 hdX12_xy ⟨Nat.le_of_ble_eq_true rfl, Nat.le_of_ble_eq_true rfl⟩ rfl rfl (wM_e0 ad cy σ8) rfl hl rfl (Nat.le_of_ble_eq_true rfl) dX12_singles_313 ⟨Nat.zero_le _, Nat.zero_le _⟩ (fun H locs hI => ?_)
  exact bX12_singles_316 hC  hI (lv_sub hl [] rfl) hf
set_option maxRecDepth 20000 in
set_option maxHeartbeats 4000000 in
theorem bX12_singles_292 {st : Nat → Nat} {p : Program} {l : Launch} {e : Env} {s : State} {m : MethodId} {args : Array Value} {below : List Frame} {meth : Method} {c : Code} {D : va_G} {A : Nat → Prop} {ad : Nat → Nat} {cy : Nat → ClassId} (hC : zC p m c cX12_singles 4 s args wzX12_singles RX12 meth (some .int))  {res : zSt × Int32} {H : Heap} {locs : List Loc} {σ : zSt} {ls : Array Slot} {s0 : Int32} (hI : zI st D (tM cy) (wM ad cy σ) A s H locs) (hl : lv_has ls 4 [(0, .ref (ad 0))]) (hf : fX12_singles_292  σ s0 = some res) : W p l e rmX12_singles s m args below meth c H locs 0 0 (zQi below args s D (tM cy) (wM ad cy) A res) (F0 m 292 ls [.int s0, .ref (ad 0)]) := by
  have hx := hC.1
  have hb := hC.2.1
  unfold fX12_singles_292 at hf
  refine lv_iconst (v := 1) hx hb dX12_singles_292 (by decide) ?_
  refine lv_goto (tgt := 297) hx hb dX12_singles_293 (by decide) ?_
  exact bX12_singles_297 hC  hI hl hf
set_option maxRecDepth 20000 in
set_option maxHeartbeats 4000000 in
theorem bX12_singles_273 {st : Nat → Nat} {p : Program} {l : Launch} {e : Env} {s : State} {m : MethodId} {args : Array Value} {below : List Frame} {meth : Method} {c : Code} {D : va_G} {A : Nat → Prop} {ad : Nat → Nat} {cy : Nat → ClassId} (hC : zC p m c cX12_singles 4 s args wzX12_singles RX12 meth (some .int))  {res : zSt × Int32} {H : Heap} {locs : List Loc} {σ : zSt} {ls : Array Slot} {x1 : Int32} {s0 : Int32} {s1 : Int32} (hI : zI st D (tM cy) (wM ad cy σ) A s H locs) (hl : lv_has ls 4 [(0, .ref (ad 0)), (1, .int x1)]) (hf : fX12_singles_273  σ x1 s0 s1 = some res) : W p l e rmX12_singles s m args below meth c H locs 0 0 (zQi below args s D (tM cy) (wM ad cy) A res) (F0 m 273 ls [.int s0, .int s1, .ref (ad 0)]) := by
  have hx := hC.1
  have hb := hC.2.1
  unfold fX12_singles_273 at hf
  obtain ⟨σ10, g10, hf⟩ := zbu_use hf
  refine z_callVu (As := [.int s1, .int s0]) (rest := []) hC hI (cX12_put_met st l D ad cy σ s1 s0 _ g10) (zgV zw52_13 zw52_14 zw52_15 zw1_5 zw52_16) rfl ⟨rfl, rfl⟩ 2 hdX12_put ⟨Nat.le_of_ble_eq_true rfl, Nat.le_of_ble_eq_true rfl⟩ rfl rfl (wM_e0 ad cy σ) rfl hl rfl (Nat.le_of_ble_eq_true rfl) dX12_singles_273 ⟨Nat.zero_le _, Nat.zero_le _⟩ (fun H locs hI => ?_)
  refine lv_aload_n hx hb dX12_singles_276 rfl (lv_at hl 0 rfl) ?_
  refine lv_iconst (v := 0) hx hb dX12_singles_277 (by decide) ?_
  refine lv_iload_n hx hb dX12_singles_278 rfl (lv_at hl 1 rfl) ?_
  refine lv_bipush (v := 6) hx hb dX12_singles_279 (by decide) ?_
  refine lv_icmp_eq (tgt := 292) hx hb dX12_singles_281 (by decide) (fun q => ?_) (fun q => ?_)
  · replace hf := zif_t q hf
    exact bX12_singles_292 hC  hI (lv_sub hl [0] rfl) hf
  replace hf := zif_f q hf
  refine lv_aload_n hx hb dX12_singles_284 rfl (lv_at hl 0 rfl) ?_
  refine lv_iconst (v := 0) hx hb dX12_singles_285 (by decide) ?_
  obtain ⟨σ11, v12, g11, hf⟩ := zbi_use hf
  refine z_callVi (As := [.int 0]) (rest := [.int 0, .ref (ad 0)]) hC hI (cX12_flag_met st l D ad cy σ10 0 _ g11) (zgV zw51_1 zw51_2 zw51_3 zw1_5 zw51_4) rfl ⟨rfl, rfl⟩ 1 hdX12_flag ⟨Nat.le_of_ble_eq_true rfl, Nat.le_of_ble_eq_true rfl⟩ rfl rfl (wM_e0 ad cy σ10) rfl hl rfl (Nat.le_of_ble_eq_true rfl) dX12_singles_286 ⟨Nat.zero_le _, Nat.zero_le _⟩ (fun H locs hI => ?_)
  refine lv_if_ne (tgt := 296) hx hb dX12_singles_289 (by decide) (fun q => ?_) (fun q => ?_)
  · replace hf := zif_f q hf
    refine lv_iconst (v := 0) hx hb dX12_singles_296 (by decide) ?_
    exact bX12_singles_297 hC  hI (lv_sub hl [0] rfl) hf
  replace hf := zif_t q hf
  exact bX12_singles_292 hC  hI (lv_sub hl [0] rfl) hf
set_option maxRecDepth 20000 in
set_option maxHeartbeats 4000000 in
theorem bX12_singles_272 {st : Nat → Nat} {p : Program} {l : Launch} {e : Env} {s : State} {m : MethodId} {args : Array Value} {below : List Frame} {meth : Method} {c : Code} {D : va_G} {A : Nat → Prop} {ad : Nat → Nat} {cy : Nat → ClassId} (hC : zC p m c cX12_singles 4 s args wzX12_singles RX12 meth (some .int))  {res : zSt × Int32} {H : Heap} {locs : List Loc} {σ : zSt} {ls : Array Slot} {x1 : Int32} {s0 : Int32} (hI : zI st D (tM cy) (wM ad cy σ) A s H locs) (hl : lv_has ls 4 [(0, .ref (ad 0)), (1, .int x1)]) (hf : fX12_singles_272  σ x1 s0 = some res) : W p l e rmX12_singles s m args below meth c H locs 0 0 (zQi below args s D (tM cy) (wM ad cy) A res) (F0 m 272 ls [.int s0, .ref (ad 0)]) := by
  have hx := hC.1
  have hb := hC.2.1
  unfold fX12_singles_272 at hf
  refine lv_iconst (v := 0) hx hb dX12_singles_272 (by decide) ?_
  exact bX12_singles_273 hC  hI hl hf
set_option maxRecDepth 20000 in
set_option maxHeartbeats 4000000 in
theorem bX12_singles {st : Nat → Nat} {p : Program} {l : Launch} {e : Env} {s : State} {m : MethodId} {args : Array Value} {below : List Frame} {meth : Method} {c : Code} {D : va_G} {A : Nat → Prop} {ad : Nat → Nat} {cy : Nat → ClassId} (hC : zC p m c cX12_singles 4 s args wzX12_singles RX12 meth (some .int))  {res : zSt × Int32} {H : Heap} {locs : List Loc} {σ : zSt} {ls : Array Slot} {x1 : Int32} {x2 : Int32} (hI : zI st D (tM cy) (wM ad cy σ) A s H locs) (hl : lv_has ls 4 [(0, .ref (ad 0)), (1, .int x1), (2, .int x2)]) (hf : fX12_singles  σ x1 x2 = some res) : W p l e rmX12_singles s m args below meth c H locs 0 0 (zQi below args s D (tM cy) (wM ad cy) A res) (F0 m 0 ls []) := by
  have hx := hC.1
  have hb := hC.2.1
  unfold fX12_singles at hf
  refine lv_iload_n hx hb dX12_singles_0 rfl (lv_at hl 2 rfl) ?_
  refine lv_bipush (v := 6) hx hb dX12_singles_1 (by decide) ?_
  refine lv_icmp_ne (tgt := 29) hx hb dX12_singles_3 (by decide) (fun q => ?_) (fun q => ?_)
  · replace hf := zif_f q hf
    refine lv_iload_n hx hb dX12_singles_29 rfl (lv_at hl 2 rfl) ?_
    refine lv_bipush (v := 6) hx hb dX12_singles_30 (by decide) ?_
    refine lv_icmp_ge (tgt := 150) hx hb dX12_singles_32 (by decide) (fun q => ?_) (fun q => ?_)
    · replace hf := zif_t q hf
      refine lv_iload_n hx hb dX12_singles_150 rfl (lv_at hl 1 rfl) ?_
      refine lv_iconst (v := 4) hx hb dX12_singles_151 (by decide) ?_
      refine lv_icmp_ge (tgt := 197) hx hb dX12_singles_152 (by decide) (fun q => ?_) (fun q => ?_)
      · replace hf := zif_t q hf
        refine lv_iload_n hx hb dX12_singles_197 rfl (lv_at hl 1 rfl) ?_
        refine lv_iconst (v := 4) hx hb dX12_singles_198 (by decide) ?_
        refine lv_icmp_ne (tgt := 209) hx hb dX12_singles_199 (by decide) (fun q => ?_) (fun q => ?_)
        · replace hf := zif_f q hf
          refine lv_iload_n hx hb dX12_singles_209 rfl (lv_at hl 1 rfl) ?_
          refine lv_iconst (v := 5) hx hb dX12_singles_210 (by decide) ?_
          refine lv_icmp_ne (tgt := 251) hx hb dX12_singles_211 (by decide) (fun q => ?_) (fun q => ?_)
          · replace hf := zif_f q hf
            refine lv_aload_n hx hb dX12_singles_251 rfl (lv_at hl 0 rfl) ?_
            refine lv_iconst (v := 4) hx hb dX12_singles_252 (by decide) ?_
            refine lv_iload_n hx hb dX12_singles_253 rfl (lv_at hl 1 rfl) ?_
            refine lv_bipush (v := 7) hx hb dX12_singles_254 (by decide) ?_
            refine lv_icmp_ne (tgt := 272) hx hb dX12_singles_256 (by decide) (fun q => ?_) (fun q => ?_)
            · replace hf := zif_f q hf
              exact bX12_singles_272 hC  hI (lv_sub hl [0, 1] rfl) hf
            replace hf := zif_t q hf
            refine lv_aload_n hx hb dX12_singles_259 rfl (lv_at hl 0 rfl) ?_
            refine lv_iconst (v := 0) hx hb dX12_singles_260 (by decide) ?_
            obtain ⟨σ13, v14, g13, hf⟩ := zbi_use hf
            refine z_callVi (As := [.int 0]) (rest := [.int 4, .ref (ad 0)]) hC hI (cX12_flag_met st l D ad cy σ 0 _ g13) (zgV zw51_1 zw51_2 zw51_3 zw1_5 zw51_4) rfl ⟨rfl, rfl⟩ 1 hdX12_flag ⟨Nat.le_of_ble_eq_true rfl, Nat.le_of_ble_eq_true rfl⟩ rfl rfl (wM_e0 ad cy σ) rfl hl rfl (Nat.le_of_ble_eq_true rfl) dX12_singles_261 ⟨Nat.zero_le _, Nat.zero_le _⟩ (fun H locs hI => ?_)
            refine lv_iconst (v := 1) hx hb dX12_singles_264 (by decide) ?_
            refine lv_icmp_ne (tgt := 272) hx hb dX12_singles_265 (by decide) (fun q => ?_) (fun q => ?_)
            · replace hf := zif_f q hf
              exact bX12_singles_272 hC  hI (lv_sub hl [0, 1] rfl) hf
            replace hf := zif_t q hf
            refine lv_iconst (v := 1) hx hb dX12_singles_268 (by decide) ?_
            refine lv_goto (tgt := 273) hx hb dX12_singles_269 (by decide) ?_
            exact bX12_singles_273 hC  hI (lv_sub hl [0, 1] rfl) hf
          replace hf := zif_t q hf
          refine lv_aload_n hx hb dX12_singles_214 rfl (lv_at hl 0 rfl) ?_
          refine z_get hC hI hinX12_singles_X120 0 (wM_e0 ad cy σ) rfl 10 (by decide) (List.mem_cons_of_mem _ zw9_7) rfl dX12_singles_215 ?_
          refine lv_iconst (v := 0) hx hb dX12_singles_218 (by decide) ?_
          refine lv_dup2_11 hx hb dX12_singles_219 rfl rfl ?_
          obtain ⟨q, hf⟩ := zck_use hf
          refine z_iald hC hI 3 2 (wM_e3 ad cy σ) (tM_t3 cy) q dX12_singles_220 ?_
          refine lv_sipush (v := 255) hx hb dX12_singles_221 (by decide) ?_
          refine lv_ixor hx hb dX12_singles_224 ?_
          obtain ⟨q, hf⟩ := zck_use hf
          obtain ⟨σ15, eσ15⟩ : ∃ z, z = zsi σ 3 ((0 : Int32).toNatClampNeg) ((zgi σ 3 (0 : Int32).toNatClampNeg) ^^^ 255) := ⟨_, rfl⟩
          replace hf := zbv_use eσ15 hf
          refine z_iast hC hI 3 2 (wM_e3 ad cy σ) (tM_t3 cy) q ((wM_s3 ad cy σ _ _).trans (congrArg (wM ad cy) eσ15.symm)) dX12_singles_225 (fun H locs hI => ?_)
          refine lv_aload_n hx hb dX12_singles_226 rfl (lv_at hl 0 rfl) ?_
          refine lv_iconst (v := 4) hx hb dX12_singles_227 (by decide) ?_
          refine lv_iconst (v := 1) hx hb dX12_singles_228 (by decide) ?_
          obtain ⟨σ16, g16, hf⟩ := zbu_use hf
          refine z_callVu (As := [.int 4, .int 1]) (rest := []) hC hI (cX12_put_met st l D ad cy σ15 4 1 _ g16) (zgV zw52_13 zw52_14 zw52_15 zw1_5 zw52_16) rfl ⟨rfl, rfl⟩ 2 hdX12_put ⟨Nat.le_of_ble_eq_true rfl, Nat.le_of_ble_eq_true rfl⟩ rfl rfl (wM_e0 ad cy σ15) rfl hl rfl (Nat.le_of_ble_eq_true rfl) dX12_singles_229 ⟨Nat.zero_le _, Nat.zero_le _⟩ (fun H locs hI => ?_)
          refine lv_aload_n hx hb dX12_singles_232 rfl (lv_at hl 0 rfl) ?_
          refine lv_iconst (v := 1) hx hb dX12_singles_233 (by decide) ?_
          refine lv_iconst (v := 1) hx hb dX12_singles_234 (by decide) ?_
          obtain ⟨σ17, g17, hf⟩ := zbu_use hf
          refine z_callVu (As := [.int 1, .int 1]) (rest := []) hC hI (cX12_put_met st l D ad cy σ16 1 1 _ g17) (zgV zw52_13 zw52_14 zw52_15 zw1_5 zw52_16) rfl ⟨rfl, rfl⟩ 2 hdX12_put ⟨Nat.le_of_ble_eq_true rfl, Nat.le_of_ble_eq_true rfl⟩ rfl rfl (wM_e0 ad cy σ16) rfl hl rfl (Nat.le_of_ble_eq_true rfl) dX12_singles_235 ⟨Nat.zero_le _, Nat.zero_le _⟩ (fun H locs hI => ?_)
          refine lv_aload_n hx hb dX12_singles_238 rfl (lv_at hl 0 rfl) ?_
          refine lv_aload_n hx hb dX12_singles_239 rfl (lv_at hl 0 rfl) ?_
          refine z_get hC hI hinX12_singles_X120 0 (wM_e0 ad cy σ17) rfl 10 (by decide) (List.mem_cons_of_mem _ zw9_7) rfl dX12_singles_240 ?_
          refine lv_iconst (v := 0) hx hb dX12_singles_243 (by decide) ?_
          obtain ⟨q, hf⟩ := zck_use hf
          refine z_iald hC hI 3 2 (wM_e3 ad cy σ17) (tM_t3 cy) q dX12_singles_244 ?_
          obtain ⟨σ18, g18, hf⟩ := zbu_use hf
          refine z_callVu (As := [.int (zgi σ17 3 (0 : Int32).toNatClampNeg)]) (rest := []) hC hI (cX12_xy_met st l D ad cy σ17 (zgi σ17 3 (0 : Int32).toNatClampNeg) _ g18) (zgV zw52_17 zw52_18 zw52_19 zw1_5 zw52_20) rfl ⟨rfl, rfl⟩ 1 hdX12_xy ⟨Nat.le_of_ble_eq_true rfl, Nat.le_of_ble_eq_true rfl⟩ rfl rfl (wM_e0 ad cy σ17) rfl hl rfl (Nat.le_of_ble_eq_true rfl) dX12_singles_245 ⟨Nat.zero_le _, Nat.zero_le _⟩ (fun H locs hI => ?_)
          refine lv_goto (tgt := 316) hx hb dX12_singles_248 (by decide) ?_
          exact bX12_singles_316 hC  hI (lv_sub hl [] rfl) hf
        replace hf := zif_t q hf
        refine lv_aload_n hx hb dX12_singles_202 rfl (lv_at hl 0 rfl) ?_
        obtain ⟨σ19, g19, hf⟩ := zbu_use hf
        refine z_callVu (As := []) (rest := []) hC hI (cX12_adjusts_met st l D ad cy σ  _ g19) (zgV zw54_6 zw54_7 zw54_8 zw1_5 zw54_9) rfl ⟨rfl, rfl⟩ 0 hdX12_adjusts ⟨Nat.le_of_ble_eq_true rfl, Nat.le_of_ble_eq_true rfl⟩ rfl rfl (wM_e0 ad cy σ) rfl hl rfl (Nat.le_of_ble_eq_true rfl) dX12_singles_203 ⟨Nat.zero_le _, Nat.zero_le _⟩ (fun H locs hI => ?_)
        refine lv_goto (tgt := 316) hx hb dX12_singles_206 (by decide) ?_
        exact bX12_singles_316 hC  hI (lv_sub hl [] rfl) hf
      replace hf := zif_f q hf
      refine lv_aload_n hx hb dX12_singles_155 rfl (lv_at hl 0 rfl) ?_
      refine z_get hC hI hinX12_singles_X120 0 (wM_e0 ad cy σ) rfl 10 (by decide) (List.mem_cons_of_mem _ zw9_7) rfl dX12_singles_156 ?_
      refine lv_iconst (v := 0) hx hb dX12_singles_159 (by decide) ?_
      refine lv_aload_n hx hb dX12_singles_160 rfl (lv_at hl 0 rfl) ?_
      refine lv_iload_n hx hb dX12_singles_161 rfl (lv_at hl 1 rfl) ?_
      refine lv_aload_n hx hb dX12_singles_162 rfl (lv_at hl 0 rfl) ?_
      refine z_get hC hI hinX12_singles_X120 0 (wM_e0 ad cy σ) rfl 10 (by decide) (List.mem_cons_of_mem _ zw9_7) rfl dX12_singles_163 ?_
      refine lv_iconst (v := 0) hx hb dX12_singles_166 (by decide) ?_
      obtain ⟨q, hf⟩ := zck_use hf
      refine z_iald hC hI 3 2 (wM_e3 ad cy σ) (tM_t3 cy) q dX12_singles_167 ?_
      obtain ⟨σ20, v21, g20, hf⟩ := zbi_use hf
      refine z_callVi (As := [.int x1, .int (zgi σ 3 (0 : Int32).toNatClampNeg)]) (rest := [.int 0, .ref (ad 3)]) hC hI (cX12_turned_met st l D ad cy σ x1 (zgi σ 3 (0 : Int32).toNatClampNeg) _ g20) (zgV zw54_2 zw54_3 zw54_4 zw1_5 zw54_5) rfl ⟨rfl, rfl⟩ 2 hdX12_turned ⟨Nat.le_of_ble_eq_true rfl, Nat.le_of_ble_eq_true rfl⟩ rfl rfl (wM_e0 ad cy σ) rfl hl rfl (Nat.le_of_ble_eq_true rfl) dX12_singles_168 ⟨Nat.zero_le _, Nat.zero_le _⟩ (fun H locs hI => ?_)
      obtain ⟨q, hf⟩ := zck_use hf
      obtain ⟨σ22, eσ22⟩ : ∃ z, z = zsi σ20 3 ((0 : Int32).toNatClampNeg) v21 := ⟨_, rfl⟩
      replace hf := zbv_use eσ22 hf
      refine z_iast hC hI 3 2 (wM_e3 ad cy σ20) (tM_t3 cy) q ((wM_s3 ad cy σ20 _ _).trans (congrArg (wM ad cy) eσ22.symm)) dX12_singles_171 (fun H locs hI => ?_)
      refine lv_aload_n hx hb dX12_singles_172 rfl (lv_at hl 0 rfl) ?_
      refine lv_aload_n hx hb dX12_singles_173 rfl (lv_at hl 0 rfl) ?_
      refine z_get hC hI hinX12_singles_X120 0 (wM_e0 ad cy σ22) rfl 10 (by decide) (List.mem_cons_of_mem _ zw9_7) rfl dX12_singles_174 ?_
      refine lv_iconst (v := 0) hx hb dX12_singles_177 (by decide) ?_
      obtain ⟨q, hf⟩ := zck_use hf
      refine z_iald hC hI 3 2 (wM_e3 ad cy σ22) (tM_t3 cy) q dX12_singles_178 ?_
      obtain ⟨σ23, g23, hf⟩ := zbu_use hf
      refine z_callVu (As := [.int (zgi σ22 3 (0 : Int32).toNatClampNeg)]) (rest := []) hC hI (cX12_xy_met st l D ad cy σ22 (zgi σ22 3 (0 : Int32).toNatClampNeg) _ g23) (zgV zw52_17 zw52_18 zw52_19 zw1_5 zw52_20) rfl ⟨rfl, rfl⟩ 1 hdX12_xy ⟨Nat.le_of_ble_eq_true rfl, Nat.le_of_ble_eq_true rfl⟩ rfl rfl (wM_e0 ad cy σ22) rfl hl rfl (Nat.le_of_ble_eq_true rfl) dX12_singles_179 ⟨Nat.zero_le _, Nat.zero_le _⟩ (fun H locs hI => ?_)
      refine lv_aload_n hx hb dX12_singles_182 rfl (lv_at hl 0 rfl) ?_
      refine lv_iconst (v := 4) hx hb dX12_singles_183 (by decide) ?_
      refine lv_iconst (v := 0) hx hb dX12_singles_184 (by decide) ?_
      obtain ⟨σ24, g24, hf⟩ := zbu_use hf
      refine z_callVu (As := [.int 4, .int 0]) (rest := []) hC hI (cX12_put_met st l D ad cy σ23 4 0 _ g24) (zgV zw52_13 zw52_14 zw52_15 zw1_5 zw52_16) rfl ⟨rfl, rfl⟩ 2 hdX12_put ⟨Nat.le_of_ble_eq_true rfl, Nat.le_of_ble_eq_true rfl⟩ rfl rfl (wM_e0 ad cy σ23) rfl hl rfl (Nat.le_of_ble_eq_true rfl) dX12_singles_185 ⟨Nat.zero_le _, Nat.zero_le _⟩ (fun H locs hI => ?_)
      refine lv_aload_n hx hb dX12_singles_188 rfl (lv_at hl 0 rfl) ?_
      refine lv_iconst (v := 1) hx hb dX12_singles_189 (by decide) ?_
      refine lv_iconst (v := 0) hx hb dX12_singles_190 (by decide) ?_
      obtain ⟨σ25, g25, hf⟩ := zbu_use hf
      refine z_callVu (As := [.int 1, .int 0]) (rest := []) hC hI (cX12_put_met st l D ad cy σ24 1 0 _ g25) (zgV zw52_13 zw52_14 zw52_15 zw1_5 zw52_16) rfl ⟨rfl, rfl⟩ 2 hdX12_put ⟨Nat.le_of_ble_eq_true rfl, Nat.le_of_ble_eq_true rfl⟩ rfl rfl (wM_e0 ad cy σ24) rfl hl rfl (Nat.le_of_ble_eq_true rfl) dX12_singles_191 ⟨Nat.zero_le _, Nat.zero_le _⟩ (fun H locs hI => ?_)
      refine lv_goto (tgt := 316) hx hb dX12_singles_194 (by decide) ?_
      exact bX12_singles_316 hC  hI (lv_sub hl [] rfl) hf
    replace hf := zif_f q hf
    refine lv_aload_n hx hb dX12_singles_35 rfl (lv_at hl 0 rfl) ?_
    refine lv_iload_n hx hb dX12_singles_36 rfl (lv_at hl 1 rfl) ?_
    obtain ⟨σ26, v27, g26, hf⟩ := zbi_use hf
    refine z_callVi (As := [.int x1]) (rest := []) hC hI (cX12_r_met st l D ad cy σ x1 _ g26) (zgV zw53_18 zw53_19 zw53_20 zw1_5 zw53_21) rfl ⟨rfl, rfl⟩ 1 hdX12_r ⟨Nat.le_of_ble_eq_true rfl, Nat.le_of_ble_eq_true rfl⟩ rfl rfl (wM_e0 ad cy σ) rfl hl rfl (Nat.le_of_ble_eq_true rfl) dX12_singles_37 ⟨Nat.zero_le _, Nat.zero_le _⟩ (fun H locs hI => ?_)
    refine lv_iload_n hx hb dX12_singles_40 rfl (lv_at hl 2 rfl) ?_
    refine lv_iconst (v := 4) hx hb dX12_singles_41 (by decide) ?_
    refine lv_icmp_ne (tgt := 49) hx hb dX12_singles_42 (by decide) (fun q => ?_) (fun q => ?_)
    · replace hf := zif_f q hf
      refine lv_iconst (v := (-1)) hx hb dX12_singles_49 (by decide) ?_
      exact bX12_singles_50 hC  hI hl hf
    replace hf := zif_t q hf
    refine lv_iconst (v := 1) hx hb dX12_singles_45 (by decide) ?_
    refine lv_goto (tgt := 50) hx hb dX12_singles_46 (by decide) ?_
    exact bX12_singles_50 hC  hI hl hf
  replace hf := zif_t q hf
  refine lv_aload_n hx hb dX12_singles_6 rfl (lv_at hl 0 rfl) ?_
  refine lv_iload_n hx hb dX12_singles_7 rfl (lv_at hl 1 rfl) ?_
  refine lv_aload_n hx hb dX12_singles_8 rfl (lv_at hl 0 rfl) ?_
  obtain ⟨σ28, v29, g28, hf⟩ := zbi_use hf
  refine z_callVi (As := []) (rest := [.int x1, .ref (ad 0)]) hC hI (cX12_next_met st l D ad cy σ  _ g28) (zgV zw50_2 zw50_3 zw50_4 zw1_5 zw50_5) rfl ⟨rfl, rfl⟩ 0 hdX12_next ⟨Nat.le_of_ble_eq_true rfl, Nat.le_of_ble_eq_true rfl⟩ rfl rfl (wM_e0 ad cy σ) rfl hl rfl (Nat.le_of_ble_eq_true rfl) dX12_singles_9 ⟨Nat.zero_le _, Nat.zero_le _⟩ (fun H locs hI => ?_)
  obtain ⟨σ30, g30, hf⟩ := zbu_use hf
  refine z_callVu (As := [.int x1, .int v29]) (rest := []) hC hI (cX12_rTo_met st l D ad cy σ28 x1 v29 _ g30) (zgV zw53_9 zw53_10 zw53_11 zw1_5 zw53_12) rfl ⟨rfl, rfl⟩ 2 hdX12_rTo ⟨Nat.le_of_ble_eq_true rfl, Nat.le_of_ble_eq_true rfl⟩ rfl rfl (wM_e0 ad cy σ28) rfl hl rfl (Nat.le_of_ble_eq_true rfl) dX12_singles_12 ⟨Nat.zero_le _, Nat.zero_le _⟩ (fun H locs hI => ?_)
  refine lv_iload_n hx hb dX12_singles_15 rfl (lv_at hl 1 rfl) ?_
  refine lv_bipush (v := 6) hx hb dX12_singles_16 (by decide) ?_
  refine lv_icmp_ne (tgt := 26) hx hb dX12_singles_18 (by decide) (fun q => ?_) (fun q => ?_)
  · replace hf := zif_f q hf
    refine lv_bipush (v := 7) hx hb dX12_singles_26 (by decide) ?_
    exact bX12_singles_28 hC  hI (lv_sub hl [] rfl) hf
  replace hf := zif_t q hf
  refine lv_bipush (v := 10) hx hb dX12_singles_21 (by decide) ?_
  refine lv_goto (tgt := 28) hx hb dX12_singles_23 (by decide) ?_
  exact bX12_singles_28 hC  hI (lv_sub hl [] rfl) hf
set_option maxRecDepth 20000 in
theorem cX12_singles_met (st : Nat → Nat) (l : Launch) (D : va_G) (ad : Nat → Nat) (cy : Nat → ClassId) (σ : zSt) (x1 : Int32) (x2 : Int32) (res : zSt × Int32) (hf : fX12_singles σ x1 x2 = some res) (sz : Nat) : zMi st l yX12_singles wzX12_singles rmX12_singles [.ref (ad 0), .int x1, .int x2] D (tM cy) (wM ad cy) sz σ res :=
  zMi.of (cc := cX12_singles) (maxL := 4) (ret := (some .int)) (by decide) rfl (Nat.le_of_ble_eq_true rfl) (fun p e s m args below meth c hC A hI ls hl => bX12_singles hC hI hl hf)
theorem hdX12_singles : yX12_singles.cls = RX12 ∧ yX12_singles.cls ≠ "java/lang/invoke/MethodHandle" ∧ yX12_singles.cls ≠ "java/lang/invoke/VarHandle" ∧ (parseMethodDescriptor yX12_singles.desc).map (fun d => d.parameters.length) = some 2 := by decide +kernel
noncomputable def rmX12_plain_r1 : Room := { frames := 8, cells := 0, slots := 0, locals := 186 }
noncomputable def wzX12_plain : List Cond := .code yX12_plain cX12_plain 4 (some .int) :: wsL_law
theorem hinX12_plain_r1_X120 : ∀ w ∈ wsX120, w ∈ wzX12_plain := fun w h => List.mem_cons_of_mem _ (inlX12 w h)
noncomputable def fX12_plain_r1_160  (σ : zSt) (s0 : Int32) : Option (zSt × Int32) :=
  some (σ, s0)
noncomputable def fX12_plain_r1_139  (σ : zSt) (s0 : Int32) : Option (zSt × Int32) :=
  some (σ, s0)
noncomputable def fX12_plain_r1_116  (σ : zSt) (s0 : Int32) : Option (zSt × Int32) :=
  some (σ, s0)
noncomputable def fX12_plain_r1_115  (σ : zSt)  : Option (zSt × Int32) :=
  fX12_plain_r1_116 σ 4
noncomputable def fX12_plain_r1_110  (σ : zSt)  : Option (zSt × Int32) :=
  fX12_plain_r1_116 σ 7
noncomputable def fX12_plain_r1_92  (σ : zSt) (x1 : Int32) (x2 : Int32) (x3 : Int32) : Option (zSt × Int32) :=
  if x1 = 118 then fX12_plain_r1_115 σ else
  if x2 = 6 then fX12_plain_r1_110 σ else
  if x3 = 6 then fX12_plain_r1_110 σ else
  fX12_plain_r1_115 σ
noncomputable def fX12_plain_r1_64  (σ : zSt) (s0 : Int32) : Option (zSt × Int32) :=
  some (σ, s0)
noncomputable def fX12_plain_r1  (σ : zSt) (x1 : Int32) : Option (zSt × Int32) :=
  zbv ((x1 >>> ((3 : Int32) &&& 31)) &&& 7) (fun v1 =>
  zbv (x1 &&& 7) (fun v2 =>
  if (x1 >>> ((6 : Int32) &&& 31)) = 0 then if 4 ≤ v2 then zbi (fX12_singles σ v1 v2) (fun σ3 v4 =>
  fX12_plain_r1_64 σ3 v4) else
  zbi (fX12_zero σ v1 v2) (fun σ5 v6 =>
  fX12_plain_r1_64 σ5 v6) else
  if (x1 >>> ((6 : Int32) &&& 31)) = 1 then if x1 = 118 then zck (zin 26 1048) (zbv (zsi σ 3 ((26 : Int32).toNatClampNeg) 1) (fun σ10 =>
  fX12_plain_r1_92 σ10 x1 v1 v2)) else
  zbi (fX12_r σ v2) (fun σ7 v8 =>
  zbu (fX12_rTo σ7 v1 v8) (fun σ9 =>
  fX12_plain_r1_92 σ9 x1 v1 v2)) else
  if (x1 >>> ((6 : Int32) &&& 31)) = 2 then zbi (fX12_r σ v2) (fun σ11 v12 =>
  zbu (fX12_does σ11 v1 v12) (fun σ13 =>
  if v2 = 6 then fX12_plain_r1_139 σ13 7 else
  fX12_plain_r1_139 σ13 4)) else
  if 4 ≤ v2 then zbi (fX12_more3_r1 σ v1 v2) (fun σ14 v15 =>
  fX12_plain_r1_160 σ14 v15) else
  zbi (fX12_three σ v1 v2) (fun σ16 v17 =>
  fX12_plain_r1_160 σ16 v17)))
set_option maxRecDepth 20000 in
set_option maxHeartbeats 4000000 in
theorem bX12_plain_r1_160 {st : Nat → Nat} {p : Program} {l : Launch} {e : Env} {s : State} {m : MethodId} {args : Array Value} {below : List Frame} {meth : Method} {c : Code} {D : va_G} {A : Nat → Prop} {ad : Nat → Nat} {cy : Nat → ClassId} (hC : zC p m c cX12_plain 4 s args wzX12_plain RX12 meth (some .int))  {res : zSt × Int32} {H : Heap} {locs : List Loc} {σ : zSt} {ls : Array Slot} {s0 : Int32} (hI : zI st D (tM cy) (wM ad cy σ) A s H locs) (hl : lv_has ls 4 []) (hf : fX12_plain_r1_160  σ s0 = some res) : W p l e rmX12_plain_r1 s m args below meth c H locs 0 0 (zQi below args s D (tM cy) (wM ad cy) A res) (F0 m 160 ls [.int s0]) := by
  have hx := hC.1
  have hb := hC.2.1
  unfold fX12_plain_r1_160 at hf
  exact z_ireturn hC hI hf dX12_plain_160
set_option maxRecDepth 20000 in
set_option maxHeartbeats 4000000 in
theorem bX12_plain_r1_139 {st : Nat → Nat} {p : Program} {l : Launch} {e : Env} {s : State} {m : MethodId} {args : Array Value} {below : List Frame} {meth : Method} {c : Code} {D : va_G} {A : Nat → Prop} {ad : Nat → Nat} {cy : Nat → ClassId} (hC : zC p m c cX12_plain 4 s args wzX12_plain RX12 meth (some .int))  {res : zSt × Int32} {H : Heap} {locs : List Loc} {σ : zSt} {ls : Array Slot} {s0 : Int32} (hI : zI st D (tM cy) (wM ad cy σ) A s H locs) (hl : lv_has ls 4 []) (hf : fX12_plain_r1_139  σ s0 = some res) : W p l e rmX12_plain_r1 s m args below meth c H locs 0 0 (zQi below args s D (tM cy) (wM ad cy) A res) (F0 m 139 ls [.int s0]) := by
  have hx := hC.1
  have hb := hC.2.1
  unfold fX12_plain_r1_139 at hf
  exact z_ireturn hC hI hf dX12_plain_139
set_option maxRecDepth 20000 in
set_option maxHeartbeats 4000000 in
theorem bX12_plain_r1_116 {st : Nat → Nat} {p : Program} {l : Launch} {e : Env} {s : State} {m : MethodId} {args : Array Value} {below : List Frame} {meth : Method} {c : Code} {D : va_G} {A : Nat → Prop} {ad : Nat → Nat} {cy : Nat → ClassId} (hC : zC p m c cX12_plain 4 s args wzX12_plain RX12 meth (some .int))  {res : zSt × Int32} {H : Heap} {locs : List Loc} {σ : zSt} {ls : Array Slot} {s0 : Int32} (hI : zI st D (tM cy) (wM ad cy σ) A s H locs) (hl : lv_has ls 4 []) (hf : fX12_plain_r1_116  σ s0 = some res) : W p l e rmX12_plain_r1 s m args below meth c H locs 0 0 (zQi below args s D (tM cy) (wM ad cy) A res) (F0 m 116 ls [.int s0]) := by
  have hx := hC.1
  have hb := hC.2.1
  unfold fX12_plain_r1_116 at hf
  exact z_ireturn hC hI hf dX12_plain_116
set_option maxRecDepth 20000 in
set_option maxHeartbeats 4000000 in
theorem bX12_plain_r1_115 {st : Nat → Nat} {p : Program} {l : Launch} {e : Env} {s : State} {m : MethodId} {args : Array Value} {below : List Frame} {meth : Method} {c : Code} {D : va_G} {A : Nat → Prop} {ad : Nat → Nat} {cy : Nat → ClassId} (hC : zC p m c cX12_plain 4 s args wzX12_plain RX12 meth (some .int))  {res : zSt × Int32} {H : Heap} {locs : List Loc} {σ : zSt} {ls : Array Slot}  (hI : zI st D (tM cy) (wM ad cy σ) A s H locs) (hl : lv_has ls 4 []) (hf : fX12_plain_r1_115  σ  = some res) : W p l e rmX12_plain_r1 s m args below meth c H locs 0 0 (zQi below args s D (tM cy) (wM ad cy) A res) (F0 m 115 ls []) := by
  have hx := hC.1
  have hb := hC.2.1
  unfold fX12_plain_r1_115 at hf
  refine lv_iconst (v := 4) hx hb dX12_plain_115 (by decide) ?_
  exact bX12_plain_r1_116 hC  hI hl hf
set_option maxRecDepth 20000 in
set_option maxHeartbeats 4000000 in
theorem bX12_plain_r1_110 {st : Nat → Nat} {p : Program} {l : Launch} {e : Env} {s : State} {m : MethodId} {args : Array Value} {below : List Frame} {meth : Method} {c : Code} {D : va_G} {A : Nat → Prop} {ad : Nat → Nat} {cy : Nat → ClassId} (hC : zC p m c cX12_plain 4 s args wzX12_plain RX12 meth (some .int))  {res : zSt × Int32} {H : Heap} {locs : List Loc} {σ : zSt} {ls : Array Slot}  (hI : zI st D (tM cy) (wM ad cy σ) A s H locs) (hl : lv_has ls 4 []) (hf : fX12_plain_r1_110  σ  = some res) : W p l e rmX12_plain_r1 s m args below meth c H locs 0 0 (zQi below args s D (tM cy) (wM ad cy) A res) (F0 m 110 ls []) := by
  have hx := hC.1
  have hb := hC.2.1
  unfold fX12_plain_r1_110 at hf
  refine lv_bipush (v := 7) hx hb dX12_plain_110 (by decide) ?_
  refine lv_goto (tgt := 116) hx hb dX12_plain_112 (by decide) ?_
  exact bX12_plain_r1_116 hC  hI hl hf
set_option maxRecDepth 20000 in
set_option maxHeartbeats 4000000 in
theorem bX12_plain_r1_92 {st : Nat → Nat} {p : Program} {l : Launch} {e : Env} {s : State} {m : MethodId} {args : Array Value} {below : List Frame} {meth : Method} {c : Code} {D : va_G} {A : Nat → Prop} {ad : Nat → Nat} {cy : Nat → ClassId} (hC : zC p m c cX12_plain 4 s args wzX12_plain RX12 meth (some .int))  {res : zSt × Int32} {H : Heap} {locs : List Loc} {σ : zSt} {ls : Array Slot} {x1 : Int32} {x2 : Int32} {x3 : Int32} (hI : zI st D (tM cy) (wM ad cy σ) A s H locs) (hl : lv_has ls 4 [(1, .int x1), (2, .int x2), (3, .int x3)]) (hf : fX12_plain_r1_92  σ x1 x2 x3 = some res) : W p l e rmX12_plain_r1 s m args below meth c H locs 0 0 (zQi below args s D (tM cy) (wM ad cy) A res) (F0 m 92 ls []) := by
  have hx := hC.1
  have hb := hC.2.1
  unfold fX12_plain_r1_92 at hf
  refine lv_iload_n hx hb dX12_plain_92 rfl (lv_at hl 0 rfl) ?_
  refine lv_bipush (v := 118) hx hb dX12_plain_93 (by decide) ?_
  refine lv_icmp_eq (tgt := 115) hx hb dX12_plain_95 (by decide) (fun q => ?_) (fun q => ?_)
  · replace hf := zif_t q hf
    exact bX12_plain_r1_115 hC  hI (lv_sub hl [] rfl) hf
  replace hf := zif_f q hf
  refine lv_iload_n hx hb dX12_plain_98 rfl (lv_at hl 1 rfl) ?_
  refine lv_bipush (v := 6) hx hb dX12_plain_99 (by decide) ?_
  refine lv_icmp_eq (tgt := 110) hx hb dX12_plain_101 (by decide) (fun q => ?_) (fun q => ?_)
  · replace hf := zif_t q hf
    exact bX12_plain_r1_110 hC  hI (lv_sub hl [] rfl) hf
  replace hf := zif_f q hf
  refine lv_iload_n hx hb dX12_plain_104 rfl (lv_at hl 2 rfl) ?_
  refine lv_bipush (v := 6) hx hb dX12_plain_105 (by decide) ?_
  refine lv_icmp_ne (tgt := 115) hx hb dX12_plain_107 (by decide) (fun q => ?_) (fun q => ?_)
  · replace hf := zif_f q hf
    exact bX12_plain_r1_115 hC  hI (lv_sub hl [] rfl) hf
  replace hf := zif_t q hf
  exact bX12_plain_r1_110 hC  hI (lv_sub hl [] rfl) hf
set_option maxRecDepth 20000 in
set_option maxHeartbeats 4000000 in
theorem bX12_plain_r1_64 {st : Nat → Nat} {p : Program} {l : Launch} {e : Env} {s : State} {m : MethodId} {args : Array Value} {below : List Frame} {meth : Method} {c : Code} {D : va_G} {A : Nat → Prop} {ad : Nat → Nat} {cy : Nat → ClassId} (hC : zC p m c cX12_plain 4 s args wzX12_plain RX12 meth (some .int))  {res : zSt × Int32} {H : Heap} {locs : List Loc} {σ : zSt} {ls : Array Slot} {s0 : Int32} (hI : zI st D (tM cy) (wM ad cy σ) A s H locs) (hl : lv_has ls 4 []) (hf : fX12_plain_r1_64  σ s0 = some res) : W p l e rmX12_plain_r1 s m args below meth c H locs 0 0 (zQi below args s D (tM cy) (wM ad cy) A res) (F0 m 64 ls [.int s0]) := by
  have hx := hC.1
  have hb := hC.2.1
  unfold fX12_plain_r1_64 at hf
  exact z_ireturn hC hI hf dX12_plain_64
set_option maxRecDepth 20000 in
set_option maxHeartbeats 4000000 in
theorem bX12_plain_r1 {st : Nat → Nat} {p : Program} {l : Launch} {e : Env} {s : State} {m : MethodId} {args : Array Value} {below : List Frame} {meth : Method} {c : Code} {D : va_G} {A : Nat → Prop} {ad : Nat → Nat} {cy : Nat → ClassId} (hC : zC p m c cX12_plain 4 s args wzX12_plain RX12 meth (some .int))  {res : zSt × Int32} {H : Heap} {locs : List Loc} {σ : zSt} {ls : Array Slot} {x1 : Int32} (hI : zI st D (tM cy) (wM ad cy σ) A s H locs) (hl : lv_has ls 4 [(0, .ref (ad 0)), (1, .int x1)]) (hf : fX12_plain_r1  σ x1 = some res) : W p l e rmX12_plain_r1 s m args below meth c H locs 0 0 (zQi below args s D (tM cy) (wM ad cy) A res) (F0 m 0 ls []) := by
  have hx := hC.1
  have hb := hC.2.1
  unfold fX12_plain_r1 at hf
  refine lv_iload_n hx hb dX12_plain_0 rfl (lv_at hl 1 rfl) ?_
  refine lv_iconst (v := 3) hx hb dX12_plain_1 (by decide) ?_
  refine lv_ishr hx hb dX12_plain_2 ?_
  refine lv_bipush (v := 7) hx hb dX12_plain_3 (by decide) ?_
  refine lv_iand hx hb dX12_plain_5 ?_
  refine lv_topi (fun v1 ev1 => ?_)
  replace hf := zbv_use ev1 hf
  refine lv_istore_n (lv' := [(2, .int v1), (0, .ref (ad 0)), (1, .int x1)]) hx hb dX12_plain_6 rfl hl (by decide) rfl (fun ls hl => ?_)
  refine lv_iload_n hx hb dX12_plain_7 rfl (lv_at hl 2 rfl) ?_
  refine lv_bipush (v := 7) hx hb dX12_plain_8 (by decide) ?_
  refine lv_iand hx hb dX12_plain_10 ?_
  refine lv_topi (fun v2 ev2 => ?_)
  replace hf := zbv_use ev2 hf
  refine lv_istore_n (lv' := [(3, .int v2), (2, .int v1), (0, .ref (ad 0)), (1, .int x1)]) hx hb dX12_plain_11 rfl hl (by decide) rfl (fun ls hl => ?_)
  refine lv_iload_n hx hb dX12_plain_12 rfl (lv_at hl 3 rfl) ?_
  refine lv_bipush (v := 6) hx hb dX12_plain_13 (by decide) ?_
  refine lv_ishr hx hb dX12_plain_15 ?_
  by_cases q0 : (x1 >>> ((6 : Int32) &&& 31)) = 0
  · replace hf := zif_t q0 hf
    refine lv_tableIn (tgt := 44) hx hb dX12_plain_16 (by rw [q0]; decide) (by rw [q0]; decide) (by rw [q0]; rfl) (by decide) ?_
    refine lv_iload_n hx hb dX12_plain_44 rfl (lv_at hl 0 rfl) ?_
    refine lv_iconst (v := 4) hx hb dX12_plain_45 (by decide) ?_
    refine lv_icmp_ge (tgt := 58) hx hb dX12_plain_46 (by decide) (fun q => ?_) (fun q => ?_)
    · replace hf := zif_t q hf
      refine lv_aload_n hx hb dX12_plain_58 rfl (lv_at hl 2 rfl) ?_
      refine lv_iload_n hx hb dX12_plain_59 rfl (lv_at hl 1 rfl) ?_
      refine lv_iload_n hx hb dX12_plain_60 rfl (lv_at hl 0 rfl) ?_
      obtain ⟨σ3, v4, g3, hf⟩ := zbi_use hf
      refine z_callVi (As := [.int v1, .int v2]) (rest := []) hC hI (cX12_singles_met st l D ad cy σ v1 v2 _ g3) (zgV zw53_5 zw53_6 zw53_7 zw1_5 zw53_8) rfl ⟨rfl, rfl⟩ 2 hdX12_singles ⟨Nat.le_of_ble_eq_true rfl, Nat.le_of_ble_eq_true rfl⟩ rfl rfl (wM_e0 ad cy σ) rfl hl rfl (Nat.le_of_ble_eq_true rfl) dX12_plain_61 ⟨Nat.zero_le _, Nat.zero_le _⟩ (fun H locs hI => ?_)
      exact bX12_plain_r1_64 hC  hI (lv_sub hl [] rfl) hf
    replace hf := zif_f q hf
    refine lv_aload_n hx hb dX12_plain_49 rfl (lv_at hl 2 rfl) ?_
    refine lv_iload_n hx hb dX12_plain_50 rfl (lv_at hl 1 rfl) ?_
    refine lv_iload_n hx hb dX12_plain_51 rfl (lv_at hl 0 rfl) ?_
    obtain ⟨σ5, v6, g5, hf⟩ := zbi_use hf
    refine z_callVi (As := [.int v1, .int v2]) (rest := []) hC hI (cX12_zero_met st l D ad cy σ v1 v2 _ g5) (zgV zw50_10 zw50_11 zw50_12 zw1_5 zw50_13) rfl ⟨rfl, rfl⟩ 2 hdX12_zero ⟨Nat.le_of_ble_eq_true rfl, Nat.le_of_ble_eq_true rfl⟩ rfl rfl (wM_e0 ad cy σ) rfl hl rfl (Nat.le_of_ble_eq_true rfl) dX12_plain_52 ⟨Nat.zero_le _, Nat.zero_le _⟩ (fun H locs hI => ?_)
    refine lv_goto (tgt := 64) hx hb dX12_plain_55 (by decide) ?_
    exact bX12_plain_r1_64 hC  hI (lv_sub hl [] rfl) hf
  replace hf := zif_f q0 hf
  by_cases q1 : (x1 >>> ((6 : Int32) &&& 31)) = 1
  · replace hf := zif_t q1 hf
    refine lv_tableIn (tgt := 65) hx hb dX12_plain_16 (by rw [q1]; decide) (by rw [q1]; decide) (by rw [q1]; rfl) (by decide) ?_
    refine lv_iload_n hx hb dX12_plain_65 rfl (lv_at hl 3 rfl) ?_
    refine lv_bipush (v := 118) hx hb dX12_plain_66 (by decide) ?_
    refine lv_icmp_ne (tgt := 82) hx hb dX12_plain_68 (by decide) (fun q => ?_) (fun q => ?_)
    · replace hf := zif_f q hf
      refine lv_aload_n hx hb dX12_plain_82 rfl (lv_at hl 2 rfl) ?_
      refine lv_iload_n hx hb dX12_plain_83 rfl (lv_at hl 1 rfl) ?_
      refine lv_aload_n hx hb dX12_plain_84 rfl (lv_at hl 2 rfl) ?_
      refine lv_iload_n hx hb dX12_plain_85 rfl (lv_at hl 0 rfl) ?_
      obtain ⟨σ7, v8, g7, hf⟩ := zbi_use hf
      refine z_callVi (As := [.int v2]) (rest := [.int v1, .ref (ad 0)]) hC hI (cX12_r_met st l D ad cy σ v2 _ g7) (zgV zw53_18 zw53_19 zw53_20 zw1_5 zw53_21) rfl ⟨rfl, rfl⟩ 1 hdX12_r ⟨Nat.le_of_ble_eq_true rfl, Nat.le_of_ble_eq_true rfl⟩ rfl rfl (wM_e0 ad cy σ) rfl hl rfl (Nat.le_of_ble_eq_true rfl) dX12_plain_86 ⟨Nat.zero_le _, Nat.zero_le _⟩ (fun H locs hI => ?_)
      obtain ⟨σ9, g9, hf⟩ := zbu_use hf
      refine z_callVu (As := [.int v1, .int v8]) (rest := []) hC hI (cX12_rTo_met st l D ad cy σ7 v1 v8 _ g9) (zgV zw53_9 zw53_10 zw53_11 zw1_5 zw53_12) rfl ⟨rfl, rfl⟩ 2 hdX12_rTo ⟨Nat.le_of_ble_eq_true rfl, Nat.le_of_ble_eq_true rfl⟩ rfl rfl (wM_e0 ad cy σ7) rfl hl rfl (Nat.le_of_ble_eq_true rfl) dX12_plain_89 ⟨Nat.zero_le _, Nat.zero_le _⟩ (fun H locs hI => ?_)
      exact bX12_plain_r1_92 hC  hI (lv_sub hl [3, 1, 0] rfl) hf
    replace hf := zif_t q hf
    refine lv_aload_n hx hb dX12_plain_71 rfl (lv_at hl 2 rfl) ?_
    refine z_get hC hI hinX12_plain_r1_X120 0 (wM_e0 ad cy σ) rfl 10 (by decide) (List.mem_cons_of_mem _ zw9_7) rfl dX12_plain_72 ?_
    refine lv_bipush (v := 26) hx hb dX12_plain_75 (by decide) ?_
    refine lv_iconst (v := 1) hx hb dX12_plain_77 (by decide) ?_
    obtain ⟨q, hf⟩ := zck_use hf
    obtain ⟨σ10, eσ10⟩ : ∃ z, z = zsi σ 3 ((26 : Int32).toNatClampNeg) 1 := ⟨_, rfl⟩
    replace hf := zbv_use eσ10 hf
    refine z_iast hC hI 3 2 (wM_e3 ad cy σ) (tM_t3 cy) q ((wM_s3 ad cy σ _ _).trans (congrArg (wM ad cy) eσ10.symm)) dX12_plain_78 (fun H locs hI => ?_)
    refine lv_goto (tgt := 92) hx hb dX12_plain_79 (by decide) ?_
    exact bX12_plain_r1_92 hC  hI (lv_sub hl [3, 1, 0] rfl) hf
  replace hf := zif_f q1 hf
  by_cases q2 : (x1 >>> ((6 : Int32) &&& 31)) = 2
  · replace hf := zif_t q2 hf
    refine lv_tableIn (tgt := 117) hx hb dX12_plain_16 (by rw [q2]; decide) (by rw [q2]; decide) (by rw [q2]; rfl) (by decide) ?_
    refine lv_aload_n hx hb dX12_plain_117 rfl (lv_at hl 2 rfl) ?_
    refine lv_iload_n hx hb dX12_plain_118 rfl (lv_at hl 1 rfl) ?_
    refine lv_aload_n hx hb dX12_plain_119 rfl (lv_at hl 2 rfl) ?_
    refine lv_iload_n hx hb dX12_plain_120 rfl (lv_at hl 0 rfl) ?_
    obtain ⟨σ11, v12, g11, hf⟩ := zbi_use hf
    refine z_callVi (As := [.int v2]) (rest := [.int v1, .ref (ad 0)]) hC hI (cX12_r_met st l D ad cy σ v2 _ g11) (zgV zw53_18 zw53_19 zw53_20 zw1_5 zw53_21) rfl ⟨rfl, rfl⟩ 1 hdX12_r ⟨Nat.le_of_ble_eq_true rfl, Nat.le_of_ble_eq_true rfl⟩ rfl rfl (wM_e0 ad cy σ) rfl hl rfl (Nat.le_of_ble_eq_true rfl) dX12_plain_121 ⟨Nat.zero_le _, Nat.zero_le _⟩ (fun H locs hI => ?_)
    obtain ⟨σ13, g13, hf⟩ := zbu_use hf
    refine z_callVu (As := [.int v1, .int v12]) (rest := []) hC hI (cX12_does_met st l D ad cy σ11 v1 v12 _ g13) (zgV zw54_13 zw54_14 zw54_15 zw1_5 zw54_16) rfl ⟨rfl, rfl⟩ 2 hdX12_does ⟨Nat.le_of_ble_eq_true rfl, Nat.le_of_ble_eq_true rfl⟩ rfl rfl (wM_e0 ad cy σ11) rfl hl rfl (Nat.le_of_ble_eq_true rfl) dX12_plain_124 ⟨Nat.zero_le _, Nat.zero_le _⟩ (fun H locs hI => ?_)
    refine lv_iload_n hx hb dX12_plain_127 rfl (lv_at hl 0 rfl) ?_
    refine lv_bipush (v := 6) hx hb dX12_plain_128 (by decide) ?_
    refine lv_icmp_ne (tgt := 138) hx hb dX12_plain_130 (by decide) (fun q => ?_) (fun q => ?_)
    · replace hf := zif_f q hf
      refine lv_iconst (v := 4) hx hb dX12_plain_138 (by decide) ?_
      exact bX12_plain_r1_139 hC  hI (lv_sub hl [] rfl) hf
    replace hf := zif_t q hf
    refine lv_bipush (v := 7) hx hb dX12_plain_133 (by decide) ?_
    refine lv_goto (tgt := 139) hx hb dX12_plain_135 (by decide) ?_
    exact bX12_plain_r1_139 hC  hI (lv_sub hl [] rfl) hf
  replace hf := zif_f q2 hf
  refine lv_tableOut (tgt := 140) hx hb dX12_plain_16 (zsw (fun k h1 h2 => by rcases (show k = 0 ∨ k = 1 ∨ k = 2 by omega) with rfl | rfl | rfl <;> assumption)) (by decide) ?_
  refine lv_iload_n hx hb dX12_plain_140 rfl (lv_at hl 0 rfl) ?_
  refine lv_iconst (v := 4) hx hb dX12_plain_141 (by decide) ?_
  refine lv_icmp_ge (tgt := 154) hx hb dX12_plain_142 (by decide) (fun q => ?_) (fun q => ?_)
  · replace hf := zif_t q hf
    refine lv_aload_n hx hb dX12_plain_154 rfl (lv_at hl 2 rfl) ?_
    refine lv_iload_n hx hb dX12_plain_155 rfl (lv_at hl 1 rfl) ?_
    refine lv_iload_n hx hb dX12_plain_156 rfl (lv_at hl 0 rfl) ?_
    obtain ⟨σ14, v15, g14, hf⟩ := zbi_use hf
    refine z_callVi (As := [.int v1, .int v2]) (rest := []) hC hI (cX12_more3_r1_met st l D ad cy σ v1 v2 _ g14) (zgV zw57_22 zw57_23 zw58_0 zw1_5 zw58_1) rfl ⟨rfl, rfl⟩ 2 hdX12_more3_r1 ⟨Nat.le_of_ble_eq_true rfl, Nat.le_of_ble_eq_true rfl⟩ rfl rfl (wM_e0 ad cy σ) rfl hl rfl (Nat.le_of_ble_eq_true rfl) dX12_plain_157 ⟨Nat.zero_le _, Nat.zero_le _⟩ (fun H locs hI => ?_)
    exact bX12_plain_r1_160 hC  hI (lv_sub hl [] rfl) hf
  replace hf := zif_f q hf
  refine lv_aload_n hx hb dX12_plain_145 rfl (lv_at hl 2 rfl) ?_
  refine lv_iload_n hx hb dX12_plain_146 rfl (lv_at hl 1 rfl) ?_
  refine lv_iload_n hx hb dX12_plain_147 rfl (lv_at hl 0 rfl) ?_
  obtain ⟨σ16, v17, g16, hf⟩ := zbi_use hf
  refine z_callVi (As := [.int v1, .int v2]) (rest := []) hC hI (cX12_three_met st l D ad cy σ v1 v2 _ g16) (zgV zw54_17 zw54_18 zw54_19 zw1_5 zw54_20) rfl ⟨rfl, rfl⟩ 2 hdX12_three ⟨Nat.le_of_ble_eq_true rfl, Nat.le_of_ble_eq_true rfl⟩ rfl rfl (wM_e0 ad cy σ) rfl hl rfl (Nat.le_of_ble_eq_true rfl) dX12_plain_148 ⟨Nat.zero_le _, Nat.zero_le _⟩ (fun H locs hI => ?_)
  refine lv_goto (tgt := 160) hx hb dX12_plain_151 (by decide) ?_
  exact bX12_plain_r1_160 hC  hI (lv_sub hl [] rfl) hf
set_option maxRecDepth 20000 in
theorem cX12_plain_r1_met (st : Nat → Nat) (l : Launch) (D : va_G) (ad : Nat → Nat) (cy : Nat → ClassId) (σ : zSt) (x1 : Int32) (res : zSt × Int32) (hf : fX12_plain_r1 σ x1 = some res) (sz : Nat) : zMi st l yX12_plain wzX12_plain rmX12_plain_r1 [.ref (ad 0), .int x1] D (tM cy) (wM ad cy) sz σ res :=
  zMi.of (cc := cX12_plain) (maxL := 4) (ret := (some .int)) (by decide) rfl (Nat.le_of_ble_eq_true rfl) (fun p e s m args below meth c hC A hI ls hl => bX12_plain_r1 hC hI hl hf)
theorem hdX12_plain_r1 : yX12_plain.cls = RX12 ∧ yX12_plain.cls ≠ "java/lang/invoke/MethodHandle" ∧ yX12_plain.cls ≠ "java/lang/invoke/VarHandle" ∧ (parseMethodDescriptor yX12_plain.desc).map (fun d => d.parameters.length) = some 1 := by decide +kernel
noncomputable def rmX12_prefixed : Room := { frames := 9, cells := 0, slots := 0, locals := 209 }
theorem hinX12_prefixed_X120 : ∀ w ∈ wsX120, w ∈ wzX12_prefixed := fun w h => List.mem_cons_of_mem _ (inlX12 w h)
noncomputable def fX12_prefixed_33  (σ : zSt)  : Option (zSt × Int32) :=
  zck (zin 27 1048) (zbv (zsi σ 3 ((27 : Int32).toNatClampNeg) 1) (fun σ1 =>
  some (σ1, 4)))
noncomputable def fX12_prefixed_154  (σ : zSt) (s0 : Int32) : Option (zSt × Int32) :=
  some (σ, s0)
noncomputable def fX12_prefixed_135  (σ : zSt) (x4 : Int32) (x5 : Int32) : Option (zSt × Int32) :=
  if (x4 >>> ((6 : Int32) &&& 31)) = 1 then fX12_prefixed_154 σ 20 else
  fX12_prefixed_154 σ (x5 + 8)
noncomputable def fX12_prefixed_311  (σ : zSt) (s0 : Int32) (s1 : Int32) : Option (zSt × Int32) :=
  some (σ, s1 + s0)
noncomputable def fX12_prefixed_244  (σ : zSt) (x1 : Int32) (x3 : Int32) (s0 : Int32) : Option (zSt × Int32) :=
  if s0 = 0 then zbv (zsi σ 0 31 x1) (fun σ10 =>
  zbi (fX12_plain_r1 σ10 x3) (fun σ11 v12 =>
  some (σ11, v12 + 4))) else
  zck (zin x1 1048) (
  zbi (fX12_next σ ) (fun σ2 v3 =>
  zbi (fX12_signed σ2 v3) (fun σ4 v5 =>
  zck (zin 20 1048) (zbv (zsi σ4 3 ((20 : Int32).toNatClampNeg) (((zgi σ 3 x1.toNatClampNeg) + v5) &&& 65535)) (fun σ6 =>
  zck (zbo 1) (zbv (zsi σ6 0 32 1) (fun σ7 =>
  zbi (fX12_plain_r1 σ7 x3) (fun σ8 v9 =>
  if x3 = 54 then fX12_prefixed_311 σ8 9 v9 else
  fX12_prefixed_311 σ8 12 v9))))))))
noncomputable def fX12_prefixed_243  (σ : zSt) (x1 : Int32) (x3 : Int32) : Option (zSt × Int32) :=
  fX12_prefixed_244 σ x1 x3 0
noncomputable def fX12_prefixed_239  (σ : zSt) (x1 : Int32) (x3 : Int32) : Option (zSt × Int32) :=
  fX12_prefixed_244 σ x1 x3 1
noncomputable def fX12_prefixed_226  (σ : zSt) (x1 : Int32) (x3 : Int32) (x5 : Int32) (x6 : Int32) : Option (zSt × Int32) :=
  if x6 = 2 then if x5 = 6 then fX12_prefixed_239 σ x1 x3 else
  fX12_prefixed_243 σ x1 x3 else
  fX12_prefixed_243 σ x1 x3
noncomputable def fX12_prefixed_220  (σ : zSt) (x1 : Int32) (x3 : Int32) (x5 : Int32) (x6 : Int32) : Option (zSt × Int32) :=
  if x3 = 118 then fX12_prefixed_226 σ x1 x3 x5 x6 else
  fX12_prefixed_239 σ x1 x3
noncomputable def fX12_prefixed_200  (σ : zSt) (x1 : Int32) (x3 : Int32) (x4 : Int32) (x5 : Int32) (x6 : Int32) : Option (zSt × Int32) :=
  if x6 = 1 then if x4 = 6 then fX12_prefixed_220 σ x1 x3 x5 x6 else
  if x5 = 6 then fX12_prefixed_220 σ x1 x3 x5 x6 else
  fX12_prefixed_226 σ x1 x3 x5 x6 else
  fX12_prefixed_226 σ x1 x3 x5 x6
noncomputable def fX12_prefixed  (σ : zSt) (x1 : Int32) : Option (zSt × Int32) :=
  zck (zin 19 1048) (
  zbi (fX12_read σ (zgi σ 3 (19 : Int32).toNatClampNeg)) (fun σ13 v14 =>
  if v14 = 221 then fX12_prefixed_33 σ13 else
  if v14 = 237 then fX12_prefixed_33 σ13 else
  if v14 = 253 then fX12_prefixed_33 σ13 else
  zbi (fX12_fetch σ13 ) (fun σ15 v16 =>
  if v16 = 203 then zck (zin x1 1048) (
  zbi (fX12_next σ15 ) (fun σ20 v21 =>
  zbi (fX12_signed σ20 v21) (fun σ22 v23 =>
  zck (zin 20 1048) (zbv (zsi σ22 3 ((20 : Int32).toNatClampNeg) (((zgi σ15 3 x1.toNatClampNeg) + v23) &&& 65535)) (fun σ24 =>
  zck (zbo 1) (zbv (zsi σ24 0 32 1) (fun σ25 =>
  zbi (fX12_next σ25 ) (fun σ26 v27 =>
  zbi (fX12_turn σ26 v27) (fun σ28 v29 =>
  if (v27 >>> ((6 : Int32) &&& 31)) = 1 then fX12_prefixed_135 σ28 v27 v29 else
  if (v27 &&& 7) = 6 then fX12_prefixed_135 σ28 v27 v29 else
  zck (zbo 0) (zbv (zsi σ28 0 32 0) (fun σ30 =>
  zbu (fX12_rTo σ30 (v27 &&& 7) (zgi σ30 0 33)) (fun σ31 =>
  fX12_prefixed_135 σ31 v27 v29)))))))))))) else
  zbv ((v16 >>> ((3 : Int32) &&& 31)) &&& 7) (fun v17 =>
  zbv (v16 &&& 7) (fun v18 =>
  zbv (v16 >>> ((6 : Int32) &&& 31)) (fun v19 =>
  if v19 = 0 then if v18 ≤ 3 then fX12_prefixed_200 σ15 x1 v16 v17 v18 v19 else
  if 7 ≤ v18 then fX12_prefixed_200 σ15 x1 v16 v17 v18 v19 else
  if v17 = 6 then fX12_prefixed_239 σ15 x1 v16 else
  fX12_prefixed_200 σ15 x1 v16 v17 v18 v19 else
  fX12_prefixed_200 σ15 x1 v16 v17 v18 v19))))))
set_option maxRecDepth 20000 in
set_option maxHeartbeats 4000000 in
theorem bX12_prefixed_33 {st : Nat → Nat} {p : Program} {l : Launch} {e : Env} {s : State} {m : MethodId} {args : Array Value} {below : List Frame} {meth : Method} {c : Code} {D : va_G} {A : Nat → Prop} {ad : Nat → Nat} {cy : Nat → ClassId} (hC : zC p m c cX12_prefixed 8 s args wzX12_prefixed RX12 meth (some .int))  {res : zSt × Int32} {H : Heap} {locs : List Loc} {σ : zSt} {ls : Array Slot}  (hI : zI st D (tM cy) (wM ad cy σ) A s H locs) (hl : lv_has ls 8 [(0, .ref (ad 0))]) (hf : fX12_prefixed_33  σ  = some res) : W p l e rmX12_prefixed s m args below meth c H locs 0 0 (zQi below args s D (tM cy) (wM ad cy) A res) (F0 m 33 ls []) := by
  have hx := hC.1
  have hb := hC.2.1
  unfold fX12_prefixed_33 at hf
  refine lv_aload_n hx hb dX12_prefixed_33 rfl (lv_at hl 0 rfl) ?_
  refine z_get hC hI hinX12_prefixed_X120 0 (wM_e0 ad cy σ) rfl 10 (by decide) (List.mem_cons_of_mem _ zw9_7) rfl dX12_prefixed_34 ?_
  refine lv_bipush (v := 27) hx hb dX12_prefixed_37 (by decide) ?_
  refine lv_iconst (v := 1) hx hb dX12_prefixed_39 (by decide) ?_
  obtain ⟨q, hf⟩ := zck_use hf
  obtain ⟨σ1, eσ1⟩ : ∃ z, z = zsi σ 3 ((27 : Int32).toNatClampNeg) 1 := ⟨_, rfl⟩
  replace hf := zbv_use eσ1 hf
  refine z_iast hC hI 3 2 (wM_e3 ad cy σ) (tM_t3 cy) q ((wM_s3 ad cy σ _ _).trans (congrArg (wM ad cy) eσ1.symm)) dX12_prefixed_40 (fun H locs hI => ?_)
  refine lv_iconst (v := 4) hx hb dX12_prefixed_41 (by decide) ?_
  exact z_ireturn hC hI hf dX12_prefixed_42
set_option maxRecDepth 20000 in
set_option maxHeartbeats 4000000 in
theorem bX12_prefixed_154 {st : Nat → Nat} {p : Program} {l : Launch} {e : Env} {s : State} {m : MethodId} {args : Array Value} {below : List Frame} {meth : Method} {c : Code} {D : va_G} {A : Nat → Prop} {ad : Nat → Nat} {cy : Nat → ClassId} (hC : zC p m c cX12_prefixed 8 s args wzX12_prefixed RX12 meth (some .int))  {res : zSt × Int32} {H : Heap} {locs : List Loc} {σ : zSt} {ls : Array Slot} {s0 : Int32} (hI : zI st D (tM cy) (wM ad cy σ) A s H locs) (hl : lv_has ls 8 []) (hf : fX12_prefixed_154  σ s0 = some res) : W p l e rmX12_prefixed s m args below meth c H locs 0 0 (zQi below args s D (tM cy) (wM ad cy) A res) (F0 m 154 ls [.int s0]) := by
  have hx := hC.1
  have hb := hC.2.1
  unfold fX12_prefixed_154 at hf
  exact z_ireturn hC hI hf dX12_prefixed_154
set_option maxRecDepth 20000 in
set_option maxHeartbeats 4000000 in
theorem bX12_prefixed_135 {st : Nat → Nat} {p : Program} {l : Launch} {e : Env} {s : State} {m : MethodId} {args : Array Value} {below : List Frame} {meth : Method} {c : Code} {D : va_G} {A : Nat → Prop} {ad : Nat → Nat} {cy : Nat → ClassId} (hC : zC p m c cX12_prefixed 8 s args wzX12_prefixed RX12 meth (some .int))  {res : zSt × Int32} {H : Heap} {locs : List Loc} {σ : zSt} {ls : Array Slot} {x4 : Int32} {x5 : Int32} (hI : zI st D (tM cy) (wM ad cy σ) A s H locs) (hl : lv_has ls 8 [(4, .int x4), (5, .int x5)]) (hf : fX12_prefixed_135  σ x4 x5 = some res) : W p l e rmX12_prefixed s m args below meth c H locs 0 0 (zQi below args s D (tM cy) (wM ad cy) A res) (F0 m 135 ls []) := by
  have hx := hC.1
  have hb := hC.2.1
  unfold fX12_prefixed_135 at hf
  refine lv_iload hx hb dX12_prefixed_135 (lv_at hl 0 rfl) ?_
  refine lv_bipush (v := 6) hx hb dX12_prefixed_137 (by decide) ?_
  refine lv_ishr hx hb dX12_prefixed_139 ?_
  refine lv_iconst (v := 1) hx hb dX12_prefixed_140 (by decide) ?_
  refine lv_icmp_ne (tgt := 149) hx hb dX12_prefixed_141 (by decide) (fun q => ?_) (fun q => ?_)
  · replace hf := zif_f q hf
    refine lv_iload hx hb dX12_prefixed_149 (lv_at hl 1 rfl) ?_
    refine lv_bipush (v := 8) hx hb dX12_prefixed_151 (by decide) ?_
    refine lv_iadd hx hb dX12_prefixed_153 ?_
    exact bX12_prefixed_154 hC  hI (lv_sub hl [] rfl) hf
  replace hf := zif_t q hf
  refine lv_bipush (v := 20) hx hb dX12_prefixed_144 (by decide) ?_
  refine lv_goto (tgt := 154) hx hb dX12_prefixed_146 (by decide) ?_
  exact bX12_prefixed_154 hC  hI (lv_sub hl [] rfl) hf
set_option maxRecDepth 20000 in
set_option maxHeartbeats 4000000 in
theorem bX12_prefixed_311 {st : Nat → Nat} {p : Program} {l : Launch} {e : Env} {s : State} {m : MethodId} {args : Array Value} {below : List Frame} {meth : Method} {c : Code} {D : va_G} {A : Nat → Prop} {ad : Nat → Nat} {cy : Nat → ClassId} (hC : zC p m c cX12_prefixed 8 s args wzX12_prefixed RX12 meth (some .int))  {res : zSt × Int32} {H : Heap} {locs : List Loc} {σ : zSt} {ls : Array Slot} {s0 : Int32} {s1 : Int32} (hI : zI st D (tM cy) (wM ad cy σ) A s H locs) (hl : lv_has ls 8 []) (hf : fX12_prefixed_311  σ s0 s1 = some res) : W p l e rmX12_prefixed s m args below meth c H locs 0 0 (zQi below args s D (tM cy) (wM ad cy) A res) (F0 m 311 ls [.int s0, .int s1]) := by
  have hx := hC.1
  have hb := hC.2.1
  unfold fX12_prefixed_311 at hf
  refine lv_iadd hx hb dX12_prefixed_311 ?_
  exact z_ireturn hC hI hf dX12_prefixed_312
set_option maxRecDepth 20000 in
set_option maxHeartbeats 4000000 in
theorem bX12_prefixed_244 {st : Nat → Nat} {p : Program} {l : Launch} {e : Env} {s : State} {m : MethodId} {args : Array Value} {below : List Frame} {meth : Method} {c : Code} {D : va_G} {A : Nat → Prop} {ad : Nat → Nat} {cy : Nat → ClassId} (hC : zC p m c cX12_prefixed 8 s args wzX12_prefixed RX12 meth (some .int))  {res : zSt × Int32} {H : Heap} {locs : List Loc} {σ : zSt} {ls : Array Slot} {x1 : Int32} {x3 : Int32} {s0 : Int32} (hI : zI st D (tM cy) (wM ad cy σ) A s H locs) (hl : lv_has ls 8 [(0, .ref (ad 0)), (1, .int x1), (3, .int x3)]) (hf : fX12_prefixed_244  σ x1 x3 s0 = some res) : W p l e rmX12_prefixed s m args below meth c H locs 0 0 (zQi below args s D (tM cy) (wM ad cy) A res) (F0 m 244 ls [.int s0]) := by
  have hx := hC.1
  have hb := hC.2.1
  unfold fX12_prefixed_244 at hf
  refine lv_istore (lv' := [(7, .int s0), (0, .ref (ad 0)), (1, .int x1), (3, .int x3)]) hx hb dX12_prefixed_244 hl (by decide) rfl (fun ls hl => ?_)
  refine lv_iload hx hb dX12_prefixed_246 (lv_at hl 0 rfl) ?_
  refine lv_if_ne (tgt := 264) hx hb dX12_prefixed_248 (by decide) (fun q => ?_) (fun q => ?_)
  · replace hf := zif_f q hf
    refine lv_aload_n hx hb dX12_prefixed_264 rfl (lv_at hl 1 rfl) ?_
    refine z_get hC hI hinX12_prefixed_X120 0 (wM_e0 ad cy σ) rfl 10 (by decide) (List.mem_cons_of_mem _ zw9_7) rfl dX12_prefixed_265 ?_
    refine lv_bipush (v := 20) hx hb dX12_prefixed_268 (by decide) ?_
    refine lv_aload_n hx hb dX12_prefixed_270 rfl (lv_at hl 1 rfl) ?_
    refine z_get hC hI hinX12_prefixed_X120 0 (wM_e0 ad cy σ) rfl 10 (by decide) (List.mem_cons_of_mem _ zw9_7) rfl dX12_prefixed_271 ?_
    refine lv_iload_n hx hb dX12_prefixed_274 rfl (lv_at hl 2 rfl) ?_
    obtain ⟨q, hf⟩ := zck_use hf
    refine z_iald hC hI 3 2 (wM_e3 ad cy σ) (tM_t3 cy) q dX12_prefixed_275 ?_
    refine lv_aload_n hx hb dX12_prefixed_276 rfl (lv_at hl 1 rfl) ?_
    obtain ⟨σ2, v3, g2, hf⟩ := zbi_use hf
    refine z_callVi (As := []) (rest := [.int (zgi σ 3 x1.toNatClampNeg), .int 20, .ref (ad 3)]) hC hI (cX12_next_met st l D ad cy σ  _ g2) (zgV zw50_2 zw50_3 zw50_4 zw1_5 zw50_5) rfl ⟨rfl, rfl⟩ 0 hdX12_next ⟨Nat.le_of_ble_eq_true rfl, Nat.le_of_ble_eq_true rfl⟩ rfl rfl (wM_e0 ad cy σ) rfl hl rfl (Nat.le_of_ble_eq_true rfl) dX12_prefixed_277 ⟨Nat.zero_le _, Nat.zero_le _⟩ (fun H locs hI => ?_)
    obtain ⟨σ4, v5, g4, hf⟩ := zbi_use hf
    refine z_callSi (As := [.int v3]) (rest := [.int (zgi σ 3 x1.toNatClampNeg), .int 20, .ref (ad 3)]) hC hI (cX12_signed_met st l D ad cy σ2 v3 _ g4) (zgS zw50_18 zw50_19 zw1_5 zw50_20) rfl ⟨rfl, rfl⟩ 1 hdX12_signed ⟨Nat.le_of_ble_eq_true rfl, Nat.le_of_ble_eq_true rfl⟩ rfl hl rfl (Nat.le_of_ble_eq_true rfl) dX12_prefixed_280 ⟨Nat.zero_le _, Nat.zero_le _⟩ (fun H locs hI => ?_)
    refine lv_iadd hx hb dX12_prefixed_283 ?_
    refine lv_ldc (v := 65535) hx hb hC.2.2.2.1 (hC.2.2.2.2.1 _ (List.mem_cons_of_mem _ zw16_11)) dX12_prefixed_284 ?_
    refine lv_iand hx hb dX12_prefixed_286 ?_
    obtain ⟨q, hf⟩ := zck_use hf
    obtain ⟨σ6, eσ6⟩ : ∃ z, z = zsi σ4 3 ((20 : Int32).toNatClampNeg) (((zgi σ 3 x1.toNatClampNeg) + v5) &&& 65535) := ⟨_, rfl⟩
    replace hf := zbv_use eσ6 hf
    refine z_iast hC hI 3 2 (wM_e3 ad cy σ4) (tM_t3 cy) q ((wM_s3 ad cy σ4 _ _).trans (congrArg (wM ad cy) eσ6.symm)) dX12_prefixed_287 (fun H locs hI => ?_)
    refine lv_aload_n hx hb dX12_prefixed_288 rfl (lv_at hl 1 rfl) ?_
    refine lv_iconst (v := 1) hx hb dX12_prefixed_289 (by decide) ?_
    obtain ⟨q, hf⟩ := zck_use hf
    obtain ⟨σ7, eσ7⟩ : ∃ z, z = zsi σ6 0 32 1 := ⟨_, rfl⟩
    replace hf := zbv_use eσ7 hf
    refine z_put hC hI hinX12_prefixed_X120 tyX12_ok nmX12 0 (wM_e0 ad cy σ6) rfl 32 (by decide) (List.mem_cons_of_mem _ zw49_21) rfl (zbo_n q) (zbo_f q) (Nat.le_of_ble_eq_true rfl) ((wM_s0_32 ad cy σ6 1).trans (congrArg (wM ad cy) eσ7.symm)) dX12_prefixed_290 (fun H locs hI => ?_)
    refine lv_aload_n hx hb dX12_prefixed_293 rfl (lv_at hl 1 rfl) ?_
    refine lv_iload_n hx hb dX12_prefixed_294 rfl (lv_at hl 3 rfl) ?_
    obtain ⟨σ8, v9, g8, hf⟩ := zbi_use hf
    refine z_callVi (As := [.int x3]) (rest := []) hC hI (cX12_plain_r1_met st l D ad cy σ7 x3 _ g8) (zgV zw50_6 zw50_7 zw50_8 zw1_5 zw50_9) rfl ⟨rfl, rfl⟩ 1 hdX12_plain_r1 ⟨Nat.le_of_ble_eq_true rfl, Nat.le_of_ble_eq_true rfl⟩ rfl rfl (wM_e0 ad cy σ7) rfl hl rfl (Nat.le_of_ble_eq_true rfl) dX12_prefixed_295 ⟨Nat.zero_le _, Nat.zero_le _⟩ (fun H locs hI => ?_)
    refine lv_iload_n hx hb dX12_prefixed_298 rfl (lv_at hl 3 rfl) ?_
    refine lv_bipush (v := 54) hx hb dX12_prefixed_299 (by decide) ?_
    refine lv_icmp_ne (tgt := 309) hx hb dX12_prefixed_301 (by decide) (fun q => ?_) (fun q => ?_)
    · replace hf := zif_f q hf
      refine lv_bipush (v := 12) hx hb dX12_prefixed_309 (by decide) ?_
      exact bX12_prefixed_311 hC  hI (lv_sub hl [] rfl) hf
    replace hf := zif_t q hf
    refine lv_bipush (v := 9) hx hb dX12_prefixed_304 (by decide) ?_
    refine lv_goto (tgt := 311) hx hb dX12_prefixed_306 (by decide) ?_
    exact bX12_prefixed_311 hC  hI (lv_sub hl [] rfl) hf
  replace hf := zif_t q hf
  refine lv_aload_n hx hb dX12_prefixed_251 rfl (lv_at hl 1 rfl) ?_
  refine lv_iload_n hx hb dX12_prefixed_252 rfl (lv_at hl 2 rfl) ?_
  obtain ⟨σ10, eσ10⟩ : ∃ z, z = zsi σ 0 31 x1 := ⟨_, rfl⟩
  replace hf := zbv_use eσ10 hf
  refine z_put hC hI hinX12_prefixed_X120 tyX12_ok nmX12 0 (wM_e0 ad cy σ) rfl 31 (by decide) (List.mem_cons_of_mem _ zw49_20) rfl rfl rfl (Nat.le_of_ble_eq_true rfl) ((wM_s0_31 ad cy σ x1).trans (congrArg (wM ad cy) eσ10.symm)) dX12_prefixed_253 (fun H locs hI => ?_)
  refine lv_aload_n hx hb dX12_prefixed_256 rfl (lv_at hl 1 rfl) ?_
  refine lv_iload_n hx hb dX12_prefixed_257 rfl (lv_at hl 3 rfl) ?_
  obtain ⟨σ11, v12, g11, hf⟩ := zbi_use hf
  refine z_callVi (As := [.int x3]) (rest := []) hC hI (cX12_plain_r1_met st l D ad cy σ10 x3 _ g11) (zgV zw50_6 zw50_7 zw50_8 zw1_5 zw50_9) rfl ⟨rfl, rfl⟩ 1 hdX12_plain_r1 ⟨Nat.le_of_ble_eq_true rfl, Nat.le_of_ble_eq_true rfl⟩ rfl rfl (wM_e0 ad cy σ10) rfl hl rfl (Nat.le_of_ble_eq_true rfl) dX12_prefixed_258 ⟨Nat.zero_le _, Nat.zero_le _⟩ (fun H locs hI => ?_)
  refine lv_iconst (v := 4) hx hb dX12_prefixed_261 (by decide) ?_
  refine lv_iadd hx hb dX12_prefixed_262 ?_
  exact z_ireturn hC hI hf dX12_prefixed_263
set_option maxRecDepth 20000 in
set_option maxHeartbeats 4000000 in
theorem bX12_prefixed_243 {st : Nat → Nat} {p : Program} {l : Launch} {e : Env} {s : State} {m : MethodId} {args : Array Value} {below : List Frame} {meth : Method} {c : Code} {D : va_G} {A : Nat → Prop} {ad : Nat → Nat} {cy : Nat → ClassId} (hC : zC p m c cX12_prefixed 8 s args wzX12_prefixed RX12 meth (some .int))  {res : zSt × Int32} {H : Heap} {locs : List Loc} {σ : zSt} {ls : Array Slot} {x1 : Int32} {x3 : Int32} (hI : zI st D (tM cy) (wM ad cy σ) A s H locs) (hl : lv_has ls 8 [(0, .ref (ad 0)), (1, .int x1), (3, .int x3)]) (hf : fX12_prefixed_243  σ x1 x3 = some res) : W p l e rmX12_prefixed s m args below meth c H locs 0 0 (zQi below args s D (tM cy) (wM ad cy) A res) (F0 m 243 ls []) := by
  have hx := hC.1
  have hb := hC.2.1
  unfold fX12_prefixed_243 at hf
  refine lv_iconst (v := 0) hx hb dX12_prefixed_243 (by decide) ?_
  exact bX12_prefixed_244 hC  hI hl hf
set_option maxRecDepth 20000 in
set_option maxHeartbeats 4000000 in
theorem bX12_prefixed_239 {st : Nat → Nat} {p : Program} {l : Launch} {e : Env} {s : State} {m : MethodId} {args : Array Value} {below : List Frame} {meth : Method} {c : Code} {D : va_G} {A : Nat → Prop} {ad : Nat → Nat} {cy : Nat → ClassId} (hC : zC p m c cX12_prefixed 8 s args wzX12_prefixed RX12 meth (some .int))  {res : zSt × Int32} {H : Heap} {locs : List Loc} {σ : zSt} {ls : Array Slot} {x1 : Int32} {x3 : Int32} (hI : zI st D (tM cy) (wM ad cy σ) A s H locs) (hl : lv_has ls 8 [(0, .ref (ad 0)), (1, .int x1), (3, .int x3)]) (hf : fX12_prefixed_239  σ x1 x3 = some res) : W p l e rmX12_prefixed s m args below meth c H locs 0 0 (zQi below args s D (tM cy) (wM ad cy) A res) (F0 m 239 ls []) := by
  have hx := hC.1
  have hb := hC.2.1
  unfold fX12_prefixed_239 at hf
  refine lv_iconst (v := 1) hx hb dX12_prefixed_239 (by decide) ?_
  refine lv_goto (tgt := 244) hx hb dX12_prefixed_240 (by decide) ?_
  exact bX12_prefixed_244 hC  hI hl hf
set_option maxRecDepth 20000 in
set_option maxHeartbeats 4000000 in
theorem bX12_prefixed_226 {st : Nat → Nat} {p : Program} {l : Launch} {e : Env} {s : State} {m : MethodId} {args : Array Value} {below : List Frame} {meth : Method} {c : Code} {D : va_G} {A : Nat → Prop} {ad : Nat → Nat} {cy : Nat → ClassId} (hC : zC p m c cX12_prefixed 8 s args wzX12_prefixed RX12 meth (some .int))  {res : zSt × Int32} {H : Heap} {locs : List Loc} {σ : zSt} {ls : Array Slot} {x1 : Int32} {x3 : Int32} {x5 : Int32} {x6 : Int32} (hI : zI st D (tM cy) (wM ad cy σ) A s H locs) (hl : lv_has ls 8 [(0, .ref (ad 0)), (1, .int x1), (3, .int x3), (5, .int x5), (6, .int x6)]) (hf : fX12_prefixed_226  σ x1 x3 x5 x6 = some res) : W p l e rmX12_prefixed s m args below meth c H locs 0 0 (zQi below args s D (tM cy) (wM ad cy) A res) (F0 m 226 ls []) := by
  have hx := hC.1
  have hb := hC.2.1
  unfold fX12_prefixed_226 at hf
  refine lv_iload hx hb dX12_prefixed_226 (lv_at hl 4 rfl) ?_
  refine lv_iconst (v := 2) hx hb dX12_prefixed_228 (by decide) ?_
  refine lv_icmp_ne (tgt := 243) hx hb dX12_prefixed_229 (by decide) (fun q => ?_) (fun q => ?_)
  · replace hf := zif_f q hf
    exact bX12_prefixed_243 hC  hI (lv_sub hl [0, 1, 2] rfl) hf
  replace hf := zif_t q hf
  refine lv_iload hx hb dX12_prefixed_232 (lv_at hl 3 rfl) ?_
  refine lv_bipush (v := 6) hx hb dX12_prefixed_234 (by decide) ?_
  refine lv_icmp_ne (tgt := 243) hx hb dX12_prefixed_236 (by decide) (fun q => ?_) (fun q => ?_)
  · replace hf := zif_f q hf
    exact bX12_prefixed_243 hC  hI (lv_sub hl [0, 1, 2] rfl) hf
  replace hf := zif_t q hf
  exact bX12_prefixed_239 hC  hI (lv_sub hl [0, 1, 2] rfl) hf
set_option maxRecDepth 20000 in
set_option maxHeartbeats 4000000 in
theorem bX12_prefixed_220 {st : Nat → Nat} {p : Program} {l : Launch} {e : Env} {s : State} {m : MethodId} {args : Array Value} {below : List Frame} {meth : Method} {c : Code} {D : va_G} {A : Nat → Prop} {ad : Nat → Nat} {cy : Nat → ClassId} (hC : zC p m c cX12_prefixed 8 s args wzX12_prefixed RX12 meth (some .int))  {res : zSt × Int32} {H : Heap} {locs : List Loc} {σ : zSt} {ls : Array Slot} {x1 : Int32} {x3 : Int32} {x5 : Int32} {x6 : Int32} (hI : zI st D (tM cy) (wM ad cy σ) A s H locs) (hl : lv_has ls 8 [(0, .ref (ad 0)), (1, .int x1), (3, .int x3), (5, .int x5), (6, .int x6)]) (hf : fX12_prefixed_220  σ x1 x3 x5 x6 = some res) : W p l e rmX12_prefixed s m args below meth c H locs 0 0 (zQi below args s D (tM cy) (wM ad cy) A res) (F0 m 220 ls []) := by
  have hx := hC.1
  have hb := hC.2.1
  unfold fX12_prefixed_220 at hf
  refine lv_iload_n hx hb dX12_prefixed_220 rfl (lv_at hl 2 rfl) ?_
  refine lv_bipush (v := 118) hx hb dX12_prefixed_221 (by decide) ?_
  refine lv_icmp_ne (tgt := 239) hx hb dX12_prefixed_223 (by decide) (fun q => ?_) (fun q => ?_)
  · replace hf := zif_f q hf
    exact bX12_prefixed_239 hC  hI (lv_sub hl [0, 1, 2] rfl) hf
  replace hf := zif_t q hf
  exact bX12_prefixed_226 hC  hI hl hf
set_option maxRecDepth 20000 in
set_option maxHeartbeats 4000000 in
theorem bX12_prefixed_200 {st : Nat → Nat} {p : Program} {l : Launch} {e : Env} {s : State} {m : MethodId} {args : Array Value} {below : List Frame} {meth : Method} {c : Code} {D : va_G} {A : Nat → Prop} {ad : Nat → Nat} {cy : Nat → ClassId} (hC : zC p m c cX12_prefixed 8 s args wzX12_prefixed RX12 meth (some .int))  {res : zSt × Int32} {H : Heap} {locs : List Loc} {σ : zSt} {ls : Array Slot} {x1 : Int32} {x3 : Int32} {x4 : Int32} {x5 : Int32} {x6 : Int32} (hI : zI st D (tM cy) (wM ad cy σ) A s H locs) (hl : lv_has ls 8 [(0, .ref (ad 0)), (1, .int x1), (3, .int x3), (4, .int x4), (5, .int x5), (6, .int x6)]) (hf : fX12_prefixed_200  σ x1 x3 x4 x5 x6 = some res) : W p l e rmX12_prefixed s m args below meth c H locs 0 0 (zQi below args s D (tM cy) (wM ad cy) A res) (F0 m 200 ls []) := by
  have hx := hC.1
  have hb := hC.2.1
  unfold fX12_prefixed_200 at hf
  refine lv_iload hx hb dX12_prefixed_200 (lv_at hl 5 rfl) ?_
  refine lv_iconst (v := 1) hx hb dX12_prefixed_202 (by decide) ?_
  refine lv_icmp_ne (tgt := 226) hx hb dX12_prefixed_203 (by decide) (fun q => ?_) (fun q => ?_)
  · replace hf := zif_f q hf
    exact bX12_prefixed_226 hC  hI (lv_sub hl [0, 1, 2, 4, 5] rfl) hf
  replace hf := zif_t q hf
  refine lv_iload hx hb dX12_prefixed_206 (lv_at hl 3 rfl) ?_
  refine lv_bipush (v := 6) hx hb dX12_prefixed_208 (by decide) ?_
  refine lv_icmp_eq (tgt := 220) hx hb dX12_prefixed_210 (by decide) (fun q => ?_) (fun q => ?_)
  · replace hf := zif_t q hf
    exact bX12_prefixed_220 hC  hI (lv_sub hl [0, 1, 2, 4, 5] rfl) hf
  replace hf := zif_f q hf
  refine lv_iload hx hb dX12_prefixed_213 (lv_at hl 4 rfl) ?_
  refine lv_bipush (v := 6) hx hb dX12_prefixed_215 (by decide) ?_
  refine lv_icmp_ne (tgt := 226) hx hb dX12_prefixed_217 (by decide) (fun q => ?_) (fun q => ?_)
  · replace hf := zif_f q hf
    exact bX12_prefixed_226 hC  hI (lv_sub hl [0, 1, 2, 4, 5] rfl) hf
  replace hf := zif_t q hf
  exact bX12_prefixed_220 hC  hI (lv_sub hl [0, 1, 2, 4, 5] rfl) hf
set_option maxRecDepth 20000 in
set_option maxHeartbeats 4000000 in
theorem bX12_prefixed {st : Nat → Nat} {p : Program} {l : Launch} {e : Env} {s : State} {m : MethodId} {args : Array Value} {below : List Frame} {meth : Method} {c : Code} {D : va_G} {A : Nat → Prop} {ad : Nat → Nat} {cy : Nat → ClassId} (hC : zC p m c cX12_prefixed 8 s args wzX12_prefixed RX12 meth (some .int))  {res : zSt × Int32} {H : Heap} {locs : List Loc} {σ : zSt} {ls : Array Slot} {x1 : Int32} (hI : zI st D (tM cy) (wM ad cy σ) A s H locs) (hl : lv_has ls 8 [(0, .ref (ad 0)), (1, .int x1)]) (hf : fX12_prefixed  σ x1 = some res) : W p l e rmX12_prefixed s m args below meth c H locs 0 0 (zQi below args s D (tM cy) (wM ad cy) A res) (F0 m 0 ls []) := by
  have hx := hC.1
  have hb := hC.2.1
  unfold fX12_prefixed at hf
  refine lv_aload_n hx hb dX12_prefixed_0 rfl (lv_at hl 0 rfl) ?_
  refine lv_aload_n hx hb dX12_prefixed_1 rfl (lv_at hl 0 rfl) ?_
  refine z_get hC hI hinX12_prefixed_X120 0 (wM_e0 ad cy σ) rfl 10 (by decide) (List.mem_cons_of_mem _ zw9_7) rfl dX12_prefixed_2 ?_
  refine lv_bipush (v := 19) hx hb dX12_prefixed_5 (by decide) ?_
  obtain ⟨q, hf⟩ := zck_use hf
  refine z_iald hC hI 3 2 (wM_e3 ad cy σ) (tM_t3 cy) q dX12_prefixed_7 ?_
  obtain ⟨σ13, v14, g13, hf⟩ := zbi_use hf
  refine z_callVi (As := [.int (zgi σ 3 (19 : Int32).toNatClampNeg)]) (rest := []) hC hI (cX12_read_met st l D ad cy σ (zgi σ 3 (19 : Int32).toNatClampNeg) _ g13) (zgV zw49_8 zw49_9 zw49_10 zw1_5 zw49_11) rfl ⟨rfl, rfl⟩ 1 hdX12_read ⟨Nat.le_of_ble_eq_true rfl, Nat.le_of_ble_eq_true rfl⟩ rfl rfl (wM_e0 ad cy σ) rfl hl rfl (Nat.le_of_ble_eq_true rfl) dX12_prefixed_8 ⟨Nat.zero_le _, Nat.zero_le _⟩ (fun H locs hI => ?_)
  refine lv_istore_n (lv' := [(2, .int v14), (0, .ref (ad 0)), (1, .int x1)]) hx hb dX12_prefixed_11 rfl hl (by decide) rfl (fun ls hl => ?_)
  refine lv_iload_n hx hb dX12_prefixed_12 rfl (lv_at hl 0 rfl) ?_
  refine lv_sipush (v := 221) hx hb dX12_prefixed_13 (by decide) ?_
  refine lv_icmp_eq (tgt := 33) hx hb dX12_prefixed_16 (by decide) (fun q => ?_) (fun q => ?_)
  · replace hf := zif_t q hf
    exact bX12_prefixed_33 hC  hI (lv_sub hl [1] rfl) hf
  replace hf := zif_f q hf
  refine lv_iload_n hx hb dX12_prefixed_19 rfl (lv_at hl 0 rfl) ?_
  refine lv_sipush (v := 237) hx hb dX12_prefixed_20 (by decide) ?_
  refine lv_icmp_eq (tgt := 33) hx hb dX12_prefixed_23 (by decide) (fun q => ?_) (fun q => ?_)
  · replace hf := zif_t q hf
    exact bX12_prefixed_33 hC  hI (lv_sub hl [1] rfl) hf
  replace hf := zif_f q hf
  refine lv_iload_n hx hb dX12_prefixed_26 rfl (lv_at hl 0 rfl) ?_
  refine lv_sipush (v := 253) hx hb dX12_prefixed_27 (by decide) ?_
  refine lv_icmp_ne (tgt := 43) hx hb dX12_prefixed_30 (by decide) (fun q => ?_) (fun q => ?_)
  · replace hf := zif_f q hf
    refine lv_aload_n hx hb dX12_prefixed_43 rfl (lv_at hl 1 rfl) ?_
    obtain ⟨σ15, v16, g15, hf⟩ := zbi_use hf
    refine z_callVi (As := []) (rest := []) hC hI (cX12_fetch_met st l D ad cy σ13  _ g15) (zgV zw49_22 zw49_23 zw50_0 zw1_5 zw50_1) rfl ⟨rfl, rfl⟩ 0 hdX12_fetch ⟨Nat.le_of_ble_eq_true rfl, Nat.le_of_ble_eq_true rfl⟩ rfl rfl (wM_e0 ad cy σ13) rfl hl rfl (Nat.le_of_ble_eq_true rfl) dX12_prefixed_44 ⟨Nat.zero_le _, Nat.zero_le _⟩ (fun H locs hI => ?_)
    refine lv_istore_n (lv' := [(3, .int v16), (2, .int v14), (0, .ref (ad 0)), (1, .int x1)]) hx hb dX12_prefixed_47 rfl hl (by decide) rfl (fun ls hl => ?_)
    refine lv_iload_n hx hb dX12_prefixed_48 rfl (lv_at hl 0 rfl) ?_
    refine lv_sipush (v := 203) hx hb dX12_prefixed_49 (by decide) ?_
    refine lv_icmp_ne (tgt := 155) hx hb dX12_prefixed_52 (by decide) (fun q => ?_) (fun q => ?_)
    · replace hf := zif_f q hf
      refine lv_iload_n hx hb dX12_prefixed_155 rfl (lv_at hl 0 rfl) ?_
      refine lv_iconst (v := 3) hx hb dX12_prefixed_156 (by decide) ?_
      refine lv_ishr hx hb dX12_prefixed_157 ?_
      refine lv_bipush (v := 7) hx hb dX12_prefixed_158 (by decide) ?_
      refine lv_iand hx hb dX12_prefixed_160 ?_
      refine lv_topi (fun v17 ev17 => ?_)
      replace hf := zbv_use ev17 hf
      refine lv_istore (lv' := [(4, .int v17), (3, .int v16), (2, .int v14), (0, .ref (ad 0)), (1, .int x1)]) hx hb dX12_prefixed_161 hl (by decide) rfl (fun ls hl => ?_)
      refine lv_iload_n hx hb dX12_prefixed_163 rfl (lv_at hl 1 rfl) ?_
      refine lv_bipush (v := 7) hx hb dX12_prefixed_164 (by decide) ?_
      refine lv_iand hx hb dX12_prefixed_166 ?_
      refine lv_topi (fun v18 ev18 => ?_)
      replace hf := zbv_use ev18 hf
      refine lv_istore (lv' := [(5, .int v18), (4, .int v17), (3, .int v16), (2, .int v14), (0, .ref (ad 0)), (1, .int x1)]) hx hb dX12_prefixed_167 hl (by decide) rfl (fun ls hl => ?_)
      refine lv_iload_n hx hb dX12_prefixed_169 rfl (lv_at hl 2 rfl) ?_
      refine lv_bipush (v := 6) hx hb dX12_prefixed_170 (by decide) ?_
      refine lv_ishr hx hb dX12_prefixed_172 ?_
      refine lv_topi (fun v19 ev19 => ?_)
      replace hf := zbv_use ev19 hf
      refine lv_istore (lv' := [(6, .int v19), (5, .int v18), (4, .int v17), (3, .int v16), (2, .int v14), (0, .ref (ad 0)), (1, .int x1)]) hx hb dX12_prefixed_173 hl (by decide) rfl (fun ls hl => ?_)
      refine lv_iload hx hb dX12_prefixed_175 (lv_at hl 0 rfl) ?_
      refine lv_if_ne (tgt := 200) hx hb dX12_prefixed_177 (by decide) (fun q => ?_) (fun q => ?_)
      · replace hf := zif_f q hf
        exact bX12_prefixed_200 hC  hI (lv_sub hl [5, 6, 3, 2, 1, 0] rfl) hf
      replace hf := zif_t q hf
      refine lv_iload hx hb dX12_prefixed_180 (lv_at hl 1 rfl) ?_
      refine lv_iconst (v := 3) hx hb dX12_prefixed_182 (by decide) ?_
      refine lv_icmp_le (tgt := 200) hx hb dX12_prefixed_183 (by decide) (fun q => ?_) (fun q => ?_)
      · replace hf := zif_t q hf
        exact bX12_prefixed_200 hC  hI (lv_sub hl [5, 6, 3, 2, 1, 0] rfl) hf
      replace hf := zif_f q hf
      refine lv_iload hx hb dX12_prefixed_186 (lv_at hl 1 rfl) ?_
      refine lv_bipush (v := 7) hx hb dX12_prefixed_188 (by decide) ?_
      refine lv_icmp_ge (tgt := 200) hx hb dX12_prefixed_190 (by decide) (fun q => ?_) (fun q => ?_)
      · replace hf := zif_t q hf
        exact bX12_prefixed_200 hC  hI (lv_sub hl [5, 6, 3, 2, 1, 0] rfl) hf
      replace hf := zif_f q hf
      refine lv_iload hx hb dX12_prefixed_193 (lv_at hl 2 rfl) ?_
      refine lv_bipush (v := 6) hx hb dX12_prefixed_195 (by decide) ?_
      refine lv_icmp_eq (tgt := 239) hx hb dX12_prefixed_197 (by decide) (fun q => ?_) (fun q => ?_)
      · replace hf := zif_t q hf
        exact bX12_prefixed_239 hC  hI (lv_sub hl [5, 6, 3] rfl) hf
      replace hf := zif_f q hf
      exact bX12_prefixed_200 hC  hI (lv_sub hl [5, 6, 3, 2, 1, 0] rfl) hf
    replace hf := zif_t q hf
    refine lv_aload_n hx hb dX12_prefixed_55 rfl (lv_at hl 2 rfl) ?_
    refine z_get hC hI hinX12_prefixed_X120 0 (wM_e0 ad cy σ15) rfl 10 (by decide) (List.mem_cons_of_mem _ zw9_7) rfl dX12_prefixed_56 ?_
    refine lv_bipush (v := 20) hx hb dX12_prefixed_59 (by decide) ?_
    refine lv_aload_n hx hb dX12_prefixed_61 rfl (lv_at hl 2 rfl) ?_
    refine z_get hC hI hinX12_prefixed_X120 0 (wM_e0 ad cy σ15) rfl 10 (by decide) (List.mem_cons_of_mem _ zw9_7) rfl dX12_prefixed_62 ?_
    refine lv_iload_n hx hb dX12_prefixed_65 rfl (lv_at hl 3 rfl) ?_
    obtain ⟨q, hf⟩ := zck_use hf
    refine z_iald hC hI 3 2 (wM_e3 ad cy σ15) (tM_t3 cy) q dX12_prefixed_66 ?_
    refine lv_aload_n hx hb dX12_prefixed_67 rfl (lv_at hl 2 rfl) ?_
    obtain ⟨σ20, v21, g20, hf⟩ := zbi_use hf
    refine z_callVi (As := []) (rest := [.int (zgi σ15 3 x1.toNatClampNeg), .int 20, .ref (ad 3)]) hC hI (cX12_next_met st l D ad cy σ15  _ g20) (zgV zw50_2 zw50_3 zw50_4 zw1_5 zw50_5) rfl ⟨rfl, rfl⟩ 0 hdX12_next ⟨Nat.le_of_ble_eq_true rfl, Nat.le_of_ble_eq_true rfl⟩ rfl rfl (wM_e0 ad cy σ15) rfl hl rfl (Nat.le_of_ble_eq_true rfl) dX12_prefixed_68 ⟨Nat.zero_le _, Nat.zero_le _⟩ (fun H locs hI => ?_)
    obtain ⟨σ22, v23, g22, hf⟩ := zbi_use hf
    refine z_callSi (As := [.int v21]) (rest := [.int (zgi σ15 3 x1.toNatClampNeg), .int 20, .ref (ad 3)]) hC hI (cX12_signed_met st l D ad cy σ20 v21 _ g22) (zgS zw50_18 zw50_19 zw1_5 zw50_20) rfl ⟨rfl, rfl⟩ 1 hdX12_signed ⟨Nat.le_of_ble_eq_true rfl, Nat.le_of_ble_eq_true rfl⟩ rfl hl rfl (Nat.le_of_ble_eq_true rfl) dX12_prefixed_71 ⟨Nat.zero_le _, Nat.zero_le _⟩ (fun H locs hI => ?_)
    refine lv_iadd hx hb dX12_prefixed_74 ?_
    refine lv_ldc (v := 65535) hx hb hC.2.2.2.1 (hC.2.2.2.2.1 _ (List.mem_cons_of_mem _ zw16_11)) dX12_prefixed_75 ?_
    refine lv_iand hx hb dX12_prefixed_77 ?_
    obtain ⟨q, hf⟩ := zck_use hf
    obtain ⟨σ24, eσ24⟩ : ∃ z, z = zsi σ22 3 ((20 : Int32).toNatClampNeg) (((zgi σ15 3 x1.toNatClampNeg) + v23) &&& 65535) := ⟨_, rfl⟩
    replace hf := zbv_use eσ24 hf
    refine z_iast hC hI 3 2 (wM_e3 ad cy σ22) (tM_t3 cy) q ((wM_s3 ad cy σ22 _ _).trans (congrArg (wM ad cy) eσ24.symm)) dX12_prefixed_78 (fun H locs hI => ?_)
    refine lv_aload_n hx hb dX12_prefixed_79 rfl (lv_at hl 2 rfl) ?_
    refine lv_iconst (v := 1) hx hb dX12_prefixed_80 (by decide) ?_
    obtain ⟨q, hf⟩ := zck_use hf
    obtain ⟨σ25, eσ25⟩ : ∃ z, z = zsi σ24 0 32 1 := ⟨_, rfl⟩
    replace hf := zbv_use eσ25 hf
    refine z_put hC hI hinX12_prefixed_X120 tyX12_ok nmX12 0 (wM_e0 ad cy σ24) rfl 32 (by decide) (List.mem_cons_of_mem _ zw49_21) rfl (zbo_n q) (zbo_f q) (Nat.le_of_ble_eq_true rfl) ((wM_s0_32 ad cy σ24 1).trans (congrArg (wM ad cy) eσ25.symm)) dX12_prefixed_81 (fun H locs hI => ?_)
    refine lv_aload_n hx hb dX12_prefixed_84 rfl (lv_at hl 2 rfl) ?_
    obtain ⟨σ26, v27, g26, hf⟩ := zbi_use hf
    refine z_callVi (As := []) (rest := []) hC hI (cX12_next_met st l D ad cy σ25  _ g26) (zgV zw50_2 zw50_3 zw50_4 zw1_5 zw50_5) rfl ⟨rfl, rfl⟩ 0 hdX12_next ⟨Nat.le_of_ble_eq_true rfl, Nat.le_of_ble_eq_true rfl⟩ rfl rfl (wM_e0 ad cy σ25) rfl hl rfl (Nat.le_of_ble_eq_true rfl) dX12_prefixed_85 ⟨Nat.zero_le _, Nat.zero_le _⟩ (fun H locs hI => ?_)
    refine lv_istore (lv' := [(4, .int v27), (3, .int v16), (2, .int v14), (0, .ref (ad 0)), (1, .int x1)]) hx hb dX12_prefixed_88 hl (by decide) rfl (fun ls hl => ?_)
    refine lv_aload_n hx hb dX12_prefixed_90 rfl (lv_at hl 3 rfl) ?_
    refine lv_iload hx hb dX12_prefixed_91 (lv_at hl 0 rfl) ?_
    obtain ⟨σ28, v29, g28, hf⟩ := zbi_use hf
    refine z_callVi (As := [.int v27]) (rest := []) hC hI (cX12_turn_met st l D ad cy σ26 v27 _ g28) (zgV zw55_5 zw55_6 zw55_7 zw1_5 zw55_8) rfl ⟨rfl, rfl⟩ 1 hdX12_turn ⟨Nat.le_of_ble_eq_true rfl, Nat.le_of_ble_eq_true rfl⟩ rfl rfl (wM_e0 ad cy σ26) rfl hl rfl (Nat.le_of_ble_eq_true rfl) dX12_prefixed_93 ⟨Nat.zero_le _, Nat.zero_le _⟩ (fun H locs hI => ?_)
    refine lv_istore (lv' := [(5, .int v29), (4, .int v27), (3, .int v16), (2, .int v14), (0, .ref (ad 0)), (1, .int x1)]) hx hb dX12_prefixed_96 hl (by decide) rfl (fun ls hl => ?_)
    refine lv_iload hx hb dX12_prefixed_98 (lv_at hl 1 rfl) ?_
    refine lv_bipush (v := 6) hx hb dX12_prefixed_100 (by decide) ?_
    refine lv_ishr hx hb dX12_prefixed_102 ?_
    refine lv_iconst (v := 1) hx hb dX12_prefixed_103 (by decide) ?_
    refine lv_icmp_eq (tgt := 135) hx hb dX12_prefixed_104 (by decide) (fun q => ?_) (fun q => ?_)
    · replace hf := zif_t q hf
      exact bX12_prefixed_135 hC  hI (lv_sub hl [1, 0] rfl) hf
    replace hf := zif_f q hf
    refine lv_iload hx hb dX12_prefixed_107 (lv_at hl 1 rfl) ?_
    refine lv_bipush (v := 7) hx hb dX12_prefixed_109 (by decide) ?_
    refine lv_iand hx hb dX12_prefixed_111 ?_
    refine lv_bipush (v := 6) hx hb dX12_prefixed_112 (by decide) ?_
    refine lv_icmp_eq (tgt := 135) hx hb dX12_prefixed_114 (by decide) (fun q => ?_) (fun q => ?_)
    · replace hf := zif_t q hf
      exact bX12_prefixed_135 hC  hI (lv_sub hl [1, 0] rfl) hf
    replace hf := zif_f q hf
    refine lv_aload_n hx hb dX12_prefixed_117 rfl (lv_at hl 4 rfl) ?_
    refine lv_iconst (v := 0) hx hb dX12_prefixed_118 (by decide) ?_
    obtain ⟨q, hf⟩ := zck_use hf
    obtain ⟨σ30, eσ30⟩ : ∃ z, z = zsi σ28 0 32 0 := ⟨_, rfl⟩
    replace hf := zbv_use eσ30 hf
    refine z_put hC hI hinX12_prefixed_X120 tyX12_ok nmX12 0 (wM_e0 ad cy σ28) rfl 32 (by decide) (List.mem_cons_of_mem _ zw49_21) rfl (zbo_n q) (zbo_f q) (Nat.le_of_ble_eq_true rfl) ((wM_s0_32 ad cy σ28 0).trans (congrArg (wM ad cy) eσ30.symm)) dX12_prefixed_119 (fun H locs hI => ?_)
    refine lv_aload_n hx hb dX12_prefixed_122 rfl (lv_at hl 4 rfl) ?_
    refine lv_iload hx hb dX12_prefixed_123 (lv_at hl 1 rfl) ?_
    refine lv_bipush (v := 7) hx hb dX12_prefixed_125 (by decide) ?_
    refine lv_iand hx hb dX12_prefixed_127 ?_
    refine lv_aload_n hx hb dX12_prefixed_128 rfl (lv_at hl 4 rfl) ?_
    refine z_get hC hI hinX12_prefixed_X120 0 (wM_e0 ad cy σ30) rfl 33 (by decide) (List.mem_cons_of_mem _ zw55_9) rfl dX12_prefixed_129 ?_
    obtain ⟨σ31, g31, hf⟩ := zbu_use hf
    refine z_callVu (As := [.int (v27 &&& 7), .int (zgi σ30 0 33)]) (rest := []) hC hI (cX12_rTo_met st l D ad cy σ30 (v27 &&& 7) (zgi σ30 0 33) _ g31) (zgV zw53_9 zw53_10 zw53_11 zw1_5 zw53_12) rfl ⟨rfl, rfl⟩ 2 hdX12_rTo ⟨Nat.le_of_ble_eq_true rfl, Nat.le_of_ble_eq_true rfl⟩ rfl rfl (wM_e0 ad cy σ30) rfl hl rfl (Nat.le_of_ble_eq_true rfl) dX12_prefixed_132 ⟨Nat.zero_le _, Nat.zero_le _⟩ (fun H locs hI => ?_)
    exact bX12_prefixed_135 hC  hI (lv_sub hl [1, 0] rfl) hf
  replace hf := zif_t q hf
  exact bX12_prefixed_33 hC  hI (lv_sub hl [1] rfl) hf
set_option maxRecDepth 20000 in
theorem cX12_prefixed_met (st : Nat → Nat) (l : Launch) (D : va_G) (ad : Nat → Nat) (cy : Nat → ClassId) (σ : zSt) (x1 : Int32) (res : zSt × Int32) (hf : fX12_prefixed σ x1 = some res) (sz : Nat) : zMi st l yX12_prefixed wzX12_prefixed rmX12_prefixed [.ref (ad 0), .int x1] D (tM cy) (wM ad cy) sz σ res :=
  zMi.of (cc := cX12_prefixed) (maxL := 8) (ret := (some .int)) (by decide) rfl (Nat.le_of_ble_eq_true rfl) (fun p e s m args below meth c hC A hI ls hl => bX12_prefixed hC hI hl hf)
theorem hdX12_prefixed : yX12_prefixed.cls = RX12 ∧ yX12_prefixed.cls ≠ "java/lang/invoke/MethodHandle" ∧ yX12_prefixed.cls ≠ "java/lang/invoke/VarHandle" ∧ (parseMethodDescriptor yX12_prefixed.desc).map (fun d => d.parameters.length) = some 1 := by decide +kernel
noncomputable def rmX12_more3 : Room := { frames := 10, cells := 0, slots := 0, locals := 236 }
theorem hinX12_more3_X120 : ∀ w ∈ wsX120, w ∈ wzX12_more3 := fun w h => List.mem_cons_of_mem _ (inlX12 w h)
noncomputable def fX12_more3_119  (σ : zSt) (s0 : Int32) : Option (zSt × Int32) :=
  zbu (fX12_push σ s0) (fun σ1 =>
  some (σ1, 11))
noncomputable def fX12_more3_200  (σ : zSt) (s0 : Int32) : Option (zSt × Int32) :=
  some (σ, s0)
noncomputable def fX12_more3_197  (σ : zSt) (s0 : Int32) : Option (zSt × Int32) :=
  zbi (fX12_prefixed σ s0) (fun σ2 v3 =>
  fX12_more3_200 σ2 v3)
noncomputable def fX12_more3  (σ : zSt) (x1 : Int32) (x2 : Int32) : Option (zSt × Int32) :=
  zbv (x1 >>> ((1 : Int32) &&& 31)) (fun v4 =>
  if x2 = 4 then zbi (fX12_nextWord σ ) (fun σ22 v23 =>
  zck (zin 20 1048) (zbv (zsi σ22 3 ((20 : Int32).toNatClampNeg) v23) (fun σ24 =>
  zbi (fX12_cc σ24 x1) (fun σ25 v26 =>
  if v26 = 0 then some (σ25, 10) else
  zck (zin 19 1048) (
  zbu (fX12_push σ25 (zgi σ25 3 (19 : Int32).toNatClampNeg)) (fun σ27 =>
  zck (zin 20 1048) (
  zck (zin 19 1048) (zbv (zsi σ27 3 ((19 : Int32).toNatClampNeg) (zgi σ27 3 (20 : Int32).toNatClampNeg)) (fun σ28 =>
  some (σ28, 17)))))))))) else
  if x2 = 6 then zbi (fX12_next σ ) (fun σ19 v20 =>
  zbu (fX12_does σ19 x1 v20) (fun σ21 =>
  some (σ21, 7))) else
  if x2 = 7 then zbu (fX12_call σ (8 * x1)) (fun σ18 =>
  some (σ18, 11)) else
  zck (decide (¬ 2 = 0)) (
  if (zrem x1 2) = 0 then if v4 = 3 then zbi (fX12_pair σ 0) (fun σ16 v17 =>
  fX12_more3_119 σ16 v17) else
  zbi (fX12_rp σ v4) (fun σ14 v15 =>
  fX12_more3_119 σ14 v15) else
  if v4 = 0 then zbi (fX12_nextWord σ ) (fun σ9 v10 =>
  zck (zin 20 1048) (zbv (zsi σ9 3 ((20 : Int32).toNatClampNeg) v10) (fun σ11 =>
  zck (zin 19 1048) (
  zbu (fX12_push σ11 (zgi σ11 3 (19 : Int32).toNatClampNeg)) (fun σ12 =>
  zck (zin 20 1048) (
  zck (zin 19 1048) (zbv (zsi σ12 3 ((19 : Int32).toNatClampNeg) (zgi σ12 3 (20 : Int32).toNatClampNeg)) (fun σ13 =>
  some (σ13, 17))))))))) else
  if v4 = 2 then zbi (fX12_fetch σ ) (fun σ5 v6 =>
  zbi (fX12_more σ5 v6) (fun σ7 v8 =>
  fX12_more3_200 σ7 v8)) else
  if v4 = 1 then fX12_more3_197 σ 16 else
  fX12_more3_197 σ 17))
set_option maxRecDepth 20000 in
set_option maxHeartbeats 4000000 in
theorem bX12_more3_119 {st : Nat → Nat} {p : Program} {l : Launch} {e : Env} {s : State} {m : MethodId} {args : Array Value} {below : List Frame} {meth : Method} {c : Code} {D : va_G} {A : Nat → Prop} {ad : Nat → Nat} {cy : Nat → ClassId} (hC : zC p m c cX12_more3 4 s args wzX12_more3 RX12 meth (some .int))  {res : zSt × Int32} {H : Heap} {locs : List Loc} {σ : zSt} {ls : Array Slot} {s0 : Int32} (hI : zI st D (tM cy) (wM ad cy σ) A s H locs) (hl : lv_has ls 4 []) (hf : fX12_more3_119  σ s0 = some res) : W p l e rmX12_more3 s m args below meth c H locs 0 0 (zQi below args s D (tM cy) (wM ad cy) A res) (F0 m 119 ls [.int s0, .ref (ad 0)]) := by
  have hx := hC.1
  have hb := hC.2.1
  unfold fX12_more3_119 at hf
  obtain ⟨σ1, g1, hf⟩ := zbu_use hf
  refine z_callVu (As := [.int s0]) (rest := []) hC hI (cX12_push_met st l D ad cy σ s0 _ g1) (zgV zw48_1 zw48_2 zw48_3 zw1_5 zw48_4) rfl ⟨rfl, rfl⟩ 1 hdX12_push ⟨Nat.le_of_ble_eq_true rfl, Nat.le_of_ble_eq_true rfl⟩ rfl rfl (wM_e0 ad cy σ) rfl hl rfl (Nat.le_of_ble_eq_true rfl) dX12_more3_119 ⟨Nat.zero_le _, Nat.zero_le _⟩ (fun H locs hI => ?_)
  refine lv_bipush (v := 11) hx hb dX12_more3_122 (by decide) ?_
  exact z_ireturn hC hI hf dX12_more3_124
set_option maxRecDepth 20000 in
set_option maxHeartbeats 4000000 in
theorem bX12_more3_200 {st : Nat → Nat} {p : Program} {l : Launch} {e : Env} {s : State} {m : MethodId} {args : Array Value} {below : List Frame} {meth : Method} {c : Code} {D : va_G} {A : Nat → Prop} {ad : Nat → Nat} {cy : Nat → ClassId} (hC : zC p m c cX12_more3 4 s args wzX12_more3 RX12 meth (some .int))  {res : zSt × Int32} {H : Heap} {locs : List Loc} {σ : zSt} {ls : Array Slot} {s0 : Int32} (hI : zI st D (tM cy) (wM ad cy σ) A s H locs) (hl : lv_has ls 4 []) (hf : fX12_more3_200  σ s0 = some res) : W p l e rmX12_more3 s m args below meth c H locs 0 0 (zQi below args s D (tM cy) (wM ad cy) A res) (F0 m 200 ls [.int s0]) := by
  have hx := hC.1
  have hb := hC.2.1
  unfold fX12_more3_200 at hf
  exact z_ireturn hC hI hf dX12_more3_200
set_option maxRecDepth 20000 in
set_option maxHeartbeats 4000000 in
theorem bX12_more3_197 {st : Nat → Nat} {p : Program} {l : Launch} {e : Env} {s : State} {m : MethodId} {args : Array Value} {below : List Frame} {meth : Method} {c : Code} {D : va_G} {A : Nat → Prop} {ad : Nat → Nat} {cy : Nat → ClassId} (hC : zC p m c cX12_more3 4 s args wzX12_more3 RX12 meth (some .int))  {res : zSt × Int32} {H : Heap} {locs : List Loc} {σ : zSt} {ls : Array Slot} {s0 : Int32} (hI : zI st D (tM cy) (wM ad cy σ) A s H locs) (hl : lv_has ls 4 []) (hf : fX12_more3_197  σ s0 = some res) : W p l e rmX12_more3 s m args below meth c H locs 0 0 (zQi below args s D (tM cy) (wM ad cy) A res) (F0 m 197 ls [.int s0, .ref (ad 0)]) := by
  have hx := hC.1
  have hb := hC.2.1
  unfold fX12_more3_197 at hf
  obtain ⟨σ2, v3, g2, hf⟩ := zbi_use hf
  refine z_callVi (As := [.int s0]) (rest := []) hC hI (cX12_prefixed_met st l D ad cy σ s0 _ g2) (zgV zw58_18 zw58_19 zw58_20 zw1_5 zw58_21) rfl ⟨rfl, rfl⟩ 1 hdX12_prefixed ⟨Nat.le_of_ble_eq_true rfl, Nat.le_of_ble_eq_true rfl⟩ rfl rfl (wM_e0 ad cy σ) rfl hl rfl (Nat.le_of_ble_eq_true rfl) dX12_more3_197 ⟨Nat.zero_le _, Nat.zero_le _⟩ (fun H locs hI => ?_)
  exact bX12_more3_200 hC  hI hl hf
set_option maxRecDepth 20000 in
set_option maxHeartbeats 4000000 in
theorem bX12_more3 {st : Nat → Nat} {p : Program} {l : Launch} {e : Env} {s : State} {m : MethodId} {args : Array Value} {below : List Frame} {meth : Method} {c : Code} {D : va_G} {A : Nat → Prop} {ad : Nat → Nat} {cy : Nat → ClassId} (hC : zC p m c cX12_more3 4 s args wzX12_more3 RX12 meth (some .int))  {res : zSt × Int32} {H : Heap} {locs : List Loc} {σ : zSt} {ls : Array Slot} {x1 : Int32} {x2 : Int32} (hI : zI st D (tM cy) (wM ad cy σ) A s H locs) (hl : lv_has ls 4 [(0, .ref (ad 0)), (1, .int x1), (2, .int x2)]) (hf : fX12_more3  σ x1 x2 = some res) : W p l e rmX12_more3 s m args below meth c H locs 0 0 (zQi below args s D (tM cy) (wM ad cy) A res) (F0 m 0 ls []) := by
  have hx := hC.1
  have hb := hC.2.1
  unfold fX12_more3 at hf
  refine lv_iload_n hx hb dX12_more3_0 rfl (lv_at hl 1 rfl) ?_
  refine lv_iconst (v := 1) hx hb dX12_more3_1 (by decide) ?_
  refine lv_ishr hx hb dX12_more3_2 ?_
  refine lv_topi (fun v4 ev4 => ?_)
  replace hf := zbv_use ev4 hf
  refine lv_istore_n (lv' := [(3, .int v4), (0, .ref (ad 0)), (1, .int x1), (2, .int x2)]) hx hb dX12_more3_3 rfl hl (by decide) rfl (fun ls hl => ?_)
  refine lv_iload_n hx hb dX12_more3_4 rfl (lv_at hl 3 rfl) ?_
  refine lv_iconst (v := 4) hx hb dX12_more3_5 (by decide) ?_
  refine lv_icmp_ne (tgt := 59) hx hb dX12_more3_6 (by decide) (fun q => ?_) (fun q => ?_)
  · replace hf := zif_f q hf
    refine lv_iload_n hx hb dX12_more3_59 rfl (lv_at hl 3 rfl) ?_
    refine lv_bipush (v := 6) hx hb dX12_more3_60 (by decide) ?_
    refine lv_icmp_ne (tgt := 77) hx hb dX12_more3_62 (by decide) (fun q => ?_) (fun q => ?_)
    · replace hf := zif_f q hf
      refine lv_iload_n hx hb dX12_more3_77 rfl (lv_at hl 3 rfl) ?_
      refine lv_bipush (v := 7) hx hb dX12_more3_78 (by decide) ?_
      refine lv_icmp_ne (tgt := 94) hx hb dX12_more3_80 (by decide) (fun q => ?_) (fun q => ?_)
      · replace hf := zif_f q hf
        refine lv_iload_n hx hb dX12_more3_94 rfl (lv_at hl 2 rfl) ?_
        refine lv_iconst (v := 2) hx hb dX12_more3_95 (by decide) ?_
        obtain ⟨q, hf⟩ := zck_use hf
        refine z_irem hx hb dX12_more3_96 (of_decide_eq_true q) ?_
        refine lv_if_ne (tgt := 125) hx hb dX12_more3_97 (by decide) (fun q => ?_) (fun q => ?_)
        · replace hf := zif_f q hf
          refine lv_iload_n hx hb dX12_more3_125 rfl (lv_at hl 0 rfl) ?_
          refine lv_if_ne (tgt := 168) hx hb dX12_more3_126 (by decide) (fun q => ?_) (fun q => ?_)
          · replace hf := zif_f q hf
            refine lv_iload_n hx hb dX12_more3_168 rfl (lv_at hl 0 rfl) ?_
            refine lv_iconst (v := 2) hx hb dX12_more3_169 (by decide) ?_
            refine lv_icmp_ne (tgt := 184) hx hb dX12_more3_170 (by decide) (fun q => ?_) (fun q => ?_)
            · replace hf := zif_f q hf
              refine lv_aload_n hx hb dX12_more3_184 rfl (lv_at hl 1 rfl) ?_
              refine lv_iload_n hx hb dX12_more3_185 rfl (lv_at hl 0 rfl) ?_
              refine lv_iconst (v := 1) hx hb dX12_more3_186 (by decide) ?_
              refine lv_icmp_ne (tgt := 195) hx hb dX12_more3_187 (by decide) (fun q => ?_) (fun q => ?_)
              · replace hf := zif_f q hf
                refine lv_bipush (v := 17) hx hb dX12_more3_195 (by decide) ?_
                exact bX12_more3_197 hC  hI (lv_sub hl [] rfl) hf
              replace hf := zif_t q hf
              refine lv_bipush (v := 16) hx hb dX12_more3_190 (by decide) ?_
              refine lv_goto (tgt := 197) hx hb dX12_more3_192 (by decide) ?_
              exact bX12_more3_197 hC  hI (lv_sub hl [] rfl) hf
            replace hf := zif_t q hf
            refine lv_aload_n hx hb dX12_more3_173 rfl (lv_at hl 1 rfl) ?_
            refine lv_aload_n hx hb dX12_more3_174 rfl (lv_at hl 1 rfl) ?_
            obtain ⟨σ5, v6, g5, hf⟩ := zbi_use hf
            refine z_callVi (As := []) (rest := [.ref (ad 0)]) hC hI (cX12_fetch_met st l D ad cy σ  _ g5) (zgV zw49_22 zw49_23 zw50_0 zw1_5 zw50_1) rfl ⟨rfl, rfl⟩ 0 hdX12_fetch ⟨Nat.le_of_ble_eq_true rfl, Nat.le_of_ble_eq_true rfl⟩ rfl rfl (wM_e0 ad cy σ) rfl hl rfl (Nat.le_of_ble_eq_true rfl) dX12_more3_175 ⟨Nat.zero_le _, Nat.zero_le _⟩ (fun H locs hI => ?_)
            obtain ⟨σ7, v8, g7, hf⟩ := zbi_use hf
            refine z_callVi (As := [.int v6]) (rest := []) hC hI (cX12_more_met st l D ad cy σ5 v6 _ g7) (zgV zw58_2 zw58_3 zw58_4 zw1_5 zw58_5) rfl ⟨rfl, rfl⟩ 1 hdX12_more ⟨Nat.le_of_ble_eq_true rfl, Nat.le_of_ble_eq_true rfl⟩ rfl rfl (wM_e0 ad cy σ5) rfl hl rfl (Nat.le_of_ble_eq_true rfl) dX12_more3_178 ⟨Nat.zero_le _, Nat.zero_le _⟩ (fun H locs hI => ?_)
            refine lv_goto (tgt := 200) hx hb dX12_more3_181 (by decide) ?_
            exact bX12_more3_200 hC  hI (lv_sub hl [] rfl) hf
          replace hf := zif_t q hf
          refine lv_aload_n hx hb dX12_more3_129 rfl (lv_at hl 1 rfl) ?_
          refine z_get hC hI hinX12_more3_X120 0 (wM_e0 ad cy σ) rfl 10 (by decide) (List.mem_cons_of_mem _ zw9_7) rfl dX12_more3_130 ?_
          refine lv_bipush (v := 20) hx hb dX12_more3_133 (by decide) ?_
          refine lv_aload_n hx hb dX12_more3_135 rfl (lv_at hl 1 rfl) ?_
          obtain ⟨σ9, v10, g9, hf⟩ := zbi_use hf
          refine z_callVi (As := []) (rest := [.int 20, .ref (ad 3)]) hC hI (cX12_nextWord_met st l D ad cy σ  _ g9) (zgV zw51_9 zw51_10 zw51_11 zw1_5 zw51_12) rfl ⟨rfl, rfl⟩ 0 hdX12_nextWord ⟨Nat.le_of_ble_eq_true rfl, Nat.le_of_ble_eq_true rfl⟩ rfl rfl (wM_e0 ad cy σ) rfl hl rfl (Nat.le_of_ble_eq_true rfl) dX12_more3_136 ⟨Nat.zero_le _, Nat.zero_le _⟩ (fun H locs hI => ?_)
          obtain ⟨q, hf⟩ := zck_use hf
          obtain ⟨σ11, eσ11⟩ : ∃ z, z = zsi σ9 3 ((20 : Int32).toNatClampNeg) v10 := ⟨_, rfl⟩
          replace hf := zbv_use eσ11 hf
          refine z_iast hC hI 3 2 (wM_e3 ad cy σ9) (tM_t3 cy) q ((wM_s3 ad cy σ9 _ _).trans (congrArg (wM ad cy) eσ11.symm)) dX12_more3_139 (fun H locs hI => ?_)
          refine lv_aload_n hx hb dX12_more3_140 rfl (lv_at hl 1 rfl) ?_
          refine lv_aload_n hx hb dX12_more3_141 rfl (lv_at hl 1 rfl) ?_
          refine z_get hC hI hinX12_more3_X120 0 (wM_e0 ad cy σ11) rfl 10 (by decide) (List.mem_cons_of_mem _ zw9_7) rfl dX12_more3_142 ?_
          refine lv_bipush (v := 19) hx hb dX12_more3_145 (by decide) ?_
          obtain ⟨q, hf⟩ := zck_use hf
          refine z_iald hC hI 3 2 (wM_e3 ad cy σ11) (tM_t3 cy) q dX12_more3_147 ?_
          obtain ⟨σ12, g12, hf⟩ := zbu_use hf
          refine z_callVu (As := [.int (zgi σ11 3 (19 : Int32).toNatClampNeg)]) (rest := []) hC hI (cX12_push_met st l D ad cy σ11 (zgi σ11 3 (19 : Int32).toNatClampNeg) _ g12) (zgV zw48_1 zw48_2 zw48_3 zw1_5 zw48_4) rfl ⟨rfl, rfl⟩ 1 hdX12_push ⟨Nat.le_of_ble_eq_true rfl, Nat.le_of_ble_eq_true rfl⟩ rfl rfl (wM_e0 ad cy σ11) rfl hl rfl (Nat.le_of_ble_eq_true rfl) dX12_more3_148 ⟨Nat.zero_le _, Nat.zero_le _⟩ (fun H locs hI => ?_)
          refine lv_aload_n hx hb dX12_more3_151 rfl (lv_at hl 1 rfl) ?_
          refine z_get hC hI hinX12_more3_X120 0 (wM_e0 ad cy σ12) rfl 10 (by decide) (List.mem_cons_of_mem _ zw9_7) rfl dX12_more3_152 ?_
          refine lv_bipush (v := 19) hx hb dX12_more3_155 (by decide) ?_
          refine lv_aload_n hx hb dX12_more3_157 rfl (lv_at hl 1 rfl) ?_
          refine z_get hC hI hinX12_more3_X120 0 (wM_e0 ad cy σ12) rfl 10 (by decide) (List.mem_cons_of_mem _ zw9_7) rfl dX12_more3_158 ?_
          refine lv_bipush (v := 20) hx hb dX12_more3_161 (by decide) ?_
          obtain ⟨q, hf⟩ := zck_use hf
          refine z_iald hC hI 3 2 (wM_e3 ad cy σ12) (tM_t3 cy) q dX12_more3_163 ?_
          obtain ⟨q, hf⟩ := zck_use hf
          obtain ⟨σ13, eσ13⟩ : ∃ z, z = zsi σ12 3 ((19 : Int32).toNatClampNeg) (zgi σ12 3 (20 : Int32).toNatClampNeg) := ⟨_, rfl⟩
          replace hf := zbv_use eσ13 hf
          refine z_iast hC hI 3 2 (wM_e3 ad cy σ12) (tM_t3 cy) q ((wM_s3 ad cy σ12 _ _).trans (congrArg (wM ad cy) eσ13.symm)) dX12_more3_164 (fun H locs hI => ?_)
          refine lv_bipush (v := 17) hx hb dX12_more3_165 (by decide) ?_
          exact z_ireturn hC hI hf dX12_more3_167
        replace hf := zif_t q hf
        refine lv_aload_n hx hb dX12_more3_100 rfl (lv_at hl 1 rfl) ?_
        refine lv_iload_n hx hb dX12_more3_101 rfl (lv_at hl 0 rfl) ?_
        refine lv_iconst (v := 3) hx hb dX12_more3_102 (by decide) ?_
        refine lv_icmp_ne (tgt := 114) hx hb dX12_more3_103 (by decide) (fun q => ?_) (fun q => ?_)
        · replace hf := zif_f q hf
          refine lv_aload_n hx hb dX12_more3_114 rfl (lv_at hl 1 rfl) ?_
          refine lv_iload_n hx hb dX12_more3_115 rfl (lv_at hl 0 rfl) ?_
          obtain ⟨σ14, v15, g14, hf⟩ := zbi_use hf
          refine z_callVi (As := [.int v4]) (rest := [.ref (ad 0)]) hC hI (cX12_rp_met st l D ad cy σ v4 _ g14) (zgV zw52_9 zw52_10 zw52_11 zw1_5 zw52_12) rfl ⟨rfl, rfl⟩ 1 hdX12_rp ⟨Nat.le_of_ble_eq_true rfl, Nat.le_of_ble_eq_true rfl⟩ rfl rfl (wM_e0 ad cy σ) rfl hl rfl (Nat.le_of_ble_eq_true rfl) dX12_more3_116 ⟨Nat.zero_le _, Nat.zero_le _⟩ (fun H locs hI => ?_)
          exact bX12_more3_119 hC  hI (lv_sub hl [] rfl) hf
        replace hf := zif_t q hf
        refine lv_aload_n hx hb dX12_more3_106 rfl (lv_at hl 1 rfl) ?_
        refine lv_iconst (v := 0) hx hb dX12_more3_107 (by decide) ?_
        obtain ⟨σ16, v17, g16, hf⟩ := zbi_use hf
        refine z_callVi (As := [.int 0]) (rest := [.ref (ad 0)]) hC hI (cX12_pair_met st l D ad cy σ 0 _ g16) (zgV zw52_5 zw52_6 zw52_7 zw1_5 zw52_8) rfl ⟨rfl, rfl⟩ 1 hdX12_pair ⟨Nat.le_of_ble_eq_true rfl, Nat.le_of_ble_eq_true rfl⟩ rfl rfl (wM_e0 ad cy σ) rfl hl rfl (Nat.le_of_ble_eq_true rfl) dX12_more3_108 ⟨Nat.zero_le _, Nat.zero_le _⟩ (fun H locs hI => ?_)
        refine lv_goto (tgt := 119) hx hb dX12_more3_111 (by decide) ?_
        exact bX12_more3_119 hC  hI (lv_sub hl [] rfl) hf
      replace hf := zif_t q hf
      refine lv_aload_n hx hb dX12_more3_83 rfl (lv_at hl 1 rfl) ?_
      refine lv_bipush (v := 8) hx hb dX12_more3_84 (by decide) ?_
      refine lv_iload_n hx hb dX12_more3_86 rfl (lv_at hl 2 rfl) ?_
      refine lv_imul hx hb dX12_more3_87 ?_
      obtain ⟨σ18, g18, hf⟩ := zbu_use hf
      refine z_callVu (As := [.int (8 * x1)]) (rest := []) hC hI (cX12_call_met st l D ad cy σ (8 * x1) _ g18) (zgV zw47_21 zw47_22 zw47_23 zw1_5 zw48_0) rfl ⟨rfl, rfl⟩ 1 hdX12_call ⟨Nat.le_of_ble_eq_true rfl, Nat.le_of_ble_eq_true rfl⟩ rfl rfl (wM_e0 ad cy σ) rfl hl rfl (Nat.le_of_ble_eq_true rfl) dX12_more3_88 ⟨Nat.zero_le _, Nat.zero_le _⟩ (fun H locs hI => ?_)
      refine lv_bipush (v := 11) hx hb dX12_more3_91 (by decide) ?_
      exact z_ireturn hC hI hf dX12_more3_93
    replace hf := zif_t q hf
    refine lv_aload_n hx hb dX12_more3_65 rfl (lv_at hl 1 rfl) ?_
    refine lv_iload_n hx hb dX12_more3_66 rfl (lv_at hl 2 rfl) ?_
    refine lv_aload_n hx hb dX12_more3_67 rfl (lv_at hl 1 rfl) ?_
    obtain ⟨σ19, v20, g19, hf⟩ := zbi_use hf
    refine z_callVi (As := []) (rest := [.int x1, .ref (ad 0)]) hC hI (cX12_next_met st l D ad cy σ  _ g19) (zgV zw50_2 zw50_3 zw50_4 zw1_5 zw50_5) rfl ⟨rfl, rfl⟩ 0 hdX12_next ⟨Nat.le_of_ble_eq_true rfl, Nat.le_of_ble_eq_true rfl⟩ rfl rfl (wM_e0 ad cy σ) rfl hl rfl (Nat.le_of_ble_eq_true rfl) dX12_more3_68 ⟨Nat.zero_le _, Nat.zero_le _⟩ (fun H locs hI => ?_)
    obtain ⟨σ21, g21, hf⟩ := zbu_use hf
    refine z_callVu (As := [.int x1, .int v20]) (rest := []) hC hI (cX12_does_met st l D ad cy σ19 x1 v20 _ g21) (zgV zw54_13 zw54_14 zw54_15 zw1_5 zw54_16) rfl ⟨rfl, rfl⟩ 2 hdX12_does ⟨Nat.le_of_ble_eq_true rfl, Nat.le_of_ble_eq_true rfl⟩ rfl rfl (wM_e0 ad cy σ19) rfl hl rfl (Nat.le_of_ble_eq_true rfl) dX12_more3_71 ⟨Nat.zero_le _, Nat.zero_le _⟩ (fun H locs hI => ?_)
    refine lv_bipush (v := 7) hx hb dX12_more3_74 (by decide) ?_
    exact z_ireturn hC hI hf dX12_more3_76
  replace hf := zif_t q hf
  refine lv_aload_n hx hb dX12_more3_9 rfl (lv_at hl 1 rfl) ?_
  refine z_get hC hI hinX12_more3_X120 0 (wM_e0 ad cy σ) rfl 10 (by decide) (List.mem_cons_of_mem _ zw9_7) rfl dX12_more3_10 ?_
  refine lv_bipush (v := 20) hx hb dX12_more3_13 (by decide) ?_
  refine lv_aload_n hx hb dX12_more3_15 rfl (lv_at hl 1 rfl) ?_
  obtain ⟨σ22, v23, g22, hf⟩ := zbi_use hf
  refine z_callVi (As := []) (rest := [.int 20, .ref (ad 3)]) hC hI (cX12_nextWord_met st l D ad cy σ  _ g22) (zgV zw51_9 zw51_10 zw51_11 zw1_5 zw51_12) rfl ⟨rfl, rfl⟩ 0 hdX12_nextWord ⟨Nat.le_of_ble_eq_true rfl, Nat.le_of_ble_eq_true rfl⟩ rfl rfl (wM_e0 ad cy σ) rfl hl rfl (Nat.le_of_ble_eq_true rfl) dX12_more3_16 ⟨Nat.zero_le _, Nat.zero_le _⟩ (fun H locs hI => ?_)
  obtain ⟨q, hf⟩ := zck_use hf
  obtain ⟨σ24, eσ24⟩ : ∃ z, z = zsi σ22 3 ((20 : Int32).toNatClampNeg) v23 := ⟨_, rfl⟩
  replace hf := zbv_use eσ24 hf
  refine z_iast hC hI 3 2 (wM_e3 ad cy σ22) (tM_t3 cy) q ((wM_s3 ad cy σ22 _ _).trans (congrArg (wM ad cy) eσ24.symm)) dX12_more3_19 (fun H locs hI => ?_)
  refine lv_aload_n hx hb dX12_more3_20 rfl (lv_at hl 1 rfl) ?_
  refine lv_iload_n hx hb dX12_more3_21 rfl (lv_at hl 2 rfl) ?_
  obtain ⟨σ25, v26, g25, hf⟩ := zbi_use hf
  refine z_callVi (As := [.int x1]) (rest := []) hC hI (cX12_cc_met st l D ad cy σ24 x1 _ g25) (zgV zw50_21 zw50_22 zw50_23 zw1_5 zw51_0) rfl ⟨rfl, rfl⟩ 1 hdX12_cc ⟨Nat.le_of_ble_eq_true rfl, Nat.le_of_ble_eq_true rfl⟩ rfl rfl (wM_e0 ad cy σ24) rfl hl rfl (Nat.le_of_ble_eq_true rfl) dX12_more3_22 ⟨Nat.zero_le _, Nat.zero_le _⟩ (fun H locs hI => ?_)
  refine lv_if_ne (tgt := 31) hx hb dX12_more3_25 (by decide) (fun q => ?_) (fun q => ?_)
  · replace hf := zif_f q hf
    refine lv_aload_n hx hb dX12_more3_31 rfl (lv_at hl 1 rfl) ?_
    refine lv_aload_n hx hb dX12_more3_32 rfl (lv_at hl 1 rfl) ?_
    refine z_get hC hI hinX12_more3_X120 0 (wM_e0 ad cy σ25) rfl 10 (by decide) (List.mem_cons_of_mem _ zw9_7) rfl dX12_more3_33 ?_
    refine lv_bipush (v := 19) hx hb dX12_more3_36 (by decide) ?_
    obtain ⟨q, hf⟩ := zck_use hf
    refine z_iald hC hI 3 2 (wM_e3 ad cy σ25) (tM_t3 cy) q dX12_more3_38 ?_
    obtain ⟨σ27, g27, hf⟩ := zbu_use hf
    refine z_callVu (As := [.int (zgi σ25 3 (19 : Int32).toNatClampNeg)]) (rest := []) hC hI (cX12_push_met st l D ad cy σ25 (zgi σ25 3 (19 : Int32).toNatClampNeg) _ g27) (zgV zw48_1 zw48_2 zw48_3 zw1_5 zw48_4) rfl ⟨rfl, rfl⟩ 1 hdX12_push ⟨Nat.le_of_ble_eq_true rfl, Nat.le_of_ble_eq_true rfl⟩ rfl rfl (wM_e0 ad cy σ25) rfl hl rfl (Nat.le_of_ble_eq_true rfl) dX12_more3_39 ⟨Nat.zero_le _, Nat.zero_le _⟩ (fun H locs hI => ?_)
    refine lv_aload_n hx hb dX12_more3_42 rfl (lv_at hl 1 rfl) ?_
    refine z_get hC hI hinX12_more3_X120 0 (wM_e0 ad cy σ27) rfl 10 (by decide) (List.mem_cons_of_mem _ zw9_7) rfl dX12_more3_43 ?_
    refine lv_bipush (v := 19) hx hb dX12_more3_46 (by decide) ?_
    refine lv_aload_n hx hb dX12_more3_48 rfl (lv_at hl 1 rfl) ?_
    refine z_get hC hI hinX12_more3_X120 0 (wM_e0 ad cy σ27) rfl 10 (by decide) (List.mem_cons_of_mem _ zw9_7) rfl dX12_more3_49 ?_
    refine lv_bipush (v := 20) hx hb dX12_more3_52 (by decide) ?_
    obtain ⟨q, hf⟩ := zck_use hf
    refine z_iald hC hI 3 2 (wM_e3 ad cy σ27) (tM_t3 cy) q dX12_more3_54 ?_
    obtain ⟨q, hf⟩ := zck_use hf
    obtain ⟨σ28, eσ28⟩ : ∃ z, z = zsi σ27 3 ((19 : Int32).toNatClampNeg) (zgi σ27 3 (20 : Int32).toNatClampNeg) := ⟨_, rfl⟩
    replace hf := zbv_use eσ28 hf
    refine z_iast hC hI 3 2 (wM_e3 ad cy σ27) (tM_t3 cy) q ((wM_s3 ad cy σ27 _ _).trans (congrArg (wM ad cy) eσ28.symm)) dX12_more3_55 (fun H locs hI => ?_)
    refine lv_bipush (v := 17) hx hb dX12_more3_56 (by decide) ?_
    exact z_ireturn hC hI hf dX12_more3_58
  replace hf := zif_t q hf
  refine lv_bipush (v := 10) hx hb dX12_more3_28 (by decide) ?_
  exact z_ireturn hC hI hf dX12_more3_30
set_option maxRecDepth 20000 in
theorem cX12_more3_met (st : Nat → Nat) (l : Launch) (D : va_G) (ad : Nat → Nat) (cy : Nat → ClassId) (σ : zSt) (x1 : Int32) (x2 : Int32) (res : zSt × Int32) (hf : fX12_more3 σ x1 x2 = some res) (sz : Nat) : zMi st l yX12_more3 wzX12_more3 rmX12_more3 [.ref (ad 0), .int x1, .int x2] D (tM cy) (wM ad cy) sz σ res :=
  zMi.of (cc := cX12_more3) (maxL := 4) (ret := (some .int)) (by decide) rfl (Nat.le_of_ble_eq_true rfl) (fun p e s m args below meth c hC A hI ls hl => bX12_more3 hC hI hl hf)
theorem hdX12_more3 : yX12_more3.cls = RX12 ∧ yX12_more3.cls ≠ "java/lang/invoke/MethodHandle" ∧ yX12_more3.cls ≠ "java/lang/invoke/VarHandle" ∧ (parseMethodDescriptor yX12_more3.desc).map (fun d => d.parameters.length) = some 2 := by decide +kernel
noncomputable def rmX12_plain : Room := { frames := 11, cells := 0, slots := 0, locals := 259 }
theorem hinX12_plain_X120 : ∀ w ∈ wsX120, w ∈ wzX12_plain := fun w h => List.mem_cons_of_mem _ (inlX12 w h)
noncomputable def fX12_plain_160  (σ : zSt) (s0 : Int32) : Option (zSt × Int32) :=
  some (σ, s0)
noncomputable def fX12_plain_139  (σ : zSt) (s0 : Int32) : Option (zSt × Int32) :=
  some (σ, s0)
noncomputable def fX12_plain_116  (σ : zSt) (s0 : Int32) : Option (zSt × Int32) :=
  some (σ, s0)
noncomputable def fX12_plain_115  (σ : zSt)  : Option (zSt × Int32) :=
  fX12_plain_116 σ 4
noncomputable def fX12_plain_110  (σ : zSt)  : Option (zSt × Int32) :=
  fX12_plain_116 σ 7
noncomputable def fX12_plain_92  (σ : zSt) (x1 : Int32) (x2 : Int32) (x3 : Int32) : Option (zSt × Int32) :=
  if x1 = 118 then fX12_plain_115 σ else
  if x2 = 6 then fX12_plain_110 σ else
  if x3 = 6 then fX12_plain_110 σ else
  fX12_plain_115 σ
noncomputable def fX12_plain_64  (σ : zSt) (s0 : Int32) : Option (zSt × Int32) :=
  some (σ, s0)
noncomputable def fX12_plain  (σ : zSt) (x1 : Int32) : Option (zSt × Int32) :=
  zbv ((x1 >>> ((3 : Int32) &&& 31)) &&& 7) (fun v1 =>
  zbv (x1 &&& 7) (fun v2 =>
  if (x1 >>> ((6 : Int32) &&& 31)) = 0 then if 4 ≤ v2 then zbi (fX12_singles σ v1 v2) (fun σ3 v4 =>
  fX12_plain_64 σ3 v4) else
  zbi (fX12_zero σ v1 v2) (fun σ5 v6 =>
  fX12_plain_64 σ5 v6) else
  if (x1 >>> ((6 : Int32) &&& 31)) = 1 then if x1 = 118 then zck (zin 26 1048) (zbv (zsi σ 3 ((26 : Int32).toNatClampNeg) 1) (fun σ10 =>
  fX12_plain_92 σ10 x1 v1 v2)) else
  zbi (fX12_r σ v2) (fun σ7 v8 =>
  zbu (fX12_rTo σ7 v1 v8) (fun σ9 =>
  fX12_plain_92 σ9 x1 v1 v2)) else
  if (x1 >>> ((6 : Int32) &&& 31)) = 2 then zbi (fX12_r σ v2) (fun σ11 v12 =>
  zbu (fX12_does σ11 v1 v12) (fun σ13 =>
  if v2 = 6 then fX12_plain_139 σ13 7 else
  fX12_plain_139 σ13 4)) else
  if 4 ≤ v2 then zbi (fX12_more3 σ v1 v2) (fun σ14 v15 =>
  fX12_plain_160 σ14 v15) else
  zbi (fX12_three σ v1 v2) (fun σ16 v17 =>
  fX12_plain_160 σ16 v17)))
set_option maxRecDepth 20000 in
set_option maxHeartbeats 4000000 in
theorem bX12_plain_160 {st : Nat → Nat} {p : Program} {l : Launch} {e : Env} {s : State} {m : MethodId} {args : Array Value} {below : List Frame} {meth : Method} {c : Code} {D : va_G} {A : Nat → Prop} {ad : Nat → Nat} {cy : Nat → ClassId} (hC : zC p m c cX12_plain 4 s args wzX12_plain RX12 meth (some .int))  {res : zSt × Int32} {H : Heap} {locs : List Loc} {σ : zSt} {ls : Array Slot} {s0 : Int32} (hI : zI st D (tM cy) (wM ad cy σ) A s H locs) (hl : lv_has ls 4 []) (hf : fX12_plain_160  σ s0 = some res) : W p l e rmX12_plain s m args below meth c H locs 0 0 (zQi below args s D (tM cy) (wM ad cy) A res) (F0 m 160 ls [.int s0]) := by
  have hx := hC.1
  have hb := hC.2.1
  unfold fX12_plain_160 at hf
  exact z_ireturn hC hI hf dX12_plain_160
set_option maxRecDepth 20000 in
set_option maxHeartbeats 4000000 in
theorem bX12_plain_139 {st : Nat → Nat} {p : Program} {l : Launch} {e : Env} {s : State} {m : MethodId} {args : Array Value} {below : List Frame} {meth : Method} {c : Code} {D : va_G} {A : Nat → Prop} {ad : Nat → Nat} {cy : Nat → ClassId} (hC : zC p m c cX12_plain 4 s args wzX12_plain RX12 meth (some .int))  {res : zSt × Int32} {H : Heap} {locs : List Loc} {σ : zSt} {ls : Array Slot} {s0 : Int32} (hI : zI st D (tM cy) (wM ad cy σ) A s H locs) (hl : lv_has ls 4 []) (hf : fX12_plain_139  σ s0 = some res) : W p l e rmX12_plain s m args below meth c H locs 0 0 (zQi below args s D (tM cy) (wM ad cy) A res) (F0 m 139 ls [.int s0]) := by
  have hx := hC.1
  have hb := hC.2.1
  unfold fX12_plain_139 at hf
  exact z_ireturn hC hI hf dX12_plain_139
set_option maxRecDepth 20000 in
set_option maxHeartbeats 4000000 in
theorem bX12_plain_116 {st : Nat → Nat} {p : Program} {l : Launch} {e : Env} {s : State} {m : MethodId} {args : Array Value} {below : List Frame} {meth : Method} {c : Code} {D : va_G} {A : Nat → Prop} {ad : Nat → Nat} {cy : Nat → ClassId} (hC : zC p m c cX12_plain 4 s args wzX12_plain RX12 meth (some .int))  {res : zSt × Int32} {H : Heap} {locs : List Loc} {σ : zSt} {ls : Array Slot} {s0 : Int32} (hI : zI st D (tM cy) (wM ad cy σ) A s H locs) (hl : lv_has ls 4 []) (hf : fX12_plain_116  σ s0 = some res) : W p l e rmX12_plain s m args below meth c H locs 0 0 (zQi below args s D (tM cy) (wM ad cy) A res) (F0 m 116 ls [.int s0]) := by
  have hx := hC.1
  have hb := hC.2.1
  unfold fX12_plain_116 at hf
  exact z_ireturn hC hI hf dX12_plain_116
set_option maxRecDepth 20000 in
set_option maxHeartbeats 4000000 in
theorem bX12_plain_115 {st : Nat → Nat} {p : Program} {l : Launch} {e : Env} {s : State} {m : MethodId} {args : Array Value} {below : List Frame} {meth : Method} {c : Code} {D : va_G} {A : Nat → Prop} {ad : Nat → Nat} {cy : Nat → ClassId} (hC : zC p m c cX12_plain 4 s args wzX12_plain RX12 meth (some .int))  {res : zSt × Int32} {H : Heap} {locs : List Loc} {σ : zSt} {ls : Array Slot}  (hI : zI st D (tM cy) (wM ad cy σ) A s H locs) (hl : lv_has ls 4 []) (hf : fX12_plain_115  σ  = some res) : W p l e rmX12_plain s m args below meth c H locs 0 0 (zQi below args s D (tM cy) (wM ad cy) A res) (F0 m 115 ls []) := by
  have hx := hC.1
  have hb := hC.2.1
  unfold fX12_plain_115 at hf
  refine lv_iconst (v := 4) hx hb dX12_plain_115 (by decide) ?_
  exact bX12_plain_116 hC  hI hl hf
set_option maxRecDepth 20000 in
set_option maxHeartbeats 4000000 in
theorem bX12_plain_110 {st : Nat → Nat} {p : Program} {l : Launch} {e : Env} {s : State} {m : MethodId} {args : Array Value} {below : List Frame} {meth : Method} {c : Code} {D : va_G} {A : Nat → Prop} {ad : Nat → Nat} {cy : Nat → ClassId} (hC : zC p m c cX12_plain 4 s args wzX12_plain RX12 meth (some .int))  {res : zSt × Int32} {H : Heap} {locs : List Loc} {σ : zSt} {ls : Array Slot}  (hI : zI st D (tM cy) (wM ad cy σ) A s H locs) (hl : lv_has ls 4 []) (hf : fX12_plain_110  σ  = some res) : W p l e rmX12_plain s m args below meth c H locs 0 0 (zQi below args s D (tM cy) (wM ad cy) A res) (F0 m 110 ls []) := by
  have hx := hC.1
  have hb := hC.2.1
  unfold fX12_plain_110 at hf
  refine lv_bipush (v := 7) hx hb dX12_plain_110 (by decide) ?_
  refine lv_goto (tgt := 116) hx hb dX12_plain_112 (by decide) ?_
  exact bX12_plain_116 hC  hI hl hf
set_option maxRecDepth 20000 in
set_option maxHeartbeats 4000000 in
theorem bX12_plain_92 {st : Nat → Nat} {p : Program} {l : Launch} {e : Env} {s : State} {m : MethodId} {args : Array Value} {below : List Frame} {meth : Method} {c : Code} {D : va_G} {A : Nat → Prop} {ad : Nat → Nat} {cy : Nat → ClassId} (hC : zC p m c cX12_plain 4 s args wzX12_plain RX12 meth (some .int))  {res : zSt × Int32} {H : Heap} {locs : List Loc} {σ : zSt} {ls : Array Slot} {x1 : Int32} {x2 : Int32} {x3 : Int32} (hI : zI st D (tM cy) (wM ad cy σ) A s H locs) (hl : lv_has ls 4 [(1, .int x1), (2, .int x2), (3, .int x3)]) (hf : fX12_plain_92  σ x1 x2 x3 = some res) : W p l e rmX12_plain s m args below meth c H locs 0 0 (zQi below args s D (tM cy) (wM ad cy) A res) (F0 m 92 ls []) := by
  have hx := hC.1
  have hb := hC.2.1
  unfold fX12_plain_92 at hf
  refine lv_iload_n hx hb dX12_plain_92 rfl (lv_at hl 0 rfl) ?_
  refine lv_bipush (v := 118) hx hb dX12_plain_93 (by decide) ?_
  refine lv_icmp_eq (tgt := 115) hx hb dX12_plain_95 (by decide) (fun q => ?_) (fun q => ?_)
  · replace hf := zif_t q hf
    exact bX12_plain_115 hC  hI (lv_sub hl [] rfl) hf
  replace hf := zif_f q hf
  refine lv_iload_n hx hb dX12_plain_98 rfl (lv_at hl 1 rfl) ?_
  refine lv_bipush (v := 6) hx hb dX12_plain_99 (by decide) ?_
  refine lv_icmp_eq (tgt := 110) hx hb dX12_plain_101 (by decide) (fun q => ?_) (fun q => ?_)
  · replace hf := zif_t q hf
    exact bX12_plain_110 hC  hI (lv_sub hl [] rfl) hf
  replace hf := zif_f q hf
  refine lv_iload_n hx hb dX12_plain_104 rfl (lv_at hl 2 rfl) ?_
  refine lv_bipush (v := 6) hx hb dX12_plain_105 (by decide) ?_
  refine lv_icmp_ne (tgt := 115) hx hb dX12_plain_107 (by decide) (fun q => ?_) (fun q => ?_)
  · replace hf := zif_f q hf
    exact bX12_plain_115 hC  hI (lv_sub hl [] rfl) hf
  replace hf := zif_t q hf
  exact bX12_plain_110 hC  hI (lv_sub hl [] rfl) hf
set_option maxRecDepth 20000 in
set_option maxHeartbeats 4000000 in
theorem bX12_plain_64 {st : Nat → Nat} {p : Program} {l : Launch} {e : Env} {s : State} {m : MethodId} {args : Array Value} {below : List Frame} {meth : Method} {c : Code} {D : va_G} {A : Nat → Prop} {ad : Nat → Nat} {cy : Nat → ClassId} (hC : zC p m c cX12_plain 4 s args wzX12_plain RX12 meth (some .int))  {res : zSt × Int32} {H : Heap} {locs : List Loc} {σ : zSt} {ls : Array Slot} {s0 : Int32} (hI : zI st D (tM cy) (wM ad cy σ) A s H locs) (hl : lv_has ls 4 []) (hf : fX12_plain_64  σ s0 = some res) : W p l e rmX12_plain s m args below meth c H locs 0 0 (zQi below args s D (tM cy) (wM ad cy) A res) (F0 m 64 ls [.int s0]) := by
  have hx := hC.1
  have hb := hC.2.1
  unfold fX12_plain_64 at hf
  exact z_ireturn hC hI hf dX12_plain_64
set_option maxRecDepth 20000 in
set_option maxHeartbeats 4000000 in
theorem bX12_plain {st : Nat → Nat} {p : Program} {l : Launch} {e : Env} {s : State} {m : MethodId} {args : Array Value} {below : List Frame} {meth : Method} {c : Code} {D : va_G} {A : Nat → Prop} {ad : Nat → Nat} {cy : Nat → ClassId} (hC : zC p m c cX12_plain 4 s args wzX12_plain RX12 meth (some .int))  {res : zSt × Int32} {H : Heap} {locs : List Loc} {σ : zSt} {ls : Array Slot} {x1 : Int32} (hI : zI st D (tM cy) (wM ad cy σ) A s H locs) (hl : lv_has ls 4 [(0, .ref (ad 0)), (1, .int x1)]) (hf : fX12_plain  σ x1 = some res) : W p l e rmX12_plain s m args below meth c H locs 0 0 (zQi below args s D (tM cy) (wM ad cy) A res) (F0 m 0 ls []) := by
  have hx := hC.1
  have hb := hC.2.1
  unfold fX12_plain at hf
  refine lv_iload_n hx hb dX12_plain_0 rfl (lv_at hl 1 rfl) ?_
  refine lv_iconst (v := 3) hx hb dX12_plain_1 (by decide) ?_
  refine lv_ishr hx hb dX12_plain_2 ?_
  refine lv_bipush (v := 7) hx hb dX12_plain_3 (by decide) ?_
  refine lv_iand hx hb dX12_plain_5 ?_
  refine lv_topi (fun v1 ev1 => ?_)
  replace hf := zbv_use ev1 hf
  refine lv_istore_n (lv' := [(2, .int v1), (0, .ref (ad 0)), (1, .int x1)]) hx hb dX12_plain_6 rfl hl (by decide) rfl (fun ls hl => ?_)
  refine lv_iload_n hx hb dX12_plain_7 rfl (lv_at hl 2 rfl) ?_
  refine lv_bipush (v := 7) hx hb dX12_plain_8 (by decide) ?_
  refine lv_iand hx hb dX12_plain_10 ?_
  refine lv_topi (fun v2 ev2 => ?_)
  replace hf := zbv_use ev2 hf
  refine lv_istore_n (lv' := [(3, .int v2), (2, .int v1), (0, .ref (ad 0)), (1, .int x1)]) hx hb dX12_plain_11 rfl hl (by decide) rfl (fun ls hl => ?_)
  refine lv_iload_n hx hb dX12_plain_12 rfl (lv_at hl 3 rfl) ?_
  refine lv_bipush (v := 6) hx hb dX12_plain_13 (by decide) ?_
  refine lv_ishr hx hb dX12_plain_15 ?_
  by_cases q0 : (x1 >>> ((6 : Int32) &&& 31)) = 0
  · replace hf := zif_t q0 hf
    refine lv_tableIn (tgt := 44) hx hb dX12_plain_16 (by rw [q0]; decide) (by rw [q0]; decide) (by rw [q0]; rfl) (by decide) ?_
    refine lv_iload_n hx hb dX12_plain_44 rfl (lv_at hl 0 rfl) ?_
    refine lv_iconst (v := 4) hx hb dX12_plain_45 (by decide) ?_
    refine lv_icmp_ge (tgt := 58) hx hb dX12_plain_46 (by decide) (fun q => ?_) (fun q => ?_)
    · replace hf := zif_t q hf
      refine lv_aload_n hx hb dX12_plain_58 rfl (lv_at hl 2 rfl) ?_
      refine lv_iload_n hx hb dX12_plain_59 rfl (lv_at hl 1 rfl) ?_
      refine lv_iload_n hx hb dX12_plain_60 rfl (lv_at hl 0 rfl) ?_
      obtain ⟨σ3, v4, g3, hf⟩ := zbi_use hf
      refine z_callVi (As := [.int v1, .int v2]) (rest := []) hC hI (cX12_singles_met st l D ad cy σ v1 v2 _ g3) (zgV zw53_5 zw53_6 zw53_7 zw1_5 zw53_8) rfl ⟨rfl, rfl⟩ 2 hdX12_singles ⟨Nat.le_of_ble_eq_true rfl, Nat.le_of_ble_eq_true rfl⟩ rfl rfl (wM_e0 ad cy σ) rfl hl rfl (Nat.le_of_ble_eq_true rfl) dX12_plain_61 ⟨Nat.zero_le _, Nat.zero_le _⟩ (fun H locs hI => ?_)
      exact bX12_plain_64 hC  hI (lv_sub hl [] rfl) hf
    replace hf := zif_f q hf
    refine lv_aload_n hx hb dX12_plain_49 rfl (lv_at hl 2 rfl) ?_
    refine lv_iload_n hx hb dX12_plain_50 rfl (lv_at hl 1 rfl) ?_
    refine lv_iload_n hx hb dX12_plain_51 rfl (lv_at hl 0 rfl) ?_
    obtain ⟨σ5, v6, g5, hf⟩ := zbi_use hf
    refine z_callVi (As := [.int v1, .int v2]) (rest := []) hC hI (cX12_zero_met st l D ad cy σ v1 v2 _ g5) (zgV zw50_10 zw50_11 zw50_12 zw1_5 zw50_13) rfl ⟨rfl, rfl⟩ 2 hdX12_zero ⟨Nat.le_of_ble_eq_true rfl, Nat.le_of_ble_eq_true rfl⟩ rfl rfl (wM_e0 ad cy σ) rfl hl rfl (Nat.le_of_ble_eq_true rfl) dX12_plain_52 ⟨Nat.zero_le _, Nat.zero_le _⟩ (fun H locs hI => ?_)
    refine lv_goto (tgt := 64) hx hb dX12_plain_55 (by decide) ?_
    exact bX12_plain_64 hC  hI (lv_sub hl [] rfl) hf
  replace hf := zif_f q0 hf
  by_cases q1 : (x1 >>> ((6 : Int32) &&& 31)) = 1
  · replace hf := zif_t q1 hf
    refine lv_tableIn (tgt := 65) hx hb dX12_plain_16 (by rw [q1]; decide) (by rw [q1]; decide) (by rw [q1]; rfl) (by decide) ?_
    refine lv_iload_n hx hb dX12_plain_65 rfl (lv_at hl 3 rfl) ?_
    refine lv_bipush (v := 118) hx hb dX12_plain_66 (by decide) ?_
    refine lv_icmp_ne (tgt := 82) hx hb dX12_plain_68 (by decide) (fun q => ?_) (fun q => ?_)
    · replace hf := zif_f q hf
      refine lv_aload_n hx hb dX12_plain_82 rfl (lv_at hl 2 rfl) ?_
      refine lv_iload_n hx hb dX12_plain_83 rfl (lv_at hl 1 rfl) ?_
      refine lv_aload_n hx hb dX12_plain_84 rfl (lv_at hl 2 rfl) ?_
      refine lv_iload_n hx hb dX12_plain_85 rfl (lv_at hl 0 rfl) ?_
      obtain ⟨σ7, v8, g7, hf⟩ := zbi_use hf
      refine z_callVi (As := [.int v2]) (rest := [.int v1, .ref (ad 0)]) hC hI (cX12_r_met st l D ad cy σ v2 _ g7) (zgV zw53_18 zw53_19 zw53_20 zw1_5 zw53_21) rfl ⟨rfl, rfl⟩ 1 hdX12_r ⟨Nat.le_of_ble_eq_true rfl, Nat.le_of_ble_eq_true rfl⟩ rfl rfl (wM_e0 ad cy σ) rfl hl rfl (Nat.le_of_ble_eq_true rfl) dX12_plain_86 ⟨Nat.zero_le _, Nat.zero_le _⟩ (fun H locs hI => ?_)
      obtain ⟨σ9, g9, hf⟩ := zbu_use hf
      refine z_callVu (As := [.int v1, .int v8]) (rest := []) hC hI (cX12_rTo_met st l D ad cy σ7 v1 v8 _ g9) (zgV zw53_9 zw53_10 zw53_11 zw1_5 zw53_12) rfl ⟨rfl, rfl⟩ 2 hdX12_rTo ⟨Nat.le_of_ble_eq_true rfl, Nat.le_of_ble_eq_true rfl⟩ rfl rfl (wM_e0 ad cy σ7) rfl hl rfl (Nat.le_of_ble_eq_true rfl) dX12_plain_89 ⟨Nat.zero_le _, Nat.zero_le _⟩ (fun H locs hI => ?_)
      exact bX12_plain_92 hC  hI (lv_sub hl [3, 1, 0] rfl) hf
    replace hf := zif_t q hf
    refine lv_aload_n hx hb dX12_plain_71 rfl (lv_at hl 2 rfl) ?_
    refine z_get hC hI hinX12_plain_X120 0 (wM_e0 ad cy σ) rfl 10 (by decide) (List.mem_cons_of_mem _ zw9_7) rfl dX12_plain_72 ?_
    refine lv_bipush (v := 26) hx hb dX12_plain_75 (by decide) ?_
    refine lv_iconst (v := 1) hx hb dX12_plain_77 (by decide) ?_
    obtain ⟨q, hf⟩ := zck_use hf
    obtain ⟨σ10, eσ10⟩ : ∃ z, z = zsi σ 3 ((26 : Int32).toNatClampNeg) 1 := ⟨_, rfl⟩
    replace hf := zbv_use eσ10 hf
    refine z_iast hC hI 3 2 (wM_e3 ad cy σ) (tM_t3 cy) q ((wM_s3 ad cy σ _ _).trans (congrArg (wM ad cy) eσ10.symm)) dX12_plain_78 (fun H locs hI => ?_)
    refine lv_goto (tgt := 92) hx hb dX12_plain_79 (by decide) ?_
    exact bX12_plain_92 hC  hI (lv_sub hl [3, 1, 0] rfl) hf
  replace hf := zif_f q1 hf
  by_cases q2 : (x1 >>> ((6 : Int32) &&& 31)) = 2
  · replace hf := zif_t q2 hf
    refine lv_tableIn (tgt := 117) hx hb dX12_plain_16 (by rw [q2]; decide) (by rw [q2]; decide) (by rw [q2]; rfl) (by decide) ?_
    refine lv_aload_n hx hb dX12_plain_117 rfl (lv_at hl 2 rfl) ?_
    refine lv_iload_n hx hb dX12_plain_118 rfl (lv_at hl 1 rfl) ?_
    refine lv_aload_n hx hb dX12_plain_119 rfl (lv_at hl 2 rfl) ?_
    refine lv_iload_n hx hb dX12_plain_120 rfl (lv_at hl 0 rfl) ?_
    obtain ⟨σ11, v12, g11, hf⟩ := zbi_use hf
    refine z_callVi (As := [.int v2]) (rest := [.int v1, .ref (ad 0)]) hC hI (cX12_r_met st l D ad cy σ v2 _ g11) (zgV zw53_18 zw53_19 zw53_20 zw1_5 zw53_21) rfl ⟨rfl, rfl⟩ 1 hdX12_r ⟨Nat.le_of_ble_eq_true rfl, Nat.le_of_ble_eq_true rfl⟩ rfl rfl (wM_e0 ad cy σ) rfl hl rfl (Nat.le_of_ble_eq_true rfl) dX12_plain_121 ⟨Nat.zero_le _, Nat.zero_le _⟩ (fun H locs hI => ?_)
    obtain ⟨σ13, g13, hf⟩ := zbu_use hf
    refine z_callVu (As := [.int v1, .int v12]) (rest := []) hC hI (cX12_does_met st l D ad cy σ11 v1 v12 _ g13) (zgV zw54_13 zw54_14 zw54_15 zw1_5 zw54_16) rfl ⟨rfl, rfl⟩ 2 hdX12_does ⟨Nat.le_of_ble_eq_true rfl, Nat.le_of_ble_eq_true rfl⟩ rfl rfl (wM_e0 ad cy σ11) rfl hl rfl (Nat.le_of_ble_eq_true rfl) dX12_plain_124 ⟨Nat.zero_le _, Nat.zero_le _⟩ (fun H locs hI => ?_)
    refine lv_iload_n hx hb dX12_plain_127 rfl (lv_at hl 0 rfl) ?_
    refine lv_bipush (v := 6) hx hb dX12_plain_128 (by decide) ?_
    refine lv_icmp_ne (tgt := 138) hx hb dX12_plain_130 (by decide) (fun q => ?_) (fun q => ?_)
    · replace hf := zif_f q hf
      refine lv_iconst (v := 4) hx hb dX12_plain_138 (by decide) ?_
      exact bX12_plain_139 hC  hI (lv_sub hl [] rfl) hf
    replace hf := zif_t q hf
    refine lv_bipush (v := 7) hx hb dX12_plain_133 (by decide) ?_
    refine lv_goto (tgt := 139) hx hb dX12_plain_135 (by decide) ?_
    exact bX12_plain_139 hC  hI (lv_sub hl [] rfl) hf
  replace hf := zif_f q2 hf
  refine lv_tableOut (tgt := 140) hx hb dX12_plain_16 (zsw (fun k h1 h2 => by rcases (show k = 0 ∨ k = 1 ∨ k = 2 by omega) with rfl | rfl | rfl <;> assumption)) (by decide) ?_
  refine lv_iload_n hx hb dX12_plain_140 rfl (lv_at hl 0 rfl) ?_
  refine lv_iconst (v := 4) hx hb dX12_plain_141 (by decide) ?_
  refine lv_icmp_ge (tgt := 154) hx hb dX12_plain_142 (by decide) (fun q => ?_) (fun q => ?_)
  · replace hf := zif_t q hf
    refine lv_aload_n hx hb dX12_plain_154 rfl (lv_at hl 2 rfl) ?_
    refine lv_iload_n hx hb dX12_plain_155 rfl (lv_at hl 1 rfl) ?_
    refine lv_iload_n hx hb dX12_plain_156 rfl (lv_at hl 0 rfl) ?_
    obtain ⟨σ14, v15, g14, hf⟩ := zbi_use hf
    refine z_callVi (As := [.int v1, .int v2]) (rest := []) hC hI (cX12_more3_met st l D ad cy σ v1 v2 _ g14) (zgV zw57_22 zw57_23 zw58_0 zw1_5 zw58_1) rfl ⟨rfl, rfl⟩ 2 hdX12_more3 ⟨Nat.le_of_ble_eq_true rfl, Nat.le_of_ble_eq_true rfl⟩ rfl rfl (wM_e0 ad cy σ) rfl hl rfl (Nat.le_of_ble_eq_true rfl) dX12_plain_157 ⟨Nat.zero_le _, Nat.zero_le _⟩ (fun H locs hI => ?_)
    exact bX12_plain_160 hC  hI (lv_sub hl [] rfl) hf
  replace hf := zif_f q hf
  refine lv_aload_n hx hb dX12_plain_145 rfl (lv_at hl 2 rfl) ?_
  refine lv_iload_n hx hb dX12_plain_146 rfl (lv_at hl 1 rfl) ?_
  refine lv_iload_n hx hb dX12_plain_147 rfl (lv_at hl 0 rfl) ?_
  obtain ⟨σ16, v17, g16, hf⟩ := zbi_use hf
  refine z_callVi (As := [.int v1, .int v2]) (rest := []) hC hI (cX12_three_met st l D ad cy σ v1 v2 _ g16) (zgV zw54_17 zw54_18 zw54_19 zw1_5 zw54_20) rfl ⟨rfl, rfl⟩ 2 hdX12_three ⟨Nat.le_of_ble_eq_true rfl, Nat.le_of_ble_eq_true rfl⟩ rfl rfl (wM_e0 ad cy σ) rfl hl rfl (Nat.le_of_ble_eq_true rfl) dX12_plain_148 ⟨Nat.zero_le _, Nat.zero_le _⟩ (fun H locs hI => ?_)
  refine lv_goto (tgt := 160) hx hb dX12_plain_151 (by decide) ?_
  exact bX12_plain_160 hC  hI (lv_sub hl [] rfl) hf
set_option maxRecDepth 20000 in
theorem cX12_plain_met (st : Nat → Nat) (l : Launch) (D : va_G) (ad : Nat → Nat) (cy : Nat → ClassId) (σ : zSt) (x1 : Int32) (res : zSt × Int32) (hf : fX12_plain σ x1 = some res) (sz : Nat) : zMi st l yX12_plain wzX12_plain rmX12_plain [.ref (ad 0), .int x1] D (tM cy) (wM ad cy) sz σ res :=
  zMi.of (cc := cX12_plain) (maxL := 4) (ret := (some .int)) (by decide) rfl (Nat.le_of_ble_eq_true rfl) (fun p e s m args below meth c hC A hI ls hl => bX12_plain hC hI hl hf)
theorem hdX12_plain : yX12_plain.cls = RX12 ∧ yX12_plain.cls ≠ "java/lang/invoke/MethodHandle" ∧ yX12_plain.cls ≠ "java/lang/invoke/VarHandle" ∧ (parseMethodDescriptor yX12_plain.desc).map (fun d => d.parameters.length) = some 1 := by decide +kernel
noncomputable def rmX12_instruction : Room := { frames := 12, cells := 0, slots := 0, locals := 282 }
noncomputable def wzX12_instruction : List Cond := .code yX12_instruction cX12_instruction 1 (some .int) :: wsL_law
theorem hinX12_instruction_X120 : ∀ w ∈ wsX120, w ∈ wzX12_instruction := fun w h => List.mem_cons_of_mem _ (inlX12 w h)
noncomputable def fX12_instruction  (σ : zSt)  : Option (zSt × Int32) :=
  zbv (zsi σ 0 31 0) (fun σ1 =>
  zck (zbo 0) (zbv (zsi σ1 0 32 0) (fun σ2 =>
  zbi (fX12_fetch σ2 ) (fun σ3 v4 =>
  zbi (fX12_plain σ3 v4) (fun σ5 v6 =>
  some (σ5, v6))))))
set_option maxRecDepth 20000 in
set_option maxHeartbeats 4000000 in
theorem bX12_instruction {st : Nat → Nat} {p : Program} {l : Launch} {e : Env} {s : State} {m : MethodId} {args : Array Value} {below : List Frame} {meth : Method} {c : Code} {D : va_G} {A : Nat → Prop} {ad : Nat → Nat} {cy : Nat → ClassId} (hC : zC p m c cX12_instruction 1 s args wzX12_instruction RX12 meth (some .int))  {res : zSt × Int32} {H : Heap} {locs : List Loc} {σ : zSt} {ls : Array Slot}  (hI : zI st D (tM cy) (wM ad cy σ) A s H locs) (hl : lv_has ls 1 [(0, .ref (ad 0))]) (hf : fX12_instruction  σ  = some res) : W p l e rmX12_instruction s m args below meth c H locs 0 0 (zQi below args s D (tM cy) (wM ad cy) A res) (F0 m 0 ls []) := by
  have hx := hC.1
  have hb := hC.2.1
  unfold fX12_instruction at hf
  refine lv_aload_n hx hb dX12_instruction_0 rfl (lv_at hl 0 rfl) ?_
  refine lv_iconst (v := 0) hx hb dX12_instruction_1 (by decide) ?_
  obtain ⟨σ1, eσ1⟩ : ∃ z, z = zsi σ 0 31 0 := ⟨_, rfl⟩
  replace hf := zbv_use eσ1 hf
  refine z_put hC hI hinX12_instruction_X120 tyX12_ok nmX12 0 (wM_e0 ad cy σ) rfl 31 (by decide) (List.mem_cons_of_mem _ zw49_20) rfl rfl rfl (Nat.le_of_ble_eq_true rfl) ((wM_s0_31 ad cy σ 0).trans (congrArg (wM ad cy) eσ1.symm)) dX12_instruction_2 (fun H locs hI => ?_)
  refine lv_aload_n hx hb dX12_instruction_5 rfl (lv_at hl 0 rfl) ?_
  refine lv_iconst (v := 0) hx hb dX12_instruction_6 (by decide) ?_
  obtain ⟨q, hf⟩ := zck_use hf
  obtain ⟨σ2, eσ2⟩ : ∃ z, z = zsi σ1 0 32 0 := ⟨_, rfl⟩
  replace hf := zbv_use eσ2 hf
  refine z_put hC hI hinX12_instruction_X120 tyX12_ok nmX12 0 (wM_e0 ad cy σ1) rfl 32 (by decide) (List.mem_cons_of_mem _ zw49_21) rfl (zbo_n q) (zbo_f q) (Nat.le_of_ble_eq_true rfl) ((wM_s0_32 ad cy σ1 0).trans (congrArg (wM ad cy) eσ2.symm)) dX12_instruction_7 (fun H locs hI => ?_)
  refine lv_aload_n hx hb dX12_instruction_10 rfl (lv_at hl 0 rfl) ?_
  refine lv_aload_n hx hb dX12_instruction_11 rfl (lv_at hl 0 rfl) ?_
  obtain ⟨σ3, v4, g3, hf⟩ := zbi_use hf
  refine z_callVi (As := []) (rest := [.ref (ad 0)]) hC hI (cX12_fetch_met st l D ad cy σ2  _ g3) (zgV zw49_22 zw49_23 zw50_0 zw1_5 zw50_1) rfl ⟨rfl, rfl⟩ 0 hdX12_fetch ⟨Nat.le_of_ble_eq_true rfl, Nat.le_of_ble_eq_true rfl⟩ rfl rfl (wM_e0 ad cy σ2) rfl hl rfl (Nat.le_of_ble_eq_true rfl) dX12_instruction_12 ⟨Nat.zero_le _, Nat.zero_le _⟩ (fun H locs hI => ?_)
  obtain ⟨σ5, v6, g5, hf⟩ := zbi_use hf
  refine z_callVi (As := [.int v4]) (rest := []) hC hI (cX12_plain_met st l D ad cy σ3 v4 _ g5) (zgV zw50_6 zw50_7 zw50_8 zw1_5 zw50_9) rfl ⟨rfl, rfl⟩ 1 hdX12_plain ⟨Nat.le_of_ble_eq_true rfl, Nat.le_of_ble_eq_true rfl⟩ rfl rfl (wM_e0 ad cy σ3) rfl hl rfl (Nat.le_of_ble_eq_true rfl) dX12_instruction_15 ⟨Nat.zero_le _, Nat.zero_le _⟩ (fun H locs hI => ?_)
  exact z_ireturn hC hI hf dX12_instruction_18
set_option maxRecDepth 20000 in
theorem cX12_instruction_met (st : Nat → Nat) (l : Launch) (D : va_G) (ad : Nat → Nat) (cy : Nat → ClassId) (σ : zSt)  (res : zSt × Int32) (hf : fX12_instruction σ  = some res) (sz : Nat) : zMi st l yX12_instruction wzX12_instruction rmX12_instruction [.ref (ad 0)] D (tM cy) (wM ad cy) sz σ res :=
  zMi.of (cc := cX12_instruction) (maxL := 1) (ret := (some .int)) (by decide) rfl (Nat.le_of_ble_eq_true rfl) (fun p e s m args below meth c hC A hI ls hl => bX12_instruction hC hI hl hf)
theorem hdX12_instruction : yX12_instruction.cls = RX12 ∧ yX12_instruction.cls ≠ "java/lang/invoke/MethodHandle" ∧ yX12_instruction.cls ≠ "java/lang/invoke/VarHandle" ∧ (parseMethodDescriptor yX12_instruction.desc).map (fun d => d.parameters.length) = some 0 := by decide +kernel
noncomputable def rmX12_answers : Room := { frames := 1, cells := 0, slots := 0, locals := 20 }
noncomputable def wzX12_answers : List Cond := .code yX12_answers cX12_answers 1 none :: wsL_law
theorem hinX12_answers_X120 : ∀ w ∈ wsX120, w ∈ wzX12_answers := fun w h => List.mem_cons_of_mem _ (inlX12 w h)
noncomputable def fX12_answers  (σ : zSt)  : Option (zSt) :=
  zbu (fX12_grows σ ) (fun σ1 =>
  zck (zin 26 1048) (zbv (zsi σ1 3 ((26 : Int32).toNatClampNeg) 0) (fun σ2 =>
  some σ2)))
set_option maxRecDepth 20000 in
set_option maxHeartbeats 4000000 in
theorem bX12_answers {st : Nat → Nat} {p : Program} {l : Launch} {e : Env} {s : State} {m : MethodId} {args : Array Value} {below : List Frame} {meth : Method} {c : Code} {D : va_G} {A : Nat → Prop} {ad : Nat → Nat} {cy : Nat → ClassId} (hC : zC p m c cX12_answers 1 s args wzX12_answers RX12 meth none)  {res : zSt} {H : Heap} {locs : List Loc} {σ : zSt} {ls : Array Slot}  (hI : zI st D (tM cy) (wM ad cy σ) A s H locs) (hl : lv_has ls 1 [(0, .ref (ad 0))]) (hf : fX12_answers  σ  = some res) : W p l e rmX12_answers s m args below meth c H locs 0 0 (zQu below args s D (tM cy) (wM ad cy) A res) (F0 m 0 ls []) := by
  have hx := hC.1
  have hb := hC.2.1
  unfold fX12_answers at hf
  refine lv_aload_n hx hb dX12_answers_0 rfl (lv_at hl 0 rfl) ?_
  obtain ⟨σ1, g1, hf⟩ := zbu_use hf
  refine z_callVu (As := []) (rest := []) hC hI (cX12_grows_met st l D ad cy σ  _ g1) (zgV zw47_17 zw47_18 zw47_19 zw1_5 zw47_20) rfl ⟨rfl, rfl⟩ 0 hdX12_grows ⟨Nat.le_of_ble_eq_true rfl, Nat.le_of_ble_eq_true rfl⟩ rfl rfl (wM_e0 ad cy σ) rfl hl rfl (Nat.le_of_ble_eq_true rfl) dX12_answers_1 ⟨Nat.zero_le _, Nat.zero_le _⟩ (fun H locs hI => ?_)
  refine lv_aload_n hx hb dX12_answers_4 rfl (lv_at hl 0 rfl) ?_
  refine z_get hC hI hinX12_answers_X120 0 (wM_e0 ad cy σ1) rfl 10 (by decide) (List.mem_cons_of_mem _ zw9_7) rfl dX12_answers_5 ?_
  refine lv_bipush (v := 26) hx hb dX12_answers_8 (by decide) ?_
  refine lv_iconst (v := 0) hx hb dX12_answers_10 (by decide) ?_
  obtain ⟨q, hf⟩ := zck_use hf
  obtain ⟨σ2, eσ2⟩ : ∃ z, z = zsi σ1 3 ((26 : Int32).toNatClampNeg) 0 := ⟨_, rfl⟩
  replace hf := zbv_use eσ2 hf
  refine z_iast hC hI 3 2 (wM_e3 ad cy σ1) (tM_t3 cy) q ((wM_s3 ad cy σ1 _ _).trans (congrArg (wM ad cy) eσ2.symm)) dX12_answers_11 (fun H locs hI => ?_)
  exact z_return hC hI hf dX12_answers_12
set_option maxRecDepth 20000 in
theorem cX12_answers_met (st : Nat → Nat) (l : Launch) (D : va_G) (ad : Nat → Nat) (cy : Nat → ClassId) (σ : zSt)  (res : zSt) (hf : fX12_answers σ  = some res) (sz : Nat) : zMu st l yX12_answers wzX12_answers rmX12_answers [.ref (ad 0)] D (tM cy) (wM ad cy) sz σ res :=
  zMu.of (cc := cX12_answers) (maxL := 1) (ret := none) (by decide) rfl (Nat.le_of_ble_eq_true rfl) (fun p e s m args below meth c hC A hI ls hl => bX12_answers hC hI hl hf)
theorem hdX12_answers : yX12_answers.cls = RX12 ∧ yX12_answers.cls ≠ "java/lang/invoke/MethodHandle" ∧ yX12_answers.cls ≠ "java/lang/invoke/VarHandle" ∧ (parseMethodDescriptor yX12_answers.desc).map (fun d => d.parameters.length) = some 0 := by decide +kernel
noncomputable def rmX12_reg : Room := { frames := 0, cells := 0, slots := 0, locals := 0 }
noncomputable def wzX12_reg : List Cond := .code yX12_reg cX12_reg 2 (some .int) :: wsL_law
theorem hinX12_reg_X120 : ∀ w ∈ wsX120, w ∈ wzX12_reg := fun w h => List.mem_cons_of_mem _ (inlX12 w h)
noncomputable def fX12_reg  (σ : zSt) (x1 : Int32) : Option (zSt × Int32) :=
  zck (zin (47 + x1) 1048) (
  some (σ, zgi σ 3 (47 + x1).toNatClampNeg))
set_option maxRecDepth 20000 in
set_option maxHeartbeats 4000000 in
theorem bX12_reg {st : Nat → Nat} {p : Program} {l : Launch} {e : Env} {s : State} {m : MethodId} {args : Array Value} {below : List Frame} {meth : Method} {c : Code} {D : va_G} {A : Nat → Prop} {ad : Nat → Nat} {cy : Nat → ClassId} (hC : zC p m c cX12_reg 2 s args wzX12_reg RX12 meth (some .int))  {res : zSt × Int32} {H : Heap} {locs : List Loc} {σ : zSt} {ls : Array Slot} {x1 : Int32} (hI : zI st D (tM cy) (wM ad cy σ) A s H locs) (hl : lv_has ls 2 [(0, .ref (ad 0)), (1, .int x1)]) (hf : fX12_reg  σ x1 = some res) : W p l e rmX12_reg s m args below meth c H locs 0 0 (zQi below args s D (tM cy) (wM ad cy) A res) (F0 m 0 ls []) := by
  have hx := hC.1
  have hb := hC.2.1
  unfold fX12_reg at hf
  refine lv_aload_n hx hb dX12_reg_0 rfl (lv_at hl 0 rfl) ?_
  refine z_get hC hI hinX12_reg_X120 0 (wM_e0 ad cy σ) rfl 10 (by decide) (List.mem_cons_of_mem _ zw9_7) rfl dX12_reg_1 ?_
  refine lv_bipush (v := 47) hx hb dX12_reg_4 (by decide) ?_
  refine lv_iload_n hx hb dX12_reg_6 rfl (lv_at hl 1 rfl) ?_
  refine lv_iadd hx hb dX12_reg_7 ?_
  obtain ⟨q, hf⟩ := zck_use hf
  refine z_iald hC hI 3 2 (wM_e3 ad cy σ) (tM_t3 cy) q dX12_reg_8 ?_
  exact z_ireturn hC hI hf dX12_reg_9
set_option maxRecDepth 20000 in
theorem cX12_reg_met (st : Nat → Nat) (l : Launch) (D : va_G) (ad : Nat → Nat) (cy : Nat → ClassId) (σ : zSt) (x1 : Int32) (res : zSt × Int32) (hf : fX12_reg σ x1 = some res) (sz : Nat) : zMi st l yX12_reg wzX12_reg rmX12_reg [.ref (ad 0), .int x1] D (tM cy) (wM ad cy) sz σ res :=
  zMi.of (cc := cX12_reg) (maxL := 2) (ret := (some .int)) (by decide) rfl (Nat.le_of_ble_eq_true rfl) (fun p e s m args below meth c hC A hI ls hl => bX12_reg hC hI hl hf)
theorem hdX12_reg : yX12_reg.cls = RX12 ∧ yX12_reg.cls ≠ "java/lang/invoke/MethodHandle" ∧ yX12_reg.cls ≠ "java/lang/invoke/VarHandle" ∧ (parseMethodDescriptor yX12_reg.desc).map (fun d => d.parameters.length) = some 1 := by decide +kernel
noncomputable def rmX12_tileDot : Room := { frames := 1, cells := 0, slots := 0, locals := 21 }
noncomputable def wzX12_tileDot : List Cond := .code yX12_tileDot cX12_tileDot 6 (some .int) :: wsL_law
noncomputable def fX12_tileDot_6_body (k6 : zSt → Int32 → Int32 → Int32 → Int32 → Int32 → Option (zSt × Int32)) (σ : zSt) (x1 : Int32) (x2 : Int32) (x3 : Int32) (x4 : Int32) (x5 : Int32) : Option (zSt × Int32) :=
  if 4 ≤ x5 then some (σ, x4) else
  zbi (fX12_video8 σ (((32 * x1) + (4 * x3)) + x5)) (fun σ1 v2 =>
  zbv (x4 ||| (((v2 >>> ((7 - x2) &&& 31)) &&& 1) <<< (x5 &&& 31))) (fun v3 =>
  zbv (x5 + 1) (fun v4 =>
  k6 σ1 x1 x2 x3 v3 v4)))
noncomputable def fX12_tileDot_6  : Nat → zSt → Int32 → Int32 → Int32 → Int32 → Int32 → Option (zSt × Int32)
  | 0, _, _, _, _, _, _ => none
  | n + 1, σ, x1, x2, x3, x4, x5 => fX12_tileDot_6_body (fX12_tileDot_6  n) σ x1 x2 x3 x4 x5
noncomputable def fX12_tileDot  (σ : zSt) (x1 : Int32) (x2 : Int32) (x3 : Int32) : Option (zSt × Int32) :=
  fX12_tileDot_6 zfuel σ x1 x2 x3 0 0
set_option maxRecDepth 20000 in
set_option maxHeartbeats 4000000 in
theorem bX12_tileDot_6_body {st : Nat → Nat} {p : Program} {l : Launch} {e : Env} {s : State} {m : MethodId} {args : Array Value} {below : List Frame} {meth : Method} {c : Code} {D : va_G} {A : Nat → Prop} {ad : Nat → Nat} {cy : Nat → ClassId} (hC : zC p m c cX12_tileDot 6 s args wzX12_tileDot RX12 meth (some .int)) {k6 : zSt → Int32 → Int32 → Int32 → Int32 → Int32 → Option (zSt × Int32)} {res : zSt × Int32} (hk6 : ∀ (H : Heap) (locs : List Loc) (σ : zSt) (ls : Array Slot) (x1 : Int32) (x2 : Int32) (x3 : Int32) (x4 : Int32) (x5 : Int32), zI st D (tM cy) (wM ad cy σ) A s H locs → lv_has ls 6 [(0, .ref (ad 0)), (1, .int x1), (2, .int x2), (3, .int x3), (4, .int x4), (5, .int x5)] → k6 σ x1 x2 x3 x4 x5 = some res → W p l e rmX12_tileDot s m args below meth c H locs 0 0 (zQi below args s D (tM cy) (wM ad cy) A res) (F0 m 6 ls [])) {H : Heap} {locs : List Loc} {σ : zSt} {ls : Array Slot} {x1 : Int32} {x2 : Int32} {x3 : Int32} {x4 : Int32} {x5 : Int32} (hI : zI st D (tM cy) (wM ad cy σ) A s H locs) (hl : lv_has ls 6 [(0, .ref (ad 0)), (1, .int x1), (2, .int x2), (3, .int x3), (4, .int x4), (5, .int x5)]) (hf : fX12_tileDot_6_body k6 σ x1 x2 x3 x4 x5 = some res) : W p l e rmX12_tileDot s m args below meth c H locs 0 0 (zQi below args s D (tM cy) (wM ad cy) A res) (F0 m 6 ls []) := by
  have hx := hC.1
  have hb := hC.2.1
  unfold fX12_tileDot_6_body at hf
  refine lv_iload hx hb dX12_tileDot_6 (lv_at hl 5 rfl) ?_
  refine lv_iconst (v := 4) hx hb dX12_tileDot_8 (by decide) ?_
  refine lv_icmp_ge (tgt := 48) hx hb dX12_tileDot_9 (by decide) (fun q => ?_) (fun q => ?_)
  · replace hf := zif_t q hf
    refine lv_iload hx hb dX12_tileDot_48 (lv_at hl 4 rfl) ?_
    exact z_ireturn hC hI hf dX12_tileDot_50
  replace hf := zif_f q hf
  refine lv_iload hx hb dX12_tileDot_12 (lv_at hl 4 rfl) ?_
  refine lv_aload_n hx hb dX12_tileDot_14 rfl (lv_at hl 0 rfl) ?_
  refine lv_bipush (v := 32) hx hb dX12_tileDot_15 (by decide) ?_
  refine lv_iload_n hx hb dX12_tileDot_17 rfl (lv_at hl 1 rfl) ?_
  refine lv_imul hx hb dX12_tileDot_18 ?_
  refine lv_iconst (v := 4) hx hb dX12_tileDot_19 (by decide) ?_
  refine lv_iload_n hx hb dX12_tileDot_20 rfl (lv_at hl 3 rfl) ?_
  refine lv_imul hx hb dX12_tileDot_21 ?_
  refine lv_iadd hx hb dX12_tileDot_22 ?_
  refine lv_iload hx hb dX12_tileDot_23 (lv_at hl 5 rfl) ?_
  refine lv_iadd hx hb dX12_tileDot_25 ?_
  obtain ⟨σ1, v2, g1, hf⟩ := zbi_use hf
  refine z_callVi (As := [.int (((32 * x1) + (4 * x3)) + x5)]) (rest := [.int x4]) hC hI (cX12_video8_met st l D ad cy σ (((32 * x1) + (4 * x3)) + x5) _ g1) (zgV zw56_6 zw56_7 zw56_8 zw1_5 zw56_9) rfl ⟨rfl, rfl⟩ 1 hdX12_video8 ⟨Nat.le_of_ble_eq_true rfl, Nat.le_of_ble_eq_true rfl⟩ rfl rfl (wM_e0 ad cy σ) rfl hl rfl (Nat.le_of_ble_eq_true rfl) dX12_tileDot_26 ⟨Nat.zero_le _, Nat.zero_le _⟩ (fun H locs hI => ?_)
  refine lv_bipush (v := 7) hx hb dX12_tileDot_29 (by decide) ?_
  refine lv_iload_n hx hb dX12_tileDot_31 rfl (lv_at hl 2 rfl) ?_
  refine lv_isub hx hb dX12_tileDot_32 ?_
  refine lv_ishr hx hb dX12_tileDot_33 ?_
  refine lv_iconst (v := 1) hx hb dX12_tileDot_34 (by decide) ?_
  refine lv_iand hx hb dX12_tileDot_35 ?_
  refine lv_iload hx hb dX12_tileDot_36 (lv_at hl 5 rfl) ?_
  refine lv_ishl hx hb dX12_tileDot_38 ?_
  refine lv_ior hx hb dX12_tileDot_39 ?_
  refine lv_topi (fun v3 ev3 => ?_)
  replace hf := zbv_use ev3 hf
  refine lv_istore (lv' := [(4, .int v3), (0, .ref (ad 0)), (1, .int x1), (2, .int x2), (3, .int x3), (5, .int x5)]) hx hb dX12_tileDot_40 hl (by decide) rfl (fun ls hl => ?_)
  obtain ⟨v4, ev4⟩ : ∃ z : Int32, z = x5 + 1 := ⟨_, rfl⟩
  replace hf := zbv_use ev4 hf
  refine lv_iinc (v := v4) (lv' := [(5, .int v4), (4, .int v3), (0, .ref (ad 0)), (1, .int x1), (2, .int x2), (3, .int x3)]) hx hb dX12_tileDot_42 hl (k := 5) rfl (by rw [ev4]; rfl) (by decide) rfl (fun ls hl => ?_)
  refine lv_goto (tgt := 6) hx hb dX12_tileDot_45 (by decide) ?_
  exact hk6 _ _ _ _ _ _ _ _ _ hI (lv_sub hl [2, 3, 4, 5, 1, 0] rfl) hf
theorem blX12_tileDot_6 {st : Nat → Nat} {p : Program} {l : Launch} {e : Env} {s : State} {m : MethodId} {args : Array Value} {below : List Frame} {meth : Method} {c : Code} {D : va_G} {A : Nat → Prop} {ad : Nat → Nat} {cy : Nat → ClassId} (hC : zC p m c cX12_tileDot 6 s args wzX12_tileDot RX12 meth (some .int))  {res : zSt × Int32} : ∀ (n : Nat) (H : Heap) (locs : List Loc) (σ : zSt) (ls : Array Slot) (x1 : Int32) (x2 : Int32) (x3 : Int32) (x4 : Int32) (x5 : Int32), zI st D (tM cy) (wM ad cy σ) A s H locs → lv_has ls 6 [(0, .ref (ad 0)), (1, .int x1), (2, .int x2), (3, .int x3), (4, .int x4), (5, .int x5)] → fX12_tileDot_6  n σ x1 x2 x3 x4 x5 = some res → W p l e rmX12_tileDot s m args below meth c H locs 0 0 (zQi below args s D (tM cy) (wM ad cy) A res) (F0 m 6 ls []) := by
  intro n
  induction n with
  | zero => intro H locs σ ls x1 x2 x3 x4 x5 hI hl hf; cases hf
  | succ n ih => intro H locs σ ls x1 x2 x3 x4 x5 hI hl hf; exact bX12_tileDot_6_body hC ih hI hl hf
set_option maxRecDepth 20000 in
set_option maxHeartbeats 4000000 in
theorem bX12_tileDot {st : Nat → Nat} {p : Program} {l : Launch} {e : Env} {s : State} {m : MethodId} {args : Array Value} {below : List Frame} {meth : Method} {c : Code} {D : va_G} {A : Nat → Prop} {ad : Nat → Nat} {cy : Nat → ClassId} (hC : zC p m c cX12_tileDot 6 s args wzX12_tileDot RX12 meth (some .int))  {res : zSt × Int32} {H : Heap} {locs : List Loc} {σ : zSt} {ls : Array Slot} {x1 : Int32} {x2 : Int32} {x3 : Int32} (hI : zI st D (tM cy) (wM ad cy σ) A s H locs) (hl : lv_has ls 6 [(0, .ref (ad 0)), (1, .int x1), (2, .int x2), (3, .int x3)]) (hf : fX12_tileDot  σ x1 x2 x3 = some res) : W p l e rmX12_tileDot s m args below meth c H locs 0 0 (zQi below args s D (tM cy) (wM ad cy) A res) (F0 m 0 ls []) := by
  have hx := hC.1
  have hb := hC.2.1
  unfold fX12_tileDot at hf
  refine lv_iconst (v := 0) hx hb dX12_tileDot_0 (by decide) ?_
  refine lv_istore (lv' := [(4, .int 0), (0, .ref (ad 0)), (1, .int x1), (2, .int x2), (3, .int x3)]) hx hb dX12_tileDot_1 hl (by decide) rfl (fun ls hl => ?_)
  refine lv_iconst (v := 0) hx hb dX12_tileDot_3 (by decide) ?_
  refine lv_istore (lv' := [(5, .int 0), (4, .int 0), (0, .ref (ad 0)), (1, .int x1), (2, .int x2), (3, .int x3)]) hx hb dX12_tileDot_4 hl (by decide) rfl (fun ls hl => ?_)
  exact blX12_tileDot_6 hC  zfuel _ _ _ _ _ _ _ _ _ hI (lv_sub hl [2, 3, 4, 5, 1, 0] rfl) hf
set_option maxRecDepth 20000 in
theorem cX12_tileDot_met (st : Nat → Nat) (l : Launch) (D : va_G) (ad : Nat → Nat) (cy : Nat → ClassId) (σ : zSt) (x1 : Int32) (x2 : Int32) (x3 : Int32) (res : zSt × Int32) (hf : fX12_tileDot σ x1 x2 x3 = some res) (sz : Nat) : zMi st l yX12_tileDot wzX12_tileDot rmX12_tileDot [.ref (ad 0), .int x1, .int x2, .int x3] D (tM cy) (wM ad cy) sz σ res :=
  zMi.of (cc := cX12_tileDot) (maxL := 6) (ret := (some .int)) (by decide) rfl (Nat.le_of_ble_eq_true rfl) (fun p e s m args below meth c hC A hI ls hl => bX12_tileDot hC hI hl hf)
theorem hdX12_tileDot : yX12_tileDot.cls = RX12 ∧ yX12_tileDot.cls ≠ "java/lang/invoke/MethodHandle" ∧ yX12_tileDot.cls ≠ "java/lang/invoke/VarHandle" ∧ (parseMethodDescriptor yX12_tileDot.desc).map (fun d => d.parameters.length) = some 3 := by decide +kernel
noncomputable def rmX12_tile : Room := { frames := 3, cells := 0, slots := 0, locals := 62 }
noncomputable def wzX12_tile : List Cond := .code yX12_tile cX12_tile 13 none :: wsL_law
theorem hinX12_tile_X120 : ∀ w ∈ wsX120, w ∈ wzX12_tile := fun w h => List.mem_cons_of_mem _ (inlX12 w h)
noncomputable def fX12_tile_302  (σ : zSt) (s0 : Int32) (s1 : Int32) : Option (zSt) :=
  zck (zin s1 256) (zbv (zsi σ 23 (s1.toNatClampNeg) (vp_nar .boolean s0)) (fun σ1 =>
  some σ1))
noncomputable def fX12_tile_301  (σ : zSt) (s0 : Int32) : Option (zSt) :=
  fX12_tile_302 σ 0 s0
noncomputable def fX12_tile_276  (σ : zSt) (x2 : Int32) (x9 : Int32) (x12 : Int32) (s0 : Int32) (s1 : Int32) (s2 : Int32) : Option (zSt) :=
  zck (zin s2 256) (zbv (zsi σ 22 (s2.toNatClampNeg) (s1 + s0)) (fun σ2 =>
  if x12 ≤ 0 then fX12_tile_301 σ2 x2 else
  if (x9 &&& 4096) = 0 then fX12_tile_301 σ2 x2 else
  fX12_tile_302 σ2 1 x2))
noncomputable def fX12_tile_236  (σ : zSt) (x2 : Int32) (x9 : Int32) (x10 : Int32) (s0 : Int32) : Option (zSt) :=
  zbi (fX12_tileDot σ (x9 &&& 511) x10 s0) (fun σ3 v4 =>
  if (x9 &&& 2048) = 0 then fX12_tile_276 σ3 x2 x9 v4 0 v4 x2 else
  fX12_tile_276 σ3 x2 x9 v4 16 v4 x2)
noncomputable def fX12_tile_209  (σ : zSt) (x2 : Int32) (x7 : Int32) (x9 : Int32) (s0 : Int32) : Option (zSt) :=
  if (x9 &&& 1024) = 0 then zck (decide (¬ 8 = 0)) (
  fX12_tile_236 σ x2 x9 s0 (zrem x7 8)) else
  zck (decide (¬ 8 = 0)) (
  fX12_tile_236 σ x2 x9 s0 (7 - (zrem x7 8)))
noncomputable def fX12_tile_141  (σ : zSt) (x2 : Int32) (x4 : Int32) (x6 : Int32) (s0 : Int32) : Option (zSt) :=
  zck (decide (¬ 8 = 0)) (
  zck (decide (¬ 8 = 0)) (
  zbv ((x4 + (64 * (s0 / 8))) + (2 * (x6 / 8))) (fun v5 =>
  zbi (fX12_video8 σ v5) (fun σ6 v7 =>
  zbi (fX12_video8 σ6 (v5 + 1)) (fun σ8 v9 =>
  zbv (v7 ||| (v9 <<< ((8 : Int32) &&& 31))) (fun v10 =>
  if (v10 &&& 512) = 0 then zck (decide (¬ 8 = 0)) (
  fX12_tile_209 σ8 x2 s0 v10 (zrem x6 8)) else
  zck (decide (¬ 8 = 0)) (
  fX12_tile_209 σ8 x2 s0 v10 (7 - (zrem x6 8)))))))))
noncomputable def fX12_tile_140  (σ : zSt) (x2 : Int32) (x4 : Int32) (x6 : Int32) (s0 : Int32) (s1 : Int32) : Option (zSt) :=
  zck (decide (¬ s0 = 0)) (
  fX12_tile_141 σ x2 x4 x6 (zrem s1 s0))
noncomputable def fX12_tile_118  (σ : zSt) (x1 : Int32) (x2 : Int32) (x3 : Int32) (x4 : Int32) (x6 : Int32) : Option (zSt) :=
  zck (zin 65 1048) (
  if x3 = 0 then fX12_tile_140 σ x2 x4 x6 256 (x1 + (zgi σ 3 (65 : Int32).toNatClampNeg)) else
  fX12_tile_140 σ x2 x4 x6 224 (x1 + (zgi σ 3 (65 : Int32).toNatClampNeg)))
noncomputable def fX12_tile_84  (σ : zSt) (x1 : Int32) (x2 : Int32) (x3 : Int32) (x4 : Int32) (s0 : Int32) : Option (zSt) :=
  zbv ((x2 - s0) &&& 255) (fun v11 =>
  if x2 ≤ 191 then fX12_tile_118 σ x1 x2 x3 x4 v11 else
  zbi (fX12_bit σ 0 7) (fun σ12 v13 =>
  if v13 = 1 then fX12_tile_141 σ12 x2 x4 v11 x1 else
  fX12_tile_118 σ12 x1 x2 x3 x4 v11))
noncomputable def fX12_tile_78  (σ : zSt) (x1 : Int32) (x2 : Int32) (x3 : Int32) (x4 : Int32) : Option (zSt) :=
  zbi (fX12_reg σ 8) (fun σ14 v15 =>
  fX12_tile_84 σ14 x1 x2 x3 x4 v15)
noncomputable def fX12_tile_55  (σ : zSt) (x1 : Int32) (x2 : Int32) (x3 : Int32) (s0 : Int32) : Option (zSt) :=
  if 16 ≤ x1 then fX12_tile_78 σ x1 x2 x3 s0 else
  zbi (fX12_bit σ 0 6) (fun σ16 v17 =>
  if v17 = 1 then fX12_tile_84 σ16 x1 x2 x3 s0 0 else
  fX12_tile_78 σ16 x1 x2 x3 s0)
noncomputable def fX12_tile_15  (σ : zSt) (x1 : Int32) (x2 : Int32) (s0 : Int32) : Option (zSt) :=
  if s0 = 0 then zbi (fX12_reg σ 2) (fun σ18 v19 =>
  zck (decide (¬ 4 = 0)) (
  zck (decide (¬ 4 = 0)) (
  fX12_tile_55 σ18 x1 x2 s0 ((4096 * (zrem (v19 / 4) 4)) + 1792)))) else
  zbi (fX12_reg σ 2) (fun σ20 v21 =>
  zck (decide (¬ 16 = 0)) (
  fX12_tile_55 σ20 x1 x2 s0 (1024 * ((zrem v21 16) &&& 14))))
noncomputable def fX12_tile  (σ : zSt) (x1 : Int32) (x2 : Int32) : Option (zSt) :=
  zbi (fX12_height σ ) (fun σ22 v23 =>
  if v23 = 192 then fX12_tile_15 σ22 x1 x2 1 else
  fX12_tile_15 σ22 x1 x2 0)
set_option maxRecDepth 20000 in
set_option maxHeartbeats 4000000 in
theorem bX12_tile_302 {st : Nat → Nat} {p : Program} {l : Launch} {e : Env} {s : State} {m : MethodId} {args : Array Value} {below : List Frame} {meth : Method} {c : Code} {D : va_G} {A : Nat → Prop} {ad : Nat → Nat} {cy : Nat → ClassId} (hC : zC p m c cX12_tile 13 s args wzX12_tile RX12 meth none)  {res : zSt} {H : Heap} {locs : List Loc} {σ : zSt} {ls : Array Slot} {s0 : Int32} {s1 : Int32} (hI : zI st D (tM cy) (wM ad cy σ) A s H locs) (hl : lv_has ls 13 []) (hf : fX12_tile_302  σ s0 s1 = some res) : W p l e rmX12_tile s m args below meth c H locs 0 0 (zQu below args s D (tM cy) (wM ad cy) A res) (F0 m 302 ls [.int s0, .int s1, .ref (ad 23)]) := by
  have hx := hC.1
  have hb := hC.2.1
  unfold fX12_tile_302 at hf
  obtain ⟨q, hf⟩ := zck_use hf
  obtain ⟨σ1, eσ1⟩ : ∃ z, z = zsi σ 23 (s1.toNatClampNeg) (vp_nar .boolean s0) := ⟨_, rfl⟩
  replace hf := zbv_use eσ1 hf
  refine z_zast hC hI 23 22 (wM_e23 ad cy σ) (tM_t23 cy) q ((wM_s23 ad cy σ _ _).trans (congrArg (wM ad cy) eσ1.symm)) dX12_tile_302 (fun H locs hI => ?_)
  exact z_return hC hI hf dX12_tile_303
set_option maxRecDepth 20000 in
set_option maxHeartbeats 4000000 in
theorem bX12_tile_301 {st : Nat → Nat} {p : Program} {l : Launch} {e : Env} {s : State} {m : MethodId} {args : Array Value} {below : List Frame} {meth : Method} {c : Code} {D : va_G} {A : Nat → Prop} {ad : Nat → Nat} {cy : Nat → ClassId} (hC : zC p m c cX12_tile 13 s args wzX12_tile RX12 meth none)  {res : zSt} {H : Heap} {locs : List Loc} {σ : zSt} {ls : Array Slot} {s0 : Int32} (hI : zI st D (tM cy) (wM ad cy σ) A s H locs) (hl : lv_has ls 13 []) (hf : fX12_tile_301  σ s0 = some res) : W p l e rmX12_tile s m args below meth c H locs 0 0 (zQu below args s D (tM cy) (wM ad cy) A res) (F0 m 301 ls [.int s0, .ref (ad 23)]) := by
  have hx := hC.1
  have hb := hC.2.1
  unfold fX12_tile_301 at hf
  refine lv_iconst (v := 0) hx hb dX12_tile_301 (by decide) ?_
  exact bX12_tile_302 hC  hI hl hf
set_option maxRecDepth 20000 in
set_option maxHeartbeats 4000000 in
theorem bX12_tile_276 {st : Nat → Nat} {p : Program} {l : Launch} {e : Env} {s : State} {m : MethodId} {args : Array Value} {below : List Frame} {meth : Method} {c : Code} {D : va_G} {A : Nat → Prop} {ad : Nat → Nat} {cy : Nat → ClassId} (hC : zC p m c cX12_tile 13 s args wzX12_tile RX12 meth none)  {res : zSt} {H : Heap} {locs : List Loc} {σ : zSt} {ls : Array Slot} {x2 : Int32} {x9 : Int32} {x12 : Int32} {s0 : Int32} {s1 : Int32} {s2 : Int32} (hI : zI st D (tM cy) (wM ad cy σ) A s H locs) (hl : lv_has ls 13 [(0, .ref (ad 0)), (2, .int x2), (9, .int x9), (12, .int x12)]) (hf : fX12_tile_276  σ x2 x9 x12 s0 s1 s2 = some res) : W p l e rmX12_tile s m args below meth c H locs 0 0 (zQu below args s D (tM cy) (wM ad cy) A res) (F0 m 276 ls [.int s0, .int s1, .int s2, .ref (ad 22)]) := by
  have hx := hC.1
  have hb := hC.2.1
  unfold fX12_tile_276 at hf
  refine lv_iadd hx hb dX12_tile_276 ?_
  obtain ⟨q, hf⟩ := zck_use hf
  obtain ⟨σ2, eσ2⟩ : ∃ z, z = zsi σ 22 (s2.toNatClampNeg) (s1 + s0) := ⟨_, rfl⟩
  replace hf := zbv_use eσ2 hf
  refine z_iast hC hI 22 21 (wM_e22 ad cy σ) (tM_t22 cy) q ((wM_s22 ad cy σ _ _).trans (congrArg (wM ad cy) eσ2.symm)) dX12_tile_277 (fun H locs hI => ?_)
  refine lv_aload_n hx hb dX12_tile_278 rfl (lv_at hl 0 rfl) ?_
  refine z_get hC hI hinX12_tile_X120 0 (wM_e0 ad cy σ2) rfl 35 (by decide) (List.mem_cons_of_mem _ zw10_6) rfl dX12_tile_279 ?_
  refine lv_iload_n hx hb dX12_tile_282 rfl (lv_at hl 1 rfl) ?_
  refine lv_iload hx hb dX12_tile_283 (lv_at hl 3 rfl) ?_
  refine lv_if_le (tgt := 301) hx hb dX12_tile_285 (by decide) (fun q => ?_) (fun q => ?_)
  · replace hf := zif_t q hf
    exact bX12_tile_301 hC  hI (lv_sub hl [] rfl) hf
  replace hf := zif_f q hf
  refine lv_iload hx hb dX12_tile_288 (lv_at hl 2 rfl) ?_
  refine lv_sipush (v := 4096) hx hb dX12_tile_290 (by decide) ?_
  refine lv_iand hx hb dX12_tile_293 ?_
  refine lv_if_eq (tgt := 301) hx hb dX12_tile_294 (by decide) (fun q => ?_) (fun q => ?_)
  · replace hf := zif_t q hf
    exact bX12_tile_301 hC  hI (lv_sub hl [] rfl) hf
  replace hf := zif_f q hf
  refine lv_iconst (v := 1) hx hb dX12_tile_297 (by decide) ?_
  refine lv_goto (tgt := 302) hx hb dX12_tile_298 (by decide) ?_
  exact bX12_tile_302 hC  hI (lv_sub hl [] rfl) hf
set_option maxRecDepth 20000 in
set_option maxHeartbeats 4000000 in
theorem bX12_tile_236 {st : Nat → Nat} {p : Program} {l : Launch} {e : Env} {s : State} {m : MethodId} {args : Array Value} {below : List Frame} {meth : Method} {c : Code} {D : va_G} {A : Nat → Prop} {ad : Nat → Nat} {cy : Nat → ClassId} (hC : zC p m c cX12_tile 13 s args wzX12_tile RX12 meth none)  {res : zSt} {H : Heap} {locs : List Loc} {σ : zSt} {ls : Array Slot} {x2 : Int32} {x9 : Int32} {x10 : Int32} {s0 : Int32} (hI : zI st D (tM cy) (wM ad cy σ) A s H locs) (hl : lv_has ls 13 [(0, .ref (ad 0)), (2, .int x2), (9, .int x9), (10, .int x10)]) (hf : fX12_tile_236  σ x2 x9 x10 s0 = some res) : W p l e rmX12_tile s m args below meth c H locs 0 0 (zQu below args s D (tM cy) (wM ad cy) A res) (F0 m 236 ls [.int s0]) := by
  have hx := hC.1
  have hb := hC.2.1
  unfold fX12_tile_236 at hf
  refine lv_istore (lv' := [(11, .int s0), (0, .ref (ad 0)), (2, .int x2), (9, .int x9), (10, .int x10)]) hx hb dX12_tile_236 hl (by decide) rfl (fun ls hl => ?_)
  refine lv_aload_n hx hb dX12_tile_238 rfl (lv_at hl 1 rfl) ?_
  refine lv_iload hx hb dX12_tile_239 (lv_at hl 3 rfl) ?_
  refine lv_sipush (v := 511) hx hb dX12_tile_241 (by decide) ?_
  refine lv_iand hx hb dX12_tile_244 ?_
  refine lv_iload hx hb dX12_tile_245 (lv_at hl 4 rfl) ?_
  refine lv_iload hx hb dX12_tile_247 (lv_at hl 0 rfl) ?_
  obtain ⟨σ3, v4, g3, hf⟩ := zbi_use hf
  refine z_callVi (As := [.int (x9 &&& 511), .int x10, .int s0]) (rest := []) hC hI (cX12_tileDot_met st l D ad cy σ (x9 &&& 511) x10 s0 _ g3) (zgV zw59_14 zw59_15 zw59_16 zw1_5 zw59_17) rfl ⟨rfl, rfl⟩ 3 hdX12_tileDot ⟨Nat.le_of_ble_eq_true rfl, Nat.le_of_ble_eq_true rfl⟩ rfl rfl (wM_e0 ad cy σ) rfl hl rfl (Nat.le_of_ble_eq_true rfl) dX12_tile_249 ⟨Nat.zero_le _, Nat.zero_le _⟩ (fun H locs hI => ?_)
  refine lv_istore (lv' := [(12, .int v4), (11, .int s0), (0, .ref (ad 0)), (2, .int x2), (9, .int x9), (10, .int x10)]) hx hb dX12_tile_252 hl (by decide) rfl (fun ls hl => ?_)
  refine lv_aload_n hx hb dX12_tile_254 rfl (lv_at hl 2 rfl) ?_
  refine z_get hC hI hinX12_tile_X120 0 (wM_e0 ad cy σ3) rfl 34 (by decide) (List.mem_cons_of_mem _ zw10_4) rfl dX12_tile_255 ?_
  refine lv_iload_n hx hb dX12_tile_258 rfl (lv_at hl 3 rfl) ?_
  refine lv_iload hx hb dX12_tile_259 (lv_at hl 0 rfl) ?_
  refine lv_iload hx hb dX12_tile_261 (lv_at hl 4 rfl) ?_
  refine lv_sipush (v := 2048) hx hb dX12_tile_263 (by decide) ?_
  refine lv_iand hx hb dX12_tile_266 ?_
  refine lv_if_eq (tgt := 275) hx hb dX12_tile_267 (by decide) (fun q => ?_) (fun q => ?_)
  · replace hf := zif_t q hf
    refine lv_iconst (v := 0) hx hb dX12_tile_275 (by decide) ?_
    exact bX12_tile_276 hC  hI (lv_sub hl [2, 3, 4, 0] rfl) hf
  replace hf := zif_f q hf
  refine lv_bipush (v := 16) hx hb dX12_tile_270 (by decide) ?_
  refine lv_goto (tgt := 276) hx hb dX12_tile_272 (by decide) ?_
  exact bX12_tile_276 hC  hI (lv_sub hl [2, 3, 4, 0] rfl) hf
set_option maxRecDepth 20000 in
set_option maxHeartbeats 4000000 in
theorem bX12_tile_209 {st : Nat → Nat} {p : Program} {l : Launch} {e : Env} {s : State} {m : MethodId} {args : Array Value} {below : List Frame} {meth : Method} {c : Code} {D : va_G} {A : Nat → Prop} {ad : Nat → Nat} {cy : Nat → ClassId} (hC : zC p m c cX12_tile 13 s args wzX12_tile RX12 meth none)  {res : zSt} {H : Heap} {locs : List Loc} {σ : zSt} {ls : Array Slot} {x2 : Int32} {x7 : Int32} {x9 : Int32} {s0 : Int32} (hI : zI st D (tM cy) (wM ad cy σ) A s H locs) (hl : lv_has ls 13 [(0, .ref (ad 0)), (2, .int x2), (7, .int x7), (9, .int x9)]) (hf : fX12_tile_209  σ x2 x7 x9 s0 = some res) : W p l e rmX12_tile s m args below meth c H locs 0 0 (zQu below args s D (tM cy) (wM ad cy) A res) (F0 m 209 ls [.int s0]) := by
  have hx := hC.1
  have hb := hC.2.1
  unfold fX12_tile_209 at hf
  refine lv_istore (lv' := [(10, .int s0), (0, .ref (ad 0)), (2, .int x2), (7, .int x7), (9, .int x9)]) hx hb dX12_tile_209 hl (by decide) rfl (fun ls hl => ?_)
  refine lv_iload hx hb dX12_tile_211 (lv_at hl 4 rfl) ?_
  refine lv_sipush (v := 1024) hx hb dX12_tile_213 (by decide) ?_
  refine lv_iand hx hb dX12_tile_216 ?_
  refine lv_if_eq (tgt := 231) hx hb dX12_tile_217 (by decide) (fun q => ?_) (fun q => ?_)
  · replace hf := zif_t q hf
    refine lv_iload hx hb dX12_tile_231 (lv_at hl 3 rfl) ?_
    refine lv_bipush (v := 8) hx hb dX12_tile_233 (by decide) ?_
    obtain ⟨q, hf⟩ := zck_use hf
    refine z_irem hx hb dX12_tile_235 (of_decide_eq_true q) ?_
    exact bX12_tile_236 hC  hI (lv_sub hl [1, 2, 4, 0] rfl) hf
  replace hf := zif_f q hf
  refine lv_bipush (v := 7) hx hb dX12_tile_220 (by decide) ?_
  refine lv_iload hx hb dX12_tile_222 (lv_at hl 3 rfl) ?_
  refine lv_bipush (v := 8) hx hb dX12_tile_224 (by decide) ?_
  obtain ⟨q, hf⟩ := zck_use hf
  refine z_irem hx hb dX12_tile_226 (of_decide_eq_true q) ?_
  refine lv_isub hx hb dX12_tile_227 ?_
  refine lv_goto (tgt := 236) hx hb dX12_tile_228 (by decide) ?_
  exact bX12_tile_236 hC  hI (lv_sub hl [1, 2, 4, 0] rfl) hf
set_option maxRecDepth 20000 in
set_option maxHeartbeats 4000000 in
theorem bX12_tile_141 {st : Nat → Nat} {p : Program} {l : Launch} {e : Env} {s : State} {m : MethodId} {args : Array Value} {below : List Frame} {meth : Method} {c : Code} {D : va_G} {A : Nat → Prop} {ad : Nat → Nat} {cy : Nat → ClassId} (hC : zC p m c cX12_tile 13 s args wzX12_tile RX12 meth none)  {res : zSt} {H : Heap} {locs : List Loc} {σ : zSt} {ls : Array Slot} {x2 : Int32} {x4 : Int32} {x6 : Int32} {s0 : Int32} (hI : zI st D (tM cy) (wM ad cy σ) A s H locs) (hl : lv_has ls 13 [(0, .ref (ad 0)), (2, .int x2), (4, .int x4), (6, .int x6)]) (hf : fX12_tile_141  σ x2 x4 x6 s0 = some res) : W p l e rmX12_tile s m args below meth c H locs 0 0 (zQu below args s D (tM cy) (wM ad cy) A res) (F0 m 141 ls [.int s0]) := by
  have hx := hC.1
  have hb := hC.2.1
  unfold fX12_tile_141 at hf
  refine lv_istore (lv' := [(7, .int s0), (0, .ref (ad 0)), (2, .int x2), (4, .int x4), (6, .int x6)]) hx hb dX12_tile_141 hl (by decide) rfl (fun ls hl => ?_)
  refine lv_iload hx hb dX12_tile_143 (lv_at hl 3 rfl) ?_
  refine lv_bipush (v := 64) hx hb dX12_tile_145 (by decide) ?_
  refine lv_iload hx hb dX12_tile_147 (lv_at hl 0 rfl) ?_
  refine lv_bipush (v := 8) hx hb dX12_tile_149 (by decide) ?_
  obtain ⟨q, hf⟩ := zck_use hf
  refine lv_idiv hx hb dX12_tile_151 (of_decide_eq_true q) ?_
  refine lv_imul hx hb dX12_tile_152 ?_
  refine lv_iadd hx hb dX12_tile_153 ?_
  refine lv_iconst (v := 2) hx hb dX12_tile_154 (by decide) ?_
  refine lv_iload hx hb dX12_tile_155 (lv_at hl 4 rfl) ?_
  refine lv_bipush (v := 8) hx hb dX12_tile_157 (by decide) ?_
  obtain ⟨q, hf⟩ := zck_use hf
  refine lv_idiv hx hb dX12_tile_159 (of_decide_eq_true q) ?_
  refine lv_imul hx hb dX12_tile_160 ?_
  refine lv_iadd hx hb dX12_tile_161 ?_
  refine lv_topi (fun v5 ev5 => ?_)
  replace hf := zbv_use ev5 hf
  refine lv_istore (lv' := [(8, .int v5), (7, .int s0), (0, .ref (ad 0)), (2, .int x2), (4, .int x4), (6, .int x6)]) hx hb dX12_tile_162 hl (by decide) rfl (fun ls hl => ?_)
  refine lv_aload_n hx hb dX12_tile_164 rfl (lv_at hl 2 rfl) ?_
  refine lv_iload hx hb dX12_tile_165 (lv_at hl 0 rfl) ?_
  obtain ⟨σ6, v7, g6, hf⟩ := zbi_use hf
  refine z_callVi (As := [.int v5]) (rest := []) hC hI (cX12_video8_met st l D ad cy σ v5 _ g6) (zgV zw56_6 zw56_7 zw56_8 zw1_5 zw56_9) rfl ⟨rfl, rfl⟩ 1 hdX12_video8 ⟨Nat.le_of_ble_eq_true rfl, Nat.le_of_ble_eq_true rfl⟩ rfl rfl (wM_e0 ad cy σ) rfl hl rfl (Nat.le_of_ble_eq_true rfl) dX12_tile_167 ⟨Nat.zero_le _, Nat.zero_le _⟩ (fun H locs hI => ?_)
  refine lv_aload_n hx hb dX12_tile_170 rfl (lv_at hl 2 rfl) ?_
  refine lv_iload hx hb dX12_tile_171 (lv_at hl 0 rfl) ?_
  refine lv_iconst (v := 1) hx hb dX12_tile_173 (by decide) ?_
  refine lv_iadd hx hb dX12_tile_174 ?_
  obtain ⟨σ8, v9, g8, hf⟩ := zbi_use hf
  refine z_callVi (As := [.int (v5 + 1)]) (rest := [.int v7]) hC hI (cX12_video8_met st l D ad cy σ6 (v5 + 1) _ g8) (zgV zw56_6 zw56_7 zw56_8 zw1_5 zw56_9) rfl ⟨rfl, rfl⟩ 1 hdX12_video8 ⟨Nat.le_of_ble_eq_true rfl, Nat.le_of_ble_eq_true rfl⟩ rfl rfl (wM_e0 ad cy σ6) rfl hl rfl (Nat.le_of_ble_eq_true rfl) dX12_tile_175 ⟨Nat.zero_le _, Nat.zero_le _⟩ (fun H locs hI => ?_)
  refine lv_bipush (v := 8) hx hb dX12_tile_178 (by decide) ?_
  refine lv_ishl hx hb dX12_tile_180 ?_
  refine lv_ior hx hb dX12_tile_181 ?_
  refine lv_topi (fun v10 ev10 => ?_)
  replace hf := zbv_use ev10 hf
  refine lv_istore (lv' := [(9, .int v10), (8, .int v5), (7, .int s0), (0, .ref (ad 0)), (2, .int x2), (4, .int x4), (6, .int x6)]) hx hb dX12_tile_182 hl (by decide) rfl (fun ls hl => ?_)
  refine lv_iload hx hb dX12_tile_184 (lv_at hl 0 rfl) ?_
  refine lv_sipush (v := 512) hx hb dX12_tile_186 (by decide) ?_
  refine lv_iand hx hb dX12_tile_189 ?_
  refine lv_if_eq (tgt := 204) hx hb dX12_tile_190 (by decide) (fun q => ?_) (fun q => ?_)
  · replace hf := zif_t q hf
    refine lv_iload hx hb dX12_tile_204 (lv_at hl 6 rfl) ?_
    refine lv_bipush (v := 8) hx hb dX12_tile_206 (by decide) ?_
    obtain ⟨q, hf⟩ := zck_use hf
    refine z_irem hx hb dX12_tile_208 (of_decide_eq_true q) ?_
    exact bX12_tile_209 hC  hI (lv_sub hl [3, 4, 2, 0] rfl) hf
  replace hf := zif_f q hf
  refine lv_bipush (v := 7) hx hb dX12_tile_193 (by decide) ?_
  refine lv_iload hx hb dX12_tile_195 (lv_at hl 6 rfl) ?_
  refine lv_bipush (v := 8) hx hb dX12_tile_197 (by decide) ?_
  obtain ⟨q, hf⟩ := zck_use hf
  refine z_irem hx hb dX12_tile_199 (of_decide_eq_true q) ?_
  refine lv_isub hx hb dX12_tile_200 ?_
  refine lv_goto (tgt := 209) hx hb dX12_tile_201 (by decide) ?_
  exact bX12_tile_209 hC  hI (lv_sub hl [3, 4, 2, 0] rfl) hf
set_option maxRecDepth 20000 in
set_option maxHeartbeats 4000000 in
theorem bX12_tile_140 {st : Nat → Nat} {p : Program} {l : Launch} {e : Env} {s : State} {m : MethodId} {args : Array Value} {below : List Frame} {meth : Method} {c : Code} {D : va_G} {A : Nat → Prop} {ad : Nat → Nat} {cy : Nat → ClassId} (hC : zC p m c cX12_tile 13 s args wzX12_tile RX12 meth none)  {res : zSt} {H : Heap} {locs : List Loc} {σ : zSt} {ls : Array Slot} {x2 : Int32} {x4 : Int32} {x6 : Int32} {s0 : Int32} {s1 : Int32} (hI : zI st D (tM cy) (wM ad cy σ) A s H locs) (hl : lv_has ls 13 [(0, .ref (ad 0)), (2, .int x2), (4, .int x4), (6, .int x6)]) (hf : fX12_tile_140  σ x2 x4 x6 s0 s1 = some res) : W p l e rmX12_tile s m args below meth c H locs 0 0 (zQu below args s D (tM cy) (wM ad cy) A res) (F0 m 140 ls [.int s0, .int s1]) := by
  have hx := hC.1
  have hb := hC.2.1
  unfold fX12_tile_140 at hf
  obtain ⟨q, hf⟩ := zck_use hf
  refine z_irem hx hb dX12_tile_140 (of_decide_eq_true q) ?_
  exact bX12_tile_141 hC  hI hl hf
set_option maxRecDepth 20000 in
set_option maxHeartbeats 4000000 in
theorem bX12_tile_118 {st : Nat → Nat} {p : Program} {l : Launch} {e : Env} {s : State} {m : MethodId} {args : Array Value} {below : List Frame} {meth : Method} {c : Code} {D : va_G} {A : Nat → Prop} {ad : Nat → Nat} {cy : Nat → ClassId} (hC : zC p m c cX12_tile 13 s args wzX12_tile RX12 meth none)  {res : zSt} {H : Heap} {locs : List Loc} {σ : zSt} {ls : Array Slot} {x1 : Int32} {x2 : Int32} {x3 : Int32} {x4 : Int32} {x6 : Int32} (hI : zI st D (tM cy) (wM ad cy σ) A s H locs) (hl : lv_has ls 13 [(0, .ref (ad 0)), (1, .int x1), (2, .int x2), (3, .int x3), (4, .int x4), (6, .int x6)]) (hf : fX12_tile_118  σ x1 x2 x3 x4 x6 = some res) : W p l e rmX12_tile s m args below meth c H locs 0 0 (zQu below args s D (tM cy) (wM ad cy) A res) (F0 m 118 ls []) := by
  have hx := hC.1
  have hb := hC.2.1
  unfold fX12_tile_118 at hf
  refine lv_iload_n hx hb dX12_tile_118 rfl (lv_at hl 1 rfl) ?_
  refine lv_aload_n hx hb dX12_tile_119 rfl (lv_at hl 0 rfl) ?_
  refine z_get hC hI hinX12_tile_X120 0 (wM_e0 ad cy σ) rfl 10 (by decide) (List.mem_cons_of_mem _ zw9_7) rfl dX12_tile_120 ?_
  refine lv_bipush (v := 65) hx hb dX12_tile_123 (by decide) ?_
  obtain ⟨q, hf⟩ := zck_use hf
  refine z_iald hC hI 3 2 (wM_e3 ad cy σ) (tM_t3 cy) q dX12_tile_125 ?_
  refine lv_iadd hx hb dX12_tile_126 ?_
  refine lv_iload_n hx hb dX12_tile_127 rfl (lv_at hl 3 rfl) ?_
  refine lv_if_eq (tgt := 137) hx hb dX12_tile_128 (by decide) (fun q => ?_) (fun q => ?_)
  · replace hf := zif_t q hf
    refine lv_sipush (v := 256) hx hb dX12_tile_137 (by decide) ?_
    exact bX12_tile_140 hC  hI (lv_sub hl [0, 2, 4, 5] rfl) hf
  replace hf := zif_f q hf
  refine lv_sipush (v := 224) hx hb dX12_tile_131 (by decide) ?_
  refine lv_goto (tgt := 140) hx hb dX12_tile_134 (by decide) ?_
  exact bX12_tile_140 hC  hI (lv_sub hl [0, 2, 4, 5] rfl) hf
set_option maxRecDepth 20000 in
set_option maxHeartbeats 4000000 in
theorem bX12_tile_84 {st : Nat → Nat} {p : Program} {l : Launch} {e : Env} {s : State} {m : MethodId} {args : Array Value} {below : List Frame} {meth : Method} {c : Code} {D : va_G} {A : Nat → Prop} {ad : Nat → Nat} {cy : Nat → ClassId} (hC : zC p m c cX12_tile 13 s args wzX12_tile RX12 meth none)  {res : zSt} {H : Heap} {locs : List Loc} {σ : zSt} {ls : Array Slot} {x1 : Int32} {x2 : Int32} {x3 : Int32} {x4 : Int32} {s0 : Int32} (hI : zI st D (tM cy) (wM ad cy σ) A s H locs) (hl : lv_has ls 13 [(0, .ref (ad 0)), (1, .int x1), (2, .int x2), (3, .int x3), (4, .int x4)]) (hf : fX12_tile_84  σ x1 x2 x3 x4 s0 = some res) : W p l e rmX12_tile s m args below meth c H locs 0 0 (zQu below args s D (tM cy) (wM ad cy) A res) (F0 m 84 ls [.int s0]) := by
  have hx := hC.1
  have hb := hC.2.1
  unfold fX12_tile_84 at hf
  refine lv_istore (lv' := [(5, .int s0), (0, .ref (ad 0)), (1, .int x1), (2, .int x2), (3, .int x3), (4, .int x4)]) hx hb dX12_tile_84 hl (by decide) rfl (fun ls hl => ?_)
  refine lv_iload_n hx hb dX12_tile_86 rfl (lv_at hl 3 rfl) ?_
  refine lv_iload hx hb dX12_tile_87 (lv_at hl 0 rfl) ?_
  refine lv_isub hx hb dX12_tile_89 ?_
  refine lv_sipush (v := 255) hx hb dX12_tile_90 (by decide) ?_
  refine lv_iand hx hb dX12_tile_93 ?_
  refine lv_topi (fun v11 ev11 => ?_)
  replace hf := zbv_use ev11 hf
  refine lv_istore (lv' := [(6, .int v11), (5, .int s0), (0, .ref (ad 0)), (1, .int x1), (2, .int x2), (3, .int x3), (4, .int x4)]) hx hb dX12_tile_94 hl (by decide) rfl (fun ls hl => ?_)
  refine lv_iload_n hx hb dX12_tile_96 rfl (lv_at hl 4 rfl) ?_
  refine lv_sipush (v := 191) hx hb dX12_tile_97 (by decide) ?_
  refine lv_icmp_le (tgt := 118) hx hb dX12_tile_100 (by decide) (fun q => ?_) (fun q => ?_)
  · replace hf := zif_t q hf
    exact bX12_tile_118 hC  hI (lv_sub hl [2, 3, 4, 5, 6, 0] rfl) hf
  replace hf := zif_f q hf
  refine lv_aload_n hx hb dX12_tile_103 rfl (lv_at hl 2 rfl) ?_
  refine lv_iconst (v := 0) hx hb dX12_tile_104 (by decide) ?_
  refine lv_bipush (v := 7) hx hb dX12_tile_105 (by decide) ?_
  obtain ⟨σ12, v13, g12, hf⟩ := zbi_use hf
  refine z_callVi (As := [.int 0, .int 7]) (rest := []) hC hI (cX12_bit_met st l D ad cy σ 0 7 _ g12) (zgV zw49_0 zw49_1 zw49_2 zw1_5 zw49_3) rfl ⟨rfl, rfl⟩ 2 hdX12_bit ⟨Nat.le_of_ble_eq_true rfl, Nat.le_of_ble_eq_true rfl⟩ rfl rfl (wM_e0 ad cy σ) rfl hl rfl (Nat.le_of_ble_eq_true rfl) dX12_tile_107 ⟨Nat.zero_le _, Nat.zero_le _⟩ (fun H locs hI => ?_)
  refine lv_iconst (v := 1) hx hb dX12_tile_110 (by decide) ?_
  refine lv_icmp_ne (tgt := 118) hx hb dX12_tile_111 (by decide) (fun q => ?_) (fun q => ?_)
  · replace hf := zif_f q hf
    exact bX12_tile_118 hC  hI (lv_sub hl [2, 3, 4, 5, 6, 0] rfl) hf
  replace hf := zif_t q hf
  refine lv_iload_n hx hb dX12_tile_114 rfl (lv_at hl 3 rfl) ?_
  refine lv_goto (tgt := 141) hx hb dX12_tile_115 (by decide) ?_
  exact bX12_tile_141 hC  hI (lv_sub hl [2, 4, 6, 0] rfl) hf
set_option maxRecDepth 20000 in
set_option maxHeartbeats 4000000 in
theorem bX12_tile_78 {st : Nat → Nat} {p : Program} {l : Launch} {e : Env} {s : State} {m : MethodId} {args : Array Value} {below : List Frame} {meth : Method} {c : Code} {D : va_G} {A : Nat → Prop} {ad : Nat → Nat} {cy : Nat → ClassId} (hC : zC p m c cX12_tile 13 s args wzX12_tile RX12 meth none)  {res : zSt} {H : Heap} {locs : List Loc} {σ : zSt} {ls : Array Slot} {x1 : Int32} {x2 : Int32} {x3 : Int32} {x4 : Int32} (hI : zI st D (tM cy) (wM ad cy σ) A s H locs) (hl : lv_has ls 13 [(0, .ref (ad 0)), (1, .int x1), (2, .int x2), (3, .int x3), (4, .int x4)]) (hf : fX12_tile_78  σ x1 x2 x3 x4 = some res) : W p l e rmX12_tile s m args below meth c H locs 0 0 (zQu below args s D (tM cy) (wM ad cy) A res) (F0 m 78 ls []) := by
  have hx := hC.1
  have hb := hC.2.1
  unfold fX12_tile_78 at hf
  refine lv_aload_n hx hb dX12_tile_78 rfl (lv_at hl 0 rfl) ?_
  refine lv_bipush (v := 8) hx hb dX12_tile_79 (by decide) ?_
  obtain ⟨σ14, v15, g14, hf⟩ := zbi_use hf
  refine z_callVi (As := [.int 8]) (rest := []) hC hI (cX12_reg_met st l D ad cy σ 8 _ g14) (zgV zw59_6 zw59_7 zw59_8 zw1_5 zw59_9) rfl ⟨rfl, rfl⟩ 1 hdX12_reg ⟨Nat.le_of_ble_eq_true rfl, Nat.le_of_ble_eq_true rfl⟩ rfl rfl (wM_e0 ad cy σ) rfl hl rfl (Nat.le_of_ble_eq_true rfl) dX12_tile_81 ⟨Nat.zero_le _, Nat.zero_le _⟩ (fun H locs hI => ?_)
  exact bX12_tile_84 hC  hI hl hf
set_option maxRecDepth 20000 in
set_option maxHeartbeats 4000000 in
theorem bX12_tile_55 {st : Nat → Nat} {p : Program} {l : Launch} {e : Env} {s : State} {m : MethodId} {args : Array Value} {below : List Frame} {meth : Method} {c : Code} {D : va_G} {A : Nat → Prop} {ad : Nat → Nat} {cy : Nat → ClassId} (hC : zC p m c cX12_tile 13 s args wzX12_tile RX12 meth none)  {res : zSt} {H : Heap} {locs : List Loc} {σ : zSt} {ls : Array Slot} {x1 : Int32} {x2 : Int32} {x3 : Int32} {s0 : Int32} (hI : zI st D (tM cy) (wM ad cy σ) A s H locs) (hl : lv_has ls 13 [(0, .ref (ad 0)), (1, .int x1), (2, .int x2), (3, .int x3)]) (hf : fX12_tile_55  σ x1 x2 x3 s0 = some res) : W p l e rmX12_tile s m args below meth c H locs 0 0 (zQu below args s D (tM cy) (wM ad cy) A res) (F0 m 55 ls [.int s0]) := by
  have hx := hC.1
  have hb := hC.2.1
  unfold fX12_tile_55 at hf
  refine lv_istore (lv' := [(4, .int s0), (0, .ref (ad 0)), (1, .int x1), (2, .int x2), (3, .int x3)]) hx hb dX12_tile_55 hl (by decide) rfl (fun ls hl => ?_)
  refine lv_iload_n hx hb dX12_tile_57 rfl (lv_at hl 2 rfl) ?_
  refine lv_bipush (v := 16) hx hb dX12_tile_58 (by decide) ?_
  refine lv_icmp_ge (tgt := 78) hx hb dX12_tile_60 (by decide) (fun q => ?_) (fun q => ?_)
  · replace hf := zif_t q hf
    exact bX12_tile_78 hC  hI (lv_sub hl [1, 2, 3, 4, 0] rfl) hf
  replace hf := zif_f q hf
  refine lv_aload_n hx hb dX12_tile_63 rfl (lv_at hl 1 rfl) ?_
  refine lv_iconst (v := 0) hx hb dX12_tile_64 (by decide) ?_
  refine lv_bipush (v := 6) hx hb dX12_tile_65 (by decide) ?_
  obtain ⟨σ16, v17, g16, hf⟩ := zbi_use hf
  refine z_callVi (As := [.int 0, .int 6]) (rest := []) hC hI (cX12_bit_met st l D ad cy σ 0 6 _ g16) (zgV zw49_0 zw49_1 zw49_2 zw1_5 zw49_3) rfl ⟨rfl, rfl⟩ 2 hdX12_bit ⟨Nat.le_of_ble_eq_true rfl, Nat.le_of_ble_eq_true rfl⟩ rfl rfl (wM_e0 ad cy σ) rfl hl rfl (Nat.le_of_ble_eq_true rfl) dX12_tile_67 ⟨Nat.zero_le _, Nat.zero_le _⟩ (fun H locs hI => ?_)
  refine lv_iconst (v := 1) hx hb dX12_tile_70 (by decide) ?_
  refine lv_icmp_ne (tgt := 78) hx hb dX12_tile_71 (by decide) (fun q => ?_) (fun q => ?_)
  · replace hf := zif_f q hf
    exact bX12_tile_78 hC  hI (lv_sub hl [1, 2, 3, 4, 0] rfl) hf
  replace hf := zif_t q hf
  refine lv_iconst (v := 0) hx hb dX12_tile_74 (by decide) ?_
  refine lv_goto (tgt := 84) hx hb dX12_tile_75 (by decide) ?_
  exact bX12_tile_84 hC  hI (lv_sub hl [1, 2, 3, 4, 0] rfl) hf
set_option maxRecDepth 20000 in
set_option maxHeartbeats 4000000 in
theorem bX12_tile_15 {st : Nat → Nat} {p : Program} {l : Launch} {e : Env} {s : State} {m : MethodId} {args : Array Value} {below : List Frame} {meth : Method} {c : Code} {D : va_G} {A : Nat → Prop} {ad : Nat → Nat} {cy : Nat → ClassId} (hC : zC p m c cX12_tile 13 s args wzX12_tile RX12 meth none)  {res : zSt} {H : Heap} {locs : List Loc} {σ : zSt} {ls : Array Slot} {x1 : Int32} {x2 : Int32} {s0 : Int32} (hI : zI st D (tM cy) (wM ad cy σ) A s H locs) (hl : lv_has ls 13 [(0, .ref (ad 0)), (1, .int x1), (2, .int x2)]) (hf : fX12_tile_15  σ x1 x2 s0 = some res) : W p l e rmX12_tile s m args below meth c H locs 0 0 (zQu below args s D (tM cy) (wM ad cy) A res) (F0 m 15 ls [.int s0]) := by
  have hx := hC.1
  have hb := hC.2.1
  unfold fX12_tile_15 at hf
  refine lv_istore_n (lv' := [(3, .int s0), (0, .ref (ad 0)), (1, .int x1), (2, .int x2)]) hx hb dX12_tile_15 rfl hl (by decide) rfl (fun ls hl => ?_)
  refine lv_iload_n hx hb dX12_tile_16 rfl (lv_at hl 0 rfl) ?_
  refine lv_if_eq (tgt := 38) hx hb dX12_tile_17 (by decide) (fun q => ?_) (fun q => ?_)
  · replace hf := zif_t q hf
    refine lv_sipush (v := 4096) hx hb dX12_tile_38 (by decide) ?_
    refine lv_aload_n hx hb dX12_tile_41 rfl (lv_at hl 1 rfl) ?_
    refine lv_iconst (v := 2) hx hb dX12_tile_42 (by decide) ?_
    obtain ⟨σ18, v19, g18, hf⟩ := zbi_use hf
    refine z_callVi (As := [.int 2]) (rest := [.int 4096]) hC hI (cX12_reg_met st l D ad cy σ 2 _ g18) (zgV zw59_6 zw59_7 zw59_8 zw1_5 zw59_9) rfl ⟨rfl, rfl⟩ 1 hdX12_reg ⟨Nat.le_of_ble_eq_true rfl, Nat.le_of_ble_eq_true rfl⟩ rfl rfl (wM_e0 ad cy σ) rfl hl rfl (Nat.le_of_ble_eq_true rfl) dX12_tile_43 ⟨Nat.zero_le _, Nat.zero_le _⟩ (fun H locs hI => ?_)
    refine lv_iconst (v := 4) hx hb dX12_tile_46 (by decide) ?_
    obtain ⟨q, hf⟩ := zck_use hf
    refine lv_idiv hx hb dX12_tile_47 (of_decide_eq_true q) ?_
    refine lv_iconst (v := 4) hx hb dX12_tile_48 (by decide) ?_
    obtain ⟨q, hf⟩ := zck_use hf
    refine z_irem hx hb dX12_tile_49 (of_decide_eq_true q) ?_
    refine lv_imul hx hb dX12_tile_50 ?_
    refine lv_sipush (v := 1792) hx hb dX12_tile_51 (by decide) ?_
    refine lv_iadd hx hb dX12_tile_54 ?_
    exact bX12_tile_55 hC  hI (lv_sub hl [1, 2, 3, 0] rfl) hf
  replace hf := zif_f q hf
  refine lv_sipush (v := 1024) hx hb dX12_tile_20 (by decide) ?_
  refine lv_aload_n hx hb dX12_tile_23 rfl (lv_at hl 1 rfl) ?_
  refine lv_iconst (v := 2) hx hb dX12_tile_24 (by decide) ?_
  obtain ⟨σ20, v21, g20, hf⟩ := zbi_use hf
  refine z_callVi (As := [.int 2]) (rest := [.int 1024]) hC hI (cX12_reg_met st l D ad cy σ 2 _ g20) (zgV zw59_6 zw59_7 zw59_8 zw1_5 zw59_9) rfl ⟨rfl, rfl⟩ 1 hdX12_reg ⟨Nat.le_of_ble_eq_true rfl, Nat.le_of_ble_eq_true rfl⟩ rfl rfl (wM_e0 ad cy σ) rfl hl rfl (Nat.le_of_ble_eq_true rfl) dX12_tile_25 ⟨Nat.zero_le _, Nat.zero_le _⟩ (fun H locs hI => ?_)
  refine lv_bipush (v := 16) hx hb dX12_tile_28 (by decide) ?_
  obtain ⟨q, hf⟩ := zck_use hf
  refine z_irem hx hb dX12_tile_30 (of_decide_eq_true q) ?_
  refine lv_bipush (v := 14) hx hb dX12_tile_31 (by decide) ?_
  refine lv_iand hx hb dX12_tile_33 ?_
  refine lv_imul hx hb dX12_tile_34 ?_
  refine lv_goto (tgt := 55) hx hb dX12_tile_35 (by decide) ?_
  exact bX12_tile_55 hC  hI (lv_sub hl [1, 2, 3, 0] rfl) hf
set_option maxRecDepth 20000 in
set_option maxHeartbeats 4000000 in
theorem bX12_tile {st : Nat → Nat} {p : Program} {l : Launch} {e : Env} {s : State} {m : MethodId} {args : Array Value} {below : List Frame} {meth : Method} {c : Code} {D : va_G} {A : Nat → Prop} {ad : Nat → Nat} {cy : Nat → ClassId} (hC : zC p m c cX12_tile 13 s args wzX12_tile RX12 meth none)  {res : zSt} {H : Heap} {locs : List Loc} {σ : zSt} {ls : Array Slot} {x1 : Int32} {x2 : Int32} (hI : zI st D (tM cy) (wM ad cy σ) A s H locs) (hl : lv_has ls 13 [(0, .ref (ad 0)), (1, .int x1), (2, .int x2)]) (hf : fX12_tile  σ x1 x2 = some res) : W p l e rmX12_tile s m args below meth c H locs 0 0 (zQu below args s D (tM cy) (wM ad cy) A res) (F0 m 0 ls []) := by
  have hx := hC.1
  have hb := hC.2.1
  unfold fX12_tile at hf
  refine lv_aload_n hx hb dX12_tile_0 rfl (lv_at hl 0 rfl) ?_
  obtain ⟨σ22, v23, g22, hf⟩ := zbi_use hf
  refine z_callVi (As := []) (rest := []) hC hI (cX12_height_met st l D ad cy σ  _ g22) (zgV zw57_2 zw57_3 zw57_4 zw1_5 zw57_5) rfl ⟨rfl, rfl⟩ 0 hdX12_height ⟨Nat.le_of_ble_eq_true rfl, Nat.le_of_ble_eq_true rfl⟩ rfl rfl (wM_e0 ad cy σ) rfl hl rfl (Nat.le_of_ble_eq_true rfl) dX12_tile_1 ⟨Nat.zero_le _, Nat.zero_le _⟩ (fun H locs hI => ?_)
  refine lv_sipush (v := 192) hx hb dX12_tile_4 (by decide) ?_
  refine lv_icmp_ne (tgt := 14) hx hb dX12_tile_7 (by decide) (fun q => ?_) (fun q => ?_)
  · replace hf := zif_f q hf
    refine lv_iconst (v := 0) hx hb dX12_tile_14 (by decide) ?_
    exact bX12_tile_15 hC  hI hl hf
  replace hf := zif_t q hf
  refine lv_iconst (v := 1) hx hb dX12_tile_10 (by decide) ?_
  refine lv_goto (tgt := 15) hx hb dX12_tile_11 (by decide) ?_
  exact bX12_tile_15 hC  hI hl hf
set_option maxRecDepth 20000 in
theorem cX12_tile_met (st : Nat → Nat) (l : Launch) (D : va_G) (ad : Nat → Nat) (cy : Nat → ClassId) (σ : zSt) (x1 : Int32) (x2 : Int32) (res : zSt) (hf : fX12_tile σ x1 x2 = some res) (sz : Nat) : zMu st l yX12_tile wzX12_tile rmX12_tile [.ref (ad 0), .int x1, .int x2] D (tM cy) (wM ad cy) sz σ res :=
  zMu.of (cc := cX12_tile) (maxL := 13) (ret := none) (by decide) rfl (Nat.le_of_ble_eq_true rfl) (fun p e s m args below meth c hC A hI ls hl => bX12_tile hC hI hl hf)
theorem hdX12_tile : yX12_tile.cls = RX12 ∧ yX12_tile.cls ≠ "java/lang/invoke/MethodHandle" ∧ yX12_tile.cls ≠ "java/lang/invoke/VarHandle" ∧ (parseMethodDescriptor yX12_tile.desc).map (fun d => d.parameters.length) = some 2 := by decide +kernel
noncomputable def rmX12_sprites : Room := { frames := 3, cells := 0, slots := 0, locals := 62 }
noncomputable def wzX12_sprites : List Cond := .code yX12_sprites cX12_sprites 15 none :: wsL_law
theorem hinX12_sprites_X120 : ∀ w ∈ wsX120, w ∈ wzX12_sprites := fun w h => List.mem_cons_of_mem _ (inlX12 w h)
noncomputable def fX12_sprites_349 (k73 : zSt → Int32 → Int32 → Int32 → Int32 → Int32 → Int32 → Int32 → Option (zSt)) (σ : zSt) (x1 : Int32) (x2 : Int32) (x3 : Int32) (x4 : Int32) (x5 : Int32) (x6 : Int32) (x7 : Int32) : Option (zSt) :=
  zbv (x7 + 1) (fun v1 =>
  k73 σ x1 x2 x3 x4 x5 x6 v1)
noncomputable def fX12_sprites_343 (k73 : zSt → Int32 → Int32 → Int32 → Int32 → Int32 → Int32 → Int32 → Option (zSt)) (k250 : zSt → Int32 → Int32 → Int32 → Int32 → Int32 → Int32 → Int32 → Int32 → Int32 → Int32 → Int32 → Option (zSt)) (σ : zSt) (x1 : Int32) (x2 : Int32) (x3 : Int32) (x4 : Int32) (x5 : Int32) (x6 : Int32) (x7 : Int32) (x9 : Int32) (x10 : Int32) (x11 : Int32) (x12 : Int32) : Option (zSt) :=
  zbv (x12 + 1) (fun v2 =>
  k250 σ x1 x2 x3 x4 x5 x6 x7 x9 x10 x11 v2)
noncomputable def fX12_sprites_250_body (k73 : zSt → Int32 → Int32 → Int32 → Int32 → Int32 → Int32 → Int32 → Option (zSt)) (k250 : zSt → Int32 → Int32 → Int32 → Int32 → Int32 → Int32 → Int32 → Int32 → Int32 → Int32 → Int32 → Option (zSt)) (σ : zSt) (x1 : Int32) (x2 : Int32) (x3 : Int32) (x4 : Int32) (x5 : Int32) (x6 : Int32) (x7 : Int32) (x9 : Int32) (x10 : Int32) (x11 : Int32) (x12 : Int32) : Option (zSt) :=
  if (8 * x3) ≤ x12 then fX12_sprites_349 k73 σ x1 x2 x3 x4 x5 x6 x7 else
  zck (decide (¬ x3 = 0)) (
  zck (decide (¬ x3 = 0)) (
  zck (decide (¬ 8 = 0)) (
  zbi (fX12_tileDot σ x10 (x12 / x3) (zrem (x9 / x3) 8)) (fun σ3 v4 =>
  zbv (x11 + x12) (fun v5 =>
  if v4 = 0 then fX12_sprites_343 k73 k250 σ3 x1 x2 x3 x4 x5 x6 x7 x9 x10 x11 x12 else
  if v5 < 0 then fX12_sprites_343 k73 k250 σ3 x1 x2 x3 x4 x5 x6 x7 x9 x10 x11 x12 else
  if v5 ≤ 255 then zck (zin v5 256) (
  if (zgi σ3 24 v5.toNatClampNeg) ≤ 0 then zck (zin v5 256) (zbv (zsi σ3 24 (v5.toNatClampNeg) (16 + v4)) (fun σ6 =>
  fX12_sprites_343 k73 k250 σ6 x1 x2 x3 x4 x5 x6 x7 x9 x10 x11 x12)) else
  zck (zin 62 1048) (
  zck (zin 62 1048) (zbv (zsi σ3 3 ((62 : Int32).toNatClampNeg) ((zgi σ3 3 (62 : Int32).toNatClampNeg) ||| 32)) (fun σ7 =>
  fX12_sprites_343 k73 k250 σ7 x1 x2 x3 x4 x5 x6 x7 x9 x10 x11 x12)))) else
  fX12_sprites_343 k73 k250 σ3 x1 x2 x3 x4 x5 x6 x7 x9 x10 x11 x12)))))
noncomputable def fX12_sprites_250 (k73 : zSt → Int32 → Int32 → Int32 → Int32 → Int32 → Int32 → Int32 → Option (zSt)) : Nat → zSt → Int32 → Int32 → Int32 → Int32 → Int32 → Int32 → Int32 → Int32 → Int32 → Int32 → Int32 → Option (zSt)
  | 0, _, _, _, _, _, _, _, _, _, _, _, _ => none
  | n + 1, σ, x1, x2, x3, x4, x5, x6, x7, x9, x10, x11, x12 => fX12_sprites_250_body k73 (fX12_sprites_250 k73 n) σ x1 x2 x3 x4 x5 x6 x7 x9 x10 x11 x12
noncomputable def fX12_sprites_244 (k73 : zSt → Int32 → Int32 → Int32 → Int32 → Int32 → Int32 → Int32 → Option (zSt)) (σ : zSt) (x1 : Int32) (x2 : Int32) (x3 : Int32) (x4 : Int32) (x5 : Int32) (x6 : Int32) (x7 : Int32) (x9 : Int32) (x10 : Int32) (s0 : Int32) (s1 : Int32) : Option (zSt) :=
  zbv (s1 - s0) (fun v8 =>
  fX12_sprites_250 k73 zfuel σ x1 x2 x3 x4 x5 x6 x7 x9 x10 v8 0)
noncomputable def fX12_sprites_212 (k73 : zSt → Int32 → Int32 → Int32 → Int32 → Int32 → Int32 → Int32 → Option (zSt)) (σ : zSt) (x1 : Int32) (x2 : Int32) (x3 : Int32) (x4 : Int32) (x5 : Int32) (x6 : Int32) (x7 : Int32) (x9 : Int32) (s0 : Int32) : Option (zSt) :=
  zbi (fX12_video8 σ ((x2 + 128) + (2 * x7))) (fun σ9 v10 =>
  zbi (fX12_bit σ9 0 3) (fun σ11 v12 =>
  if v12 = 1 then fX12_sprites_244 k73 σ11 x1 x2 x3 x4 x5 x6 x7 x9 s0 8 v10 else
  fX12_sprites_244 k73 σ11 x1 x2 x3 x4 x5 x6 x7 x9 s0 0 v10))
noncomputable def fX12_sprites_183 (k73 : zSt → Int32 → Int32 → Int32 → Int32 → Int32 → Int32 → Int32 → Option (zSt)) (σ : zSt) (x1 : Int32) (x2 : Int32) (x3 : Int32) (x4 : Int32) (x5 : Int32) (x6 : Int32) (x7 : Int32) (x9 : Int32) (s0 : Int32) (s1 : Int32) : Option (zSt) :=
  zbv (s1 + s0) (fun v13 =>
  if x4 = 16 then zck (decide (¬ x3 = 0)) (
  zck (decide (¬ 8 = 0)) (
  fX12_sprites_212 k73 σ x1 x2 x3 x4 x5 x6 x7 x9 ((v13 &&& 510) + ((x9 / x3) / 8)))) else
  fX12_sprites_212 k73 σ x1 x2 x3 x4 x5 x6 x7 x9 v13)
noncomputable def fX12_sprites_104 (k73 : zSt → Int32 → Int32 → Int32 → Int32 → Int32 → Int32 → Int32 → Option (zSt)) (σ : zSt) (x1 : Int32) (x2 : Int32) (x3 : Int32) (x4 : Int32) (x5 : Int32) (x6 : Int32) (x7 : Int32) (x8 : Int32) : Option (zSt) :=
  zbv (((x1 - x8) - 1) &&& 255) (fun v14 =>
  if v14 < (x4 * x3) then if x5 = 8 then zck (zin 62 1048) (
  zck (zin 62 1048) (zbv (zsi σ 3 ((62 : Int32).toNatClampNeg) ((zgi σ 3 (62 : Int32).toNatClampNeg) ||| 64)) (fun σ20 =>
  some σ20))) else
  zbv (x5 + 1) (fun v15 =>
  zbi (fX12_video8 σ ((x2 + 129) + (2 * x7))) (fun σ16 v17 =>
  zbi (fX12_bit σ16 6 2) (fun σ18 v19 =>
  if v19 = 1 then fX12_sprites_183 k73 σ18 x1 x2 x3 x4 v15 x6 x7 v14 256 v17 else
  fX12_sprites_183 k73 σ18 x1 x2 x3 x4 v15 x6 x7 v14 0 v17))) else
  fX12_sprites_349 k73 σ x1 x2 x3 x4 x5 x6 x7)
noncomputable def fX12_sprites_73_body (k73 : zSt → Int32 → Int32 → Int32 → Int32 → Int32 → Int32 → Int32 → Option (zSt)) (σ : zSt) (x1 : Int32) (x2 : Int32) (x3 : Int32) (x4 : Int32) (x5 : Int32) (x6 : Int32) (x7 : Int32) : Option (zSt) :=
  if 64 ≤ x7 then some σ else
  zbi (fX12_video8 σ (x2 + x7)) (fun σ21 v22 =>
  if x6 = 0 then fX12_sprites_104 k73 σ21 x1 x2 x3 x4 x5 x6 x7 v22 else
  if v22 = 208 then some σ21 else
  fX12_sprites_104 k73 σ21 x1 x2 x3 x4 x5 x6 x7 v22)
noncomputable def fX12_sprites_73  : Nat → zSt → Int32 → Int32 → Int32 → Int32 → Int32 → Int32 → Int32 → Option (zSt)
  | 0, _, _, _, _, _, _, _, _ => none
  | n + 1, σ, x1, x2, x3, x4, x5, x6, x7 => fX12_sprites_73_body (fX12_sprites_73  n) σ x1 x2 x3 x4 x5 x6 x7
noncomputable def fX12_sprites_68  (σ : zSt) (x1 : Int32) (x2 : Int32) (x3 : Int32) (x4 : Int32) (x5 : Int32) (s0 : Int32) : Option (zSt) :=
  fX12_sprites_73 zfuel σ x1 x2 x3 x4 x5 s0 0
noncomputable def fX12_sprites_48  (σ : zSt) (x1 : Int32) (x2 : Int32) (x3 : Int32) (s0 : Int32) : Option (zSt) :=
  zbi (fX12_height σ ) (fun σ23 v24 =>
  if v24 = 192 then fX12_sprites_68 σ23 x1 x2 x3 s0 0 1 else
  fX12_sprites_68 σ23 x1 x2 x3 s0 0 0)
noncomputable def fX12_sprites_30  (σ : zSt) (x1 : Int32) (x2 : Int32) (s0 : Int32) : Option (zSt) :=
  zbi (fX12_bit σ 1 1) (fun σ25 v26 =>
  if v26 = 1 then fX12_sprites_48 σ25 x1 x2 s0 16 else
  fX12_sprites_48 σ25 x1 x2 s0 8)
noncomputable def fX12_sprites  (σ : zSt) (x1 : Int32) : Option (zSt) :=
  zbi (fX12_reg σ 5) (fun σ27 v28 =>
  zck (decide (¬ 2 = 0)) (
  zck (decide (¬ 64 = 0)) (
  zbv (256 * (zrem (v28 / 2) 64)) (fun v29 =>
  zbi (fX12_bit σ27 1 0) (fun σ30 v31 =>
  if v31 = 1 then fX12_sprites_30 σ30 x1 v29 2 else
  fX12_sprites_30 σ30 x1 v29 1)))))
set_option maxRecDepth 20000 in
set_option maxHeartbeats 4000000 in
theorem bX12_sprites_349 {st : Nat → Nat} {p : Program} {l : Launch} {e : Env} {s : State} {m : MethodId} {args : Array Value} {below : List Frame} {meth : Method} {c : Code} {D : va_G} {A : Nat → Prop} {ad : Nat → Nat} {cy : Nat → ClassId} (hC : zC p m c cX12_sprites 15 s args wzX12_sprites RX12 meth none) {k73 : zSt → Int32 → Int32 → Int32 → Int32 → Int32 → Int32 → Int32 → Option (zSt)} {res : zSt} (hk73 : ∀ (H : Heap) (locs : List Loc) (σ : zSt) (ls : Array Slot) (x1 : Int32) (x2 : Int32) (x3 : Int32) (x4 : Int32) (x5 : Int32) (x6 : Int32) (x7 : Int32), zI st D (tM cy) (wM ad cy σ) A s H locs → lv_has ls 15 [(0, .ref (ad 0)), (1, .int x1), (2, .int x2), (3, .int x3), (4, .int x4), (5, .int x5), (6, .int x6), (7, .int x7)] → k73 σ x1 x2 x3 x4 x5 x6 x7 = some res → W p l e rmX12_sprites s m args below meth c H locs 0 0 (zQu below args s D (tM cy) (wM ad cy) A res) (F0 m 73 ls [])) {H : Heap} {locs : List Loc} {σ : zSt} {ls : Array Slot} {x1 : Int32} {x2 : Int32} {x3 : Int32} {x4 : Int32} {x5 : Int32} {x6 : Int32} {x7 : Int32} (hI : zI st D (tM cy) (wM ad cy σ) A s H locs) (hl : lv_has ls 15 [(0, .ref (ad 0)), (1, .int x1), (2, .int x2), (3, .int x3), (4, .int x4), (5, .int x5), (6, .int x6), (7, .int x7)]) (hf : fX12_sprites_349 k73 σ x1 x2 x3 x4 x5 x6 x7 = some res) : W p l e rmX12_sprites s m args below meth c H locs 0 0 (zQu below args s D (tM cy) (wM ad cy) A res) (F0 m 349 ls []) := by
  have hx := hC.1
  have hb := hC.2.1
  unfold fX12_sprites_349 at hf
  obtain ⟨v1, ev1⟩ : ∃ z : Int32, z = x7 + 1 := ⟨_, rfl⟩
  replace hf := zbv_use ev1 hf
  refine lv_iinc (v := v1) (lv' := [(7, .int v1), (0, .ref (ad 0)), (1, .int x1), (2, .int x2), (3, .int x3), (4, .int x4), (5, .int x5), (6, .int x6)]) hx hb dX12_sprites_349 hl (k := 7) rfl (by rw [ev1]; rfl) (by decide) rfl (fun ls hl => ?_)
  refine lv_goto (tgt := 73) hx hb dX12_sprites_352 (by decide) ?_
  exact hk73 _ _ _ _ _ _ _ _ _ _ _ hI (lv_sub hl [1, 2, 3, 4, 5, 6, 7, 0] rfl) hf
set_option maxRecDepth 20000 in
set_option maxHeartbeats 4000000 in
theorem bX12_sprites_343 {st : Nat → Nat} {p : Program} {l : Launch} {e : Env} {s : State} {m : MethodId} {args : Array Value} {below : List Frame} {meth : Method} {c : Code} {D : va_G} {A : Nat → Prop} {ad : Nat → Nat} {cy : Nat → ClassId} (hC : zC p m c cX12_sprites 15 s args wzX12_sprites RX12 meth none) {k73 : zSt → Int32 → Int32 → Int32 → Int32 → Int32 → Int32 → Int32 → Option (zSt)} {k250 : zSt → Int32 → Int32 → Int32 → Int32 → Int32 → Int32 → Int32 → Int32 → Int32 → Int32 → Int32 → Option (zSt)} {res : zSt} (hk73 : ∀ (H : Heap) (locs : List Loc) (σ : zSt) (ls : Array Slot) (x1 : Int32) (x2 : Int32) (x3 : Int32) (x4 : Int32) (x5 : Int32) (x6 : Int32) (x7 : Int32), zI st D (tM cy) (wM ad cy σ) A s H locs → lv_has ls 15 [(0, .ref (ad 0)), (1, .int x1), (2, .int x2), (3, .int x3), (4, .int x4), (5, .int x5), (6, .int x6), (7, .int x7)] → k73 σ x1 x2 x3 x4 x5 x6 x7 = some res → W p l e rmX12_sprites s m args below meth c H locs 0 0 (zQu below args s D (tM cy) (wM ad cy) A res) (F0 m 73 ls [])) (hk250 : ∀ (H : Heap) (locs : List Loc) (σ : zSt) (ls : Array Slot) (x1 : Int32) (x2 : Int32) (x3 : Int32) (x4 : Int32) (x5 : Int32) (x6 : Int32) (x7 : Int32) (x9 : Int32) (x10 : Int32) (x11 : Int32) (x12 : Int32), zI st D (tM cy) (wM ad cy σ) A s H locs → lv_has ls 15 [(0, .ref (ad 0)), (1, .int x1), (2, .int x2), (3, .int x3), (4, .int x4), (5, .int x5), (6, .int x6), (7, .int x7), (9, .int x9), (10, .int x10), (11, .int x11), (12, .int x12)] → k250 σ x1 x2 x3 x4 x5 x6 x7 x9 x10 x11 x12 = some res → W p l e rmX12_sprites s m args below meth c H locs 0 0 (zQu below args s D (tM cy) (wM ad cy) A res) (F0 m 250 ls [])) {H : Heap} {locs : List Loc} {σ : zSt} {ls : Array Slot} {x1 : Int32} {x2 : Int32} {x3 : Int32} {x4 : Int32} {x5 : Int32} {x6 : Int32} {x7 : Int32} {x9 : Int32} {x10 : Int32} {x11 : Int32} {x12 : Int32} (hI : zI st D (tM cy) (wM ad cy σ) A s H locs) (hl : lv_has ls 15 [(0, .ref (ad 0)), (1, .int x1), (2, .int x2), (3, .int x3), (4, .int x4), (5, .int x5), (6, .int x6), (7, .int x7), (9, .int x9), (10, .int x10), (11, .int x11), (12, .int x12)]) (hf : fX12_sprites_343 k73 k250 σ x1 x2 x3 x4 x5 x6 x7 x9 x10 x11 x12 = some res) : W p l e rmX12_sprites s m args below meth c H locs 0 0 (zQu below args s D (tM cy) (wM ad cy) A res) (F0 m 343 ls []) := by
  have hx := hC.1
  have hb := hC.2.1
  unfold fX12_sprites_343 at hf
  obtain ⟨v2, ev2⟩ : ∃ z : Int32, z = x12 + 1 := ⟨_, rfl⟩
  replace hf := zbv_use ev2 hf
  refine lv_iinc (v := v2) (lv' := [(12, .int v2), (0, .ref (ad 0)), (1, .int x1), (2, .int x2), (3, .int x3), (4, .int x4), (5, .int x5), (6, .int x6), (7, .int x7), (9, .int x9), (10, .int x10), (11, .int x11)]) hx hb dX12_sprites_343 hl (k := 11) rfl (by rw [ev2]; rfl) (by decide) rfl (fun ls hl => ?_)
  refine lv_goto (tgt := 250) hx hb dX12_sprites_346 (by decide) ?_
  exact hk250 _ _ _ _ _ _ _ _ _ _ _ _ _ _ _ hI (lv_sub hl [1, 2, 3, 4, 5, 6, 7, 8, 9, 10, 11, 0] rfl) hf
set_option maxRecDepth 20000 in
set_option maxHeartbeats 4000000 in
theorem bX12_sprites_250_body {st : Nat → Nat} {p : Program} {l : Launch} {e : Env} {s : State} {m : MethodId} {args : Array Value} {below : List Frame} {meth : Method} {c : Code} {D : va_G} {A : Nat → Prop} {ad : Nat → Nat} {cy : Nat → ClassId} (hC : zC p m c cX12_sprites 15 s args wzX12_sprites RX12 meth none) {k73 : zSt → Int32 → Int32 → Int32 → Int32 → Int32 → Int32 → Int32 → Option (zSt)} {k250 : zSt → Int32 → Int32 → Int32 → Int32 → Int32 → Int32 → Int32 → Int32 → Int32 → Int32 → Int32 → Option (zSt)} {res : zSt} (hk73 : ∀ (H : Heap) (locs : List Loc) (σ : zSt) (ls : Array Slot) (x1 : Int32) (x2 : Int32) (x3 : Int32) (x4 : Int32) (x5 : Int32) (x6 : Int32) (x7 : Int32), zI st D (tM cy) (wM ad cy σ) A s H locs → lv_has ls 15 [(0, .ref (ad 0)), (1, .int x1), (2, .int x2), (3, .int x3), (4, .int x4), (5, .int x5), (6, .int x6), (7, .int x7)] → k73 σ x1 x2 x3 x4 x5 x6 x7 = some res → W p l e rmX12_sprites s m args below meth c H locs 0 0 (zQu below args s D (tM cy) (wM ad cy) A res) (F0 m 73 ls [])) (hk250 : ∀ (H : Heap) (locs : List Loc) (σ : zSt) (ls : Array Slot) (x1 : Int32) (x2 : Int32) (x3 : Int32) (x4 : Int32) (x5 : Int32) (x6 : Int32) (x7 : Int32) (x9 : Int32) (x10 : Int32) (x11 : Int32) (x12 : Int32), zI st D (tM cy) (wM ad cy σ) A s H locs → lv_has ls 15 [(0, .ref (ad 0)), (1, .int x1), (2, .int x2), (3, .int x3), (4, .int x4), (5, .int x5), (6, .int x6), (7, .int x7), (9, .int x9), (10, .int x10), (11, .int x11), (12, .int x12)] → k250 σ x1 x2 x3 x4 x5 x6 x7 x9 x10 x11 x12 = some res → W p l e rmX12_sprites s m args below meth c H locs 0 0 (zQu below args s D (tM cy) (wM ad cy) A res) (F0 m 250 ls [])) {H : Heap} {locs : List Loc} {σ : zSt} {ls : Array Slot} {x1 : Int32} {x2 : Int32} {x3 : Int32} {x4 : Int32} {x5 : Int32} {x6 : Int32} {x7 : Int32} {x9 : Int32} {x10 : Int32} {x11 : Int32} {x12 : Int32} (hI : zI st D (tM cy) (wM ad cy σ) A s H locs) (hl : lv_has ls 15 [(0, .ref (ad 0)), (1, .int x1), (2, .int x2), (3, .int x3), (4, .int x4), (5, .int x5), (6, .int x6), (7, .int x7), (9, .int x9), (10, .int x10), (11, .int x11), (12, .int x12)]) (hf : fX12_sprites_250_body k73 k250 σ x1 x2 x3 x4 x5 x6 x7 x9 x10 x11 x12 = some res) : W p l e rmX12_sprites s m args below meth c H locs 0 0 (zQu below args s D (tM cy) (wM ad cy) A res) (F0 m 250 ls []) := by
  have hx := hC.1
  have hb := hC.2.1
  unfold fX12_sprites_250_body at hf
  refine lv_iload hx hb dX12_sprites_250 (lv_at hl 11 rfl) ?_
  refine lv_bipush (v := 8) hx hb dX12_sprites_252 (by decide) ?_
  refine lv_iload_n hx hb dX12_sprites_254 rfl (lv_at hl 3 rfl) ?_
  refine lv_imul hx hb dX12_sprites_255 ?_
  refine lv_icmp_ge (tgt := 349) hx hb dX12_sprites_256 (by decide) (fun q => ?_) (fun q => ?_)
  · replace hf := zif_t q hf
    exact bX12_sprites_349 hC hk73 hI (lv_sub hl [0, 1, 2, 3, 4, 5, 6, 7] rfl) hf
  replace hf := zif_f q hf
  refine lv_aload_n hx hb dX12_sprites_259 rfl (lv_at hl 0 rfl) ?_
  refine lv_iload hx hb dX12_sprites_260 (lv_at hl 9 rfl) ?_
  refine lv_iload hx hb dX12_sprites_262 (lv_at hl 11 rfl) ?_
  refine lv_iload_n hx hb dX12_sprites_264 rfl (lv_at hl 3 rfl) ?_
  obtain ⟨q, hf⟩ := zck_use hf
  refine lv_idiv hx hb dX12_sprites_265 (of_decide_eq_true q) ?_
  refine lv_iload hx hb dX12_sprites_266 (lv_at hl 8 rfl) ?_
  refine lv_iload_n hx hb dX12_sprites_268 rfl (lv_at hl 3 rfl) ?_
  obtain ⟨q, hf⟩ := zck_use hf
  refine lv_idiv hx hb dX12_sprites_269 (of_decide_eq_true q) ?_
  refine lv_bipush (v := 8) hx hb dX12_sprites_270 (by decide) ?_
  obtain ⟨q, hf⟩ := zck_use hf
  refine z_irem hx hb dX12_sprites_272 (of_decide_eq_true q) ?_
  obtain ⟨σ3, v4, g3, hf⟩ := zbi_use hf
  refine z_callVi (As := [.int x10, .int (x12 / x3), .int (zrem (x9 / x3) 8)]) (rest := []) hC hI (cX12_tileDot_met st l D ad cy σ x10 (x12 / x3) (zrem (x9 / x3) 8) _ g3) (zgV zw59_14 zw59_15 zw59_16 zw1_5 zw59_17) rfl ⟨rfl, rfl⟩ 3 hdX12_tileDot ⟨Nat.le_of_ble_eq_true rfl, Nat.le_of_ble_eq_true rfl⟩ rfl rfl (wM_e0 ad cy σ) rfl hl rfl (Nat.le_of_ble_eq_true rfl) dX12_sprites_273 ⟨Nat.zero_le _, Nat.zero_le _⟩ (fun H locs hI => ?_)
  refine lv_istore (lv' := [(13, .int v4), (0, .ref (ad 0)), (1, .int x1), (2, .int x2), (3, .int x3), (4, .int x4), (5, .int x5), (6, .int x6), (7, .int x7), (9, .int x9), (10, .int x10), (11, .int x11), (12, .int x12)]) hx hb dX12_sprites_276 hl (by decide) rfl (fun ls hl => ?_)
  refine lv_iload hx hb dX12_sprites_278 (lv_at hl 11 rfl) ?_
  refine lv_iload hx hb dX12_sprites_280 (lv_at hl 12 rfl) ?_
  refine lv_iadd hx hb dX12_sprites_282 ?_
  refine lv_topi (fun v5 ev5 => ?_)
  replace hf := zbv_use ev5 hf
  refine lv_istore (lv' := [(14, .int v5), (13, .int v4), (0, .ref (ad 0)), (1, .int x1), (2, .int x2), (3, .int x3), (4, .int x4), (5, .int x5), (6, .int x6), (7, .int x7), (9, .int x9), (10, .int x10), (11, .int x11), (12, .int x12)]) hx hb dX12_sprites_283 hl (by decide) rfl (fun ls hl => ?_)
  refine lv_iload hx hb dX12_sprites_285 (lv_at hl 1 rfl) ?_
  refine lv_if_eq (tgt := 343) hx hb dX12_sprites_287 (by decide) (fun q => ?_) (fun q => ?_)
  · replace hf := zif_t q hf
    exact bX12_sprites_343 hC hk73 hk250 hI (lv_sub hl [2, 3, 4, 5, 6, 7, 8, 9, 10, 11, 12, 13] rfl) hf
  replace hf := zif_f q hf
  refine lv_iload hx hb dX12_sprites_290 (lv_at hl 0 rfl) ?_
  refine lv_if_lt (tgt := 343) hx hb dX12_sprites_292 (by decide) (fun q => ?_) (fun q => ?_)
  · replace hf := zif_t q hf
    exact bX12_sprites_343 hC hk73 hk250 hI (lv_sub hl [2, 3, 4, 5, 6, 7, 8, 9, 10, 11, 12, 13] rfl) hf
  replace hf := zif_f q hf
  refine lv_iload hx hb dX12_sprites_295 (lv_at hl 0 rfl) ?_
  refine lv_sipush (v := 255) hx hb dX12_sprites_297 (by decide) ?_
  refine lv_icmp_le (tgt := 306) hx hb dX12_sprites_300 (by decide) (fun q => ?_) (fun q => ?_)
  · replace hf := zif_t q hf
    refine lv_aload_n hx hb dX12_sprites_306 rfl (lv_at hl 2 rfl) ?_
    refine z_get hC hI hinX12_sprites_X120 0 (wM_e0 ad cy σ3) rfl 36 (by decide) (List.mem_cons_of_mem _ zw10_7) rfl dX12_sprites_307 ?_
    refine lv_iload hx hb dX12_sprites_310 (lv_at hl 0 rfl) ?_
    obtain ⟨q, hf⟩ := zck_use hf
    refine z_iald hC hI 24 23 (wM_e24 ad cy σ3) (tM_t24 cy) q dX12_sprites_312 ?_
    refine lv_if_le (tgt := 331) hx hb dX12_sprites_313 (by decide) (fun q => ?_) (fun q => ?_)
    · replace hf := zif_t q hf
      refine lv_aload_n hx hb dX12_sprites_331 rfl (lv_at hl 2 rfl) ?_
      refine z_get hC hI hinX12_sprites_X120 0 (wM_e0 ad cy σ3) rfl 36 (by decide) (List.mem_cons_of_mem _ zw10_7) rfl dX12_sprites_332 ?_
      refine lv_iload hx hb dX12_sprites_335 (lv_at hl 0 rfl) ?_
      refine lv_bipush (v := 16) hx hb dX12_sprites_337 (by decide) ?_
      refine lv_iload hx hb dX12_sprites_339 (lv_at hl 1 rfl) ?_
      refine lv_iadd hx hb dX12_sprites_341 ?_
      obtain ⟨q, hf⟩ := zck_use hf
      obtain ⟨σ6, eσ6⟩ : ∃ z, z = zsi σ3 24 (v5.toNatClampNeg) (16 + v4) := ⟨_, rfl⟩
      replace hf := zbv_use eσ6 hf
      refine z_iast hC hI 24 23 (wM_e24 ad cy σ3) (tM_t24 cy) q ((wM_s24 ad cy σ3 _ _).trans (congrArg (wM ad cy) eσ6.symm)) dX12_sprites_342 (fun H locs hI => ?_)
      exact bX12_sprites_343 hC hk73 hk250 hI (lv_sub hl [2, 3, 4, 5, 6, 7, 8, 9, 10, 11, 12, 13] rfl) hf
    replace hf := zif_f q hf
    refine lv_aload_n hx hb dX12_sprites_316 rfl (lv_at hl 2 rfl) ?_
    refine z_get hC hI hinX12_sprites_X120 0 (wM_e0 ad cy σ3) rfl 10 (by decide) (List.mem_cons_of_mem _ zw9_7) rfl dX12_sprites_317 ?_
    refine lv_bipush (v := 62) hx hb dX12_sprites_320 (by decide) ?_
    refine lv_dup2_11 hx hb dX12_sprites_322 rfl rfl ?_
    obtain ⟨q, hf⟩ := zck_use hf
    refine z_iald hC hI 3 2 (wM_e3 ad cy σ3) (tM_t3 cy) q dX12_sprites_323 ?_
    refine lv_bipush (v := 32) hx hb dX12_sprites_324 (by decide) ?_
    refine lv_ior hx hb dX12_sprites_326 ?_
    obtain ⟨q, hf⟩ := zck_use hf
    obtain ⟨σ7, eσ7⟩ : ∃ z, z = zsi σ3 3 ((62 : Int32).toNatClampNeg) ((zgi σ3 3 (62 : Int32).toNatClampNeg) ||| 32) := ⟨_, rfl⟩
    replace hf := zbv_use eσ7 hf
    refine z_iast hC hI 3 2 (wM_e3 ad cy σ3) (tM_t3 cy) q ((wM_s3 ad cy σ3 _ _).trans (congrArg (wM ad cy) eσ7.symm)) dX12_sprites_327 (fun H locs hI => ?_)
    refine lv_goto (tgt := 343) hx hb dX12_sprites_328 (by decide) ?_
    exact bX12_sprites_343 hC hk73 hk250 hI (lv_sub hl [2, 3, 4, 5, 6, 7, 8, 9, 10, 11, 12, 13] rfl) hf
  replace hf := zif_f q hf
  refine lv_goto (tgt := 343) hx hb dX12_sprites_303 (by decide) ?_
  exact bX12_sprites_343 hC hk73 hk250 hI (lv_sub hl [2, 3, 4, 5, 6, 7, 8, 9, 10, 11, 12, 13] rfl) hf
theorem blX12_sprites_250 {st : Nat → Nat} {p : Program} {l : Launch} {e : Env} {s : State} {m : MethodId} {args : Array Value} {below : List Frame} {meth : Method} {c : Code} {D : va_G} {A : Nat → Prop} {ad : Nat → Nat} {cy : Nat → ClassId} (hC : zC p m c cX12_sprites 15 s args wzX12_sprites RX12 meth none) {k73 : zSt → Int32 → Int32 → Int32 → Int32 → Int32 → Int32 → Int32 → Option (zSt)} {res : zSt} (hk73 : ∀ (H : Heap) (locs : List Loc) (σ : zSt) (ls : Array Slot) (x1 : Int32) (x2 : Int32) (x3 : Int32) (x4 : Int32) (x5 : Int32) (x6 : Int32) (x7 : Int32), zI st D (tM cy) (wM ad cy σ) A s H locs → lv_has ls 15 [(0, .ref (ad 0)), (1, .int x1), (2, .int x2), (3, .int x3), (4, .int x4), (5, .int x5), (6, .int x6), (7, .int x7)] → k73 σ x1 x2 x3 x4 x5 x6 x7 = some res → W p l e rmX12_sprites s m args below meth c H locs 0 0 (zQu below args s D (tM cy) (wM ad cy) A res) (F0 m 73 ls [])) : ∀ (n : Nat) (H : Heap) (locs : List Loc) (σ : zSt) (ls : Array Slot) (x1 : Int32) (x2 : Int32) (x3 : Int32) (x4 : Int32) (x5 : Int32) (x6 : Int32) (x7 : Int32) (x9 : Int32) (x10 : Int32) (x11 : Int32) (x12 : Int32), zI st D (tM cy) (wM ad cy σ) A s H locs → lv_has ls 15 [(0, .ref (ad 0)), (1, .int x1), (2, .int x2), (3, .int x3), (4, .int x4), (5, .int x5), (6, .int x6), (7, .int x7), (9, .int x9), (10, .int x10), (11, .int x11), (12, .int x12)] → fX12_sprites_250 k73 n σ x1 x2 x3 x4 x5 x6 x7 x9 x10 x11 x12 = some res → W p l e rmX12_sprites s m args below meth c H locs 0 0 (zQu below args s D (tM cy) (wM ad cy) A res) (F0 m 250 ls []) := by
  intro n
  induction n with
  | zero => intro H locs σ ls x1 x2 x3 x4 x5 x6 x7 x9 x10 x11 x12 hI hl hf; cases hf
  | succ n ih => intro H locs σ ls x1 x2 x3 x4 x5 x6 x7 x9 x10 x11 x12 hI hl hf; exact bX12_sprites_250_body hC hk73 ih hI hl hf
set_option maxRecDepth 20000 in
set_option maxHeartbeats 4000000 in
theorem bX12_sprites_244 {st : Nat → Nat} {p : Program} {l : Launch} {e : Env} {s : State} {m : MethodId} {args : Array Value} {below : List Frame} {meth : Method} {c : Code} {D : va_G} {A : Nat → Prop} {ad : Nat → Nat} {cy : Nat → ClassId} (hC : zC p m c cX12_sprites 15 s args wzX12_sprites RX12 meth none) {k73 : zSt → Int32 → Int32 → Int32 → Int32 → Int32 → Int32 → Int32 → Option (zSt)} {res : zSt} (hk73 : ∀ (H : Heap) (locs : List Loc) (σ : zSt) (ls : Array Slot) (x1 : Int32) (x2 : Int32) (x3 : Int32) (x4 : Int32) (x5 : Int32) (x6 : Int32) (x7 : Int32), zI st D (tM cy) (wM ad cy σ) A s H locs → lv_has ls 15 [(0, .ref (ad 0)), (1, .int x1), (2, .int x2), (3, .int x3), (4, .int x4), (5, .int x5), (6, .int x6), (7, .int x7)] → k73 σ x1 x2 x3 x4 x5 x6 x7 = some res → W p l e rmX12_sprites s m args below meth c H locs 0 0 (zQu below args s D (tM cy) (wM ad cy) A res) (F0 m 73 ls [])) {H : Heap} {locs : List Loc} {σ : zSt} {ls : Array Slot} {x1 : Int32} {x2 : Int32} {x3 : Int32} {x4 : Int32} {x5 : Int32} {x6 : Int32} {x7 : Int32} {x9 : Int32} {x10 : Int32} {s0 : Int32} {s1 : Int32} (hI : zI st D (tM cy) (wM ad cy σ) A s H locs) (hl : lv_has ls 15 [(0, .ref (ad 0)), (1, .int x1), (2, .int x2), (3, .int x3), (4, .int x4), (5, .int x5), (6, .int x6), (7, .int x7), (9, .int x9), (10, .int x10)]) (hf : fX12_sprites_244 k73 σ x1 x2 x3 x4 x5 x6 x7 x9 x10 s0 s1 = some res) : W p l e rmX12_sprites s m args below meth c H locs 0 0 (zQu below args s D (tM cy) (wM ad cy) A res) (F0 m 244 ls [.int s0, .int s1]) := by
  have hx := hC.1
  have hb := hC.2.1
  unfold fX12_sprites_244 at hf
  refine lv_isub hx hb dX12_sprites_244 ?_
  refine lv_topi (fun v8 ev8 => ?_)
  replace hf := zbv_use ev8 hf
  refine lv_istore (lv' := [(11, .int v8), (0, .ref (ad 0)), (1, .int x1), (2, .int x2), (3, .int x3), (4, .int x4), (5, .int x5), (6, .int x6), (7, .int x7), (9, .int x9), (10, .int x10)]) hx hb dX12_sprites_245 hl (by decide) rfl (fun ls hl => ?_)
  refine lv_iconst (v := 0) hx hb dX12_sprites_247 (by decide) ?_
  refine lv_istore (lv' := [(12, .int 0), (11, .int v8), (0, .ref (ad 0)), (1, .int x1), (2, .int x2), (3, .int x3), (4, .int x4), (5, .int x5), (6, .int x6), (7, .int x7), (9, .int x9), (10, .int x10)]) hx hb dX12_sprites_248 hl (by decide) rfl (fun ls hl => ?_)
  exact blX12_sprites_250 hC hk73 zfuel _ _ _ _ _ _ _ _ _ _ _ _ _ _ _ hI (lv_sub hl [2, 3, 4, 5, 6, 7, 8, 9, 10, 11, 1, 0] rfl) hf
set_option maxRecDepth 20000 in
set_option maxHeartbeats 4000000 in
theorem bX12_sprites_212 {st : Nat → Nat} {p : Program} {l : Launch} {e : Env} {s : State} {m : MethodId} {args : Array Value} {below : List Frame} {meth : Method} {c : Code} {D : va_G} {A : Nat → Prop} {ad : Nat → Nat} {cy : Nat → ClassId} (hC : zC p m c cX12_sprites 15 s args wzX12_sprites RX12 meth none) {k73 : zSt → Int32 → Int32 → Int32 → Int32 → Int32 → Int32 → Int32 → Option (zSt)} {res : zSt} (hk73 : ∀ (H : Heap) (locs : List Loc) (σ : zSt) (ls : Array Slot) (x1 : Int32) (x2 : Int32) (x3 : Int32) (x4 : Int32) (x5 : Int32) (x6 : Int32) (x7 : Int32), zI st D (tM cy) (wM ad cy σ) A s H locs → lv_has ls 15 [(0, .ref (ad 0)), (1, .int x1), (2, .int x2), (3, .int x3), (4, .int x4), (5, .int x5), (6, .int x6), (7, .int x7)] → k73 σ x1 x2 x3 x4 x5 x6 x7 = some res → W p l e rmX12_sprites s m args below meth c H locs 0 0 (zQu below args s D (tM cy) (wM ad cy) A res) (F0 m 73 ls [])) {H : Heap} {locs : List Loc} {σ : zSt} {ls : Array Slot} {x1 : Int32} {x2 : Int32} {x3 : Int32} {x4 : Int32} {x5 : Int32} {x6 : Int32} {x7 : Int32} {x9 : Int32} {s0 : Int32} (hI : zI st D (tM cy) (wM ad cy σ) A s H locs) (hl : lv_has ls 15 [(0, .ref (ad 0)), (1, .int x1), (2, .int x2), (3, .int x3), (4, .int x4), (5, .int x5), (6, .int x6), (7, .int x7), (9, .int x9)]) (hf : fX12_sprites_212 k73 σ x1 x2 x3 x4 x5 x6 x7 x9 s0 = some res) : W p l e rmX12_sprites s m args below meth c H locs 0 0 (zQu below args s D (tM cy) (wM ad cy) A res) (F0 m 212 ls [.int s0]) := by
  have hx := hC.1
  have hb := hC.2.1
  unfold fX12_sprites_212 at hf
  refine lv_istore (lv' := [(10, .int s0), (0, .ref (ad 0)), (1, .int x1), (2, .int x2), (3, .int x3), (4, .int x4), (5, .int x5), (6, .int x6), (7, .int x7), (9, .int x9)]) hx hb dX12_sprites_212 hl (by decide) rfl (fun ls hl => ?_)
  refine lv_aload_n hx hb dX12_sprites_214 rfl (lv_at hl 1 rfl) ?_
  refine lv_iload_n hx hb dX12_sprites_215 rfl (lv_at hl 3 rfl) ?_
  refine lv_sipush (v := 128) hx hb dX12_sprites_216 (by decide) ?_
  refine lv_iadd hx hb dX12_sprites_219 ?_
  refine lv_iconst (v := 2) hx hb dX12_sprites_220 (by decide) ?_
  refine lv_iload hx hb dX12_sprites_221 (lv_at hl 8 rfl) ?_
  refine lv_imul hx hb dX12_sprites_223 ?_
  refine lv_iadd hx hb dX12_sprites_224 ?_
  obtain ⟨σ9, v10, g9, hf⟩ := zbi_use hf
  refine z_callVi (As := [.int ((x2 + 128) + (2 * x7))]) (rest := []) hC hI (cX12_video8_met st l D ad cy σ ((x2 + 128) + (2 * x7)) _ g9) (zgV zw56_6 zw56_7 zw56_8 zw1_5 zw56_9) rfl ⟨rfl, rfl⟩ 1 hdX12_video8 ⟨Nat.le_of_ble_eq_true rfl, Nat.le_of_ble_eq_true rfl⟩ rfl rfl (wM_e0 ad cy σ) rfl hl rfl (Nat.le_of_ble_eq_true rfl) dX12_sprites_225 ⟨Nat.zero_le _, Nat.zero_le _⟩ (fun H locs hI => ?_)
  refine lv_aload_n hx hb dX12_sprites_228 rfl (lv_at hl 1 rfl) ?_
  refine lv_iconst (v := 0) hx hb dX12_sprites_229 (by decide) ?_
  refine lv_iconst (v := 3) hx hb dX12_sprites_230 (by decide) ?_
  obtain ⟨σ11, v12, g11, hf⟩ := zbi_use hf
  refine z_callVi (As := [.int 0, .int 3]) (rest := [.int v10]) hC hI (cX12_bit_met st l D ad cy σ9 0 3 _ g11) (zgV zw49_0 zw49_1 zw49_2 zw1_5 zw49_3) rfl ⟨rfl, rfl⟩ 2 hdX12_bit ⟨Nat.le_of_ble_eq_true rfl, Nat.le_of_ble_eq_true rfl⟩ rfl rfl (wM_e0 ad cy σ9) rfl hl rfl (Nat.le_of_ble_eq_true rfl) dX12_sprites_231 ⟨Nat.zero_le _, Nat.zero_le _⟩ (fun H locs hI => ?_)
  refine lv_iconst (v := 1) hx hb dX12_sprites_234 (by decide) ?_
  refine lv_icmp_ne (tgt := 243) hx hb dX12_sprites_235 (by decide) (fun q => ?_) (fun q => ?_)
  · replace hf := zif_f q hf
    refine lv_iconst (v := 0) hx hb dX12_sprites_243 (by decide) ?_
    exact bX12_sprites_244 hC hk73 hI (lv_sub hl [1, 2, 3, 4, 5, 6, 7, 8, 9, 0] rfl) hf
  replace hf := zif_t q hf
  refine lv_bipush (v := 8) hx hb dX12_sprites_238 (by decide) ?_
  refine lv_goto (tgt := 244) hx hb dX12_sprites_240 (by decide) ?_
  exact bX12_sprites_244 hC hk73 hI (lv_sub hl [1, 2, 3, 4, 5, 6, 7, 8, 9, 0] rfl) hf
set_option maxRecDepth 20000 in
set_option maxHeartbeats 4000000 in
theorem bX12_sprites_183 {st : Nat → Nat} {p : Program} {l : Launch} {e : Env} {s : State} {m : MethodId} {args : Array Value} {below : List Frame} {meth : Method} {c : Code} {D : va_G} {A : Nat → Prop} {ad : Nat → Nat} {cy : Nat → ClassId} (hC : zC p m c cX12_sprites 15 s args wzX12_sprites RX12 meth none) {k73 : zSt → Int32 → Int32 → Int32 → Int32 → Int32 → Int32 → Int32 → Option (zSt)} {res : zSt} (hk73 : ∀ (H : Heap) (locs : List Loc) (σ : zSt) (ls : Array Slot) (x1 : Int32) (x2 : Int32) (x3 : Int32) (x4 : Int32) (x5 : Int32) (x6 : Int32) (x7 : Int32), zI st D (tM cy) (wM ad cy σ) A s H locs → lv_has ls 15 [(0, .ref (ad 0)), (1, .int x1), (2, .int x2), (3, .int x3), (4, .int x4), (5, .int x5), (6, .int x6), (7, .int x7)] → k73 σ x1 x2 x3 x4 x5 x6 x7 = some res → W p l e rmX12_sprites s m args below meth c H locs 0 0 (zQu below args s D (tM cy) (wM ad cy) A res) (F0 m 73 ls [])) {H : Heap} {locs : List Loc} {σ : zSt} {ls : Array Slot} {x1 : Int32} {x2 : Int32} {x3 : Int32} {x4 : Int32} {x5 : Int32} {x6 : Int32} {x7 : Int32} {x9 : Int32} {s0 : Int32} {s1 : Int32} (hI : zI st D (tM cy) (wM ad cy σ) A s H locs) (hl : lv_has ls 15 [(0, .ref (ad 0)), (1, .int x1), (2, .int x2), (3, .int x3), (4, .int x4), (5, .int x5), (6, .int x6), (7, .int x7), (9, .int x9)]) (hf : fX12_sprites_183 k73 σ x1 x2 x3 x4 x5 x6 x7 x9 s0 s1 = some res) : W p l e rmX12_sprites s m args below meth c H locs 0 0 (zQu below args s D (tM cy) (wM ad cy) A res) (F0 m 183 ls [.int s0, .int s1]) := by
  have hx := hC.1
  have hb := hC.2.1
  unfold fX12_sprites_183 at hf
  refine lv_iadd hx hb dX12_sprites_183 ?_
  refine lv_topi (fun v13 ev13 => ?_)
  replace hf := zbv_use ev13 hf
  refine lv_istore (lv' := [(10, .int v13), (0, .ref (ad 0)), (1, .int x1), (2, .int x2), (3, .int x3), (4, .int x4), (5, .int x5), (6, .int x6), (7, .int x7), (9, .int x9)]) hx hb dX12_sprites_184 hl (by decide) rfl (fun ls hl => ?_)
  refine lv_iload hx hb dX12_sprites_186 (lv_at hl 5 rfl) ?_
  refine lv_bipush (v := 16) hx hb dX12_sprites_188 (by decide) ?_
  refine lv_icmp_ne (tgt := 210) hx hb dX12_sprites_190 (by decide) (fun q => ?_) (fun q => ?_)
  · replace hf := zif_f q hf
    refine lv_iload hx hb dX12_sprites_210 (lv_at hl 0 rfl) ?_
    exact bX12_sprites_212 hC hk73 hI (lv_sub hl [1, 2, 3, 4, 5, 6, 7, 8, 9] rfl) hf
  replace hf := zif_t q hf
  refine lv_iload hx hb dX12_sprites_193 (lv_at hl 0 rfl) ?_
  refine lv_sipush (v := 510) hx hb dX12_sprites_195 (by decide) ?_
  refine lv_iand hx hb dX12_sprites_198 ?_
  refine lv_iload hx hb dX12_sprites_199 (lv_at hl 9 rfl) ?_
  refine lv_iload_n hx hb dX12_sprites_201 rfl (lv_at hl 4 rfl) ?_
  obtain ⟨q, hf⟩ := zck_use hf
  refine lv_idiv hx hb dX12_sprites_202 (of_decide_eq_true q) ?_
  refine lv_bipush (v := 8) hx hb dX12_sprites_203 (by decide) ?_
  obtain ⟨q, hf⟩ := zck_use hf
  refine lv_idiv hx hb dX12_sprites_205 (of_decide_eq_true q) ?_
  refine lv_iadd hx hb dX12_sprites_206 ?_
  refine lv_goto (tgt := 212) hx hb dX12_sprites_207 (by decide) ?_
  exact bX12_sprites_212 hC hk73 hI (lv_sub hl [1, 2, 3, 4, 5, 6, 7, 8, 9] rfl) hf
set_option maxRecDepth 20000 in
set_option maxHeartbeats 4000000 in
theorem bX12_sprites_104 {st : Nat → Nat} {p : Program} {l : Launch} {e : Env} {s : State} {m : MethodId} {args : Array Value} {below : List Frame} {meth : Method} {c : Code} {D : va_G} {A : Nat → Prop} {ad : Nat → Nat} {cy : Nat → ClassId} (hC : zC p m c cX12_sprites 15 s args wzX12_sprites RX12 meth none) {k73 : zSt → Int32 → Int32 → Int32 → Int32 → Int32 → Int32 → Int32 → Option (zSt)} {res : zSt} (hk73 : ∀ (H : Heap) (locs : List Loc) (σ : zSt) (ls : Array Slot) (x1 : Int32) (x2 : Int32) (x3 : Int32) (x4 : Int32) (x5 : Int32) (x6 : Int32) (x7 : Int32), zI st D (tM cy) (wM ad cy σ) A s H locs → lv_has ls 15 [(0, .ref (ad 0)), (1, .int x1), (2, .int x2), (3, .int x3), (4, .int x4), (5, .int x5), (6, .int x6), (7, .int x7)] → k73 σ x1 x2 x3 x4 x5 x6 x7 = some res → W p l e rmX12_sprites s m args below meth c H locs 0 0 (zQu below args s D (tM cy) (wM ad cy) A res) (F0 m 73 ls [])) {H : Heap} {locs : List Loc} {σ : zSt} {ls : Array Slot} {x1 : Int32} {x2 : Int32} {x3 : Int32} {x4 : Int32} {x5 : Int32} {x6 : Int32} {x7 : Int32} {x8 : Int32} (hI : zI st D (tM cy) (wM ad cy σ) A s H locs) (hl : lv_has ls 15 [(0, .ref (ad 0)), (1, .int x1), (2, .int x2), (3, .int x3), (4, .int x4), (5, .int x5), (6, .int x6), (7, .int x7), (8, .int x8)]) (hf : fX12_sprites_104 k73 σ x1 x2 x3 x4 x5 x6 x7 x8 = some res) : W p l e rmX12_sprites s m args below meth c H locs 0 0 (zQu below args s D (tM cy) (wM ad cy) A res) (F0 m 104 ls []) := by
  have hx := hC.1
  have hb := hC.2.1
  unfold fX12_sprites_104 at hf
  refine lv_iload_n hx hb dX12_sprites_104 rfl (lv_at hl 1 rfl) ?_
  refine lv_iload hx hb dX12_sprites_105 (lv_at hl 8 rfl) ?_
  refine lv_isub hx hb dX12_sprites_107 ?_
  refine lv_iconst (v := 1) hx hb dX12_sprites_108 (by decide) ?_
  refine lv_isub hx hb dX12_sprites_109 ?_
  refine lv_sipush (v := 255) hx hb dX12_sprites_110 (by decide) ?_
  refine lv_iand hx hb dX12_sprites_113 ?_
  refine lv_topi (fun v14 ev14 => ?_)
  replace hf := zbv_use ev14 hf
  refine lv_istore (lv' := [(9, .int v14), (0, .ref (ad 0)), (1, .int x1), (2, .int x2), (3, .int x3), (4, .int x4), (5, .int x5), (6, .int x6), (7, .int x7), (8, .int x8)]) hx hb dX12_sprites_114 hl (by decide) rfl (fun ls hl => ?_)
  refine lv_iload hx hb dX12_sprites_116 (lv_at hl 0 rfl) ?_
  refine lv_iload hx hb dX12_sprites_118 (lv_at hl 5 rfl) ?_
  refine lv_iload_n hx hb dX12_sprites_120 rfl (lv_at hl 4 rfl) ?_
  refine lv_imul hx hb dX12_sprites_121 ?_
  refine lv_icmp_lt (tgt := 128) hx hb dX12_sprites_122 (by decide) (fun q => ?_) (fun q => ?_)
  · replace hf := zif_t q hf
    refine lv_iload hx hb dX12_sprites_128 (lv_at hl 6 rfl) ?_
    refine lv_bipush (v := 8) hx hb dX12_sprites_130 (by decide) ?_
    refine lv_icmp_ne (tgt := 148) hx hb dX12_sprites_132 (by decide) (fun q => ?_) (fun q => ?_)
    · replace hf := zif_f q hf
      obtain ⟨v15, ev15⟩ : ∃ z : Int32, z = x5 + 1 := ⟨_, rfl⟩
      replace hf := zbv_use ev15 hf
      refine lv_iinc (v := v15) (lv' := [(5, .int v15), (9, .int v14), (0, .ref (ad 0)), (1, .int x1), (2, .int x2), (3, .int x3), (4, .int x4), (6, .int x6), (7, .int x7), (8, .int x8)]) hx hb dX12_sprites_148 hl (k := 6) rfl (by rw [ev15]; rfl) (by decide) rfl (fun ls hl => ?_)
      refine lv_aload_n hx hb dX12_sprites_151 rfl (lv_at hl 2 rfl) ?_
      refine lv_iload_n hx hb dX12_sprites_152 rfl (lv_at hl 4 rfl) ?_
      refine lv_sipush (v := 129) hx hb dX12_sprites_153 (by decide) ?_
      refine lv_iadd hx hb dX12_sprites_156 ?_
      refine lv_iconst (v := 2) hx hb dX12_sprites_157 (by decide) ?_
      refine lv_iload hx hb dX12_sprites_158 (lv_at hl 8 rfl) ?_
      refine lv_imul hx hb dX12_sprites_160 ?_
      refine lv_iadd hx hb dX12_sprites_161 ?_
      obtain ⟨σ16, v17, g16, hf⟩ := zbi_use hf
      refine z_callVi (As := [.int ((x2 + 129) + (2 * x7))]) (rest := []) hC hI (cX12_video8_met st l D ad cy σ ((x2 + 129) + (2 * x7)) _ g16) (zgV zw56_6 zw56_7 zw56_8 zw1_5 zw56_9) rfl ⟨rfl, rfl⟩ 1 hdX12_video8 ⟨Nat.le_of_ble_eq_true rfl, Nat.le_of_ble_eq_true rfl⟩ rfl rfl (wM_e0 ad cy σ) rfl hl rfl (Nat.le_of_ble_eq_true rfl) dX12_sprites_162 ⟨Nat.zero_le _, Nat.zero_le _⟩ (fun H locs hI => ?_)
      refine lv_aload_n hx hb dX12_sprites_165 rfl (lv_at hl 2 rfl) ?_
      refine lv_bipush (v := 6) hx hb dX12_sprites_166 (by decide) ?_
      refine lv_iconst (v := 2) hx hb dX12_sprites_168 (by decide) ?_
      obtain ⟨σ18, v19, g18, hf⟩ := zbi_use hf
      refine z_callVi (As := [.int 6, .int 2]) (rest := [.int v17]) hC hI (cX12_bit_met st l D ad cy σ16 6 2 _ g18) (zgV zw49_0 zw49_1 zw49_2 zw1_5 zw49_3) rfl ⟨rfl, rfl⟩ 2 hdX12_bit ⟨Nat.le_of_ble_eq_true rfl, Nat.le_of_ble_eq_true rfl⟩ rfl rfl (wM_e0 ad cy σ16) rfl hl rfl (Nat.le_of_ble_eq_true rfl) dX12_sprites_169 ⟨Nat.zero_le _, Nat.zero_le _⟩ (fun H locs hI => ?_)
      refine lv_iconst (v := 1) hx hb dX12_sprites_172 (by decide) ?_
      refine lv_icmp_ne (tgt := 182) hx hb dX12_sprites_173 (by decide) (fun q => ?_) (fun q => ?_)
      · replace hf := zif_f q hf
        refine lv_iconst (v := 0) hx hb dX12_sprites_182 (by decide) ?_
        exact bX12_sprites_183 hC hk73 hI (lv_sub hl [2, 3, 4, 5, 6, 0, 7, 8, 1] rfl) hf
      replace hf := zif_t q hf
      refine lv_sipush (v := 256) hx hb dX12_sprites_176 (by decide) ?_
      refine lv_goto (tgt := 183) hx hb dX12_sprites_179 (by decide) ?_
      exact bX12_sprites_183 hC hk73 hI (lv_sub hl [2, 3, 4, 5, 6, 0, 7, 8, 1] rfl) hf
    replace hf := zif_t q hf
    refine lv_aload_n hx hb dX12_sprites_135 rfl (lv_at hl 1 rfl) ?_
    refine z_get hC hI hinX12_sprites_X120 0 (wM_e0 ad cy σ) rfl 10 (by decide) (List.mem_cons_of_mem _ zw9_7) rfl dX12_sprites_136 ?_
    refine lv_bipush (v := 62) hx hb dX12_sprites_139 (by decide) ?_
    refine lv_dup2_11 hx hb dX12_sprites_141 rfl rfl ?_
    obtain ⟨q, hf⟩ := zck_use hf
    refine z_iald hC hI 3 2 (wM_e3 ad cy σ) (tM_t3 cy) q dX12_sprites_142 ?_
    refine lv_bipush (v := 64) hx hb dX12_sprites_143 (by decide) ?_
    refine lv_ior hx hb dX12_sprites_145 ?_
    obtain ⟨q, hf⟩ := zck_use hf
    obtain ⟨σ20, eσ20⟩ : ∃ z, z = zsi σ 3 ((62 : Int32).toNatClampNeg) ((zgi σ 3 (62 : Int32).toNatClampNeg) ||| 64) := ⟨_, rfl⟩
    replace hf := zbv_use eσ20 hf
    refine z_iast hC hI 3 2 (wM_e3 ad cy σ) (tM_t3 cy) q ((wM_s3 ad cy σ _ _).trans (congrArg (wM ad cy) eσ20.symm)) dX12_sprites_146 (fun H locs hI => ?_)
    exact z_return hC hI hf dX12_sprites_147
  replace hf := zif_f q hf
  refine lv_goto (tgt := 349) hx hb dX12_sprites_125 (by decide) ?_
  exact bX12_sprites_349 hC hk73 hI (lv_sub hl [1, 2, 3, 4, 5, 6, 7, 8] rfl) hf
set_option maxRecDepth 20000 in
set_option maxHeartbeats 4000000 in
theorem bX12_sprites_73_body {st : Nat → Nat} {p : Program} {l : Launch} {e : Env} {s : State} {m : MethodId} {args : Array Value} {below : List Frame} {meth : Method} {c : Code} {D : va_G} {A : Nat → Prop} {ad : Nat → Nat} {cy : Nat → ClassId} (hC : zC p m c cX12_sprites 15 s args wzX12_sprites RX12 meth none) {k73 : zSt → Int32 → Int32 → Int32 → Int32 → Int32 → Int32 → Int32 → Option (zSt)} {res : zSt} (hk73 : ∀ (H : Heap) (locs : List Loc) (σ : zSt) (ls : Array Slot) (x1 : Int32) (x2 : Int32) (x3 : Int32) (x4 : Int32) (x5 : Int32) (x6 : Int32) (x7 : Int32), zI st D (tM cy) (wM ad cy σ) A s H locs → lv_has ls 15 [(0, .ref (ad 0)), (1, .int x1), (2, .int x2), (3, .int x3), (4, .int x4), (5, .int x5), (6, .int x6), (7, .int x7)] → k73 σ x1 x2 x3 x4 x5 x6 x7 = some res → W p l e rmX12_sprites s m args below meth c H locs 0 0 (zQu below args s D (tM cy) (wM ad cy) A res) (F0 m 73 ls [])) {H : Heap} {locs : List Loc} {σ : zSt} {ls : Array Slot} {x1 : Int32} {x2 : Int32} {x3 : Int32} {x4 : Int32} {x5 : Int32} {x6 : Int32} {x7 : Int32} (hI : zI st D (tM cy) (wM ad cy σ) A s H locs) (hl : lv_has ls 15 [(0, .ref (ad 0)), (1, .int x1), (2, .int x2), (3, .int x3), (4, .int x4), (5, .int x5), (6, .int x6), (7, .int x7)]) (hf : fX12_sprites_73_body k73 σ x1 x2 x3 x4 x5 x6 x7 = some res) : W p l e rmX12_sprites s m args below meth c H locs 0 0 (zQu below args s D (tM cy) (wM ad cy) A res) (F0 m 73 ls []) := by
  have hx := hC.1
  have hb := hC.2.1
  unfold fX12_sprites_73_body at hf
  refine lv_iload hx hb dX12_sprites_73 (lv_at hl 7 rfl) ?_
  refine lv_bipush (v := 64) hx hb dX12_sprites_75 (by decide) ?_
  refine lv_icmp_ge (tgt := 355) hx hb dX12_sprites_77 (by decide) (fun q => ?_) (fun q => ?_)
  · replace hf := zif_t q hf
    exact z_return hC hI hf dX12_sprites_355
  replace hf := zif_f q hf
  refine lv_aload_n hx hb dX12_sprites_80 rfl (lv_at hl 0 rfl) ?_
  refine lv_iload_n hx hb dX12_sprites_81 rfl (lv_at hl 2 rfl) ?_
  refine lv_iload hx hb dX12_sprites_82 (lv_at hl 7 rfl) ?_
  refine lv_iadd hx hb dX12_sprites_84 ?_
  obtain ⟨σ21, v22, g21, hf⟩ := zbi_use hf
  refine z_callVi (As := [.int (x2 + x7)]) (rest := []) hC hI (cX12_video8_met st l D ad cy σ (x2 + x7) _ g21) (zgV zw56_6 zw56_7 zw56_8 zw1_5 zw56_9) rfl ⟨rfl, rfl⟩ 1 hdX12_video8 ⟨Nat.le_of_ble_eq_true rfl, Nat.le_of_ble_eq_true rfl⟩ rfl rfl (wM_e0 ad cy σ) rfl hl rfl (Nat.le_of_ble_eq_true rfl) dX12_sprites_85 ⟨Nat.zero_le _, Nat.zero_le _⟩ (fun H locs hI => ?_)
  refine lv_istore (lv' := [(8, .int v22), (0, .ref (ad 0)), (1, .int x1), (2, .int x2), (3, .int x3), (4, .int x4), (5, .int x5), (6, .int x6), (7, .int x7)]) hx hb dX12_sprites_88 hl (by decide) rfl (fun ls hl => ?_)
  refine lv_iload hx hb dX12_sprites_90 (lv_at hl 7 rfl) ?_
  refine lv_if_eq (tgt := 104) hx hb dX12_sprites_92 (by decide) (fun q => ?_) (fun q => ?_)
  · replace hf := zif_t q hf
    exact bX12_sprites_104 hC hk73 hI (lv_sub hl [1, 2, 3, 4, 5, 6, 7, 8, 0] rfl) hf
  replace hf := zif_f q hf
  refine lv_iload hx hb dX12_sprites_95 (lv_at hl 0 rfl) ?_
  refine lv_sipush (v := 208) hx hb dX12_sprites_97 (by decide) ?_
  refine lv_icmp_ne (tgt := 104) hx hb dX12_sprites_100 (by decide) (fun q => ?_) (fun q => ?_)
  · replace hf := zif_f q hf
    exact bX12_sprites_104 hC hk73 hI (lv_sub hl [1, 2, 3, 4, 5, 6, 7, 8, 0] rfl) hf
  replace hf := zif_t q hf
  exact z_return hC hI hf dX12_sprites_103
theorem blX12_sprites_73 {st : Nat → Nat} {p : Program} {l : Launch} {e : Env} {s : State} {m : MethodId} {args : Array Value} {below : List Frame} {meth : Method} {c : Code} {D : va_G} {A : Nat → Prop} {ad : Nat → Nat} {cy : Nat → ClassId} (hC : zC p m c cX12_sprites 15 s args wzX12_sprites RX12 meth none)  {res : zSt} : ∀ (n : Nat) (H : Heap) (locs : List Loc) (σ : zSt) (ls : Array Slot) (x1 : Int32) (x2 : Int32) (x3 : Int32) (x4 : Int32) (x5 : Int32) (x6 : Int32) (x7 : Int32), zI st D (tM cy) (wM ad cy σ) A s H locs → lv_has ls 15 [(0, .ref (ad 0)), (1, .int x1), (2, .int x2), (3, .int x3), (4, .int x4), (5, .int x5), (6, .int x6), (7, .int x7)] → fX12_sprites_73  n σ x1 x2 x3 x4 x5 x6 x7 = some res → W p l e rmX12_sprites s m args below meth c H locs 0 0 (zQu below args s D (tM cy) (wM ad cy) A res) (F0 m 73 ls []) := by
  intro n
  induction n with
  | zero => intro H locs σ ls x1 x2 x3 x4 x5 x6 x7 hI hl hf; cases hf
  | succ n ih => intro H locs σ ls x1 x2 x3 x4 x5 x6 x7 hI hl hf; exact bX12_sprites_73_body hC ih hI hl hf
set_option maxRecDepth 20000 in
set_option maxHeartbeats 4000000 in
theorem bX12_sprites_68 {st : Nat → Nat} {p : Program} {l : Launch} {e : Env} {s : State} {m : MethodId} {args : Array Value} {below : List Frame} {meth : Method} {c : Code} {D : va_G} {A : Nat → Prop} {ad : Nat → Nat} {cy : Nat → ClassId} (hC : zC p m c cX12_sprites 15 s args wzX12_sprites RX12 meth none)  {res : zSt} {H : Heap} {locs : List Loc} {σ : zSt} {ls : Array Slot} {x1 : Int32} {x2 : Int32} {x3 : Int32} {x4 : Int32} {x5 : Int32} {s0 : Int32} (hI : zI st D (tM cy) (wM ad cy σ) A s H locs) (hl : lv_has ls 15 [(0, .ref (ad 0)), (1, .int x1), (2, .int x2), (3, .int x3), (4, .int x4), (5, .int x5)]) (hf : fX12_sprites_68  σ x1 x2 x3 x4 x5 s0 = some res) : W p l e rmX12_sprites s m args below meth c H locs 0 0 (zQu below args s D (tM cy) (wM ad cy) A res) (F0 m 68 ls [.int s0]) := by
  have hx := hC.1
  have hb := hC.2.1
  unfold fX12_sprites_68 at hf
  refine lv_istore (lv' := [(6, .int s0), (0, .ref (ad 0)), (1, .int x1), (2, .int x2), (3, .int x3), (4, .int x4), (5, .int x5)]) hx hb dX12_sprites_68 hl (by decide) rfl (fun ls hl => ?_)
  refine lv_iconst (v := 0) hx hb dX12_sprites_70 (by decide) ?_
  refine lv_istore (lv' := [(7, .int 0), (6, .int s0), (0, .ref (ad 0)), (1, .int x1), (2, .int x2), (3, .int x3), (4, .int x4), (5, .int x5)]) hx hb dX12_sprites_71 hl (by decide) rfl (fun ls hl => ?_)
  exact blX12_sprites_73 hC  zfuel _ _ _ _ _ _ _ _ _ _ _ hI (lv_sub hl [2, 3, 4, 5, 6, 7, 1, 0] rfl) hf
set_option maxRecDepth 20000 in
set_option maxHeartbeats 4000000 in
theorem bX12_sprites_48 {st : Nat → Nat} {p : Program} {l : Launch} {e : Env} {s : State} {m : MethodId} {args : Array Value} {below : List Frame} {meth : Method} {c : Code} {D : va_G} {A : Nat → Prop} {ad : Nat → Nat} {cy : Nat → ClassId} (hC : zC p m c cX12_sprites 15 s args wzX12_sprites RX12 meth none)  {res : zSt} {H : Heap} {locs : List Loc} {σ : zSt} {ls : Array Slot} {x1 : Int32} {x2 : Int32} {x3 : Int32} {s0 : Int32} (hI : zI st D (tM cy) (wM ad cy σ) A s H locs) (hl : lv_has ls 15 [(0, .ref (ad 0)), (1, .int x1), (2, .int x2), (3, .int x3)]) (hf : fX12_sprites_48  σ x1 x2 x3 s0 = some res) : W p l e rmX12_sprites s m args below meth c H locs 0 0 (zQu below args s D (tM cy) (wM ad cy) A res) (F0 m 48 ls [.int s0]) := by
  have hx := hC.1
  have hb := hC.2.1
  unfold fX12_sprites_48 at hf
  refine lv_istore (lv' := [(4, .int s0), (0, .ref (ad 0)), (1, .int x1), (2, .int x2), (3, .int x3)]) hx hb dX12_sprites_48 hl (by decide) rfl (fun ls hl => ?_)
  refine lv_iconst (v := 0) hx hb dX12_sprites_50 (by decide) ?_
  refine lv_istore (lv' := [(5, .int 0), (4, .int s0), (0, .ref (ad 0)), (1, .int x1), (2, .int x2), (3, .int x3)]) hx hb dX12_sprites_51 hl (by decide) rfl (fun ls hl => ?_)
  refine lv_aload_n hx hb dX12_sprites_53 rfl (lv_at hl 2 rfl) ?_
  obtain ⟨σ23, v24, g23, hf⟩ := zbi_use hf
  refine z_callVi (As := []) (rest := []) hC hI (cX12_height_met st l D ad cy σ  _ g23) (zgV zw57_2 zw57_3 zw57_4 zw1_5 zw57_5) rfl ⟨rfl, rfl⟩ 0 hdX12_height ⟨Nat.le_of_ble_eq_true rfl, Nat.le_of_ble_eq_true rfl⟩ rfl rfl (wM_e0 ad cy σ) rfl hl rfl (Nat.le_of_ble_eq_true rfl) dX12_sprites_54 ⟨Nat.zero_le _, Nat.zero_le _⟩ (fun H locs hI => ?_)
  refine lv_sipush (v := 192) hx hb dX12_sprites_57 (by decide) ?_
  refine lv_icmp_ne (tgt := 67) hx hb dX12_sprites_60 (by decide) (fun q => ?_) (fun q => ?_)
  · replace hf := zif_f q hf
    refine lv_iconst (v := 0) hx hb dX12_sprites_67 (by decide) ?_
    exact bX12_sprites_68 hC  hI (lv_sub hl [2, 3, 4, 5, 1, 0] rfl) hf
  replace hf := zif_t q hf
  refine lv_iconst (v := 1) hx hb dX12_sprites_63 (by decide) ?_
  refine lv_goto (tgt := 68) hx hb dX12_sprites_64 (by decide) ?_
  exact bX12_sprites_68 hC  hI (lv_sub hl [2, 3, 4, 5, 1, 0] rfl) hf
set_option maxRecDepth 20000 in
set_option maxHeartbeats 4000000 in
theorem bX12_sprites_30 {st : Nat → Nat} {p : Program} {l : Launch} {e : Env} {s : State} {m : MethodId} {args : Array Value} {below : List Frame} {meth : Method} {c : Code} {D : va_G} {A : Nat → Prop} {ad : Nat → Nat} {cy : Nat → ClassId} (hC : zC p m c cX12_sprites 15 s args wzX12_sprites RX12 meth none)  {res : zSt} {H : Heap} {locs : List Loc} {σ : zSt} {ls : Array Slot} {x1 : Int32} {x2 : Int32} {s0 : Int32} (hI : zI st D (tM cy) (wM ad cy σ) A s H locs) (hl : lv_has ls 15 [(0, .ref (ad 0)), (1, .int x1), (2, .int x2)]) (hf : fX12_sprites_30  σ x1 x2 s0 = some res) : W p l e rmX12_sprites s m args below meth c H locs 0 0 (zQu below args s D (tM cy) (wM ad cy) A res) (F0 m 30 ls [.int s0]) := by
  have hx := hC.1
  have hb := hC.2.1
  unfold fX12_sprites_30 at hf
  refine lv_istore_n (lv' := [(3, .int s0), (0, .ref (ad 0)), (1, .int x1), (2, .int x2)]) hx hb dX12_sprites_30 rfl hl (by decide) rfl (fun ls hl => ?_)
  refine lv_aload_n hx hb dX12_sprites_31 rfl (lv_at hl 1 rfl) ?_
  refine lv_iconst (v := 1) hx hb dX12_sprites_32 (by decide) ?_
  refine lv_iconst (v := 1) hx hb dX12_sprites_33 (by decide) ?_
  obtain ⟨σ25, v26, g25, hf⟩ := zbi_use hf
  refine z_callVi (As := [.int 1, .int 1]) (rest := []) hC hI (cX12_bit_met st l D ad cy σ 1 1 _ g25) (zgV zw49_0 zw49_1 zw49_2 zw1_5 zw49_3) rfl ⟨rfl, rfl⟩ 2 hdX12_bit ⟨Nat.le_of_ble_eq_true rfl, Nat.le_of_ble_eq_true rfl⟩ rfl rfl (wM_e0 ad cy σ) rfl hl rfl (Nat.le_of_ble_eq_true rfl) dX12_sprites_34 ⟨Nat.zero_le _, Nat.zero_le _⟩ (fun H locs hI => ?_)
  refine lv_iconst (v := 1) hx hb dX12_sprites_37 (by decide) ?_
  refine lv_icmp_ne (tgt := 46) hx hb dX12_sprites_38 (by decide) (fun q => ?_) (fun q => ?_)
  · replace hf := zif_f q hf
    refine lv_bipush (v := 8) hx hb dX12_sprites_46 (by decide) ?_
    exact bX12_sprites_48 hC  hI (lv_sub hl [1, 2, 3, 0] rfl) hf
  replace hf := zif_t q hf
  refine lv_bipush (v := 16) hx hb dX12_sprites_41 (by decide) ?_
  refine lv_goto (tgt := 48) hx hb dX12_sprites_43 (by decide) ?_
  exact bX12_sprites_48 hC  hI (lv_sub hl [1, 2, 3, 0] rfl) hf
set_option maxRecDepth 20000 in
set_option maxHeartbeats 4000000 in
theorem bX12_sprites {st : Nat → Nat} {p : Program} {l : Launch} {e : Env} {s : State} {m : MethodId} {args : Array Value} {below : List Frame} {meth : Method} {c : Code} {D : va_G} {A : Nat → Prop} {ad : Nat → Nat} {cy : Nat → ClassId} (hC : zC p m c cX12_sprites 15 s args wzX12_sprites RX12 meth none)  {res : zSt} {H : Heap} {locs : List Loc} {σ : zSt} {ls : Array Slot} {x1 : Int32} (hI : zI st D (tM cy) (wM ad cy σ) A s H locs) (hl : lv_has ls 15 [(0, .ref (ad 0)), (1, .int x1)]) (hf : fX12_sprites  σ x1 = some res) : W p l e rmX12_sprites s m args below meth c H locs 0 0 (zQu below args s D (tM cy) (wM ad cy) A res) (F0 m 0 ls []) := by
  have hx := hC.1
  have hb := hC.2.1
  unfold fX12_sprites at hf
  refine lv_sipush (v := 256) hx hb dX12_sprites_0 (by decide) ?_
  refine lv_aload_n hx hb dX12_sprites_3 rfl (lv_at hl 0 rfl) ?_
  refine lv_iconst (v := 5) hx hb dX12_sprites_4 (by decide) ?_
  obtain ⟨σ27, v28, g27, hf⟩ := zbi_use hf
  refine z_callVi (As := [.int 5]) (rest := [.int 256]) hC hI (cX12_reg_met st l D ad cy σ 5 _ g27) (zgV zw59_6 zw59_7 zw59_8 zw1_5 zw59_9) rfl ⟨rfl, rfl⟩ 1 hdX12_reg ⟨Nat.le_of_ble_eq_true rfl, Nat.le_of_ble_eq_true rfl⟩ rfl rfl (wM_e0 ad cy σ) rfl hl rfl (Nat.le_of_ble_eq_true rfl) dX12_sprites_5 ⟨Nat.zero_le _, Nat.zero_le _⟩ (fun H locs hI => ?_)
  refine lv_iconst (v := 2) hx hb dX12_sprites_8 (by decide) ?_
  obtain ⟨q, hf⟩ := zck_use hf
  refine lv_idiv hx hb dX12_sprites_9 (of_decide_eq_true q) ?_
  refine lv_bipush (v := 64) hx hb dX12_sprites_10 (by decide) ?_
  obtain ⟨q, hf⟩ := zck_use hf
  refine z_irem hx hb dX12_sprites_12 (of_decide_eq_true q) ?_
  refine lv_imul hx hb dX12_sprites_13 ?_
  refine lv_topi (fun v29 ev29 => ?_)
  replace hf := zbv_use ev29 hf
  refine lv_istore_n (lv' := [(2, .int v29), (0, .ref (ad 0)), (1, .int x1)]) hx hb dX12_sprites_14 rfl hl (by decide) rfl (fun ls hl => ?_)
  refine lv_aload_n hx hb dX12_sprites_15 rfl (lv_at hl 1 rfl) ?_
  refine lv_iconst (v := 1) hx hb dX12_sprites_16 (by decide) ?_
  refine lv_iconst (v := 0) hx hb dX12_sprites_17 (by decide) ?_
  obtain ⟨σ30, v31, g30, hf⟩ := zbi_use hf
  refine z_callVi (As := [.int 1, .int 0]) (rest := []) hC hI (cX12_bit_met st l D ad cy σ27 1 0 _ g30) (zgV zw49_0 zw49_1 zw49_2 zw1_5 zw49_3) rfl ⟨rfl, rfl⟩ 2 hdX12_bit ⟨Nat.le_of_ble_eq_true rfl, Nat.le_of_ble_eq_true rfl⟩ rfl rfl (wM_e0 ad cy σ27) rfl hl rfl (Nat.le_of_ble_eq_true rfl) dX12_sprites_18 ⟨Nat.zero_le _, Nat.zero_le _⟩ (fun H locs hI => ?_)
  refine lv_iconst (v := 1) hx hb dX12_sprites_21 (by decide) ?_
  refine lv_icmp_ne (tgt := 29) hx hb dX12_sprites_22 (by decide) (fun q => ?_) (fun q => ?_)
  · replace hf := zif_f q hf
    refine lv_iconst (v := 1) hx hb dX12_sprites_29 (by decide) ?_
    exact bX12_sprites_30 hC  hI (lv_sub hl [1, 2, 0] rfl) hf
  replace hf := zif_t q hf
  refine lv_iconst (v := 2) hx hb dX12_sprites_25 (by decide) ?_
  refine lv_goto (tgt := 30) hx hb dX12_sprites_26 (by decide) ?_
  exact bX12_sprites_30 hC  hI (lv_sub hl [1, 2, 0] rfl) hf
set_option maxRecDepth 20000 in
theorem cX12_sprites_met (st : Nat → Nat) (l : Launch) (D : va_G) (ad : Nat → Nat) (cy : Nat → ClassId) (σ : zSt) (x1 : Int32) (res : zSt) (hf : fX12_sprites σ x1 = some res) (sz : Nat) : zMu st l yX12_sprites wzX12_sprites rmX12_sprites [.ref (ad 0), .int x1] D (tM cy) (wM ad cy) sz σ res :=
  zMu.of (cc := cX12_sprites) (maxL := 15) (ret := none) (by decide) rfl (Nat.le_of_ble_eq_true rfl) (fun p e s m args below meth c hC A hI ls hl => bX12_sprites hC hI hl hf)
theorem hdX12_sprites : yX12_sprites.cls = RX12 ∧ yX12_sprites.cls ≠ "java/lang/invoke/MethodHandle" ∧ yX12_sprites.cls ≠ "java/lang/invoke/VarHandle" ∧ (parseMethodDescriptor yX12_sprites.desc).map (fun d => d.parameters.length) = some 1 := by decide +kernel
end ZJN0
section ZJN1
noncomputable def kn_cX12_ends : Nat := 0xb14f808000112e5c3e101600b42a1000a060041b2e42101600b42aa001b62a50610a2f5c051a00b42a4f9d01b609102a41101600b42a4f0342101600b42a2600a00601110600a73901110900a0046300b42a2e42101600b42a4f60042e5c42101600b42a4f9d01b60a102a40101600b42a1000a74f043f101600b42a4f9d01b60a102a40101600b42a28009c2e40101600b42a4f64042e5c40101600b42a3000a31b2e42101600b42a9a01b62e42101600b42a2a0e00a21b2e42101600b42a3c9701b62a
theorem zk_cX12_ends : zkd cX12_ends.data.toList kn_cX12_ends = true := by decide +kernel
theorem zn_cX12_ends : cX12_ends.data.toList.length = 196 := by decide +kernel
theorem dX12_ends_0 : decode cX12_ends 0 = .ok (.aload_n 0, 1) := zo_42 (zkb zk_cX12_ends zn_cX12_ends rfl)
theorem dX12_ends_1 : decode cX12_ends 1 = .ok (.invokevirtual 407, 3) := zo_182 (b1 := 1) (b2 := 151) (zkb3 zk_cX12_ends zn_cX12_ends rfl) rfl
theorem dX12_ends_4 : decode cX12_ends 4 = .ok (.istore_n 1, 1) := zo_60 (zkb zk_cX12_ends zn_cX12_ends rfl)
theorem dX12_ends_5 : decode cX12_ends 5 = .ok (.aload_n 0, 1) := zo_42 (zkb zk_cX12_ends zn_cX12_ends rfl)
theorem dX12_ends_6 : decode cX12_ends 6 = .ok (.getfield 22, 3) := zo_180 (b1 := 0) (b2 := 22) (zkb3 zk_cX12_ends zn_cX12_ends rfl) rfl
theorem dX12_ends_9 : decode cX12_ends 9 = .ok (.bipush 66, 2) := zo_16 (b1 := 66) (zkb2 zk_cX12_ends zn_cX12_ends rfl) rfl
theorem dX12_ends_11 : decode cX12_ends 11 = .ok (.iaload, 1) := zo_46 (zkb zk_cX12_ends zn_cX12_ends rfl)
theorem dX12_ends_12 : decode cX12_ends 12 = .ok (.iload_n 1, 1) := zo_27 (zkb zk_cX12_ends zn_cX12_ends rfl)
theorem dX12_ends_13 : decode cX12_ends 13 = .ok (.if_icmp .ge 14, 3) := zo_162 (b1 := 0) (b2 := 14) (zkb3 zk_cX12_ends zn_cX12_ends rfl) rfl
theorem dX12_ends_16 : decode cX12_ends 16 = .ok (.aload_n 0, 1) := zo_42 (zkb zk_cX12_ends zn_cX12_ends rfl)
theorem dX12_ends_17 : decode cX12_ends 17 = .ok (.aload_n 0, 1) := zo_42 (zkb zk_cX12_ends zn_cX12_ends rfl)
theorem dX12_ends_18 : decode cX12_ends 18 = .ok (.getfield 22, 3) := zo_180 (b1 := 0) (b2 := 22) (zkb3 zk_cX12_ends zn_cX12_ends rfl) rfl
theorem dX12_ends_21 : decode cX12_ends 21 = .ok (.bipush 66, 2) := zo_16 (b1 := 66) (zkb2 zk_cX12_ends zn_cX12_ends rfl) rfl
theorem dX12_ends_23 : decode cX12_ends 23 = .ok (.iaload, 1) := zo_46 (zkb zk_cX12_ends zn_cX12_ends rfl)
theorem dX12_ends_24 : decode cX12_ends 24 = .ok (.invokevirtual 410, 3) := zo_182 (b1 := 1) (b2 := 154) (zkb3 zk_cX12_ends zn_cX12_ends rfl) rfl
theorem dX12_ends_27 : decode cX12_ends 27 = .ok (.aload_n 0, 1) := zo_42 (zkb zk_cX12_ends zn_cX12_ends rfl)
theorem dX12_ends_28 : decode cX12_ends 28 = .ok (.getfield 22, 3) := zo_180 (b1 := 0) (b2 := 22) (zkb3 zk_cX12_ends zn_cX12_ends rfl) rfl
theorem dX12_ends_31 : decode cX12_ends 31 = .ok (.bipush 66, 2) := zo_16 (b1 := 66) (zkb2 zk_cX12_ends zn_cX12_ends rfl) rfl
theorem dX12_ends_33 : decode cX12_ends 33 = .ok (.iaload, 1) := zo_46 (zkb zk_cX12_ends zn_cX12_ends rfl)
theorem dX12_ends_34 : decode cX12_ends 34 = .ok (.iload_n 1, 1) := zo_27 (zkb zk_cX12_ends zn_cX12_ends rfl)
theorem dX12_ends_35 : decode cX12_ends 35 = .ok (.if_icmp .gt 48, 3) := zo_163 (b1 := 0) (b2 := 48) (zkb3 zk_cX12_ends zn_cX12_ends rfl) rfl
theorem dX12_ends_38 : decode cX12_ends 38 = .ok (.aload_n 0, 1) := zo_42 (zkb zk_cX12_ends zn_cX12_ends rfl)
theorem dX12_ends_39 : decode cX12_ends 39 = .ok (.getfield 22, 3) := zo_180 (b1 := 0) (b2 := 22) (zkb3 zk_cX12_ends zn_cX12_ends rfl) rfl
theorem dX12_ends_42 : decode cX12_ends 42 = .ok (.bipush 64, 2) := zo_16 (b1 := 64) (zkb2 zk_cX12_ends zn_cX12_ends rfl) rfl
theorem dX12_ends_44 : decode cX12_ends 44 = .ok (.dup2, 1) := zo_92 (zkb zk_cX12_ends zn_cX12_ends rfl)
theorem dX12_ends_45 : decode cX12_ends 45 = .ok (.iaload, 1) := zo_46 (zkb zk_cX12_ends zn_cX12_ends rfl)
theorem dX12_ends_46 : decode cX12_ends 46 = .ok (.iconst 1, 1) := zo_4 (zkb zk_cX12_ends zn_cX12_ends rfl)
theorem dX12_ends_47 : decode cX12_ends 47 = .ok (.isub, 1) := zo_100 (zkb zk_cX12_ends zn_cX12_ends rfl)
theorem dX12_ends_48 : decode cX12_ends 48 = .ok (.iastore, 1) := zo_79 (zkb zk_cX12_ends zn_cX12_ends rfl)
theorem dX12_ends_49 : decode cX12_ends 49 = .ok (.aload_n 0, 1) := zo_42 (zkb zk_cX12_ends zn_cX12_ends rfl)
theorem dX12_ends_50 : decode cX12_ends 50 = .ok (.getfield 22, 3) := zo_180 (b1 := 0) (b2 := 22) (zkb3 zk_cX12_ends zn_cX12_ends rfl) rfl
theorem dX12_ends_53 : decode cX12_ends 53 = .ok (.bipush 64, 2) := zo_16 (b1 := 64) (zkb2 zk_cX12_ends zn_cX12_ends rfl) rfl
theorem dX12_ends_55 : decode cX12_ends 55 = .ok (.iaload, 1) := zo_46 (zkb zk_cX12_ends zn_cX12_ends rfl)
theorem dX12_ends_56 : decode cX12_ends 56 = .ok (.ifCond .ge 40, 3) := zo_156 (b1 := 0) (b2 := 40) (zkb3 zk_cX12_ends zn_cX12_ends rfl) rfl
theorem dX12_ends_59 : decode cX12_ends 59 = .ok (.aload_n 0, 1) := zo_42 (zkb zk_cX12_ends zn_cX12_ends rfl)
theorem dX12_ends_60 : decode cX12_ends 60 = .ok (.getfield 22, 3) := zo_180 (b1 := 0) (b2 := 22) (zkb3 zk_cX12_ends zn_cX12_ends rfl) rfl
theorem dX12_ends_63 : decode cX12_ends 63 = .ok (.bipush 64, 2) := zo_16 (b1 := 64) (zkb2 zk_cX12_ends zn_cX12_ends rfl) rfl
theorem dX12_ends_65 : decode cX12_ends 65 = .ok (.aload_n 0, 1) := zo_42 (zkb zk_cX12_ends zn_cX12_ends rfl)
theorem dX12_ends_66 : decode cX12_ends 66 = .ok (.bipush 10, 2) := zo_16 (b1 := 10) (zkb2 zk_cX12_ends zn_cX12_ends rfl) rfl
theorem dX12_ends_68 : decode cX12_ends 68 = .ok (.invokevirtual 413, 3) := zo_182 (b1 := 1) (b2 := 157) (zkb3 zk_cX12_ends zn_cX12_ends rfl) rfl
theorem dX12_ends_71 : decode cX12_ends 71 = .ok (.iastore, 1) := zo_79 (zkb zk_cX12_ends zn_cX12_ends rfl)
theorem dX12_ends_72 : decode cX12_ends 72 = .ok (.aload_n 0, 1) := zo_42 (zkb zk_cX12_ends zn_cX12_ends rfl)
theorem dX12_ends_73 : decode cX12_ends 73 = .ok (.getfield 22, 3) := zo_180 (b1 := 0) (b2 := 22) (zkb3 zk_cX12_ends zn_cX12_ends rfl) rfl
theorem dX12_ends_76 : decode cX12_ends 76 = .ok (.bipush 63, 2) := zo_16 (b1 := 63) (zkb2 zk_cX12_ends zn_cX12_ends rfl) rfl
theorem dX12_ends_78 : decode cX12_ends 78 = .ok (.iconst 1, 1) := zo_4 (zkb zk_cX12_ends zn_cX12_ends rfl)
theorem dX12_ends_79 : decode cX12_ends 79 = .ok (.iastore, 1) := zo_79 (zkb zk_cX12_ends zn_cX12_ends rfl)
theorem dX12_ends_80 : decode cX12_ends 80 = .ok (.goto 16, 3) := zo_167 (b1 := 0) (b2 := 16) (zkb3 zk_cX12_ends zn_cX12_ends rfl) rfl
theorem dX12_ends_83 : decode cX12_ends 83 = .ok (.aload_n 0, 1) := zo_42 (zkb zk_cX12_ends zn_cX12_ends rfl)
theorem dX12_ends_84 : decode cX12_ends 84 = .ok (.getfield 22, 3) := zo_180 (b1 := 0) (b2 := 22) (zkb3 zk_cX12_ends zn_cX12_ends rfl) rfl
theorem dX12_ends_87 : decode cX12_ends 87 = .ok (.bipush 64, 2) := zo_16 (b1 := 64) (zkb2 zk_cX12_ends zn_cX12_ends rfl) rfl
theorem dX12_ends_89 : decode cX12_ends 89 = .ok (.aload_n 0, 1) := zo_42 (zkb zk_cX12_ends zn_cX12_ends rfl)
theorem dX12_ends_90 : decode cX12_ends 90 = .ok (.bipush 10, 2) := zo_16 (b1 := 10) (zkb2 zk_cX12_ends zn_cX12_ends rfl) rfl
theorem dX12_ends_92 : decode cX12_ends 92 = .ok (.invokevirtual 413, 3) := zo_182 (b1 := 1) (b2 := 157) (zkb3 zk_cX12_ends zn_cX12_ends rfl) rfl
theorem dX12_ends_95 : decode cX12_ends 95 = .ok (.iastore, 1) := zo_79 (zkb zk_cX12_ends zn_cX12_ends rfl)
theorem dX12_ends_96 : decode cX12_ends 96 = .ok (.aload_n 0, 1) := zo_42 (zkb zk_cX12_ends zn_cX12_ends rfl)
theorem dX12_ends_97 : decode cX12_ends 97 = .ok (.getfield 22, 3) := zo_180 (b1 := 0) (b2 := 22) (zkb3 zk_cX12_ends zn_cX12_ends rfl) rfl
theorem dX12_ends_100 : decode cX12_ends 100 = .ok (.bipush 66, 2) := zo_16 (b1 := 66) (zkb2 zk_cX12_ends zn_cX12_ends rfl) rfl
theorem dX12_ends_102 : decode cX12_ends 102 = .ok (.dup2, 1) := zo_92 (zkb zk_cX12_ends zn_cX12_ends rfl)
theorem dX12_ends_103 : decode cX12_ends 103 = .ok (.iaload, 1) := zo_46 (zkb zk_cX12_ends zn_cX12_ends rfl)
theorem dX12_ends_104 : decode cX12_ends 104 = .ok (.iconst 1, 1) := zo_4 (zkb zk_cX12_ends zn_cX12_ends rfl)
theorem dX12_ends_105 : decode cX12_ends 105 = .ok (.iadd, 1) := zo_96 (zkb zk_cX12_ends zn_cX12_ends rfl)
theorem dX12_ends_106 : decode cX12_ends 106 = .ok (.iastore, 1) := zo_79 (zkb zk_cX12_ends zn_cX12_ends rfl)
theorem dX12_ends_107 : decode cX12_ends 107 = .ok (.aload_n 0, 1) := zo_42 (zkb zk_cX12_ends zn_cX12_ends rfl)
theorem dX12_ends_108 : decode cX12_ends 108 = .ok (.getfield 22, 3) := zo_180 (b1 := 0) (b2 := 22) (zkb3 zk_cX12_ends zn_cX12_ends rfl) rfl
theorem dX12_ends_111 : decode cX12_ends 111 = .ok (.bipush 66, 2) := zo_16 (b1 := 66) (zkb2 zk_cX12_ends zn_cX12_ends rfl) rfl
theorem dX12_ends_113 : decode cX12_ends 113 = .ok (.iaload, 1) := zo_46 (zkb zk_cX12_ends zn_cX12_ends rfl)
theorem dX12_ends_114 : decode cX12_ends 114 = .ok (.aload_n 0, 1) := zo_42 (zkb zk_cX12_ends zn_cX12_ends rfl)
theorem dX12_ends_115 : decode cX12_ends 115 = .ok (.getfield 99, 3) := zo_180 (b1 := 0) (b2 := 99) (zkb3 zk_cX12_ends zn_cX12_ends rfl) rfl
theorem dX12_ends_118 : decode cX12_ends 118 = .ok (.iconst 1, 1) := zo_4 (zkb zk_cX12_ends zn_cX12_ends rfl)
theorem dX12_ends_119 : decode cX12_ends 119 = .ok (.if_icmp .ne 9, 3) := zo_160 (b1 := 0) (b2 := 9) (zkb3 zk_cX12_ends zn_cX12_ends rfl) rfl
theorem dX12_ends_122 : decode cX12_ends 122 = .ok (.sipush 313, 3) := zo_17 (b1 := 1) (b2 := 57) (zkb3 zk_cX12_ends zn_cX12_ends rfl) rfl
theorem dX12_ends_125 : decode cX12_ends 125 = .ok (.goto 6, 3) := zo_167 (b1 := 0) (b2 := 6) (zkb3 zk_cX12_ends zn_cX12_ends rfl) rfl
theorem dX12_ends_128 : decode cX12_ends 128 = .ok (.sipush 262, 3) := zo_17 (b1 := 1) (b2 := 6) (zkb3 zk_cX12_ends zn_cX12_ends rfl) rfl
theorem dX12_ends_131 : decode cX12_ends 131 = .ok (.if_icmp .ne 38, 3) := zo_160 (b1 := 0) (b2 := 38) (zkb3 zk_cX12_ends zn_cX12_ends rfl) rfl
theorem dX12_ends_134 : decode cX12_ends 134 = .ok (.aload_n 0, 1) := zo_42 (zkb zk_cX12_ends zn_cX12_ends rfl)
theorem dX12_ends_135 : decode cX12_ends 135 = .ok (.getfield 22, 3) := zo_180 (b1 := 0) (b2 := 22) (zkb3 zk_cX12_ends zn_cX12_ends rfl) rfl
theorem dX12_ends_138 : decode cX12_ends 138 = .ok (.bipush 66, 2) := zo_16 (b1 := 66) (zkb2 zk_cX12_ends zn_cX12_ends rfl) rfl
theorem dX12_ends_140 : decode cX12_ends 140 = .ok (.iconst 0, 1) := zo_3 (zkb zk_cX12_ends zn_cX12_ends rfl)
theorem dX12_ends_141 : decode cX12_ends 141 = .ok (.iastore, 1) := zo_79 (zkb zk_cX12_ends zn_cX12_ends rfl)
theorem dX12_ends_142 : decode cX12_ends 142 = .ok (.aload_n 0, 1) := zo_42 (zkb zk_cX12_ends zn_cX12_ends rfl)
theorem dX12_ends_143 : decode cX12_ends 143 = .ok (.getfield 22, 3) := zo_180 (b1 := 0) (b2 := 22) (zkb3 zk_cX12_ends zn_cX12_ends rfl) rfl
theorem dX12_ends_146 : decode cX12_ends 146 = .ok (.bipush 65, 2) := zo_16 (b1 := 65) (zkb2 zk_cX12_ends zn_cX12_ends rfl) rfl
theorem dX12_ends_148 : decode cX12_ends 148 = .ok (.aload_n 0, 1) := zo_42 (zkb zk_cX12_ends zn_cX12_ends rfl)
theorem dX12_ends_149 : decode cX12_ends 149 = .ok (.bipush 9, 2) := zo_16 (b1 := 9) (zkb2 zk_cX12_ends zn_cX12_ends rfl) rfl
theorem dX12_ends_151 : decode cX12_ends 151 = .ok (.invokevirtual 413, 3) := zo_182 (b1 := 1) (b2 := 157) (zkb3 zk_cX12_ends zn_cX12_ends rfl) rfl
theorem dX12_ends_154 : decode cX12_ends 154 = .ok (.iastore, 1) := zo_79 (zkb zk_cX12_ends zn_cX12_ends rfl)
theorem dX12_ends_155 : decode cX12_ends 155 = .ok (.aload_n 0, 1) := zo_42 (zkb zk_cX12_ends zn_cX12_ends rfl)
theorem dX12_ends_156 : decode cX12_ends 156 = .ok (.getfield 26, 3) := zo_180 (b1 := 0) (b2 := 26) (zkb3 zk_cX12_ends zn_cX12_ends rfl) rfl
theorem dX12_ends_159 : decode cX12_ends 159 = .ok (.iconst 2, 1) := zo_5 (zkb zk_cX12_ends zn_cX12_ends rfl)
theorem dX12_ends_160 : decode cX12_ends 160 = .ok (.dup2, 1) := zo_92 (zkb zk_cX12_ends zn_cX12_ends rfl)
theorem dX12_ends_161 : decode cX12_ends 161 = .ok (.laload, 1) := zo_47 (zkb zk_cX12_ends zn_cX12_ends rfl)
theorem dX12_ends_162 : decode cX12_ends 162 = .ok (.lconst 1, 1) := zo_10 (zkb zk_cX12_ends zn_cX12_ends rfl)
theorem dX12_ends_163 : decode cX12_ends 163 = .ok (.ladd, 1) := zo_97 (zkb zk_cX12_ends zn_cX12_ends rfl)
theorem dX12_ends_164 : decode cX12_ends 164 = .ok (.lastore, 1) := zo_80 (zkb zk_cX12_ends zn_cX12_ends rfl)
theorem dX12_ends_165 : decode cX12_ends 165 = .ok (.aload_n 0, 1) := zo_42 (zkb zk_cX12_ends zn_cX12_ends rfl)
theorem dX12_ends_166 : decode cX12_ends 166 = .ok (.invokevirtual 416, 3) := zo_182 (b1 := 1) (b2 := 160) (zkb3 zk_cX12_ends zn_cX12_ends rfl) rfl
theorem dX12_ends_169 : decode cX12_ends 169 = .ok (.aload_n 0, 1) := zo_42 (zkb zk_cX12_ends zn_cX12_ends rfl)
theorem dX12_ends_170 : decode cX12_ends 170 = .ok (.getfield 22, 3) := zo_180 (b1 := 0) (b2 := 22) (zkb3 zk_cX12_ends zn_cX12_ends rfl) rfl
theorem dX12_ends_173 : decode cX12_ends 173 = .ok (.bipush 66, 2) := zo_16 (b1 := 66) (zkb2 zk_cX12_ends zn_cX12_ends rfl) rfl
theorem dX12_ends_175 : decode cX12_ends 175 = .ok (.iaload, 1) := zo_46 (zkb zk_cX12_ends zn_cX12_ends rfl)
theorem dX12_ends_176 : decode cX12_ends 176 = .ok (.iload_n 1, 1) := zo_27 (zkb zk_cX12_ends zn_cX12_ends rfl)
theorem dX12_ends_177 : decode cX12_ends 177 = .ok (.iconst 1, 1) := zo_4 (zkb zk_cX12_ends zn_cX12_ends rfl)
theorem dX12_ends_178 : decode cX12_ends 178 = .ok (.iadd, 1) := zo_96 (zkb zk_cX12_ends zn_cX12_ends rfl)
theorem dX12_ends_179 : decode cX12_ends 179 = .ok (.if_icmp .ne 16, 3) := zo_160 (b1 := 0) (b2 := 16) (zkb3 zk_cX12_ends zn_cX12_ends rfl) rfl
theorem dX12_ends_182 : decode cX12_ends 182 = .ok (.aload_n 0, 1) := zo_42 (zkb zk_cX12_ends zn_cX12_ends rfl)
theorem dX12_ends_183 : decode cX12_ends 183 = .ok (.getfield 22, 3) := zo_180 (b1 := 0) (b2 := 22) (zkb3 zk_cX12_ends zn_cX12_ends rfl) rfl
theorem dX12_ends_186 : decode cX12_ends 186 = .ok (.bipush 62, 2) := zo_16 (b1 := 62) (zkb2 zk_cX12_ends zn_cX12_ends rfl) rfl
theorem dX12_ends_188 : decode cX12_ends 188 = .ok (.dup2, 1) := zo_92 (zkb zk_cX12_ends zn_cX12_ends rfl)
theorem dX12_ends_189 : decode cX12_ends 189 = .ok (.iaload, 1) := zo_46 (zkb zk_cX12_ends zn_cX12_ends rfl)
theorem dX12_ends_190 : decode cX12_ends 190 = .ok (.sipush 128, 3) := zo_17 (b1 := 0) (b2 := 128) (zkb3 zk_cX12_ends zn_cX12_ends rfl) rfl
theorem dX12_ends_193 : decode cX12_ends 193 = .ok (.ior, 1) := zo_128 (zkb zk_cX12_ends zn_cX12_ends rfl)
theorem dX12_ends_194 : decode cX12_ends 194 = .ok (.iastore, 1) := zo_79 (zkb zk_cX12_ends zn_cX12_ends rfl)
theorem dX12_ends_195 : decode cX12_ends 195 = .ok (.return_, 1) := zo_177 (zkb zk_cX12_ends zn_cX12_ends rfl)
noncomputable def kn_cX12_draws : Nat := 0xb1e0ffa70103844faf01b62e1d5300b42a2a601d681b0001112c00b42a1f00a20001111d3e03e1ffa70103844f2e1d5a00b42a1d5300b42a0f009e2e1d5a00b42a1e00a20001111d3e03ac01b61b2a08009f048e01b62addffa70103844f04150500a71c07009a04151d5300b42a0436a901b61d1b2a2200a20001111d3e035c00a0048b01b60610042a6700a7e6ffa70103844f1c1d5300b42a1000a0048b01b608032a1a00a208101d3e03d8ffa70103844f2e1d5a00b42a1d5300b42a0f009a331d5600b42a18009e2e1d5a00b42a2700a20001111d3e03a601b61b2af0ffa7010384a301b61d1b2a0f00a20001111d3e036c00a0078e01b62a7400a0048b01b60610042adaffa701038454031d5d00b42a4f031d5a00b42a54031d5600b42a4f1c1d5300b42a2500a20001111d3e033d7010109d01b607102a0c00a7607010109d01b607102a10101200a0078e01b62a
theorem zk_cX12_draws : zkd cX12_draws.data.toList kn_cX12_draws = true := by decide +kernel
theorem zn_cX12_draws : cX12_draws.data.toList.length = 338 := by decide +kernel
theorem dX12_draws_0 : decode cX12_draws 0 = .ok (.aload_n 0, 1) := zo_42 (zkb zk_cX12_draws zn_cX12_draws rfl)
theorem dX12_draws_1 : decode cX12_draws 1 = .ok (.invokevirtual 398, 3) := zo_182 (b1 := 1) (b2 := 142) (zkb3 zk_cX12_draws zn_cX12_draws rfl) rfl
theorem dX12_draws_4 : decode cX12_draws 4 = .ok (.iconst 4, 1) := zo_7 (zkb zk_cX12_draws zn_cX12_draws rfl)
theorem dX12_draws_5 : decode cX12_draws 5 = .ok (.if_icmp .ne 18, 3) := zo_160 (b1 := 0) (b2 := 18) (zkb3 zk_cX12_draws zn_cX12_draws rfl) rfl
theorem dX12_draws_8 : decode cX12_draws 8 = .ok (.bipush 16, 2) := zo_16 (b1 := 16) (zkb2 zk_cX12_draws zn_cX12_draws rfl) rfl
theorem dX12_draws_10 : decode cX12_draws 10 = .ok (.aload_n 0, 1) := zo_42 (zkb zk_cX12_draws zn_cX12_draws rfl)
theorem dX12_draws_11 : decode cX12_draws 11 = .ok (.bipush 7, 2) := zo_16 (b1 := 7) (zkb2 zk_cX12_draws zn_cX12_draws rfl) rfl
theorem dX12_draws_13 : decode cX12_draws 13 = .ok (.invokevirtual 413, 3) := zo_182 (b1 := 1) (b2 := 157) (zkb3 zk_cX12_draws zn_cX12_draws rfl) rfl
theorem dX12_draws_16 : decode cX12_draws 16 = .ok (.bipush 16, 2) := zo_16 (b1 := 16) (zkb2 zk_cX12_draws zn_cX12_draws rfl) rfl
theorem dX12_draws_18 : decode cX12_draws 18 = .ok (.irem, 1) := zo_112 (zkb zk_cX12_draws zn_cX12_draws rfl)
theorem dX12_draws_19 : decode cX12_draws 19 = .ok (.iadd, 1) := zo_96 (zkb zk_cX12_draws zn_cX12_draws rfl)
theorem dX12_draws_20 : decode cX12_draws 20 = .ok (.goto 12, 3) := zo_167 (b1 := 0) (b2 := 12) (zkb3 zk_cX12_draws zn_cX12_draws rfl) rfl
theorem dX12_draws_23 : decode cX12_draws 23 = .ok (.aload_n 0, 1) := zo_42 (zkb zk_cX12_draws zn_cX12_draws rfl)
theorem dX12_draws_24 : decode cX12_draws 24 = .ok (.bipush 7, 2) := zo_16 (b1 := 7) (zkb2 zk_cX12_draws zn_cX12_draws rfl) rfl
theorem dX12_draws_26 : decode cX12_draws 26 = .ok (.invokevirtual 413, 3) := zo_182 (b1 := 1) (b2 := 157) (zkb3 zk_cX12_draws zn_cX12_draws rfl) rfl
theorem dX12_draws_29 : decode cX12_draws 29 = .ok (.bipush 16, 2) := zo_16 (b1 := 16) (zkb2 zk_cX12_draws zn_cX12_draws rfl) rfl
theorem dX12_draws_31 : decode cX12_draws 31 = .ok (.irem, 1) := zo_112 (zkb zk_cX12_draws zn_cX12_draws rfl)
theorem dX12_draws_32 : decode cX12_draws 32 = .ok (.istore_n 2, 1) := zo_61 (zkb zk_cX12_draws zn_cX12_draws rfl)
theorem dX12_draws_33 : decode cX12_draws 33 = .ok (.iconst 0, 1) := zo_3 (zkb zk_cX12_draws zn_cX12_draws rfl)
theorem dX12_draws_34 : decode cX12_draws 34 = .ok (.istore_n 3, 1) := zo_62 (zkb zk_cX12_draws zn_cX12_draws rfl)
theorem dX12_draws_35 : decode cX12_draws 35 = .ok (.iload_n 3, 1) := zo_29 (zkb zk_cX12_draws zn_cX12_draws rfl)
theorem dX12_draws_36 : decode cX12_draws 36 = .ok (.sipush 256, 3) := zo_17 (b1 := 1) (b2 := 0) (zkb3 zk_cX12_draws zn_cX12_draws rfl) rfl
theorem dX12_draws_39 : decode cX12_draws 39 = .ok (.if_icmp .ge 37, 3) := zo_162 (b1 := 0) (b2 := 37) (zkb3 zk_cX12_draws zn_cX12_draws rfl) rfl
theorem dX12_draws_42 : decode cX12_draws 42 = .ok (.aload_n 0, 1) := zo_42 (zkb zk_cX12_draws zn_cX12_draws rfl)
theorem dX12_draws_43 : decode cX12_draws 43 = .ok (.getfield 83, 3) := zo_180 (b1 := 0) (b2 := 83) (zkb3 zk_cX12_draws zn_cX12_draws rfl) rfl
theorem dX12_draws_46 : decode cX12_draws 46 = .ok (.iload_n 3, 1) := zo_29 (zkb zk_cX12_draws zn_cX12_draws rfl)
theorem dX12_draws_47 : decode cX12_draws 47 = .ok (.iload_n 2, 1) := zo_28 (zkb zk_cX12_draws zn_cX12_draws rfl)
theorem dX12_draws_48 : decode cX12_draws 48 = .ok (.iastore, 1) := zo_79 (zkb zk_cX12_draws zn_cX12_draws rfl)
theorem dX12_draws_49 : decode cX12_draws 49 = .ok (.aload_n 0, 1) := zo_42 (zkb zk_cX12_draws zn_cX12_draws rfl)
theorem dX12_draws_50 : decode cX12_draws 50 = .ok (.getfield 86, 3) := zo_180 (b1 := 0) (b2 := 86) (zkb3 zk_cX12_draws zn_cX12_draws rfl) rfl
theorem dX12_draws_53 : decode cX12_draws 53 = .ok (.iload_n 3, 1) := zo_29 (zkb zk_cX12_draws zn_cX12_draws rfl)
theorem dX12_draws_54 : decode cX12_draws 54 = .ok (.iconst 0, 1) := zo_3 (zkb zk_cX12_draws zn_cX12_draws rfl)
theorem dX12_draws_55 : decode cX12_draws 55 = .ok (.bastore, 1) := zo_84 (zkb zk_cX12_draws zn_cX12_draws rfl)
theorem dX12_draws_56 : decode cX12_draws 56 = .ok (.aload_n 0, 1) := zo_42 (zkb zk_cX12_draws zn_cX12_draws rfl)
theorem dX12_draws_57 : decode cX12_draws 57 = .ok (.getfield 90, 3) := zo_180 (b1 := 0) (b2 := 90) (zkb3 zk_cX12_draws zn_cX12_draws rfl) rfl
theorem dX12_draws_60 : decode cX12_draws 60 = .ok (.iload_n 3, 1) := zo_29 (zkb zk_cX12_draws zn_cX12_draws rfl)
theorem dX12_draws_61 : decode cX12_draws 61 = .ok (.iconst 0, 1) := zo_3 (zkb zk_cX12_draws zn_cX12_draws rfl)
theorem dX12_draws_62 : decode cX12_draws 62 = .ok (.iastore, 1) := zo_79 (zkb zk_cX12_draws zn_cX12_draws rfl)
theorem dX12_draws_63 : decode cX12_draws 63 = .ok (.aload_n 0, 1) := zo_42 (zkb zk_cX12_draws zn_cX12_draws rfl)
theorem dX12_draws_64 : decode cX12_draws 64 = .ok (.getfield 93, 3) := zo_180 (b1 := 0) (b2 := 93) (zkb3 zk_cX12_draws zn_cX12_draws rfl) rfl
theorem dX12_draws_67 : decode cX12_draws 67 = .ok (.iload_n 3, 1) := zo_29 (zkb zk_cX12_draws zn_cX12_draws rfl)
theorem dX12_draws_68 : decode cX12_draws 68 = .ok (.iconst 0, 1) := zo_3 (zkb zk_cX12_draws zn_cX12_draws rfl)
theorem dX12_draws_69 : decode cX12_draws 69 = .ok (.bastore, 1) := zo_84 (zkb zk_cX12_draws zn_cX12_draws rfl)
theorem dX12_draws_70 : decode cX12_draws 70 = .ok (.iinc 3 1, 3) := zo_132 (b1 := 3) (b2 := 1) (zkb3 zk_cX12_draws zn_cX12_draws rfl) rfl
theorem dX12_draws_73 : decode cX12_draws 73 = .ok (.goto (-38), 3) := zo_167 (b1 := 255) (b2 := 218) (zkb3 zk_cX12_draws zn_cX12_draws rfl) rfl
theorem dX12_draws_76 : decode cX12_draws 76 = .ok (.aload_n 0, 1) := zo_42 (zkb zk_cX12_draws zn_cX12_draws rfl)
theorem dX12_draws_77 : decode cX12_draws 77 = .ok (.iconst 1, 1) := zo_4 (zkb zk_cX12_draws zn_cX12_draws rfl)
theorem dX12_draws_78 : decode cX12_draws 78 = .ok (.bipush 6, 2) := zo_16 (b1 := 6) (zkb2 zk_cX12_draws zn_cX12_draws rfl) rfl
theorem dX12_draws_80 : decode cX12_draws 80 = .ok (.invokevirtual 395, 3) := zo_182 (b1 := 1) (b2 := 139) (zkb3 zk_cX12_draws zn_cX12_draws rfl) rfl
theorem dX12_draws_83 : decode cX12_draws 83 = .ok (.iconst 1, 1) := zo_4 (zkb zk_cX12_draws zn_cX12_draws rfl)
theorem dX12_draws_84 : decode cX12_draws 84 = .ok (.if_icmp .ne 116, 3) := zo_160 (b1 := 0) (b2 := 116) (zkb3 zk_cX12_draws zn_cX12_draws rfl) rfl
theorem dX12_draws_87 : decode cX12_draws 87 = .ok (.aload_n 0, 1) := zo_42 (zkb zk_cX12_draws zn_cX12_draws rfl)
theorem dX12_draws_88 : decode cX12_draws 88 = .ok (.invokevirtual 398, 3) := zo_182 (b1 := 1) (b2 := 142) (zkb3 zk_cX12_draws zn_cX12_draws rfl) rfl
theorem dX12_draws_91 : decode cX12_draws 91 = .ok (.iconst 4, 1) := zo_7 (zkb zk_cX12_draws zn_cX12_draws rfl)
theorem dX12_draws_92 : decode cX12_draws 92 = .ok (.if_icmp .ne 108, 3) := zo_160 (b1 := 0) (b2 := 108) (zkb3 zk_cX12_draws zn_cX12_draws rfl) rfl
theorem dX12_draws_95 : decode cX12_draws 95 = .ok (.iconst 0, 1) := zo_3 (zkb zk_cX12_draws zn_cX12_draws rfl)
theorem dX12_draws_96 : decode cX12_draws 96 = .ok (.istore_n 3, 1) := zo_62 (zkb zk_cX12_draws zn_cX12_draws rfl)
theorem dX12_draws_97 : decode cX12_draws 97 = .ok (.iload_n 3, 1) := zo_29 (zkb zk_cX12_draws zn_cX12_draws rfl)
theorem dX12_draws_98 : decode cX12_draws 98 = .ok (.sipush 256, 3) := zo_17 (b1 := 1) (b2 := 0) (zkb3 zk_cX12_draws zn_cX12_draws rfl) rfl
theorem dX12_draws_101 : decode cX12_draws 101 = .ok (.if_icmp .ge 15, 3) := zo_162 (b1 := 0) (b2 := 15) (zkb3 zk_cX12_draws zn_cX12_draws rfl) rfl
theorem dX12_draws_104 : decode cX12_draws 104 = .ok (.aload_n 0, 1) := zo_42 (zkb zk_cX12_draws zn_cX12_draws rfl)
theorem dX12_draws_105 : decode cX12_draws 105 = .ok (.iload_n 1, 1) := zo_27 (zkb zk_cX12_draws zn_cX12_draws rfl)
theorem dX12_draws_106 : decode cX12_draws 106 = .ok (.iload_n 3, 1) := zo_29 (zkb zk_cX12_draws zn_cX12_draws rfl)
theorem dX12_draws_107 : decode cX12_draws 107 = .ok (.invokevirtual 419, 3) := zo_182 (b1 := 1) (b2 := 163) (zkb3 zk_cX12_draws zn_cX12_draws rfl) rfl
theorem dX12_draws_110 : decode cX12_draws 110 = .ok (.iinc 3 1, 3) := zo_132 (b1 := 3) (b2 := 1) (zkb3 zk_cX12_draws zn_cX12_draws rfl) rfl
theorem dX12_draws_113 : decode cX12_draws 113 = .ok (.goto (-16), 3) := zo_167 (b1 := 255) (b2 := 240) (zkb3 zk_cX12_draws zn_cX12_draws rfl) rfl
theorem dX12_draws_116 : decode cX12_draws 116 = .ok (.aload_n 0, 1) := zo_42 (zkb zk_cX12_draws zn_cX12_draws rfl)
theorem dX12_draws_117 : decode cX12_draws 117 = .ok (.iload_n 1, 1) := zo_27 (zkb zk_cX12_draws zn_cX12_draws rfl)
theorem dX12_draws_118 : decode cX12_draws 118 = .ok (.invokevirtual 422, 3) := zo_182 (b1 := 1) (b2 := 166) (zkb3 zk_cX12_draws zn_cX12_draws rfl) rfl
theorem dX12_draws_121 : decode cX12_draws 121 = .ok (.iconst 0, 1) := zo_3 (zkb zk_cX12_draws zn_cX12_draws rfl)
theorem dX12_draws_122 : decode cX12_draws 122 = .ok (.istore_n 3, 1) := zo_62 (zkb zk_cX12_draws zn_cX12_draws rfl)
theorem dX12_draws_123 : decode cX12_draws 123 = .ok (.iload_n 3, 1) := zo_29 (zkb zk_cX12_draws zn_cX12_draws rfl)
theorem dX12_draws_124 : decode cX12_draws 124 = .ok (.sipush 256, 3) := zo_17 (b1 := 1) (b2 := 0) (zkb3 zk_cX12_draws zn_cX12_draws rfl) rfl
theorem dX12_draws_127 : decode cX12_draws 127 = .ok (.if_icmp .ge 39, 3) := zo_162 (b1 := 0) (b2 := 39) (zkb3 zk_cX12_draws zn_cX12_draws rfl) rfl
theorem dX12_draws_130 : decode cX12_draws 130 = .ok (.aload_n 0, 1) := zo_42 (zkb zk_cX12_draws zn_cX12_draws rfl)
theorem dX12_draws_131 : decode cX12_draws 131 = .ok (.getfield 90, 3) := zo_180 (b1 := 0) (b2 := 90) (zkb3 zk_cX12_draws zn_cX12_draws rfl) rfl
theorem dX12_draws_134 : decode cX12_draws 134 = .ok (.iload_n 3, 1) := zo_29 (zkb zk_cX12_draws zn_cX12_draws rfl)
theorem dX12_draws_135 : decode cX12_draws 135 = .ok (.iaload, 1) := zo_46 (zkb zk_cX12_draws zn_cX12_draws rfl)
theorem dX12_draws_136 : decode cX12_draws 136 = .ok (.ifCond .le 24, 3) := zo_158 (b1 := 0) (b2 := 24) (zkb3 zk_cX12_draws zn_cX12_draws rfl) rfl
theorem dX12_draws_139 : decode cX12_draws 139 = .ok (.aload_n 0, 1) := zo_42 (zkb zk_cX12_draws zn_cX12_draws rfl)
theorem dX12_draws_140 : decode cX12_draws 140 = .ok (.getfield 86, 3) := zo_180 (b1 := 0) (b2 := 86) (zkb3 zk_cX12_draws zn_cX12_draws rfl) rfl
theorem dX12_draws_143 : decode cX12_draws 143 = .ok (.iload_n 3, 1) := zo_29 (zkb zk_cX12_draws zn_cX12_draws rfl)
theorem dX12_draws_144 : decode cX12_draws 144 = .ok (.baload, 1) := zo_51 (zkb zk_cX12_draws zn_cX12_draws rfl)
theorem dX12_draws_145 : decode cX12_draws 145 = .ok (.ifCond .ne 15, 3) := zo_154 (b1 := 0) (b2 := 15) (zkb3 zk_cX12_draws zn_cX12_draws rfl) rfl
theorem dX12_draws_148 : decode cX12_draws 148 = .ok (.aload_n 0, 1) := zo_42 (zkb zk_cX12_draws zn_cX12_draws rfl)
theorem dX12_draws_149 : decode cX12_draws 149 = .ok (.getfield 83, 3) := zo_180 (b1 := 0) (b2 := 83) (zkb3 zk_cX12_draws zn_cX12_draws rfl) rfl
theorem dX12_draws_152 : decode cX12_draws 152 = .ok (.iload_n 3, 1) := zo_29 (zkb zk_cX12_draws zn_cX12_draws rfl)
theorem dX12_draws_153 : decode cX12_draws 153 = .ok (.aload_n 0, 1) := zo_42 (zkb zk_cX12_draws zn_cX12_draws rfl)
theorem dX12_draws_154 : decode cX12_draws 154 = .ok (.getfield 90, 3) := zo_180 (b1 := 0) (b2 := 90) (zkb3 zk_cX12_draws zn_cX12_draws rfl) rfl
theorem dX12_draws_157 : decode cX12_draws 157 = .ok (.iload_n 3, 1) := zo_29 (zkb zk_cX12_draws zn_cX12_draws rfl)
theorem dX12_draws_158 : decode cX12_draws 158 = .ok (.iaload, 1) := zo_46 (zkb zk_cX12_draws zn_cX12_draws rfl)
theorem dX12_draws_159 : decode cX12_draws 159 = .ok (.iastore, 1) := zo_79 (zkb zk_cX12_draws zn_cX12_draws rfl)
theorem dX12_draws_160 : decode cX12_draws 160 = .ok (.iinc 3 1, 3) := zo_132 (b1 := 3) (b2 := 1) (zkb3 zk_cX12_draws zn_cX12_draws rfl) rfl
theorem dX12_draws_163 : decode cX12_draws 163 = .ok (.goto (-40), 3) := zo_167 (b1 := 255) (b2 := 216) (zkb3 zk_cX12_draws zn_cX12_draws rfl) rfl
theorem dX12_draws_166 : decode cX12_draws 166 = .ok (.iconst 0, 1) := zo_3 (zkb zk_cX12_draws zn_cX12_draws rfl)
theorem dX12_draws_167 : decode cX12_draws 167 = .ok (.istore_n 3, 1) := zo_62 (zkb zk_cX12_draws zn_cX12_draws rfl)
theorem dX12_draws_168 : decode cX12_draws 168 = .ok (.iload_n 3, 1) := zo_29 (zkb zk_cX12_draws zn_cX12_draws rfl)
theorem dX12_draws_169 : decode cX12_draws 169 = .ok (.bipush 8, 2) := zo_16 (b1 := 8) (zkb2 zk_cX12_draws zn_cX12_draws rfl) rfl
theorem dX12_draws_171 : decode cX12_draws 171 = .ok (.if_icmp .ge 26, 3) := zo_162 (b1 := 0) (b2 := 26) (zkb3 zk_cX12_draws zn_cX12_draws rfl) rfl
theorem dX12_draws_174 : decode cX12_draws 174 = .ok (.aload_n 0, 1) := zo_42 (zkb zk_cX12_draws zn_cX12_draws rfl)
theorem dX12_draws_175 : decode cX12_draws 175 = .ok (.iconst 0, 1) := zo_3 (zkb zk_cX12_draws zn_cX12_draws rfl)
theorem dX12_draws_176 : decode cX12_draws 176 = .ok (.iconst 5, 1) := zo_8 (zkb zk_cX12_draws zn_cX12_draws rfl)
theorem dX12_draws_177 : decode cX12_draws 177 = .ok (.invokevirtual 395, 3) := zo_182 (b1 := 1) (b2 := 139) (zkb3 zk_cX12_draws zn_cX12_draws rfl) rfl
theorem dX12_draws_180 : decode cX12_draws 180 = .ok (.iconst 1, 1) := zo_4 (zkb zk_cX12_draws zn_cX12_draws rfl)
theorem dX12_draws_181 : decode cX12_draws 181 = .ok (.if_icmp .ne 16, 3) := zo_160 (b1 := 0) (b2 := 16) (zkb3 zk_cX12_draws zn_cX12_draws rfl) rfl
theorem dX12_draws_184 : decode cX12_draws 184 = .ok (.aload_n 0, 1) := zo_42 (zkb zk_cX12_draws zn_cX12_draws rfl)
theorem dX12_draws_185 : decode cX12_draws 185 = .ok (.getfield 83, 3) := zo_180 (b1 := 0) (b2 := 83) (zkb3 zk_cX12_draws zn_cX12_draws rfl) rfl
theorem dX12_draws_188 : decode cX12_draws 188 = .ok (.iload_n 3, 1) := zo_29 (zkb zk_cX12_draws zn_cX12_draws rfl)
theorem dX12_draws_189 : decode cX12_draws 189 = .ok (.iload_n 2, 1) := zo_28 (zkb zk_cX12_draws zn_cX12_draws rfl)
theorem dX12_draws_190 : decode cX12_draws 190 = .ok (.iastore, 1) := zo_79 (zkb zk_cX12_draws zn_cX12_draws rfl)
theorem dX12_draws_191 : decode cX12_draws 191 = .ok (.iinc 3 1, 3) := zo_132 (b1 := 3) (b2 := 1) (zkb3 zk_cX12_draws zn_cX12_draws rfl) rfl
theorem dX12_draws_194 : decode cX12_draws 194 = .ok (.goto (-26), 3) := zo_167 (b1 := 255) (b2 := 230) (zkb3 zk_cX12_draws zn_cX12_draws rfl) rfl
theorem dX12_draws_197 : decode cX12_draws 197 = .ok (.goto 103, 3) := zo_167 (b1 := 0) (b2 := 103) (zkb3 zk_cX12_draws zn_cX12_draws rfl) rfl
theorem dX12_draws_200 : decode cX12_draws 200 = .ok (.aload_n 0, 1) := zo_42 (zkb zk_cX12_draws zn_cX12_draws rfl)
theorem dX12_draws_201 : decode cX12_draws 201 = .ok (.iconst 1, 1) := zo_4 (zkb zk_cX12_draws zn_cX12_draws rfl)
theorem dX12_draws_202 : decode cX12_draws 202 = .ok (.bipush 6, 2) := zo_16 (b1 := 6) (zkb2 zk_cX12_draws zn_cX12_draws rfl) rfl
theorem dX12_draws_204 : decode cX12_draws 204 = .ok (.invokevirtual 395, 3) := zo_182 (b1 := 1) (b2 := 139) (zkb3 zk_cX12_draws zn_cX12_draws rfl) rfl
theorem dX12_draws_207 : decode cX12_draws 207 = .ok (.iconst 1, 1) := zo_4 (zkb zk_cX12_draws zn_cX12_draws rfl)
theorem dX12_draws_208 : decode cX12_draws 208 = .ok (.if_icmp .ne 92, 3) := zo_160 (b1 := 0) (b2 := 92) (zkb3 zk_cX12_draws zn_cX12_draws rfl) rfl
theorem dX12_draws_211 : decode cX12_draws 211 = .ok (.iconst 0, 1) := zo_3 (zkb zk_cX12_draws zn_cX12_draws rfl)
theorem dX12_draws_212 : decode cX12_draws 212 = .ok (.istore_n 3, 1) := zo_62 (zkb zk_cX12_draws zn_cX12_draws rfl)
theorem dX12_draws_213 : decode cX12_draws 213 = .ok (.iload_n 3, 1) := zo_29 (zkb zk_cX12_draws zn_cX12_draws rfl)
theorem dX12_draws_214 : decode cX12_draws 214 = .ok (.sipush 256, 3) := zo_17 (b1 := 1) (b2 := 0) (zkb3 zk_cX12_draws zn_cX12_draws rfl) rfl
theorem dX12_draws_217 : decode cX12_draws 217 = .ok (.if_icmp .ge 34, 3) := zo_162 (b1 := 0) (b2 := 34) (zkb3 zk_cX12_draws zn_cX12_draws rfl) rfl
theorem dX12_draws_220 : decode cX12_draws 220 = .ok (.aload_n 0, 1) := zo_42 (zkb zk_cX12_draws zn_cX12_draws rfl)
theorem dX12_draws_221 : decode cX12_draws 221 = .ok (.iload_n 1, 1) := zo_27 (zkb zk_cX12_draws zn_cX12_draws rfl)
theorem dX12_draws_222 : decode cX12_draws 222 = .ok (.iload_n 3, 1) := zo_29 (zkb zk_cX12_draws zn_cX12_draws rfl)
theorem dX12_draws_223 : decode cX12_draws 223 = .ok (.invokevirtual 425, 3) := zo_182 (b1 := 1) (b2 := 169) (zkb3 zk_cX12_draws zn_cX12_draws rfl) rfl
theorem dX12_draws_226 : decode cX12_draws 226 = .ok (.istore 4, 2) := zo_54 (b1 := 4) (zkb2 zk_cX12_draws zn_cX12_draws rfl)
theorem dX12_draws_228 : decode cX12_draws 228 = .ok (.aload_n 0, 1) := zo_42 (zkb zk_cX12_draws zn_cX12_draws rfl)
theorem dX12_draws_229 : decode cX12_draws 229 = .ok (.getfield 83, 3) := zo_180 (b1 := 0) (b2 := 83) (zkb3 zk_cX12_draws zn_cX12_draws rfl) rfl
theorem dX12_draws_232 : decode cX12_draws 232 = .ok (.iload_n 3, 1) := zo_29 (zkb zk_cX12_draws zn_cX12_draws rfl)
theorem dX12_draws_233 : decode cX12_draws 233 = .ok (.iload 4, 2) := zo_21 (b1 := 4) (zkb2 zk_cX12_draws zn_cX12_draws rfl)
theorem dX12_draws_235 : decode cX12_draws 235 = .ok (.ifCond .ne 7, 3) := zo_154 (b1 := 0) (b2 := 7) (zkb3 zk_cX12_draws zn_cX12_draws rfl) rfl
theorem dX12_draws_238 : decode cX12_draws 238 = .ok (.iload_n 2, 1) := zo_28 (zkb zk_cX12_draws zn_cX12_draws rfl)
theorem dX12_draws_239 : decode cX12_draws 239 = .ok (.goto 5, 3) := zo_167 (b1 := 0) (b2 := 5) (zkb3 zk_cX12_draws zn_cX12_draws rfl) rfl
theorem dX12_draws_242 : decode cX12_draws 242 = .ok (.iload 4, 2) := zo_21 (b1 := 4) (zkb2 zk_cX12_draws zn_cX12_draws rfl)
theorem dX12_draws_244 : decode cX12_draws 244 = .ok (.iastore, 1) := zo_79 (zkb zk_cX12_draws zn_cX12_draws rfl)
theorem dX12_draws_245 : decode cX12_draws 245 = .ok (.iinc 3 1, 3) := zo_132 (b1 := 3) (b2 := 1) (zkb3 zk_cX12_draws zn_cX12_draws rfl) rfl
theorem dX12_draws_248 : decode cX12_draws 248 = .ok (.goto (-35), 3) := zo_167 (b1 := 255) (b2 := 221) (zkb3 zk_cX12_draws zn_cX12_draws rfl) rfl
theorem dX12_draws_251 : decode cX12_draws 251 = .ok (.aload_n 0, 1) := zo_42 (zkb zk_cX12_draws zn_cX12_draws rfl)
theorem dX12_draws_252 : decode cX12_draws 252 = .ok (.invokevirtual 398, 3) := zo_182 (b1 := 1) (b2 := 142) (zkb3 zk_cX12_draws zn_cX12_draws rfl) rfl
theorem dX12_draws_255 : decode cX12_draws 255 = .ok (.iconst 1, 1) := zo_4 (zkb zk_cX12_draws zn_cX12_draws rfl)
theorem dX12_draws_256 : decode cX12_draws 256 = .ok (.if_icmp .eq 8, 3) := zo_159 (b1 := 0) (b2 := 8) (zkb3 zk_cX12_draws zn_cX12_draws rfl) rfl
theorem dX12_draws_259 : decode cX12_draws 259 = .ok (.aload_n 0, 1) := zo_42 (zkb zk_cX12_draws zn_cX12_draws rfl)
theorem dX12_draws_260 : decode cX12_draws 260 = .ok (.iload_n 1, 1) := zo_27 (zkb zk_cX12_draws zn_cX12_draws rfl)
theorem dX12_draws_261 : decode cX12_draws 261 = .ok (.invokevirtual 428, 3) := zo_182 (b1 := 1) (b2 := 172) (zkb3 zk_cX12_draws zn_cX12_draws rfl) rfl
theorem dX12_draws_264 : decode cX12_draws 264 = .ok (.iconst 0, 1) := zo_3 (zkb zk_cX12_draws zn_cX12_draws rfl)
theorem dX12_draws_265 : decode cX12_draws 265 = .ok (.istore_n 3, 1) := zo_62 (zkb zk_cX12_draws zn_cX12_draws rfl)
theorem dX12_draws_266 : decode cX12_draws 266 = .ok (.iload_n 3, 1) := zo_29 (zkb zk_cX12_draws zn_cX12_draws rfl)
theorem dX12_draws_267 : decode cX12_draws 267 = .ok (.sipush 256, 3) := zo_17 (b1 := 1) (b2 := 0) (zkb3 zk_cX12_draws zn_cX12_draws rfl) rfl
theorem dX12_draws_270 : decode cX12_draws 270 = .ok (.if_icmp .ge 30, 3) := zo_162 (b1 := 0) (b2 := 30) (zkb3 zk_cX12_draws zn_cX12_draws rfl) rfl
theorem dX12_draws_273 : decode cX12_draws 273 = .ok (.aload_n 0, 1) := zo_42 (zkb zk_cX12_draws zn_cX12_draws rfl)
theorem dX12_draws_274 : decode cX12_draws 274 = .ok (.getfield 90, 3) := zo_180 (b1 := 0) (b2 := 90) (zkb3 zk_cX12_draws zn_cX12_draws rfl) rfl
theorem dX12_draws_277 : decode cX12_draws 277 = .ok (.iload_n 3, 1) := zo_29 (zkb zk_cX12_draws zn_cX12_draws rfl)
theorem dX12_draws_278 : decode cX12_draws 278 = .ok (.iaload, 1) := zo_46 (zkb zk_cX12_draws zn_cX12_draws rfl)
theorem dX12_draws_279 : decode cX12_draws 279 = .ok (.ifCond .le 15, 3) := zo_158 (b1 := 0) (b2 := 15) (zkb3 zk_cX12_draws zn_cX12_draws rfl) rfl
theorem dX12_draws_282 : decode cX12_draws 282 = .ok (.aload_n 0, 1) := zo_42 (zkb zk_cX12_draws zn_cX12_draws rfl)
theorem dX12_draws_283 : decode cX12_draws 283 = .ok (.getfield 83, 3) := zo_180 (b1 := 0) (b2 := 83) (zkb3 zk_cX12_draws zn_cX12_draws rfl) rfl
theorem dX12_draws_286 : decode cX12_draws 286 = .ok (.iload_n 3, 1) := zo_29 (zkb zk_cX12_draws zn_cX12_draws rfl)
theorem dX12_draws_287 : decode cX12_draws 287 = .ok (.aload_n 0, 1) := zo_42 (zkb zk_cX12_draws zn_cX12_draws rfl)
theorem dX12_draws_288 : decode cX12_draws 288 = .ok (.getfield 90, 3) := zo_180 (b1 := 0) (b2 := 90) (zkb3 zk_cX12_draws zn_cX12_draws rfl) rfl
theorem dX12_draws_291 : decode cX12_draws 291 = .ok (.iload_n 3, 1) := zo_29 (zkb zk_cX12_draws zn_cX12_draws rfl)
theorem dX12_draws_292 : decode cX12_draws 292 = .ok (.iaload, 1) := zo_46 (zkb zk_cX12_draws zn_cX12_draws rfl)
theorem dX12_draws_293 : decode cX12_draws 293 = .ok (.iastore, 1) := zo_79 (zkb zk_cX12_draws zn_cX12_draws rfl)
theorem dX12_draws_294 : decode cX12_draws 294 = .ok (.iinc 3 1, 3) := zo_132 (b1 := 3) (b2 := 1) (zkb3 zk_cX12_draws zn_cX12_draws rfl) rfl
theorem dX12_draws_297 : decode cX12_draws 297 = .ok (.goto (-31), 3) := zo_167 (b1 := 255) (b2 := 225) (zkb3 zk_cX12_draws zn_cX12_draws rfl) rfl
theorem dX12_draws_300 : decode cX12_draws 300 = .ok (.iconst 0, 1) := zo_3 (zkb zk_cX12_draws zn_cX12_draws rfl)
theorem dX12_draws_301 : decode cX12_draws 301 = .ok (.istore_n 3, 1) := zo_62 (zkb zk_cX12_draws zn_cX12_draws rfl)
theorem dX12_draws_302 : decode cX12_draws 302 = .ok (.iload_n 3, 1) := zo_29 (zkb zk_cX12_draws zn_cX12_draws rfl)
theorem dX12_draws_303 : decode cX12_draws 303 = .ok (.sipush 256, 3) := zo_17 (b1 := 1) (b2 := 0) (zkb3 zk_cX12_draws zn_cX12_draws rfl) rfl
theorem dX12_draws_306 : decode cX12_draws 306 = .ok (.if_icmp .ge 31, 3) := zo_162 (b1 := 0) (b2 := 31) (zkb3 zk_cX12_draws zn_cX12_draws rfl) rfl
theorem dX12_draws_309 : decode cX12_draws 309 = .ok (.aload_n 0, 1) := zo_42 (zkb zk_cX12_draws zn_cX12_draws rfl)
theorem dX12_draws_310 : decode cX12_draws 310 = .ok (.getfield 44, 3) := zo_180 (b1 := 0) (b2 := 44) (zkb3 zk_cX12_draws zn_cX12_draws rfl) rfl
theorem dX12_draws_313 : decode cX12_draws 313 = .ok (.sipush 256, 3) := zo_17 (b1 := 1) (b2 := 0) (zkb3 zk_cX12_draws zn_cX12_draws rfl) rfl
theorem dX12_draws_316 : decode cX12_draws 316 = .ok (.iload_n 1, 1) := zo_27 (zkb zk_cX12_draws zn_cX12_draws rfl)
theorem dX12_draws_317 : decode cX12_draws 317 = .ok (.imul, 1) := zo_104 (zkb zk_cX12_draws zn_cX12_draws rfl)
theorem dX12_draws_318 : decode cX12_draws 318 = .ok (.iload_n 3, 1) := zo_29 (zkb zk_cX12_draws zn_cX12_draws rfl)
theorem dX12_draws_319 : decode cX12_draws 319 = .ok (.iadd, 1) := zo_96 (zkb zk_cX12_draws zn_cX12_draws rfl)
theorem dX12_draws_320 : decode cX12_draws 320 = .ok (.aload_n 0, 1) := zo_42 (zkb zk_cX12_draws zn_cX12_draws rfl)
theorem dX12_draws_321 : decode cX12_draws 321 = .ok (.aload_n 0, 1) := zo_42 (zkb zk_cX12_draws zn_cX12_draws rfl)
theorem dX12_draws_322 : decode cX12_draws 322 = .ok (.getfield 83, 3) := zo_180 (b1 := 0) (b2 := 83) (zkb3 zk_cX12_draws zn_cX12_draws rfl) rfl
theorem dX12_draws_325 : decode cX12_draws 325 = .ok (.iload_n 3, 1) := zo_29 (zkb zk_cX12_draws zn_cX12_draws rfl)
theorem dX12_draws_326 : decode cX12_draws 326 = .ok (.iaload, 1) := zo_46 (zkb zk_cX12_draws zn_cX12_draws rfl)
theorem dX12_draws_327 : decode cX12_draws 327 = .ok (.invokevirtual 431, 3) := zo_182 (b1 := 1) (b2 := 175) (zkb3 zk_cX12_draws zn_cX12_draws rfl) rfl
theorem dX12_draws_330 : decode cX12_draws 330 = .ok (.iastore, 1) := zo_79 (zkb zk_cX12_draws zn_cX12_draws rfl)
theorem dX12_draws_331 : decode cX12_draws 331 = .ok (.iinc 3 1, 3) := zo_132 (b1 := 3) (b2 := 1) (zkb3 zk_cX12_draws zn_cX12_draws rfl) rfl
theorem dX12_draws_334 : decode cX12_draws 334 = .ok (.goto (-32), 3) := zo_167 (b1 := 255) (b2 := 224) (zkb3 zk_cX12_draws zn_cX12_draws rfl) rfl
theorem dX12_draws_337 : decode cX12_draws 337 = .ok (.return_, 1) := zo_177 (zkb zk_cX12_draws zn_cX12_draws rfl)
noncomputable def kn_cX12_old : Nat := 0xac7e0f1007150800a77a0707150a00a0047e047a647008101c0710061507369101b6607008101b606809150810688b01b60710062a0020112a06369101b6607008101b606808150810688b01b605072a0020112a09367e60071068708000119d01b6062a0810051508367e60ff00116870079d01b6072a0001110515053660686c40101b00011105156f00a707369101b6606c08100515689d01b6062a40102a06369101b6607008101b60680515081004152a2d009a8e01b62aac7e0f1006150800a77a0706150a00a2077008101c06369101b66070056c071b606870076c08101b0560680515081004152a3500a0068e01b62a05369101b6606c08101c60686c08101b20101d2aac7e0f109d01b607102a0c00a77a079d01b607102a0e00a004061506367e047a647006106408101c07109101b6607008101b60680515081004152a05369101b6606c06106408101c60686c08101b28101d2aac030500a4f700111c0a00a108101c6400a0048e01b62a0436687008109d01b6072a0008113e687010109d01b6052a000411
theorem zk_cX12_old : zkd cX12_old.data.toList kn_cX12_old = true := by decide +kernel
theorem zn_cX12_old : cX12_old.data.toList.length = 396 := by decide +kernel
theorem dX12_old_0 : decode cX12_old 0 = .ok (.sipush 1024, 3) := zo_17 (b1 := 4) (b2 := 0) (zkb3 zk_cX12_old zn_cX12_old rfl) rfl
theorem dX12_old_3 : decode cX12_old 3 = .ok (.aload_n 0, 1) := zo_42 (zkb zk_cX12_old zn_cX12_old rfl)
theorem dX12_old_4 : decode cX12_old 4 = .ok (.iconst 2, 1) := zo_5 (zkb zk_cX12_old zn_cX12_old rfl)
theorem dX12_old_5 : decode cX12_old 5 = .ok (.invokevirtual 413, 3) := zo_182 (b1 := 1) (b2 := 157) (zkb3 zk_cX12_old zn_cX12_old rfl) rfl
theorem dX12_old_8 : decode cX12_old 8 = .ok (.bipush 16, 2) := zo_16 (b1 := 16) (zkb2 zk_cX12_old zn_cX12_old rfl) rfl
theorem dX12_old_10 : decode cX12_old 10 = .ok (.irem, 1) := zo_112 (zkb zk_cX12_old zn_cX12_old rfl)
theorem dX12_old_11 : decode cX12_old 11 = .ok (.imul, 1) := zo_104 (zkb zk_cX12_old zn_cX12_old rfl)
theorem dX12_old_12 : decode cX12_old 12 = .ok (.istore_n 3, 1) := zo_62 (zkb zk_cX12_old zn_cX12_old rfl)
theorem dX12_old_13 : decode cX12_old 13 = .ok (.sipush 2048, 3) := zo_17 (b1 := 8) (b2 := 0) (zkb3 zk_cX12_old zn_cX12_old rfl) rfl
theorem dX12_old_16 : decode cX12_old 16 = .ok (.aload_n 0, 1) := zo_42 (zkb zk_cX12_old zn_cX12_old rfl)
theorem dX12_old_17 : decode cX12_old 17 = .ok (.iconst 4, 1) := zo_7 (zkb zk_cX12_old zn_cX12_old rfl)
theorem dX12_old_18 : decode cX12_old 18 = .ok (.invokevirtual 413, 3) := zo_182 (b1 := 1) (b2 := 157) (zkb3 zk_cX12_old zn_cX12_old rfl) rfl
theorem dX12_old_21 : decode cX12_old 21 = .ok (.bipush 8, 2) := zo_16 (b1 := 8) (zkb2 zk_cX12_old zn_cX12_old rfl) rfl
theorem dX12_old_23 : decode cX12_old 23 = .ok (.irem, 1) := zo_112 (zkb zk_cX12_old zn_cX12_old rfl)
theorem dX12_old_24 : decode cX12_old 24 = .ok (.imul, 1) := zo_104 (zkb zk_cX12_old zn_cX12_old rfl)
theorem dX12_old_25 : decode cX12_old 25 = .ok (.istore 4, 2) := zo_54 (b1 := 4) (zkb2 zk_cX12_old zn_cX12_old rfl)
theorem dX12_old_27 : decode cX12_old 27 = .ok (.aload_n 0, 1) := zo_42 (zkb zk_cX12_old zn_cX12_old rfl)
theorem dX12_old_28 : decode cX12_old 28 = .ok (.invokevirtual 398, 3) := zo_182 (b1 := 1) (b2 := 142) (zkb3 zk_cX12_old zn_cX12_old rfl) rfl
theorem dX12_old_31 : decode cX12_old 31 = .ok (.iconst 1, 1) := zo_4 (zkb zk_cX12_old zn_cX12_old rfl)
theorem dX12_old_32 : decode cX12_old 32 = .ok (.if_icmp .ne 100, 3) := zo_160 (b1 := 0) (b2 := 100) (zkb3 zk_cX12_old zn_cX12_old rfl) rfl
theorem dX12_old_35 : decode cX12_old 35 = .ok (.iload_n 2, 1) := zo_28 (zkb zk_cX12_old zn_cX12_old rfl)
theorem dX12_old_36 : decode cX12_old 36 = .ok (.bipush 8, 2) := zo_16 (b1 := 8) (zkb2 zk_cX12_old zn_cX12_old rfl) rfl
theorem dX12_old_38 : decode cX12_old 38 = .ok (.if_icmp .lt 10, 3) := zo_161 (b1 := 0) (b2 := 10) (zkb3 zk_cX12_old zn_cX12_old rfl) rfl
theorem dX12_old_41 : decode cX12_old 41 = .ok (.iload_n 2, 1) := zo_28 (zkb zk_cX12_old zn_cX12_old rfl)
theorem dX12_old_42 : decode cX12_old 42 = .ok (.sipush 247, 3) := zo_17 (b1 := 0) (b2 := 247) (zkb3 zk_cX12_old zn_cX12_old rfl) rfl
theorem dX12_old_45 : decode cX12_old 45 = .ok (.if_icmp .le 5, 3) := zo_164 (b1 := 0) (b2 := 5) (zkb3 zk_cX12_old zn_cX12_old rfl) rfl
theorem dX12_old_48 : decode cX12_old 48 = .ok (.iconst 0, 1) := zo_3 (zkb zk_cX12_old zn_cX12_old rfl)
theorem dX12_old_49 : decode cX12_old 49 = .ok (.ireturn, 1) := zo_172 (zkb zk_cX12_old zn_cX12_old rfl)
theorem dX12_old_50 : decode cX12_old 50 = .ok (.aload_n 0, 1) := zo_42 (zkb zk_cX12_old zn_cX12_old rfl)
theorem dX12_old_51 : decode cX12_old 51 = .ok (.iload_n 3, 1) := zo_29 (zkb zk_cX12_old zn_cX12_old rfl)
theorem dX12_old_52 : decode cX12_old 52 = .ok (.bipush 40, 2) := zo_16 (b1 := 40) (zkb2 zk_cX12_old zn_cX12_old rfl) rfl
theorem dX12_old_54 : decode cX12_old 54 = .ok (.iload_n 1, 1) := zo_27 (zkb zk_cX12_old zn_cX12_old rfl)
theorem dX12_old_55 : decode cX12_old 55 = .ok (.bipush 8, 2) := zo_16 (b1 := 8) (zkb2 zk_cX12_old zn_cX12_old rfl) rfl
theorem dX12_old_57 : decode cX12_old 57 = .ok (.idiv, 1) := zo_108 (zkb zk_cX12_old zn_cX12_old rfl)
theorem dX12_old_58 : decode cX12_old 58 = .ok (.imul, 1) := zo_104 (zkb zk_cX12_old zn_cX12_old rfl)
theorem dX12_old_59 : decode cX12_old 59 = .ok (.iadd, 1) := zo_96 (zkb zk_cX12_old zn_cX12_old rfl)
theorem dX12_old_60 : decode cX12_old 60 = .ok (.iload_n 2, 1) := zo_28 (zkb zk_cX12_old zn_cX12_old rfl)
theorem dX12_old_61 : decode cX12_old 61 = .ok (.bipush 8, 2) := zo_16 (b1 := 8) (zkb2 zk_cX12_old zn_cX12_old rfl) rfl
theorem dX12_old_63 : decode cX12_old 63 = .ok (.isub, 1) := zo_100 (zkb zk_cX12_old zn_cX12_old rfl)
theorem dX12_old_64 : decode cX12_old 64 = .ok (.bipush 6, 2) := zo_16 (b1 := 6) (zkb2 zk_cX12_old zn_cX12_old rfl) rfl
theorem dX12_old_66 : decode cX12_old 66 = .ok (.idiv, 1) := zo_108 (zkb zk_cX12_old zn_cX12_old rfl)
theorem dX12_old_67 : decode cX12_old 67 = .ok (.iadd, 1) := zo_96 (zkb zk_cX12_old zn_cX12_old rfl)
theorem dX12_old_68 : decode cX12_old 68 = .ok (.invokevirtual 401, 3) := zo_182 (b1 := 1) (b2 := 145) (zkb3 zk_cX12_old zn_cX12_old rfl) rfl
theorem dX12_old_71 : decode cX12_old 71 = .ok (.istore 5, 2) := zo_54 (b1 := 5) (zkb2 zk_cX12_old zn_cX12_old rfl)
theorem dX12_old_73 : decode cX12_old 73 = .ok (.aload_n 0, 1) := zo_42 (zkb zk_cX12_old zn_cX12_old rfl)
theorem dX12_old_74 : decode cX12_old 74 = .ok (.iload 4, 2) := zo_21 (b1 := 4) (zkb2 zk_cX12_old zn_cX12_old rfl)
theorem dX12_old_76 : decode cX12_old 76 = .ok (.bipush 8, 2) := zo_16 (b1 := 8) (zkb2 zk_cX12_old zn_cX12_old rfl) rfl
theorem dX12_old_78 : decode cX12_old 78 = .ok (.iload 5, 2) := zo_21 (b1 := 5) (zkb2 zk_cX12_old zn_cX12_old rfl)
theorem dX12_old_80 : decode cX12_old 80 = .ok (.imul, 1) := zo_104 (zkb zk_cX12_old zn_cX12_old rfl)
theorem dX12_old_81 : decode cX12_old 81 = .ok (.iadd, 1) := zo_96 (zkb zk_cX12_old zn_cX12_old rfl)
theorem dX12_old_82 : decode cX12_old 82 = .ok (.iload_n 1, 1) := zo_27 (zkb zk_cX12_old zn_cX12_old rfl)
theorem dX12_old_83 : decode cX12_old 83 = .ok (.bipush 8, 2) := zo_16 (b1 := 8) (zkb2 zk_cX12_old zn_cX12_old rfl) rfl
theorem dX12_old_85 : decode cX12_old 85 = .ok (.irem, 1) := zo_112 (zkb zk_cX12_old zn_cX12_old rfl)
theorem dX12_old_86 : decode cX12_old 86 = .ok (.iadd, 1) := zo_96 (zkb zk_cX12_old zn_cX12_old rfl)
theorem dX12_old_87 : decode cX12_old 87 = .ok (.invokevirtual 401, 3) := zo_182 (b1 := 1) (b2 := 145) (zkb3 zk_cX12_old zn_cX12_old rfl) rfl
theorem dX12_old_90 : decode cX12_old 90 = .ok (.bipush 7, 2) := zo_16 (b1 := 7) (zkb2 zk_cX12_old zn_cX12_old rfl) rfl
theorem dX12_old_92 : decode cX12_old 92 = .ok (.iload_n 2, 1) := zo_28 (zkb zk_cX12_old zn_cX12_old rfl)
theorem dX12_old_93 : decode cX12_old 93 = .ok (.bipush 8, 2) := zo_16 (b1 := 8) (zkb2 zk_cX12_old zn_cX12_old rfl) rfl
theorem dX12_old_95 : decode cX12_old 95 = .ok (.isub, 1) := zo_100 (zkb zk_cX12_old zn_cX12_old rfl)
theorem dX12_old_96 : decode cX12_old 96 = .ok (.bipush 6, 2) := zo_16 (b1 := 6) (zkb2 zk_cX12_old zn_cX12_old rfl) rfl
theorem dX12_old_98 : decode cX12_old 98 = .ok (.irem, 1) := zo_112 (zkb zk_cX12_old zn_cX12_old rfl)
theorem dX12_old_99 : decode cX12_old 99 = .ok (.isub, 1) := zo_100 (zkb zk_cX12_old zn_cX12_old rfl)
theorem dX12_old_100 : decode cX12_old 100 = .ok (.ishr, 1) := zo_122 (zkb zk_cX12_old zn_cX12_old rfl)
theorem dX12_old_101 : decode cX12_old 101 = .ok (.iconst 1, 1) := zo_4 (zkb zk_cX12_old zn_cX12_old rfl)
theorem dX12_old_102 : decode cX12_old 102 = .ok (.iand, 1) := zo_126 (zkb zk_cX12_old zn_cX12_old rfl)
theorem dX12_old_103 : decode cX12_old 103 = .ok (.istore 6, 2) := zo_54 (b1 := 6) (zkb2 zk_cX12_old zn_cX12_old rfl)
theorem dX12_old_105 : decode cX12_old 105 = .ok (.iload 6, 2) := zo_21 (b1 := 6) (zkb2 zk_cX12_old zn_cX12_old rfl)
theorem dX12_old_107 : decode cX12_old 107 = .ok (.iconst 1, 1) := zo_4 (zkb zk_cX12_old zn_cX12_old rfl)
theorem dX12_old_108 : decode cX12_old 108 = .ok (.if_icmp .ne 14, 3) := zo_160 (b1 := 0) (b2 := 14) (zkb3 zk_cX12_old zn_cX12_old rfl) rfl
theorem dX12_old_111 : decode cX12_old 111 = .ok (.aload_n 0, 1) := zo_42 (zkb zk_cX12_old zn_cX12_old rfl)
theorem dX12_old_112 : decode cX12_old 112 = .ok (.bipush 7, 2) := zo_16 (b1 := 7) (zkb2 zk_cX12_old zn_cX12_old rfl) rfl
theorem dX12_old_114 : decode cX12_old 114 = .ok (.invokevirtual 413, 3) := zo_182 (b1 := 1) (b2 := 157) (zkb3 zk_cX12_old zn_cX12_old rfl) rfl
theorem dX12_old_117 : decode cX12_old 117 = .ok (.iconst 4, 1) := zo_7 (zkb zk_cX12_old zn_cX12_old rfl)
theorem dX12_old_118 : decode cX12_old 118 = .ok (.ishr, 1) := zo_122 (zkb zk_cX12_old zn_cX12_old rfl)
theorem dX12_old_119 : decode cX12_old 119 = .ok (.goto 12, 3) := zo_167 (b1 := 0) (b2 := 12) (zkb3 zk_cX12_old zn_cX12_old rfl) rfl
theorem dX12_old_122 : decode cX12_old 122 = .ok (.aload_n 0, 1) := zo_42 (zkb zk_cX12_old zn_cX12_old rfl)
theorem dX12_old_123 : decode cX12_old 123 = .ok (.bipush 7, 2) := zo_16 (b1 := 7) (zkb2 zk_cX12_old zn_cX12_old rfl) rfl
theorem dX12_old_125 : decode cX12_old 125 = .ok (.invokevirtual 413, 3) := zo_182 (b1 := 1) (b2 := 157) (zkb3 zk_cX12_old zn_cX12_old rfl) rfl
theorem dX12_old_128 : decode cX12_old 128 = .ok (.bipush 15, 2) := zo_16 (b1 := 15) (zkb2 zk_cX12_old zn_cX12_old rfl) rfl
theorem dX12_old_130 : decode cX12_old 130 = .ok (.iand, 1) := zo_126 (zkb zk_cX12_old zn_cX12_old rfl)
theorem dX12_old_131 : decode cX12_old 131 = .ok (.ireturn, 1) := zo_172 (zkb zk_cX12_old zn_cX12_old rfl)
theorem dX12_old_132 : decode cX12_old 132 = .ok (.aload_n 0, 1) := zo_42 (zkb zk_cX12_old zn_cX12_old rfl)
theorem dX12_old_133 : decode cX12_old 133 = .ok (.iload_n 3, 1) := zo_29 (zkb zk_cX12_old zn_cX12_old rfl)
theorem dX12_old_134 : decode cX12_old 134 = .ok (.bipush 32, 2) := zo_16 (b1 := 32) (zkb2 zk_cX12_old zn_cX12_old rfl) rfl
theorem dX12_old_136 : decode cX12_old 136 = .ok (.iload_n 1, 1) := zo_27 (zkb zk_cX12_old zn_cX12_old rfl)
theorem dX12_old_137 : decode cX12_old 137 = .ok (.bipush 8, 2) := zo_16 (b1 := 8) (zkb2 zk_cX12_old zn_cX12_old rfl) rfl
theorem dX12_old_139 : decode cX12_old 139 = .ok (.idiv, 1) := zo_108 (zkb zk_cX12_old zn_cX12_old rfl)
theorem dX12_old_140 : decode cX12_old 140 = .ok (.imul, 1) := zo_104 (zkb zk_cX12_old zn_cX12_old rfl)
theorem dX12_old_141 : decode cX12_old 141 = .ok (.iadd, 1) := zo_96 (zkb zk_cX12_old zn_cX12_old rfl)
theorem dX12_old_142 : decode cX12_old 142 = .ok (.iload_n 2, 1) := zo_28 (zkb zk_cX12_old zn_cX12_old rfl)
theorem dX12_old_143 : decode cX12_old 143 = .ok (.bipush 8, 2) := zo_16 (b1 := 8) (zkb2 zk_cX12_old zn_cX12_old rfl) rfl
theorem dX12_old_145 : decode cX12_old 145 = .ok (.idiv, 1) := zo_108 (zkb zk_cX12_old zn_cX12_old rfl)
theorem dX12_old_146 : decode cX12_old 146 = .ok (.iadd, 1) := zo_96 (zkb zk_cX12_old zn_cX12_old rfl)
theorem dX12_old_147 : decode cX12_old 147 = .ok (.invokevirtual 401, 3) := zo_182 (b1 := 1) (b2 := 145) (zkb3 zk_cX12_old zn_cX12_old rfl) rfl
theorem dX12_old_150 : decode cX12_old 150 = .ok (.istore 5, 2) := zo_54 (b1 := 5) (zkb2 zk_cX12_old zn_cX12_old rfl)
theorem dX12_old_152 : decode cX12_old 152 = .ok (.aload_n 0, 1) := zo_42 (zkb zk_cX12_old zn_cX12_old rfl)
theorem dX12_old_153 : decode cX12_old 153 = .ok (.invokevirtual 398, 3) := zo_182 (b1 := 1) (b2 := 142) (zkb3 zk_cX12_old zn_cX12_old rfl) rfl
theorem dX12_old_156 : decode cX12_old 156 = .ok (.iconst 3, 1) := zo_6 (zkb zk_cX12_old zn_cX12_old rfl)
theorem dX12_old_157 : decode cX12_old 157 = .ok (.if_icmp .ne 53, 3) := zo_160 (b1 := 0) (b2 := 53) (zkb3 zk_cX12_old zn_cX12_old rfl) rfl
theorem dX12_old_160 : decode cX12_old 160 = .ok (.aload_n 0, 1) := zo_42 (zkb zk_cX12_old zn_cX12_old rfl)
theorem dX12_old_161 : decode cX12_old 161 = .ok (.iload 4, 2) := zo_21 (b1 := 4) (zkb2 zk_cX12_old zn_cX12_old rfl)
theorem dX12_old_163 : decode cX12_old 163 = .ok (.bipush 8, 2) := zo_16 (b1 := 8) (zkb2 zk_cX12_old zn_cX12_old rfl) rfl
theorem dX12_old_165 : decode cX12_old 165 = .ok (.iload 5, 2) := zo_21 (b1 := 5) (zkb2 zk_cX12_old zn_cX12_old rfl)
theorem dX12_old_167 : decode cX12_old 167 = .ok (.imul, 1) := zo_104 (zkb zk_cX12_old zn_cX12_old rfl)
theorem dX12_old_168 : decode cX12_old 168 = .ok (.iadd, 1) := zo_96 (zkb zk_cX12_old zn_cX12_old rfl)
theorem dX12_old_169 : decode cX12_old 169 = .ok (.iconst 2, 1) := zo_5 (zkb zk_cX12_old zn_cX12_old rfl)
theorem dX12_old_170 : decode cX12_old 170 = .ok (.iload_n 1, 1) := zo_27 (zkb zk_cX12_old zn_cX12_old rfl)
theorem dX12_old_171 : decode cX12_old 171 = .ok (.bipush 8, 2) := zo_16 (b1 := 8) (zkb2 zk_cX12_old zn_cX12_old rfl) rfl
theorem dX12_old_173 : decode cX12_old 173 = .ok (.idiv, 1) := zo_108 (zkb zk_cX12_old zn_cX12_old rfl)
theorem dX12_old_174 : decode cX12_old 174 = .ok (.iconst 4, 1) := zo_7 (zkb zk_cX12_old zn_cX12_old rfl)
theorem dX12_old_175 : decode cX12_old 175 = .ok (.irem, 1) := zo_112 (zkb zk_cX12_old zn_cX12_old rfl)
theorem dX12_old_176 : decode cX12_old 176 = .ok (.imul, 1) := zo_104 (zkb zk_cX12_old zn_cX12_old rfl)
theorem dX12_old_177 : decode cX12_old 177 = .ok (.iadd, 1) := zo_96 (zkb zk_cX12_old zn_cX12_old rfl)
theorem dX12_old_178 : decode cX12_old 178 = .ok (.iload_n 1, 1) := zo_27 (zkb zk_cX12_old zn_cX12_old rfl)
theorem dX12_old_179 : decode cX12_old 179 = .ok (.iconst 4, 1) := zo_7 (zkb zk_cX12_old zn_cX12_old rfl)
theorem dX12_old_180 : decode cX12_old 180 = .ok (.idiv, 1) := zo_108 (zkb zk_cX12_old zn_cX12_old rfl)
theorem dX12_old_181 : decode cX12_old 181 = .ok (.iconst 2, 1) := zo_5 (zkb zk_cX12_old zn_cX12_old rfl)
theorem dX12_old_182 : decode cX12_old 182 = .ok (.irem, 1) := zo_112 (zkb zk_cX12_old zn_cX12_old rfl)
theorem dX12_old_183 : decode cX12_old 183 = .ok (.iadd, 1) := zo_96 (zkb zk_cX12_old zn_cX12_old rfl)
theorem dX12_old_184 : decode cX12_old 184 = .ok (.invokevirtual 401, 3) := zo_182 (b1 := 1) (b2 := 145) (zkb3 zk_cX12_old zn_cX12_old rfl) rfl
theorem dX12_old_187 : decode cX12_old 187 = .ok (.istore 6, 2) := zo_54 (b1 := 6) (zkb2 zk_cX12_old zn_cX12_old rfl)
theorem dX12_old_189 : decode cX12_old 189 = .ok (.iload_n 2, 1) := zo_28 (zkb zk_cX12_old zn_cX12_old rfl)
theorem dX12_old_190 : decode cX12_old 190 = .ok (.bipush 8, 2) := zo_16 (b1 := 8) (zkb2 zk_cX12_old zn_cX12_old rfl) rfl
theorem dX12_old_192 : decode cX12_old 192 = .ok (.irem, 1) := zo_112 (zkb zk_cX12_old zn_cX12_old rfl)
theorem dX12_old_193 : decode cX12_old 193 = .ok (.iconst 4, 1) := zo_7 (zkb zk_cX12_old zn_cX12_old rfl)
theorem dX12_old_194 : decode cX12_old 194 = .ok (.if_icmp .ge 10, 3) := zo_162 (b1 := 0) (b2 := 10) (zkb3 zk_cX12_old zn_cX12_old rfl) rfl
theorem dX12_old_197 : decode cX12_old 197 = .ok (.iload 6, 2) := zo_21 (b1 := 6) (zkb2 zk_cX12_old zn_cX12_old rfl)
theorem dX12_old_199 : decode cX12_old 199 = .ok (.iconst 4, 1) := zo_7 (zkb zk_cX12_old zn_cX12_old rfl)
theorem dX12_old_200 : decode cX12_old 200 = .ok (.ishr, 1) := zo_122 (zkb zk_cX12_old zn_cX12_old rfl)
theorem dX12_old_201 : decode cX12_old 201 = .ok (.goto 8, 3) := zo_167 (b1 := 0) (b2 := 8) (zkb3 zk_cX12_old zn_cX12_old rfl) rfl
theorem dX12_old_204 : decode cX12_old 204 = .ok (.iload 6, 2) := zo_21 (b1 := 6) (zkb2 zk_cX12_old zn_cX12_old rfl)
theorem dX12_old_206 : decode cX12_old 206 = .ok (.bipush 15, 2) := zo_16 (b1 := 15) (zkb2 zk_cX12_old zn_cX12_old rfl) rfl
theorem dX12_old_208 : decode cX12_old 208 = .ok (.iand, 1) := zo_126 (zkb zk_cX12_old zn_cX12_old rfl)
theorem dX12_old_209 : decode cX12_old 209 = .ok (.ireturn, 1) := zo_172 (zkb zk_cX12_old zn_cX12_old rfl)
theorem dX12_old_210 : decode cX12_old 210 = .ok (.aload_n 0, 1) := zo_42 (zkb zk_cX12_old zn_cX12_old rfl)
theorem dX12_old_211 : decode cX12_old 211 = .ok (.invokevirtual 398, 3) := zo_182 (b1 := 1) (b2 := 142) (zkb3 zk_cX12_old zn_cX12_old rfl) rfl
theorem dX12_old_214 : decode cX12_old 214 = .ok (.ifCond .ne 45, 3) := zo_154 (b1 := 0) (b2 := 45) (zkb3 zk_cX12_old zn_cX12_old rfl) rfl
theorem dX12_old_217 : decode cX12_old 217 = .ok (.aload_n 0, 1) := zo_42 (zkb zk_cX12_old zn_cX12_old rfl)
theorem dX12_old_218 : decode cX12_old 218 = .ok (.iload 4, 2) := zo_21 (b1 := 4) (zkb2 zk_cX12_old zn_cX12_old rfl)
theorem dX12_old_220 : decode cX12_old 220 = .ok (.bipush 8, 2) := zo_16 (b1 := 8) (zkb2 zk_cX12_old zn_cX12_old rfl) rfl
theorem dX12_old_222 : decode cX12_old 222 = .ok (.iload 5, 2) := zo_21 (b1 := 5) (zkb2 zk_cX12_old zn_cX12_old rfl)
theorem dX12_old_224 : decode cX12_old 224 = .ok (.imul, 1) := zo_104 (zkb zk_cX12_old zn_cX12_old rfl)
theorem dX12_old_225 : decode cX12_old 225 = .ok (.iadd, 1) := zo_96 (zkb zk_cX12_old zn_cX12_old rfl)
theorem dX12_old_226 : decode cX12_old 226 = .ok (.iload_n 1, 1) := zo_27 (zkb zk_cX12_old zn_cX12_old rfl)
theorem dX12_old_227 : decode cX12_old 227 = .ok (.bipush 8, 2) := zo_16 (b1 := 8) (zkb2 zk_cX12_old zn_cX12_old rfl) rfl
theorem dX12_old_229 : decode cX12_old 229 = .ok (.irem, 1) := zo_112 (zkb zk_cX12_old zn_cX12_old rfl)
theorem dX12_old_230 : decode cX12_old 230 = .ok (.iadd, 1) := zo_96 (zkb zk_cX12_old zn_cX12_old rfl)
theorem dX12_old_231 : decode cX12_old 231 = .ok (.invokevirtual 401, 3) := zo_182 (b1 := 1) (b2 := 145) (zkb3 zk_cX12_old zn_cX12_old rfl) rfl
theorem dX12_old_234 : decode cX12_old 234 = .ok (.istore 6, 2) := zo_54 (b1 := 6) (zkb2 zk_cX12_old zn_cX12_old rfl)
theorem dX12_old_236 : decode cX12_old 236 = .ok (.aload_n 0, 1) := zo_42 (zkb zk_cX12_old zn_cX12_old rfl)
theorem dX12_old_237 : decode cX12_old 237 = .ok (.bipush 64, 2) := zo_16 (b1 := 64) (zkb2 zk_cX12_old zn_cX12_old rfl) rfl
theorem dX12_old_239 : decode cX12_old 239 = .ok (.aload_n 0, 1) := zo_42 (zkb zk_cX12_old zn_cX12_old rfl)
theorem dX12_old_240 : decode cX12_old 240 = .ok (.iconst 3, 1) := zo_6 (zkb zk_cX12_old zn_cX12_old rfl)
theorem dX12_old_241 : decode cX12_old 241 = .ok (.invokevirtual 413, 3) := zo_182 (b1 := 1) (b2 := 157) (zkb3 zk_cX12_old zn_cX12_old rfl) rfl
theorem dX12_old_244 : decode cX12_old 244 = .ok (.imul, 1) := zo_104 (zkb zk_cX12_old zn_cX12_old rfl)
theorem dX12_old_245 : decode cX12_old 245 = .ok (.iload 5, 2) := zo_21 (b1 := 5) (zkb2 zk_cX12_old zn_cX12_old rfl)
theorem dX12_old_247 : decode cX12_old 247 = .ok (.bipush 8, 2) := zo_16 (b1 := 8) (zkb2 zk_cX12_old zn_cX12_old rfl) rfl
theorem dX12_old_249 : decode cX12_old 249 = .ok (.idiv, 1) := zo_108 (zkb zk_cX12_old zn_cX12_old rfl)
theorem dX12_old_250 : decode cX12_old 250 = .ok (.iadd, 1) := zo_96 (zkb zk_cX12_old zn_cX12_old rfl)
theorem dX12_old_251 : decode cX12_old 251 = .ok (.invokevirtual 401, 3) := zo_182 (b1 := 1) (b2 := 145) (zkb3 zk_cX12_old zn_cX12_old rfl) rfl
theorem dX12_old_254 : decode cX12_old 254 = .ok (.istore 7, 2) := zo_54 (b1 := 7) (zkb2 zk_cX12_old zn_cX12_old rfl)
theorem dX12_old_256 : decode cX12_old 256 = .ok (.goto 111, 3) := zo_167 (b1 := 0) (b2 := 111) (zkb3 zk_cX12_old zn_cX12_old rfl) rfl
theorem dX12_old_259 : decode cX12_old 259 = .ok (.iload 5, 2) := zo_21 (b1 := 5) (zkb2 zk_cX12_old zn_cX12_old rfl)
theorem dX12_old_261 : decode cX12_old 261 = .ok (.sipush 256, 3) := zo_17 (b1 := 1) (b2 := 0) (zkb3 zk_cX12_old zn_cX12_old rfl) rfl
theorem dX12_old_264 : decode cX12_old 264 = .ok (.iload_n 1, 1) := zo_27 (zkb zk_cX12_old zn_cX12_old rfl)
theorem dX12_old_265 : decode cX12_old 265 = .ok (.bipush 64, 2) := zo_16 (b1 := 64) (zkb2 zk_cX12_old zn_cX12_old rfl) rfl
theorem dX12_old_267 : decode cX12_old 267 = .ok (.idiv, 1) := zo_108 (zkb zk_cX12_old zn_cX12_old rfl)
theorem dX12_old_268 : decode cX12_old 268 = .ok (.imul, 1) := zo_104 (zkb zk_cX12_old zn_cX12_old rfl)
theorem dX12_old_269 : decode cX12_old 269 = .ok (.iadd, 1) := zo_96 (zkb zk_cX12_old zn_cX12_old rfl)
theorem dX12_old_270 : decode cX12_old 270 = .ok (.istore 5, 2) := zo_54 (b1 := 5) (zkb2 zk_cX12_old zn_cX12_old rfl)
theorem dX12_old_272 : decode cX12_old 272 = .ok (.iload 5, 2) := zo_21 (b1 := 5) (zkb2 zk_cX12_old zn_cX12_old rfl)
theorem dX12_old_274 : decode cX12_old 274 = .ok (.sipush 256, 3) := zo_17 (b1 := 1) (b2 := 0) (zkb3 zk_cX12_old zn_cX12_old rfl) rfl
theorem dX12_old_277 : decode cX12_old 277 = .ok (.aload_n 0, 1) := zo_42 (zkb zk_cX12_old zn_cX12_old rfl)
theorem dX12_old_278 : decode cX12_old 278 = .ok (.iconst 4, 1) := zo_7 (zkb zk_cX12_old zn_cX12_old rfl)
theorem dX12_old_279 : decode cX12_old 279 = .ok (.invokevirtual 413, 3) := zo_182 (b1 := 1) (b2 := 157) (zkb3 zk_cX12_old zn_cX12_old rfl) rfl
theorem dX12_old_282 : decode cX12_old 282 = .ok (.iconst 4, 1) := zo_7 (zkb zk_cX12_old zn_cX12_old rfl)
theorem dX12_old_283 : decode cX12_old 283 = .ok (.irem, 1) := zo_112 (zkb zk_cX12_old zn_cX12_old rfl)
theorem dX12_old_284 : decode cX12_old 284 = .ok (.imul, 1) := zo_104 (zkb zk_cX12_old zn_cX12_old rfl)
theorem dX12_old_285 : decode cX12_old 285 = .ok (.sipush 255, 3) := zo_17 (b1 := 0) (b2 := 255) (zkb3 zk_cX12_old zn_cX12_old rfl) rfl
theorem dX12_old_288 : decode cX12_old 288 = .ok (.iadd, 1) := zo_96 (zkb zk_cX12_old zn_cX12_old rfl)
theorem dX12_old_289 : decode cX12_old 289 = .ok (.iand, 1) := zo_126 (zkb zk_cX12_old zn_cX12_old rfl)
theorem dX12_old_290 : decode cX12_old 290 = .ok (.istore 8, 2) := zo_54 (b1 := 8) (zkb2 zk_cX12_old zn_cX12_old rfl)
theorem dX12_old_292 : decode cX12_old 292 = .ok (.iload 5, 2) := zo_21 (b1 := 5) (zkb2 zk_cX12_old zn_cX12_old rfl)
theorem dX12_old_294 : decode cX12_old 294 = .ok (.bipush 8, 2) := zo_16 (b1 := 8) (zkb2 zk_cX12_old zn_cX12_old rfl) rfl
theorem dX12_old_296 : decode cX12_old 296 = .ok (.aload_n 0, 1) := zo_42 (zkb zk_cX12_old zn_cX12_old rfl)
theorem dX12_old_297 : decode cX12_old 297 = .ok (.iconst 3, 1) := zo_6 (zkb zk_cX12_old zn_cX12_old rfl)
theorem dX12_old_298 : decode cX12_old 298 = .ok (.invokevirtual 413, 3) := zo_182 (b1 := 1) (b2 := 157) (zkb3 zk_cX12_old zn_cX12_old rfl) rfl
theorem dX12_old_301 : decode cX12_old 301 = .ok (.sipush 128, 3) := zo_17 (b1 := 0) (b2 := 128) (zkb3 zk_cX12_old zn_cX12_old rfl) rfl
theorem dX12_old_304 : decode cX12_old 304 = .ok (.irem, 1) := zo_112 (zkb zk_cX12_old zn_cX12_old rfl)
theorem dX12_old_305 : decode cX12_old 305 = .ok (.imul, 1) := zo_104 (zkb zk_cX12_old zn_cX12_old rfl)
theorem dX12_old_306 : decode cX12_old 306 = .ok (.bipush 7, 2) := zo_16 (b1 := 7) (zkb2 zk_cX12_old zn_cX12_old rfl) rfl
theorem dX12_old_308 : decode cX12_old 308 = .ok (.iadd, 1) := zo_96 (zkb zk_cX12_old zn_cX12_old rfl)
theorem dX12_old_309 : decode cX12_old 309 = .ok (.iand, 1) := zo_126 (zkb zk_cX12_old zn_cX12_old rfl)
theorem dX12_old_310 : decode cX12_old 310 = .ok (.istore 9, 2) := zo_54 (b1 := 9) (zkb2 zk_cX12_old zn_cX12_old rfl)
theorem dX12_old_312 : decode cX12_old 312 = .ok (.aload_n 0, 1) := zo_42 (zkb zk_cX12_old zn_cX12_old rfl)
theorem dX12_old_313 : decode cX12_old 313 = .ok (.sipush 8192, 3) := zo_17 (b1 := 32) (b2 := 0) (zkb3 zk_cX12_old zn_cX12_old rfl) rfl
theorem dX12_old_316 : decode cX12_old 316 = .ok (.aload_n 0, 1) := zo_42 (zkb zk_cX12_old zn_cX12_old rfl)
theorem dX12_old_317 : decode cX12_old 317 = .ok (.iconst 4, 1) := zo_7 (zkb zk_cX12_old zn_cX12_old rfl)
theorem dX12_old_318 : decode cX12_old 318 = .ok (.iconst 2, 1) := zo_5 (zkb zk_cX12_old zn_cX12_old rfl)
theorem dX12_old_319 : decode cX12_old 319 = .ok (.invokevirtual 395, 3) := zo_182 (b1 := 1) (b2 := 139) (zkb3 zk_cX12_old zn_cX12_old rfl) rfl
theorem dX12_old_322 : decode cX12_old 322 = .ok (.imul, 1) := zo_104 (zkb zk_cX12_old zn_cX12_old rfl)
theorem dX12_old_323 : decode cX12_old 323 = .ok (.bipush 8, 2) := zo_16 (b1 := 8) (zkb2 zk_cX12_old zn_cX12_old rfl) rfl
theorem dX12_old_325 : decode cX12_old 325 = .ok (.iload 8, 2) := zo_21 (b1 := 8) (zkb2 zk_cX12_old zn_cX12_old rfl)
theorem dX12_old_327 : decode cX12_old 327 = .ok (.imul, 1) := zo_104 (zkb zk_cX12_old zn_cX12_old rfl)
theorem dX12_old_328 : decode cX12_old 328 = .ok (.iadd, 1) := zo_96 (zkb zk_cX12_old zn_cX12_old rfl)
theorem dX12_old_329 : decode cX12_old 329 = .ok (.iload_n 1, 1) := zo_27 (zkb zk_cX12_old zn_cX12_old rfl)
theorem dX12_old_330 : decode cX12_old 330 = .ok (.bipush 8, 2) := zo_16 (b1 := 8) (zkb2 zk_cX12_old zn_cX12_old rfl) rfl
theorem dX12_old_332 : decode cX12_old 332 = .ok (.irem, 1) := zo_112 (zkb zk_cX12_old zn_cX12_old rfl)
theorem dX12_old_333 : decode cX12_old 333 = .ok (.iadd, 1) := zo_96 (zkb zk_cX12_old zn_cX12_old rfl)
theorem dX12_old_334 : decode cX12_old 334 = .ok (.invokevirtual 401, 3) := zo_182 (b1 := 1) (b2 := 145) (zkb3 zk_cX12_old zn_cX12_old rfl) rfl
theorem dX12_old_337 : decode cX12_old 337 = .ok (.istore 6, 2) := zo_54 (b1 := 6) (zkb2 zk_cX12_old zn_cX12_old rfl)
theorem dX12_old_339 : decode cX12_old 339 = .ok (.aload_n 0, 1) := zo_42 (zkb zk_cX12_old zn_cX12_old rfl)
theorem dX12_old_340 : decode cX12_old 340 = .ok (.sipush 8192, 3) := zo_17 (b1 := 32) (b2 := 0) (zkb3 zk_cX12_old zn_cX12_old rfl) rfl
theorem dX12_old_343 : decode cX12_old 343 = .ok (.aload_n 0, 1) := zo_42 (zkb zk_cX12_old zn_cX12_old rfl)
theorem dX12_old_344 : decode cX12_old 344 = .ok (.iconst 3, 1) := zo_6 (zkb zk_cX12_old zn_cX12_old rfl)
theorem dX12_old_345 : decode cX12_old 345 = .ok (.bipush 7, 2) := zo_16 (b1 := 7) (zkb2 zk_cX12_old zn_cX12_old rfl) rfl
theorem dX12_old_347 : decode cX12_old 347 = .ok (.invokevirtual 395, 3) := zo_182 (b1 := 1) (b2 := 139) (zkb3 zk_cX12_old zn_cX12_old rfl) rfl
theorem dX12_old_350 : decode cX12_old 350 = .ok (.imul, 1) := zo_104 (zkb zk_cX12_old zn_cX12_old rfl)
theorem dX12_old_351 : decode cX12_old 351 = .ok (.bipush 8, 2) := zo_16 (b1 := 8) (zkb2 zk_cX12_old zn_cX12_old rfl) rfl
theorem dX12_old_353 : decode cX12_old 353 = .ok (.iload 9, 2) := zo_21 (b1 := 9) (zkb2 zk_cX12_old zn_cX12_old rfl)
theorem dX12_old_355 : decode cX12_old 355 = .ok (.imul, 1) := zo_104 (zkb zk_cX12_old zn_cX12_old rfl)
theorem dX12_old_356 : decode cX12_old 356 = .ok (.iadd, 1) := zo_96 (zkb zk_cX12_old zn_cX12_old rfl)
theorem dX12_old_357 : decode cX12_old 357 = .ok (.iload_n 1, 1) := zo_27 (zkb zk_cX12_old zn_cX12_old rfl)
theorem dX12_old_358 : decode cX12_old 358 = .ok (.bipush 8, 2) := zo_16 (b1 := 8) (zkb2 zk_cX12_old zn_cX12_old rfl) rfl
theorem dX12_old_360 : decode cX12_old 360 = .ok (.irem, 1) := zo_112 (zkb zk_cX12_old zn_cX12_old rfl)
theorem dX12_old_361 : decode cX12_old 361 = .ok (.iadd, 1) := zo_96 (zkb zk_cX12_old zn_cX12_old rfl)
theorem dX12_old_362 : decode cX12_old 362 = .ok (.invokevirtual 401, 3) := zo_182 (b1 := 1) (b2 := 145) (zkb3 zk_cX12_old zn_cX12_old rfl) rfl
theorem dX12_old_365 : decode cX12_old 365 = .ok (.istore 7, 2) := zo_54 (b1 := 7) (zkb2 zk_cX12_old zn_cX12_old rfl)
theorem dX12_old_367 : decode cX12_old 367 = .ok (.iload 6, 2) := zo_21 (b1 := 6) (zkb2 zk_cX12_old zn_cX12_old rfl)
theorem dX12_old_369 : decode cX12_old 369 = .ok (.bipush 7, 2) := zo_16 (b1 := 7) (zkb2 zk_cX12_old zn_cX12_old rfl) rfl
theorem dX12_old_371 : decode cX12_old 371 = .ok (.iload_n 2, 1) := zo_28 (zkb zk_cX12_old zn_cX12_old rfl)
theorem dX12_old_372 : decode cX12_old 372 = .ok (.bipush 8, 2) := zo_16 (b1 := 8) (zkb2 zk_cX12_old zn_cX12_old rfl) rfl
theorem dX12_old_374 : decode cX12_old 374 = .ok (.irem, 1) := zo_112 (zkb zk_cX12_old zn_cX12_old rfl)
theorem dX12_old_375 : decode cX12_old 375 = .ok (.isub, 1) := zo_100 (zkb zk_cX12_old zn_cX12_old rfl)
theorem dX12_old_376 : decode cX12_old 376 = .ok (.ishr, 1) := zo_122 (zkb zk_cX12_old zn_cX12_old rfl)
theorem dX12_old_377 : decode cX12_old 377 = .ok (.iconst 1, 1) := zo_4 (zkb zk_cX12_old zn_cX12_old rfl)
theorem dX12_old_378 : decode cX12_old 378 = .ok (.iand, 1) := zo_126 (zkb zk_cX12_old zn_cX12_old rfl)
theorem dX12_old_379 : decode cX12_old 379 = .ok (.iconst 1, 1) := zo_4 (zkb zk_cX12_old zn_cX12_old rfl)
theorem dX12_old_380 : decode cX12_old 380 = .ok (.if_icmp .ne 10, 3) := zo_160 (b1 := 0) (b2 := 10) (zkb3 zk_cX12_old zn_cX12_old rfl) rfl
theorem dX12_old_383 : decode cX12_old 383 = .ok (.iload 7, 2) := zo_21 (b1 := 7) (zkb2 zk_cX12_old zn_cX12_old rfl)
theorem dX12_old_385 : decode cX12_old 385 = .ok (.iconst 4, 1) := zo_7 (zkb zk_cX12_old zn_cX12_old rfl)
theorem dX12_old_386 : decode cX12_old 386 = .ok (.ishr, 1) := zo_122 (zkb zk_cX12_old zn_cX12_old rfl)
theorem dX12_old_387 : decode cX12_old 387 = .ok (.goto 8, 3) := zo_167 (b1 := 0) (b2 := 8) (zkb3 zk_cX12_old zn_cX12_old rfl) rfl
theorem dX12_old_390 : decode cX12_old 390 = .ok (.iload 7, 2) := zo_21 (b1 := 7) (zkb2 zk_cX12_old zn_cX12_old rfl)
theorem dX12_old_392 : decode cX12_old 392 = .ok (.bipush 15, 2) := zo_16 (b1 := 15) (zkb2 zk_cX12_old zn_cX12_old rfl) rfl
theorem dX12_old_394 : decode cX12_old 394 = .ok (.iand, 1) := zo_126 (zkb zk_cX12_old zn_cX12_old rfl)
theorem dX12_old_395 : decode cX12_old 395 = .ok (.ireturn, 1) := zo_172 (zkb zk_cX12_old zn_cX12_old rfl)
noncomputable def kn_cX12_oldSprites : Nat := 0xb1a1fea701058466ffa7010c844f0a150f155a00b42a0c009a2e0f155a00b42a16009e0a1554040f155d00b42a4f8020102e5c3e101600b42a0f0099330f155d00b42a3900a70600a4ff00110f1544009b0f154900990e150f36600c150b150e367e047a647008100d1507109101b660030400a710100800a407100d15606c1c0815606809150810687008109d01b606102a0008112a0d366c1c0c159800a2681c1d0c150c36030b3664030400a720100800a47f109101b6600606152a9101b6600406152a0a367e0f109101b6600606152a09369101b6600506152a0b00a77efc00119101b6600506152a1200a010101d010484b14f8005158040107ee000112e3e101600b42a3e101600b42a1b009a7e40102e3e101600b42a2900a00704151c01a70600a1681c1d081508367eff001164046407151bb10400a0d00011071507369101b606152a0636606805150768708000119d01b6082a8000115e01a2201005150536030436033e08100500a710100800a0048b01b604042a3d040400a7050700a0048b01b603042a
theorem zk_cX12_oldSprites : zkd cX12_oldSprites.data.toList kn_cX12_oldSprites = true := by decide +kernel
theorem zn_cX12_oldSprites : cX12_oldSprites.data.toList.length = 395 := by decide +kernel
theorem dX12_oldSprites_0 : decode cX12_oldSprites 0 = .ok (.aload_n 0, 1) := zo_42 (zkb zk_cX12_oldSprites zn_cX12_oldSprites rfl)
theorem dX12_oldSprites_1 : decode cX12_oldSprites 1 = .ok (.iconst 1, 1) := zo_4 (zkb zk_cX12_oldSprites zn_cX12_oldSprites rfl)
theorem dX12_oldSprites_2 : decode cX12_oldSprites 2 = .ok (.iconst 0, 1) := zo_3 (zkb zk_cX12_oldSprites zn_cX12_oldSprites rfl)
theorem dX12_oldSprites_3 : decode cX12_oldSprites 3 = .ok (.invokevirtual 395, 3) := zo_182 (b1 := 1) (b2 := 139) (zkb3 zk_cX12_oldSprites zn_cX12_oldSprites rfl) rfl
theorem dX12_oldSprites_6 : decode cX12_oldSprites 6 = .ok (.iconst 1, 1) := zo_4 (zkb zk_cX12_oldSprites zn_cX12_oldSprites rfl)
theorem dX12_oldSprites_7 : decode cX12_oldSprites 7 = .ok (.if_icmp .ne 7, 3) := zo_160 (b1 := 0) (b2 := 7) (zkb3 zk_cX12_oldSprites zn_cX12_oldSprites rfl) rfl
theorem dX12_oldSprites_10 : decode cX12_oldSprites 10 = .ok (.iconst 2, 1) := zo_5 (zkb zk_cX12_oldSprites zn_cX12_oldSprites rfl)
theorem dX12_oldSprites_11 : decode cX12_oldSprites 11 = .ok (.goto 4, 3) := zo_167 (b1 := 0) (b2 := 4) (zkb3 zk_cX12_oldSprites zn_cX12_oldSprites rfl) rfl
theorem dX12_oldSprites_14 : decode cX12_oldSprites 14 = .ok (.iconst 1, 1) := zo_4 (zkb zk_cX12_oldSprites zn_cX12_oldSprites rfl)
theorem dX12_oldSprites_15 : decode cX12_oldSprites 15 = .ok (.istore_n 2, 1) := zo_61 (zkb zk_cX12_oldSprites zn_cX12_oldSprites rfl)
theorem dX12_oldSprites_16 : decode cX12_oldSprites 16 = .ok (.aload_n 0, 1) := zo_42 (zkb zk_cX12_oldSprites zn_cX12_oldSprites rfl)
theorem dX12_oldSprites_17 : decode cX12_oldSprites 17 = .ok (.iconst 1, 1) := zo_4 (zkb zk_cX12_oldSprites zn_cX12_oldSprites rfl)
theorem dX12_oldSprites_18 : decode cX12_oldSprites 18 = .ok (.iconst 1, 1) := zo_4 (zkb zk_cX12_oldSprites zn_cX12_oldSprites rfl)
theorem dX12_oldSprites_19 : decode cX12_oldSprites 19 = .ok (.invokevirtual 395, 3) := zo_182 (b1 := 1) (b2 := 139) (zkb3 zk_cX12_oldSprites zn_cX12_oldSprites rfl) rfl
theorem dX12_oldSprites_22 : decode cX12_oldSprites 22 = .ok (.iconst 1, 1) := zo_4 (zkb zk_cX12_oldSprites zn_cX12_oldSprites rfl)
theorem dX12_oldSprites_23 : decode cX12_oldSprites 23 = .ok (.if_icmp .ne 8, 3) := zo_160 (b1 := 0) (b2 := 8) (zkb3 zk_cX12_oldSprites zn_cX12_oldSprites rfl) rfl
theorem dX12_oldSprites_26 : decode cX12_oldSprites 26 = .ok (.bipush 16, 2) := zo_16 (b1 := 16) (zkb2 zk_cX12_oldSprites zn_cX12_oldSprites rfl) rfl
theorem dX12_oldSprites_28 : decode cX12_oldSprites 28 = .ok (.goto 5, 3) := zo_167 (b1 := 0) (b2 := 5) (zkb3 zk_cX12_oldSprites zn_cX12_oldSprites rfl) rfl
theorem dX12_oldSprites_31 : decode cX12_oldSprites 31 = .ok (.bipush 8, 2) := zo_16 (b1 := 8) (zkb2 zk_cX12_oldSprites zn_cX12_oldSprites rfl) rfl
theorem dX12_oldSprites_33 : decode cX12_oldSprites 33 = .ok (.istore_n 3, 1) := zo_62 (zkb zk_cX12_oldSprites zn_cX12_oldSprites rfl)
theorem dX12_oldSprites_34 : decode cX12_oldSprites 34 = .ok (.iconst 0, 1) := zo_3 (zkb zk_cX12_oldSprites zn_cX12_oldSprites rfl)
theorem dX12_oldSprites_35 : decode cX12_oldSprites 35 = .ok (.istore 4, 2) := zo_54 (b1 := 4) (zkb2 zk_cX12_oldSprites zn_cX12_oldSprites rfl)
theorem dX12_oldSprites_37 : decode cX12_oldSprites 37 = .ok (.iconst 0, 1) := zo_3 (zkb zk_cX12_oldSprites zn_cX12_oldSprites rfl)
theorem dX12_oldSprites_38 : decode cX12_oldSprites 38 = .ok (.istore 5, 2) := zo_54 (b1 := 5) (zkb2 zk_cX12_oldSprites zn_cX12_oldSprites rfl)
theorem dX12_oldSprites_40 : decode cX12_oldSprites 40 = .ok (.iload 5, 2) := zo_21 (b1 := 5) (zkb2 zk_cX12_oldSprites zn_cX12_oldSprites rfl)
theorem dX12_oldSprites_42 : decode cX12_oldSprites 42 = .ok (.bipush 32, 2) := zo_16 (b1 := 32) (zkb2 zk_cX12_oldSprites zn_cX12_oldSprites rfl) rfl
theorem dX12_oldSprites_44 : decode cX12_oldSprites 44 = .ok (.if_icmp .ge 350, 3) := zo_162 (b1 := 1) (b2 := 94) (zkb3 zk_cX12_oldSprites zn_cX12_oldSprites rfl) rfl
theorem dX12_oldSprites_47 : decode cX12_oldSprites 47 = .ok (.sipush 128, 3) := zo_17 (b1 := 0) (b2 := 128) (zkb3 zk_cX12_oldSprites zn_cX12_oldSprites rfl) rfl
theorem dX12_oldSprites_50 : decode cX12_oldSprites 50 = .ok (.aload_n 0, 1) := zo_42 (zkb zk_cX12_oldSprites zn_cX12_oldSprites rfl)
theorem dX12_oldSprites_51 : decode cX12_oldSprites 51 = .ok (.iconst 5, 1) := zo_8 (zkb zk_cX12_oldSprites zn_cX12_oldSprites rfl)
theorem dX12_oldSprites_52 : decode cX12_oldSprites 52 = .ok (.invokevirtual 413, 3) := zo_182 (b1 := 1) (b2 := 157) (zkb3 zk_cX12_oldSprites zn_cX12_oldSprites rfl) rfl
theorem dX12_oldSprites_55 : decode cX12_oldSprites 55 = .ok (.sipush 128, 3) := zo_17 (b1 := 0) (b2 := 128) (zkb3 zk_cX12_oldSprites zn_cX12_oldSprites rfl) rfl
theorem dX12_oldSprites_58 : decode cX12_oldSprites 58 = .ok (.irem, 1) := zo_112 (zkb zk_cX12_oldSprites zn_cX12_oldSprites rfl)
theorem dX12_oldSprites_59 : decode cX12_oldSprites 59 = .ok (.imul, 1) := zo_104 (zkb zk_cX12_oldSprites zn_cX12_oldSprites rfl)
theorem dX12_oldSprites_60 : decode cX12_oldSprites 60 = .ok (.iconst 4, 1) := zo_7 (zkb zk_cX12_oldSprites zn_cX12_oldSprites rfl)
theorem dX12_oldSprites_61 : decode cX12_oldSprites 61 = .ok (.iload 5, 2) := zo_21 (b1 := 5) (zkb2 zk_cX12_oldSprites zn_cX12_oldSprites rfl)
theorem dX12_oldSprites_63 : decode cX12_oldSprites 63 = .ok (.imul, 1) := zo_104 (zkb zk_cX12_oldSprites zn_cX12_oldSprites rfl)
theorem dX12_oldSprites_64 : decode cX12_oldSprites 64 = .ok (.iadd, 1) := zo_96 (zkb zk_cX12_oldSprites zn_cX12_oldSprites rfl)
theorem dX12_oldSprites_65 : decode cX12_oldSprites 65 = .ok (.istore 6, 2) := zo_54 (b1 := 6) (zkb2 zk_cX12_oldSprites zn_cX12_oldSprites rfl)
theorem dX12_oldSprites_67 : decode cX12_oldSprites 67 = .ok (.aload_n 0, 1) := zo_42 (zkb zk_cX12_oldSprites zn_cX12_oldSprites rfl)
theorem dX12_oldSprites_68 : decode cX12_oldSprites 68 = .ok (.iload 6, 2) := zo_21 (b1 := 6) (zkb2 zk_cX12_oldSprites zn_cX12_oldSprites rfl)
theorem dX12_oldSprites_70 : decode cX12_oldSprites 70 = .ok (.invokevirtual 401, 3) := zo_182 (b1 := 1) (b2 := 145) (zkb3 zk_cX12_oldSprites zn_cX12_oldSprites rfl) rfl
theorem dX12_oldSprites_73 : decode cX12_oldSprites 73 = .ok (.istore 7, 2) := zo_54 (b1 := 7) (zkb2 zk_cX12_oldSprites zn_cX12_oldSprites rfl)
theorem dX12_oldSprites_75 : decode cX12_oldSprites 75 = .ok (.iload 7, 2) := zo_21 (b1 := 7) (zkb2 zk_cX12_oldSprites zn_cX12_oldSprites rfl)
theorem dX12_oldSprites_77 : decode cX12_oldSprites 77 = .ok (.sipush 208, 3) := zo_17 (b1 := 0) (b2 := 208) (zkb3 zk_cX12_oldSprites zn_cX12_oldSprites rfl) rfl
theorem dX12_oldSprites_80 : decode cX12_oldSprites 80 = .ok (.if_icmp .ne 4, 3) := zo_160 (b1 := 0) (b2 := 4) (zkb3 zk_cX12_oldSprites zn_cX12_oldSprites rfl) rfl
theorem dX12_oldSprites_83 : decode cX12_oldSprites 83 = .ok (.return_, 1) := zo_177 (zkb zk_cX12_oldSprites zn_cX12_oldSprites rfl)
theorem dX12_oldSprites_84 : decode cX12_oldSprites 84 = .ok (.iload_n 1, 1) := zo_27 (zkb zk_cX12_oldSprites zn_cX12_oldSprites rfl)
theorem dX12_oldSprites_85 : decode cX12_oldSprites 85 = .ok (.iload 7, 2) := zo_21 (b1 := 7) (zkb2 zk_cX12_oldSprites zn_cX12_oldSprites rfl)
theorem dX12_oldSprites_87 : decode cX12_oldSprites 87 = .ok (.isub, 1) := zo_100 (zkb zk_cX12_oldSprites zn_cX12_oldSprites rfl)
theorem dX12_oldSprites_88 : decode cX12_oldSprites 88 = .ok (.iconst 1, 1) := zo_4 (zkb zk_cX12_oldSprites zn_cX12_oldSprites rfl)
theorem dX12_oldSprites_89 : decode cX12_oldSprites 89 = .ok (.isub, 1) := zo_100 (zkb zk_cX12_oldSprites zn_cX12_oldSprites rfl)
theorem dX12_oldSprites_90 : decode cX12_oldSprites 90 = .ok (.sipush 255, 3) := zo_17 (b1 := 0) (b2 := 255) (zkb3 zk_cX12_oldSprites zn_cX12_oldSprites rfl) rfl
theorem dX12_oldSprites_93 : decode cX12_oldSprites 93 = .ok (.iand, 1) := zo_126 (zkb zk_cX12_oldSprites zn_cX12_oldSprites rfl)
theorem dX12_oldSprites_94 : decode cX12_oldSprites 94 = .ok (.istore 8, 2) := zo_54 (b1 := 8) (zkb2 zk_cX12_oldSprites zn_cX12_oldSprites rfl)
theorem dX12_oldSprites_96 : decode cX12_oldSprites 96 = .ok (.iload 8, 2) := zo_21 (b1 := 8) (zkb2 zk_cX12_oldSprites zn_cX12_oldSprites rfl)
theorem dX12_oldSprites_98 : decode cX12_oldSprites 98 = .ok (.iload_n 3, 1) := zo_29 (zkb zk_cX12_oldSprites zn_cX12_oldSprites rfl)
theorem dX12_oldSprites_99 : decode cX12_oldSprites 99 = .ok (.iload_n 2, 1) := zo_28 (zkb zk_cX12_oldSprites zn_cX12_oldSprites rfl)
theorem dX12_oldSprites_100 : decode cX12_oldSprites 100 = .ok (.imul, 1) := zo_104 (zkb zk_cX12_oldSprites zn_cX12_oldSprites rfl)
theorem dX12_oldSprites_101 : decode cX12_oldSprites 101 = .ok (.if_icmp .lt 6, 3) := zo_161 (b1 := 0) (b2 := 6) (zkb3 zk_cX12_oldSprites zn_cX12_oldSprites rfl) rfl
theorem dX12_oldSprites_104 : decode cX12_oldSprites 104 = .ok (.goto 284, 3) := zo_167 (b1 := 1) (b2 := 28) (zkb3 zk_cX12_oldSprites zn_cX12_oldSprites rfl) rfl
theorem dX12_oldSprites_107 : decode cX12_oldSprites 107 = .ok (.iload 4, 2) := zo_21 (b1 := 4) (zkb2 zk_cX12_oldSprites zn_cX12_oldSprites rfl)
theorem dX12_oldSprites_109 : decode cX12_oldSprites 109 = .ok (.iconst 4, 1) := zo_7 (zkb zk_cX12_oldSprites zn_cX12_oldSprites rfl)
theorem dX12_oldSprites_110 : decode cX12_oldSprites 110 = .ok (.if_icmp .ne 41, 3) := zo_160 (b1 := 0) (b2 := 41) (zkb3 zk_cX12_oldSprites zn_cX12_oldSprites rfl) rfl
theorem dX12_oldSprites_113 : decode cX12_oldSprites 113 = .ok (.aload_n 0, 1) := zo_42 (zkb zk_cX12_oldSprites zn_cX12_oldSprites rfl)
theorem dX12_oldSprites_114 : decode cX12_oldSprites 114 = .ok (.getfield 22, 3) := zo_180 (b1 := 0) (b2 := 22) (zkb3 zk_cX12_oldSprites zn_cX12_oldSprites rfl) rfl
theorem dX12_oldSprites_117 : decode cX12_oldSprites 117 = .ok (.bipush 62, 2) := zo_16 (b1 := 62) (zkb2 zk_cX12_oldSprites zn_cX12_oldSprites rfl) rfl
theorem dX12_oldSprites_119 : decode cX12_oldSprites 119 = .ok (.iaload, 1) := zo_46 (zkb zk_cX12_oldSprites zn_cX12_oldSprites rfl)
theorem dX12_oldSprites_120 : decode cX12_oldSprites 120 = .ok (.bipush 64, 2) := zo_16 (b1 := 64) (zkb2 zk_cX12_oldSprites zn_cX12_oldSprites rfl) rfl
theorem dX12_oldSprites_122 : decode cX12_oldSprites 122 = .ok (.iand, 1) := zo_126 (zkb zk_cX12_oldSprites zn_cX12_oldSprites rfl)
theorem dX12_oldSprites_123 : decode cX12_oldSprites 123 = .ok (.ifCond .ne 27, 3) := zo_154 (b1 := 0) (b2 := 27) (zkb3 zk_cX12_oldSprites zn_cX12_oldSprites rfl) rfl
theorem dX12_oldSprites_126 : decode cX12_oldSprites 126 = .ok (.aload_n 0, 1) := zo_42 (zkb zk_cX12_oldSprites zn_cX12_oldSprites rfl)
theorem dX12_oldSprites_127 : decode cX12_oldSprites 127 = .ok (.getfield 22, 3) := zo_180 (b1 := 0) (b2 := 22) (zkb3 zk_cX12_oldSprites zn_cX12_oldSprites rfl) rfl
theorem dX12_oldSprites_130 : decode cX12_oldSprites 130 = .ok (.bipush 62, 2) := zo_16 (b1 := 62) (zkb2 zk_cX12_oldSprites zn_cX12_oldSprites rfl) rfl
theorem dX12_oldSprites_132 : decode cX12_oldSprites 132 = .ok (.aload_n 0, 1) := zo_42 (zkb zk_cX12_oldSprites zn_cX12_oldSprites rfl)
theorem dX12_oldSprites_133 : decode cX12_oldSprites 133 = .ok (.getfield 22, 3) := zo_180 (b1 := 0) (b2 := 22) (zkb3 zk_cX12_oldSprites zn_cX12_oldSprites rfl) rfl
theorem dX12_oldSprites_136 : decode cX12_oldSprites 136 = .ok (.bipush 62, 2) := zo_16 (b1 := 62) (zkb2 zk_cX12_oldSprites zn_cX12_oldSprites rfl) rfl
theorem dX12_oldSprites_138 : decode cX12_oldSprites 138 = .ok (.iaload, 1) := zo_46 (zkb zk_cX12_oldSprites zn_cX12_oldSprites rfl)
theorem dX12_oldSprites_139 : decode cX12_oldSprites 139 = .ok (.sipush 224, 3) := zo_17 (b1 := 0) (b2 := 224) (zkb3 zk_cX12_oldSprites zn_cX12_oldSprites rfl) rfl
theorem dX12_oldSprites_142 : decode cX12_oldSprites 142 = .ok (.iand, 1) := zo_126 (zkb zk_cX12_oldSprites zn_cX12_oldSprites rfl)
theorem dX12_oldSprites_143 : decode cX12_oldSprites 143 = .ok (.bipush 64, 2) := zo_16 (b1 := 64) (zkb2 zk_cX12_oldSprites zn_cX12_oldSprites rfl) rfl
theorem dX12_oldSprites_145 : decode cX12_oldSprites 145 = .ok (.ior, 1) := zo_128 (zkb zk_cX12_oldSprites zn_cX12_oldSprites rfl)
theorem dX12_oldSprites_146 : decode cX12_oldSprites 146 = .ok (.iload 5, 2) := zo_21 (b1 := 5) (zkb2 zk_cX12_oldSprites zn_cX12_oldSprites rfl)
theorem dX12_oldSprites_148 : decode cX12_oldSprites 148 = .ok (.ior, 1) := zo_128 (zkb zk_cX12_oldSprites zn_cX12_oldSprites rfl)
theorem dX12_oldSprites_149 : decode cX12_oldSprites 149 = .ok (.iastore, 1) := zo_79 (zkb zk_cX12_oldSprites zn_cX12_oldSprites rfl)
theorem dX12_oldSprites_150 : decode cX12_oldSprites 150 = .ok (.return_, 1) := zo_177 (zkb zk_cX12_oldSprites zn_cX12_oldSprites rfl)
theorem dX12_oldSprites_151 : decode cX12_oldSprites 151 = .ok (.iinc 4 1, 3) := zo_132 (b1 := 4) (b2 := 1) (zkb3 zk_cX12_oldSprites zn_cX12_oldSprites rfl) rfl
theorem dX12_oldSprites_154 : decode cX12_oldSprites 154 = .ok (.iload_n 3, 1) := zo_29 (zkb zk_cX12_oldSprites zn_cX12_oldSprites rfl)
theorem dX12_oldSprites_155 : decode cX12_oldSprites 155 = .ok (.bipush 16, 2) := zo_16 (b1 := 16) (zkb2 zk_cX12_oldSprites zn_cX12_oldSprites rfl) rfl
theorem dX12_oldSprites_157 : decode cX12_oldSprites 157 = .ok (.if_icmp .ne 18, 3) := zo_160 (b1 := 0) (b2 := 18) (zkb3 zk_cX12_oldSprites zn_cX12_oldSprites rfl) rfl
theorem dX12_oldSprites_160 : decode cX12_oldSprites 160 = .ok (.aload_n 0, 1) := zo_42 (zkb zk_cX12_oldSprites zn_cX12_oldSprites rfl)
theorem dX12_oldSprites_161 : decode cX12_oldSprites 161 = .ok (.iload 6, 2) := zo_21 (b1 := 6) (zkb2 zk_cX12_oldSprites zn_cX12_oldSprites rfl)
theorem dX12_oldSprites_163 : decode cX12_oldSprites 163 = .ok (.iconst 2, 1) := zo_5 (zkb zk_cX12_oldSprites zn_cX12_oldSprites rfl)
theorem dX12_oldSprites_164 : decode cX12_oldSprites 164 = .ok (.iadd, 1) := zo_96 (zkb zk_cX12_oldSprites zn_cX12_oldSprites rfl)
theorem dX12_oldSprites_165 : decode cX12_oldSprites 165 = .ok (.invokevirtual 401, 3) := zo_182 (b1 := 1) (b2 := 145) (zkb3 zk_cX12_oldSprites zn_cX12_oldSprites rfl) rfl
theorem dX12_oldSprites_168 : decode cX12_oldSprites 168 = .ok (.sipush 252, 3) := zo_17 (b1 := 0) (b2 := 252) (zkb3 zk_cX12_oldSprites zn_cX12_oldSprites rfl) rfl
theorem dX12_oldSprites_171 : decode cX12_oldSprites 171 = .ok (.iand, 1) := zo_126 (zkb zk_cX12_oldSprites zn_cX12_oldSprites rfl)
theorem dX12_oldSprites_172 : decode cX12_oldSprites 172 = .ok (.goto 11, 3) := zo_167 (b1 := 0) (b2 := 11) (zkb3 zk_cX12_oldSprites zn_cX12_oldSprites rfl) rfl
theorem dX12_oldSprites_175 : decode cX12_oldSprites 175 = .ok (.aload_n 0, 1) := zo_42 (zkb zk_cX12_oldSprites zn_cX12_oldSprites rfl)
theorem dX12_oldSprites_176 : decode cX12_oldSprites 176 = .ok (.iload 6, 2) := zo_21 (b1 := 6) (zkb2 zk_cX12_oldSprites zn_cX12_oldSprites rfl)
theorem dX12_oldSprites_178 : decode cX12_oldSprites 178 = .ok (.iconst 2, 1) := zo_5 (zkb zk_cX12_oldSprites zn_cX12_oldSprites rfl)
theorem dX12_oldSprites_179 : decode cX12_oldSprites 179 = .ok (.iadd, 1) := zo_96 (zkb zk_cX12_oldSprites zn_cX12_oldSprites rfl)
theorem dX12_oldSprites_180 : decode cX12_oldSprites 180 = .ok (.invokevirtual 401, 3) := zo_182 (b1 := 1) (b2 := 145) (zkb3 zk_cX12_oldSprites zn_cX12_oldSprites rfl) rfl
theorem dX12_oldSprites_183 : decode cX12_oldSprites 183 = .ok (.istore 9, 2) := zo_54 (b1 := 9) (zkb2 zk_cX12_oldSprites zn_cX12_oldSprites rfl)
theorem dX12_oldSprites_185 : decode cX12_oldSprites 185 = .ok (.aload_n 0, 1) := zo_42 (zkb zk_cX12_oldSprites zn_cX12_oldSprites rfl)
theorem dX12_oldSprites_186 : decode cX12_oldSprites 186 = .ok (.iload 6, 2) := zo_21 (b1 := 6) (zkb2 zk_cX12_oldSprites zn_cX12_oldSprites rfl)
theorem dX12_oldSprites_188 : decode cX12_oldSprites 188 = .ok (.iconst 3, 1) := zo_6 (zkb zk_cX12_oldSprites zn_cX12_oldSprites rfl)
theorem dX12_oldSprites_189 : decode cX12_oldSprites 189 = .ok (.iadd, 1) := zo_96 (zkb zk_cX12_oldSprites zn_cX12_oldSprites rfl)
theorem dX12_oldSprites_190 : decode cX12_oldSprites 190 = .ok (.invokevirtual 401, 3) := zo_182 (b1 := 1) (b2 := 145) (zkb3 zk_cX12_oldSprites zn_cX12_oldSprites rfl) rfl
theorem dX12_oldSprites_193 : decode cX12_oldSprites 193 = .ok (.bipush 15, 2) := zo_16 (b1 := 15) (zkb2 zk_cX12_oldSprites zn_cX12_oldSprites rfl) rfl
theorem dX12_oldSprites_195 : decode cX12_oldSprites 195 = .ok (.iand, 1) := zo_126 (zkb zk_cX12_oldSprites zn_cX12_oldSprites rfl)
theorem dX12_oldSprites_196 : decode cX12_oldSprites 196 = .ok (.istore 10, 2) := zo_54 (b1 := 10) (zkb2 zk_cX12_oldSprites zn_cX12_oldSprites rfl)
theorem dX12_oldSprites_198 : decode cX12_oldSprites 198 = .ok (.aload_n 0, 1) := zo_42 (zkb zk_cX12_oldSprites zn_cX12_oldSprites rfl)
theorem dX12_oldSprites_199 : decode cX12_oldSprites 199 = .ok (.iload 6, 2) := zo_21 (b1 := 6) (zkb2 zk_cX12_oldSprites zn_cX12_oldSprites rfl)
theorem dX12_oldSprites_201 : decode cX12_oldSprites 201 = .ok (.iconst 1, 1) := zo_4 (zkb zk_cX12_oldSprites zn_cX12_oldSprites rfl)
theorem dX12_oldSprites_202 : decode cX12_oldSprites 202 = .ok (.iadd, 1) := zo_96 (zkb zk_cX12_oldSprites zn_cX12_oldSprites rfl)
theorem dX12_oldSprites_203 : decode cX12_oldSprites 203 = .ok (.invokevirtual 401, 3) := zo_182 (b1 := 1) (b2 := 145) (zkb3 zk_cX12_oldSprites zn_cX12_oldSprites rfl) rfl
theorem dX12_oldSprites_206 : decode cX12_oldSprites 206 = .ok (.aload_n 0, 1) := zo_42 (zkb zk_cX12_oldSprites zn_cX12_oldSprites rfl)
theorem dX12_oldSprites_207 : decode cX12_oldSprites 207 = .ok (.iload 6, 2) := zo_21 (b1 := 6) (zkb2 zk_cX12_oldSprites zn_cX12_oldSprites rfl)
theorem dX12_oldSprites_209 : decode cX12_oldSprites 209 = .ok (.iconst 3, 1) := zo_6 (zkb zk_cX12_oldSprites zn_cX12_oldSprites rfl)
theorem dX12_oldSprites_210 : decode cX12_oldSprites 210 = .ok (.iadd, 1) := zo_96 (zkb zk_cX12_oldSprites zn_cX12_oldSprites rfl)
theorem dX12_oldSprites_211 : decode cX12_oldSprites 211 = .ok (.invokevirtual 401, 3) := zo_182 (b1 := 1) (b2 := 145) (zkb3 zk_cX12_oldSprites zn_cX12_oldSprites rfl) rfl
theorem dX12_oldSprites_214 : decode cX12_oldSprites 214 = .ok (.bipush 127, 2) := zo_16 (b1 := 127) (zkb2 zk_cX12_oldSprites zn_cX12_oldSprites rfl) rfl
theorem dX12_oldSprites_216 : decode cX12_oldSprites 216 = .ok (.if_icmp .le 8, 3) := zo_164 (b1 := 0) (b2 := 8) (zkb3 zk_cX12_oldSprites zn_cX12_oldSprites rfl) rfl
theorem dX12_oldSprites_219 : decode cX12_oldSprites 219 = .ok (.bipush 32, 2) := zo_16 (b1 := 32) (zkb2 zk_cX12_oldSprites zn_cX12_oldSprites rfl) rfl
theorem dX12_oldSprites_221 : decode cX12_oldSprites 221 = .ok (.goto 4, 3) := zo_167 (b1 := 0) (b2 := 4) (zkb3 zk_cX12_oldSprites zn_cX12_oldSprites rfl) rfl
theorem dX12_oldSprites_224 : decode cX12_oldSprites 224 = .ok (.iconst 0, 1) := zo_3 (zkb zk_cX12_oldSprites zn_cX12_oldSprites rfl)
theorem dX12_oldSprites_225 : decode cX12_oldSprites 225 = .ok (.isub, 1) := zo_100 (zkb zk_cX12_oldSprites zn_cX12_oldSprites rfl)
theorem dX12_oldSprites_226 : decode cX12_oldSprites 226 = .ok (.istore 11, 2) := zo_54 (b1 := 11) (zkb2 zk_cX12_oldSprites zn_cX12_oldSprites rfl)
theorem dX12_oldSprites_228 : decode cX12_oldSprites 228 = .ok (.iconst 0, 1) := zo_3 (zkb zk_cX12_oldSprites zn_cX12_oldSprites rfl)
theorem dX12_oldSprites_229 : decode cX12_oldSprites 229 = .ok (.istore 12, 2) := zo_54 (b1 := 12) (zkb2 zk_cX12_oldSprites zn_cX12_oldSprites rfl)
theorem dX12_oldSprites_231 : decode cX12_oldSprites 231 = .ok (.iload 12, 2) := zo_21 (b1 := 12) (zkb2 zk_cX12_oldSprites zn_cX12_oldSprites rfl)
theorem dX12_oldSprites_233 : decode cX12_oldSprites 233 = .ok (.iload_n 3, 1) := zo_29 (zkb zk_cX12_oldSprites zn_cX12_oldSprites rfl)
theorem dX12_oldSprites_234 : decode cX12_oldSprites 234 = .ok (.iload_n 2, 1) := zo_28 (zkb zk_cX12_oldSprites zn_cX12_oldSprites rfl)
theorem dX12_oldSprites_235 : decode cX12_oldSprites 235 = .ok (.imul, 1) := zo_104 (zkb zk_cX12_oldSprites zn_cX12_oldSprites rfl)
theorem dX12_oldSprites_236 : decode cX12_oldSprites 236 = .ok (.if_icmp .ge 152, 3) := zo_162 (b1 := 0) (b2 := 152) (zkb3 zk_cX12_oldSprites zn_cX12_oldSprites rfl) rfl
theorem dX12_oldSprites_239 : decode cX12_oldSprites 239 = .ok (.iload 12, 2) := zo_21 (b1 := 12) (zkb2 zk_cX12_oldSprites zn_cX12_oldSprites rfl)
theorem dX12_oldSprites_241 : decode cX12_oldSprites 241 = .ok (.iload_n 2, 1) := zo_28 (zkb zk_cX12_oldSprites zn_cX12_oldSprites rfl)
theorem dX12_oldSprites_242 : decode cX12_oldSprites 242 = .ok (.idiv, 1) := zo_108 (zkb zk_cX12_oldSprites zn_cX12_oldSprites rfl)
theorem dX12_oldSprites_243 : decode cX12_oldSprites 243 = .ok (.istore 13, 2) := zo_54 (b1 := 13) (zkb2 zk_cX12_oldSprites zn_cX12_oldSprites rfl)
theorem dX12_oldSprites_245 : decode cX12_oldSprites 245 = .ok (.aload_n 0, 1) := zo_42 (zkb zk_cX12_oldSprites zn_cX12_oldSprites rfl)
theorem dX12_oldSprites_246 : decode cX12_oldSprites 246 = .ok (.sipush 2048, 3) := zo_17 (b1 := 8) (b2 := 0) (zkb3 zk_cX12_oldSprites zn_cX12_oldSprites rfl) rfl
theorem dX12_oldSprites_249 : decode cX12_oldSprites 249 = .ok (.aload_n 0, 1) := zo_42 (zkb zk_cX12_oldSprites zn_cX12_oldSprites rfl)
theorem dX12_oldSprites_250 : decode cX12_oldSprites 250 = .ok (.bipush 6, 2) := zo_16 (b1 := 6) (zkb2 zk_cX12_oldSprites zn_cX12_oldSprites rfl) rfl
theorem dX12_oldSprites_252 : decode cX12_oldSprites 252 = .ok (.invokevirtual 413, 3) := zo_182 (b1 := 1) (b2 := 157) (zkb3 zk_cX12_oldSprites zn_cX12_oldSprites rfl) rfl
theorem dX12_oldSprites_255 : decode cX12_oldSprites 255 = .ok (.bipush 8, 2) := zo_16 (b1 := 8) (zkb2 zk_cX12_oldSprites zn_cX12_oldSprites rfl) rfl
theorem dX12_oldSprites_257 : decode cX12_oldSprites 257 = .ok (.irem, 1) := zo_112 (zkb zk_cX12_oldSprites zn_cX12_oldSprites rfl)
theorem dX12_oldSprites_258 : decode cX12_oldSprites 258 = .ok (.imul, 1) := zo_104 (zkb zk_cX12_oldSprites zn_cX12_oldSprites rfl)
theorem dX12_oldSprites_259 : decode cX12_oldSprites 259 = .ok (.bipush 8, 2) := zo_16 (b1 := 8) (zkb2 zk_cX12_oldSprites zn_cX12_oldSprites rfl) rfl
theorem dX12_oldSprites_261 : decode cX12_oldSprites 261 = .ok (.iload 9, 2) := zo_21 (b1 := 9) (zkb2 zk_cX12_oldSprites zn_cX12_oldSprites rfl)
theorem dX12_oldSprites_263 : decode cX12_oldSprites 263 = .ok (.imul, 1) := zo_104 (zkb zk_cX12_oldSprites zn_cX12_oldSprites rfl)
theorem dX12_oldSprites_264 : decode cX12_oldSprites 264 = .ok (.iadd, 1) := zo_96 (zkb zk_cX12_oldSprites zn_cX12_oldSprites rfl)
theorem dX12_oldSprites_265 : decode cX12_oldSprites 265 = .ok (.iload 8, 2) := zo_21 (b1 := 8) (zkb2 zk_cX12_oldSprites zn_cX12_oldSprites rfl)
theorem dX12_oldSprites_267 : decode cX12_oldSprites 267 = .ok (.iload_n 2, 1) := zo_28 (zkb zk_cX12_oldSprites zn_cX12_oldSprites rfl)
theorem dX12_oldSprites_268 : decode cX12_oldSprites 268 = .ok (.idiv, 1) := zo_108 (zkb zk_cX12_oldSprites zn_cX12_oldSprites rfl)
theorem dX12_oldSprites_269 : decode cX12_oldSprites 269 = .ok (.iadd, 1) := zo_96 (zkb zk_cX12_oldSprites zn_cX12_oldSprites rfl)
theorem dX12_oldSprites_270 : decode cX12_oldSprites 270 = .ok (.iload 13, 2) := zo_21 (b1 := 13) (zkb2 zk_cX12_oldSprites zn_cX12_oldSprites rfl)
theorem dX12_oldSprites_272 : decode cX12_oldSprites 272 = .ok (.bipush 7, 2) := zo_16 (b1 := 7) (zkb2 zk_cX12_oldSprites zn_cX12_oldSprites rfl) rfl
theorem dX12_oldSprites_274 : decode cX12_oldSprites 274 = .ok (.if_icmp .le 8, 3) := zo_164 (b1 := 0) (b2 := 8) (zkb3 zk_cX12_oldSprites zn_cX12_oldSprites rfl) rfl
theorem dX12_oldSprites_277 : decode cX12_oldSprites 277 = .ok (.bipush 16, 2) := zo_16 (b1 := 16) (zkb2 zk_cX12_oldSprites zn_cX12_oldSprites rfl) rfl
theorem dX12_oldSprites_279 : decode cX12_oldSprites 279 = .ok (.goto 4, 3) := zo_167 (b1 := 0) (b2 := 4) (zkb3 zk_cX12_oldSprites zn_cX12_oldSprites rfl) rfl
theorem dX12_oldSprites_282 : decode cX12_oldSprites 282 = .ok (.iconst 0, 1) := zo_3 (zkb zk_cX12_oldSprites zn_cX12_oldSprites rfl)
theorem dX12_oldSprites_283 : decode cX12_oldSprites 283 = .ok (.iadd, 1) := zo_96 (zkb zk_cX12_oldSprites zn_cX12_oldSprites rfl)
theorem dX12_oldSprites_284 : decode cX12_oldSprites 284 = .ok (.invokevirtual 401, 3) := zo_182 (b1 := 1) (b2 := 145) (zkb3 zk_cX12_oldSprites zn_cX12_oldSprites rfl) rfl
theorem dX12_oldSprites_287 : decode cX12_oldSprites 287 = .ok (.bipush 7, 2) := zo_16 (b1 := 7) (zkb2 zk_cX12_oldSprites zn_cX12_oldSprites rfl) rfl
theorem dX12_oldSprites_289 : decode cX12_oldSprites 289 = .ok (.iload 13, 2) := zo_21 (b1 := 13) (zkb2 zk_cX12_oldSprites zn_cX12_oldSprites rfl)
theorem dX12_oldSprites_291 : decode cX12_oldSprites 291 = .ok (.bipush 8, 2) := zo_16 (b1 := 8) (zkb2 zk_cX12_oldSprites zn_cX12_oldSprites rfl) rfl
theorem dX12_oldSprites_293 : decode cX12_oldSprites 293 = .ok (.irem, 1) := zo_112 (zkb zk_cX12_oldSprites zn_cX12_oldSprites rfl)
theorem dX12_oldSprites_294 : decode cX12_oldSprites 294 = .ok (.isub, 1) := zo_100 (zkb zk_cX12_oldSprites zn_cX12_oldSprites rfl)
theorem dX12_oldSprites_295 : decode cX12_oldSprites 295 = .ok (.ishr, 1) := zo_122 (zkb zk_cX12_oldSprites zn_cX12_oldSprites rfl)
theorem dX12_oldSprites_296 : decode cX12_oldSprites 296 = .ok (.iconst 1, 1) := zo_4 (zkb zk_cX12_oldSprites zn_cX12_oldSprites rfl)
theorem dX12_oldSprites_297 : decode cX12_oldSprites 297 = .ok (.iand, 1) := zo_126 (zkb zk_cX12_oldSprites zn_cX12_oldSprites rfl)
theorem dX12_oldSprites_298 : decode cX12_oldSprites 298 = .ok (.istore 14, 2) := zo_54 (b1 := 14) (zkb2 zk_cX12_oldSprites zn_cX12_oldSprites rfl)
theorem dX12_oldSprites_300 : decode cX12_oldSprites 300 = .ok (.iload 11, 2) := zo_21 (b1 := 11) (zkb2 zk_cX12_oldSprites zn_cX12_oldSprites rfl)
theorem dX12_oldSprites_302 : decode cX12_oldSprites 302 = .ok (.iload 12, 2) := zo_21 (b1 := 12) (zkb2 zk_cX12_oldSprites zn_cX12_oldSprites rfl)
theorem dX12_oldSprites_304 : decode cX12_oldSprites 304 = .ok (.iadd, 1) := zo_96 (zkb zk_cX12_oldSprites zn_cX12_oldSprites rfl)
theorem dX12_oldSprites_305 : decode cX12_oldSprites 305 = .ok (.istore 15, 2) := zo_54 (b1 := 15) (zkb2 zk_cX12_oldSprites zn_cX12_oldSprites rfl)
theorem dX12_oldSprites_307 : decode cX12_oldSprites 307 = .ok (.iload 14, 2) := zo_21 (b1 := 14) (zkb2 zk_cX12_oldSprites zn_cX12_oldSprites rfl)
theorem dX12_oldSprites_309 : decode cX12_oldSprites 309 = .ok (.ifCond .eq 73, 3) := zo_153 (b1 := 0) (b2 := 73) (zkb3 zk_cX12_oldSprites zn_cX12_oldSprites rfl) rfl
theorem dX12_oldSprites_312 : decode cX12_oldSprites 312 = .ok (.iload 15, 2) := zo_21 (b1 := 15) (zkb2 zk_cX12_oldSprites zn_cX12_oldSprites rfl)
theorem dX12_oldSprites_314 : decode cX12_oldSprites 314 = .ok (.ifCond .lt 68, 3) := zo_155 (b1 := 0) (b2 := 68) (zkb3 zk_cX12_oldSprites zn_cX12_oldSprites rfl) rfl
theorem dX12_oldSprites_317 : decode cX12_oldSprites 317 = .ok (.iload 15, 2) := zo_21 (b1 := 15) (zkb2 zk_cX12_oldSprites zn_cX12_oldSprites rfl)
theorem dX12_oldSprites_319 : decode cX12_oldSprites 319 = .ok (.sipush 255, 3) := zo_17 (b1 := 0) (b2 := 255) (zkb3 zk_cX12_oldSprites zn_cX12_oldSprites rfl) rfl
theorem dX12_oldSprites_322 : decode cX12_oldSprites 322 = .ok (.if_icmp .le 6, 3) := zo_164 (b1 := 0) (b2 := 6) (zkb3 zk_cX12_oldSprites zn_cX12_oldSprites rfl) rfl
theorem dX12_oldSprites_325 : decode cX12_oldSprites 325 = .ok (.goto 57, 3) := zo_167 (b1 := 0) (b2 := 57) (zkb3 zk_cX12_oldSprites zn_cX12_oldSprites rfl) rfl
theorem dX12_oldSprites_328 : decode cX12_oldSprites 328 = .ok (.aload_n 0, 1) := zo_42 (zkb zk_cX12_oldSprites zn_cX12_oldSprites rfl)
theorem dX12_oldSprites_329 : decode cX12_oldSprites 329 = .ok (.getfield 93, 3) := zo_180 (b1 := 0) (b2 := 93) (zkb3 zk_cX12_oldSprites zn_cX12_oldSprites rfl) rfl
theorem dX12_oldSprites_332 : decode cX12_oldSprites 332 = .ok (.iload 15, 2) := zo_21 (b1 := 15) (zkb2 zk_cX12_oldSprites zn_cX12_oldSprites rfl)
theorem dX12_oldSprites_334 : decode cX12_oldSprites 334 = .ok (.baload, 1) := zo_51 (zkb zk_cX12_oldSprites zn_cX12_oldSprites rfl)
theorem dX12_oldSprites_335 : decode cX12_oldSprites 335 = .ok (.ifCond .eq 15, 3) := zo_153 (b1 := 0) (b2 := 15) (zkb3 zk_cX12_oldSprites zn_cX12_oldSprites rfl) rfl
theorem dX12_oldSprites_338 : decode cX12_oldSprites 338 = .ok (.aload_n 0, 1) := zo_42 (zkb zk_cX12_oldSprites zn_cX12_oldSprites rfl)
theorem dX12_oldSprites_339 : decode cX12_oldSprites 339 = .ok (.getfield 22, 3) := zo_180 (b1 := 0) (b2 := 22) (zkb3 zk_cX12_oldSprites zn_cX12_oldSprites rfl) rfl
theorem dX12_oldSprites_342 : decode cX12_oldSprites 342 = .ok (.bipush 62, 2) := zo_16 (b1 := 62) (zkb2 zk_cX12_oldSprites zn_cX12_oldSprites rfl) rfl
theorem dX12_oldSprites_344 : decode cX12_oldSprites 344 = .ok (.dup2, 1) := zo_92 (zkb zk_cX12_oldSprites zn_cX12_oldSprites rfl)
theorem dX12_oldSprites_345 : decode cX12_oldSprites 345 = .ok (.iaload, 1) := zo_46 (zkb zk_cX12_oldSprites zn_cX12_oldSprites rfl)
theorem dX12_oldSprites_346 : decode cX12_oldSprites 346 = .ok (.bipush 32, 2) := zo_16 (b1 := 32) (zkb2 zk_cX12_oldSprites zn_cX12_oldSprites rfl) rfl
theorem dX12_oldSprites_348 : decode cX12_oldSprites 348 = .ok (.ior, 1) := zo_128 (zkb zk_cX12_oldSprites zn_cX12_oldSprites rfl)
theorem dX12_oldSprites_349 : decode cX12_oldSprites 349 = .ok (.iastore, 1) := zo_79 (zkb zk_cX12_oldSprites zn_cX12_oldSprites rfl)
theorem dX12_oldSprites_350 : decode cX12_oldSprites 350 = .ok (.aload_n 0, 1) := zo_42 (zkb zk_cX12_oldSprites zn_cX12_oldSprites rfl)
theorem dX12_oldSprites_351 : decode cX12_oldSprites 351 = .ok (.getfield 93, 3) := zo_180 (b1 := 0) (b2 := 93) (zkb3 zk_cX12_oldSprites zn_cX12_oldSprites rfl) rfl
theorem dX12_oldSprites_354 : decode cX12_oldSprites 354 = .ok (.iload 15, 2) := zo_21 (b1 := 15) (zkb2 zk_cX12_oldSprites zn_cX12_oldSprites rfl)
theorem dX12_oldSprites_356 : decode cX12_oldSprites 356 = .ok (.iconst 1, 1) := zo_4 (zkb zk_cX12_oldSprites zn_cX12_oldSprites rfl)
theorem dX12_oldSprites_357 : decode cX12_oldSprites 357 = .ok (.bastore, 1) := zo_84 (zkb zk_cX12_oldSprites zn_cX12_oldSprites rfl)
theorem dX12_oldSprites_358 : decode cX12_oldSprites 358 = .ok (.iload 10, 2) := zo_21 (b1 := 10) (zkb2 zk_cX12_oldSprites zn_cX12_oldSprites rfl)
theorem dX12_oldSprites_360 : decode cX12_oldSprites 360 = .ok (.ifCond .le 22, 3) := zo_158 (b1 := 0) (b2 := 22) (zkb3 zk_cX12_oldSprites zn_cX12_oldSprites rfl) rfl
theorem dX12_oldSprites_363 : decode cX12_oldSprites 363 = .ok (.aload_n 0, 1) := zo_42 (zkb zk_cX12_oldSprites zn_cX12_oldSprites rfl)
theorem dX12_oldSprites_364 : decode cX12_oldSprites 364 = .ok (.getfield 90, 3) := zo_180 (b1 := 0) (b2 := 90) (zkb3 zk_cX12_oldSprites zn_cX12_oldSprites rfl) rfl
theorem dX12_oldSprites_367 : decode cX12_oldSprites 367 = .ok (.iload 15, 2) := zo_21 (b1 := 15) (zkb2 zk_cX12_oldSprites zn_cX12_oldSprites rfl)
theorem dX12_oldSprites_369 : decode cX12_oldSprites 369 = .ok (.iaload, 1) := zo_46 (zkb zk_cX12_oldSprites zn_cX12_oldSprites rfl)
theorem dX12_oldSprites_370 : decode cX12_oldSprites 370 = .ok (.ifCond .ne 12, 3) := zo_154 (b1 := 0) (b2 := 12) (zkb3 zk_cX12_oldSprites zn_cX12_oldSprites rfl) rfl
theorem dX12_oldSprites_373 : decode cX12_oldSprites 373 = .ok (.aload_n 0, 1) := zo_42 (zkb zk_cX12_oldSprites zn_cX12_oldSprites rfl)
theorem dX12_oldSprites_374 : decode cX12_oldSprites 374 = .ok (.getfield 90, 3) := zo_180 (b1 := 0) (b2 := 90) (zkb3 zk_cX12_oldSprites zn_cX12_oldSprites rfl) rfl
theorem dX12_oldSprites_377 : decode cX12_oldSprites 377 = .ok (.iload 15, 2) := zo_21 (b1 := 15) (zkb2 zk_cX12_oldSprites zn_cX12_oldSprites rfl)
theorem dX12_oldSprites_379 : decode cX12_oldSprites 379 = .ok (.iload 10, 2) := zo_21 (b1 := 10) (zkb2 zk_cX12_oldSprites zn_cX12_oldSprites rfl)
theorem dX12_oldSprites_381 : decode cX12_oldSprites 381 = .ok (.iastore, 1) := zo_79 (zkb zk_cX12_oldSprites zn_cX12_oldSprites rfl)
theorem dX12_oldSprites_382 : decode cX12_oldSprites 382 = .ok (.iinc 12 1, 3) := zo_132 (b1 := 12) (b2 := 1) (zkb3 zk_cX12_oldSprites zn_cX12_oldSprites rfl) rfl
theorem dX12_oldSprites_385 : decode cX12_oldSprites 385 = .ok (.goto (-154), 3) := zo_167 (b1 := 255) (b2 := 102) (zkb3 zk_cX12_oldSprites zn_cX12_oldSprites rfl) rfl
theorem dX12_oldSprites_388 : decode cX12_oldSprites 388 = .ok (.iinc 5 1, 3) := zo_132 (b1 := 5) (b2 := 1) (zkb3 zk_cX12_oldSprites zn_cX12_oldSprites rfl) rfl
theorem dX12_oldSprites_391 : decode cX12_oldSprites 391 = .ok (.goto (-351), 3) := zo_167 (b1 := 254) (b2 := 161) (zkb3 zk_cX12_oldSprites zn_cX12_oldSprites rfl) rfl
theorem dX12_oldSprites_394 : decode cX12_oldSprites 394 = .ok (.return_, 1) := zo_177 (zkb zk_cX12_oldSprites zn_cX12_oldSprites rfl)
noncomputable def kn_cX12_colour : Nat := 0xac1c0400a760686c10101c000511606870076c071c50106870071c081d00a0056300b42a3d030500a73d3f100b00a73d15101100a73d33101700a73d071c00a73d0f102200a73d082700a73d062c00a73d053100a73d3c103700a73d043c00a73d30104200a73d10104800a73d0c104e00a73d0810910000008b00000085000000800000007a00000075000000700000006b00000065000000600000005a000000540000004e000000480000000f0000000200000097000000000000aa1bac7e3f10331b2800b42a0c00a770001011807808107eff0011336004681b052800b42a7eff001133681b052800b42a2800a0056300b42a3a00a0078e01b62a
theorem zk_cX12_colour : zkd cX12_colour.data.toList kn_cX12_colour = true := by decide +kernel
theorem zn_cX12_colour : cX12_colour.data.toList.length = 253 := by decide +kernel
theorem dX12_colour_0 : decode cX12_colour 0 = .ok (.aload_n 0, 1) := zo_42 (zkb zk_cX12_colour zn_cX12_colour rfl)
theorem dX12_colour_1 : decode cX12_colour 1 = .ok (.invokevirtual 398, 3) := zo_182 (b1 := 1) (b2 := 142) (zkb3 zk_cX12_colour zn_cX12_colour rfl) rfl
theorem dX12_colour_4 : decode cX12_colour 4 = .ok (.iconst 4, 1) := zo_7 (zkb zk_cX12_colour zn_cX12_colour rfl)
theorem dX12_colour_5 : decode cX12_colour 5 = .ok (.if_icmp .ne 58, 3) := zo_160 (b1 := 0) (b2 := 58) (zkb3 zk_cX12_colour zn_cX12_colour rfl) rfl
theorem dX12_colour_8 : decode cX12_colour 8 = .ok (.aload_n 0, 1) := zo_42 (zkb zk_cX12_colour zn_cX12_colour rfl)
theorem dX12_colour_9 : decode cX12_colour 9 = .ok (.getfield 99, 3) := zo_180 (b1 := 0) (b2 := 99) (zkb3 zk_cX12_colour zn_cX12_colour rfl) rfl
theorem dX12_colour_12 : decode cX12_colour 12 = .ok (.iconst 2, 1) := zo_5 (zkb zk_cX12_colour zn_cX12_colour rfl)
theorem dX12_colour_13 : decode cX12_colour 13 = .ok (.if_icmp .ne 40, 3) := zo_160 (b1 := 0) (b2 := 40) (zkb3 zk_cX12_colour zn_cX12_colour rfl) rfl
theorem dX12_colour_16 : decode cX12_colour 16 = .ok (.aload_n 0, 1) := zo_42 (zkb zk_cX12_colour zn_cX12_colour rfl)
theorem dX12_colour_17 : decode cX12_colour 17 = .ok (.getfield 40, 3) := zo_180 (b1 := 0) (b2 := 40) (zkb3 zk_cX12_colour zn_cX12_colour rfl) rfl
theorem dX12_colour_20 : decode cX12_colour 20 = .ok (.iconst 2, 1) := zo_5 (zkb zk_cX12_colour zn_cX12_colour rfl)
theorem dX12_colour_21 : decode cX12_colour 21 = .ok (.iload_n 1, 1) := zo_27 (zkb zk_cX12_colour zn_cX12_colour rfl)
theorem dX12_colour_22 : decode cX12_colour 22 = .ok (.imul, 1) := zo_104 (zkb zk_cX12_colour zn_cX12_colour rfl)
theorem dX12_colour_23 : decode cX12_colour 23 = .ok (.baload, 1) := zo_51 (zkb zk_cX12_colour zn_cX12_colour rfl)
theorem dX12_colour_24 : decode cX12_colour 24 = .ok (.sipush 255, 3) := zo_17 (b1 := 0) (b2 := 255) (zkb3 zk_cX12_colour zn_cX12_colour rfl) rfl
theorem dX12_colour_27 : decode cX12_colour 27 = .ok (.iand, 1) := zo_126 (zkb zk_cX12_colour zn_cX12_colour rfl)
theorem dX12_colour_28 : decode cX12_colour 28 = .ok (.aload_n 0, 1) := zo_42 (zkb zk_cX12_colour zn_cX12_colour rfl)
theorem dX12_colour_29 : decode cX12_colour 29 = .ok (.getfield 40, 3) := zo_180 (b1 := 0) (b2 := 40) (zkb3 zk_cX12_colour zn_cX12_colour rfl) rfl
theorem dX12_colour_32 : decode cX12_colour 32 = .ok (.iconst 2, 1) := zo_5 (zkb zk_cX12_colour zn_cX12_colour rfl)
theorem dX12_colour_33 : decode cX12_colour 33 = .ok (.iload_n 1, 1) := zo_27 (zkb zk_cX12_colour zn_cX12_colour rfl)
theorem dX12_colour_34 : decode cX12_colour 34 = .ok (.imul, 1) := zo_104 (zkb zk_cX12_colour zn_cX12_colour rfl)
theorem dX12_colour_35 : decode cX12_colour 35 = .ok (.iconst 1, 1) := zo_4 (zkb zk_cX12_colour zn_cX12_colour rfl)
theorem dX12_colour_36 : decode cX12_colour 36 = .ok (.iadd, 1) := zo_96 (zkb zk_cX12_colour zn_cX12_colour rfl)
theorem dX12_colour_37 : decode cX12_colour 37 = .ok (.baload, 1) := zo_51 (zkb zk_cX12_colour zn_cX12_colour rfl)
theorem dX12_colour_38 : decode cX12_colour 38 = .ok (.sipush 255, 3) := zo_17 (b1 := 0) (b2 := 255) (zkb3 zk_cX12_colour zn_cX12_colour rfl) rfl
theorem dX12_colour_41 : decode cX12_colour 41 = .ok (.iand, 1) := zo_126 (zkb zk_cX12_colour zn_cX12_colour rfl)
theorem dX12_colour_42 : decode cX12_colour 42 = .ok (.bipush 8, 2) := zo_16 (b1 := 8) (zkb2 zk_cX12_colour zn_cX12_colour rfl) rfl
theorem dX12_colour_44 : decode cX12_colour 44 = .ok (.ishl, 1) := zo_120 (zkb zk_cX12_colour zn_cX12_colour rfl)
theorem dX12_colour_45 : decode cX12_colour 45 = .ok (.ior, 1) := zo_128 (zkb zk_cX12_colour zn_cX12_colour rfl)
theorem dX12_colour_46 : decode cX12_colour 46 = .ok (.sipush 4096, 3) := zo_17 (b1 := 16) (b2 := 0) (zkb3 zk_cX12_colour zn_cX12_colour rfl) rfl
theorem dX12_colour_49 : decode cX12_colour 49 = .ok (.irem, 1) := zo_112 (zkb zk_cX12_colour zn_cX12_colour rfl)
theorem dX12_colour_50 : decode cX12_colour 50 = .ok (.goto 12, 3) := zo_167 (b1 := 0) (b2 := 12) (zkb3 zk_cX12_colour zn_cX12_colour rfl) rfl
theorem dX12_colour_53 : decode cX12_colour 53 = .ok (.aload_n 0, 1) := zo_42 (zkb zk_cX12_colour zn_cX12_colour rfl)
theorem dX12_colour_54 : decode cX12_colour 54 = .ok (.getfield 40, 3) := zo_180 (b1 := 0) (b2 := 40) (zkb3 zk_cX12_colour zn_cX12_colour rfl) rfl
theorem dX12_colour_57 : decode cX12_colour 57 = .ok (.iload_n 1, 1) := zo_27 (zkb zk_cX12_colour zn_cX12_colour rfl)
theorem dX12_colour_58 : decode cX12_colour 58 = .ok (.baload, 1) := zo_51 (zkb zk_cX12_colour zn_cX12_colour rfl)
theorem dX12_colour_59 : decode cX12_colour 59 = .ok (.bipush 63, 2) := zo_16 (b1 := 63) (zkb2 zk_cX12_colour zn_cX12_colour rfl) rfl
theorem dX12_colour_61 : decode cX12_colour 61 = .ok (.iand, 1) := zo_126 (zkb zk_cX12_colour zn_cX12_colour rfl)
theorem dX12_colour_62 : decode cX12_colour 62 = .ok (.ireturn, 1) := zo_172 (zkb zk_cX12_colour zn_cX12_colour rfl)
theorem dX12_colour_63 : decode cX12_colour 63 = .ok (.iload_n 1, 1) := zo_27 (zkb zk_cX12_colour zn_cX12_colour rfl)
theorem dX12_colour_64 : decode cX12_colour 64 = .ok (.tableswitch 151 2 15 #[72, 78, 84, 90, 96, 101, 107, 112, 117, 122, 128, 133, 139, 145], 72) := by decide +kernel
theorem dX12_colour_136 : decode cX12_colour 136 = .ok (.bipush 8, 2) := zo_16 (b1 := 8) (zkb2 zk_cX12_colour zn_cX12_colour rfl) rfl
theorem dX12_colour_138 : decode cX12_colour 138 = .ok (.istore_n 2, 1) := zo_61 (zkb zk_cX12_colour zn_cX12_colour rfl)
theorem dX12_colour_139 : decode cX12_colour 139 = .ok (.goto 78, 3) := zo_167 (b1 := 0) (b2 := 78) (zkb3 zk_cX12_colour zn_cX12_colour rfl) rfl
theorem dX12_colour_142 : decode cX12_colour 142 = .ok (.bipush 12, 2) := zo_16 (b1 := 12) (zkb2 zk_cX12_colour zn_cX12_colour rfl) rfl
theorem dX12_colour_144 : decode cX12_colour 144 = .ok (.istore_n 2, 1) := zo_61 (zkb zk_cX12_colour zn_cX12_colour rfl)
theorem dX12_colour_145 : decode cX12_colour 145 = .ok (.goto 72, 3) := zo_167 (b1 := 0) (b2 := 72) (zkb3 zk_cX12_colour zn_cX12_colour rfl) rfl
theorem dX12_colour_148 : decode cX12_colour 148 = .ok (.bipush 16, 2) := zo_16 (b1 := 16) (zkb2 zk_cX12_colour zn_cX12_colour rfl) rfl
theorem dX12_colour_150 : decode cX12_colour 150 = .ok (.istore_n 2, 1) := zo_61 (zkb zk_cX12_colour zn_cX12_colour rfl)
theorem dX12_colour_151 : decode cX12_colour 151 = .ok (.goto 66, 3) := zo_167 (b1 := 0) (b2 := 66) (zkb3 zk_cX12_colour zn_cX12_colour rfl) rfl
theorem dX12_colour_154 : decode cX12_colour 154 = .ok (.bipush 48, 2) := zo_16 (b1 := 48) (zkb2 zk_cX12_colour zn_cX12_colour rfl) rfl
theorem dX12_colour_156 : decode cX12_colour 156 = .ok (.istore_n 2, 1) := zo_61 (zkb zk_cX12_colour zn_cX12_colour rfl)
theorem dX12_colour_157 : decode cX12_colour 157 = .ok (.goto 60, 3) := zo_167 (b1 := 0) (b2 := 60) (zkb3 zk_cX12_colour zn_cX12_colour rfl) rfl
theorem dX12_colour_160 : decode cX12_colour 160 = .ok (.iconst 1, 1) := zo_4 (zkb zk_cX12_colour zn_cX12_colour rfl)
theorem dX12_colour_161 : decode cX12_colour 161 = .ok (.istore_n 2, 1) := zo_61 (zkb zk_cX12_colour zn_cX12_colour rfl)
theorem dX12_colour_162 : decode cX12_colour 162 = .ok (.goto 55, 3) := zo_167 (b1 := 0) (b2 := 55) (zkb3 zk_cX12_colour zn_cX12_colour rfl) rfl
theorem dX12_colour_165 : decode cX12_colour 165 = .ok (.bipush 60, 2) := zo_16 (b1 := 60) (zkb2 zk_cX12_colour zn_cX12_colour rfl) rfl
theorem dX12_colour_167 : decode cX12_colour 167 = .ok (.istore_n 2, 1) := zo_61 (zkb zk_cX12_colour zn_cX12_colour rfl)
theorem dX12_colour_168 : decode cX12_colour 168 = .ok (.goto 49, 3) := zo_167 (b1 := 0) (b2 := 49) (zkb3 zk_cX12_colour zn_cX12_colour rfl) rfl
theorem dX12_colour_171 : decode cX12_colour 171 = .ok (.iconst 2, 1) := zo_5 (zkb zk_cX12_colour zn_cX12_colour rfl)
theorem dX12_colour_172 : decode cX12_colour 172 = .ok (.istore_n 2, 1) := zo_61 (zkb zk_cX12_colour zn_cX12_colour rfl)
theorem dX12_colour_173 : decode cX12_colour 173 = .ok (.goto 44, 3) := zo_167 (b1 := 0) (b2 := 44) (zkb3 zk_cX12_colour zn_cX12_colour rfl) rfl
theorem dX12_colour_176 : decode cX12_colour 176 = .ok (.iconst 3, 1) := zo_6 (zkb zk_cX12_colour zn_cX12_colour rfl)
theorem dX12_colour_177 : decode cX12_colour 177 = .ok (.istore_n 2, 1) := zo_61 (zkb zk_cX12_colour zn_cX12_colour rfl)
theorem dX12_colour_178 : decode cX12_colour 178 = .ok (.goto 39, 3) := zo_167 (b1 := 0) (b2 := 39) (zkb3 zk_cX12_colour zn_cX12_colour rfl) rfl
theorem dX12_colour_181 : decode cX12_colour 181 = .ok (.iconst 5, 1) := zo_8 (zkb zk_cX12_colour zn_cX12_colour rfl)
theorem dX12_colour_182 : decode cX12_colour 182 = .ok (.istore_n 2, 1) := zo_61 (zkb zk_cX12_colour zn_cX12_colour rfl)
theorem dX12_colour_183 : decode cX12_colour 183 = .ok (.goto 34, 3) := zo_167 (b1 := 0) (b2 := 34) (zkb3 zk_cX12_colour zn_cX12_colour rfl) rfl
theorem dX12_colour_186 : decode cX12_colour 186 = .ok (.bipush 15, 2) := zo_16 (b1 := 15) (zkb2 zk_cX12_colour zn_cX12_colour rfl) rfl
theorem dX12_colour_188 : decode cX12_colour 188 = .ok (.istore_n 2, 1) := zo_61 (zkb zk_cX12_colour zn_cX12_colour rfl)
theorem dX12_colour_189 : decode cX12_colour 189 = .ok (.goto 28, 3) := zo_167 (b1 := 0) (b2 := 28) (zkb3 zk_cX12_colour zn_cX12_colour rfl) rfl
theorem dX12_colour_192 : decode cX12_colour 192 = .ok (.iconst 4, 1) := zo_7 (zkb zk_cX12_colour zn_cX12_colour rfl)
theorem dX12_colour_193 : decode cX12_colour 193 = .ok (.istore_n 2, 1) := zo_61 (zkb zk_cX12_colour zn_cX12_colour rfl)
theorem dX12_colour_194 : decode cX12_colour 194 = .ok (.goto 23, 3) := zo_167 (b1 := 0) (b2 := 23) (zkb3 zk_cX12_colour zn_cX12_colour rfl) rfl
theorem dX12_colour_197 : decode cX12_colour 197 = .ok (.bipush 51, 2) := zo_16 (b1 := 51) (zkb2 zk_cX12_colour zn_cX12_colour rfl) rfl
theorem dX12_colour_199 : decode cX12_colour 199 = .ok (.istore_n 2, 1) := zo_61 (zkb zk_cX12_colour zn_cX12_colour rfl)
theorem dX12_colour_200 : decode cX12_colour 200 = .ok (.goto 17, 3) := zo_167 (b1 := 0) (b2 := 17) (zkb3 zk_cX12_colour zn_cX12_colour rfl) rfl
theorem dX12_colour_203 : decode cX12_colour 203 = .ok (.bipush 21, 2) := zo_16 (b1 := 21) (zkb2 zk_cX12_colour zn_cX12_colour rfl) rfl
theorem dX12_colour_205 : decode cX12_colour 205 = .ok (.istore_n 2, 1) := zo_61 (zkb zk_cX12_colour zn_cX12_colour rfl)
theorem dX12_colour_206 : decode cX12_colour 206 = .ok (.goto 11, 3) := zo_167 (b1 := 0) (b2 := 11) (zkb3 zk_cX12_colour zn_cX12_colour rfl) rfl
theorem dX12_colour_209 : decode cX12_colour 209 = .ok (.bipush 63, 2) := zo_16 (b1 := 63) (zkb2 zk_cX12_colour zn_cX12_colour rfl) rfl
theorem dX12_colour_211 : decode cX12_colour 211 = .ok (.istore_n 2, 1) := zo_61 (zkb zk_cX12_colour zn_cX12_colour rfl)
theorem dX12_colour_212 : decode cX12_colour 212 = .ok (.goto 5, 3) := zo_167 (b1 := 0) (b2 := 5) (zkb3 zk_cX12_colour zn_cX12_colour rfl) rfl
theorem dX12_colour_215 : decode cX12_colour 215 = .ok (.iconst 0, 1) := zo_3 (zkb zk_cX12_colour zn_cX12_colour rfl)
theorem dX12_colour_216 : decode cX12_colour 216 = .ok (.istore_n 2, 1) := zo_61 (zkb zk_cX12_colour zn_cX12_colour rfl)
theorem dX12_colour_217 : decode cX12_colour 217 = .ok (.aload_n 0, 1) := zo_42 (zkb zk_cX12_colour zn_cX12_colour rfl)
theorem dX12_colour_218 : decode cX12_colour 218 = .ok (.getfield 99, 3) := zo_180 (b1 := 0) (b2 := 99) (zkb3 zk_cX12_colour zn_cX12_colour rfl) rfl
theorem dX12_colour_221 : decode cX12_colour 221 = .ok (.iconst 2, 1) := zo_5 (zkb zk_cX12_colour zn_cX12_colour rfl)
theorem dX12_colour_222 : decode cX12_colour 222 = .ok (.if_icmp .ne 29, 3) := zo_160 (b1 := 0) (b2 := 29) (zkb3 zk_cX12_colour zn_cX12_colour rfl) rfl
theorem dX12_colour_225 : decode cX12_colour 225 = .ok (.iconst 5, 1) := zo_8 (zkb zk_cX12_colour zn_cX12_colour rfl)
theorem dX12_colour_226 : decode cX12_colour 226 = .ok (.iload_n 2, 1) := zo_28 (zkb zk_cX12_colour zn_cX12_colour rfl)
theorem dX12_colour_227 : decode cX12_colour 227 = .ok (.iconst 4, 1) := zo_7 (zkb zk_cX12_colour zn_cX12_colour rfl)
theorem dX12_colour_228 : decode cX12_colour 228 = .ok (.irem, 1) := zo_112 (zkb zk_cX12_colour zn_cX12_colour rfl)
theorem dX12_colour_229 : decode cX12_colour 229 = .ok (.imul, 1) := zo_104 (zkb zk_cX12_colour zn_cX12_colour rfl)
theorem dX12_colour_230 : decode cX12_colour 230 = .ok (.bipush 80, 2) := zo_16 (b1 := 80) (zkb2 zk_cX12_colour zn_cX12_colour rfl) rfl
theorem dX12_colour_232 : decode cX12_colour 232 = .ok (.iload_n 2, 1) := zo_28 (zkb zk_cX12_colour zn_cX12_colour rfl)
theorem dX12_colour_233 : decode cX12_colour 233 = .ok (.iconst 4, 1) := zo_7 (zkb zk_cX12_colour zn_cX12_colour rfl)
theorem dX12_colour_234 : decode cX12_colour 234 = .ok (.idiv, 1) := zo_108 (zkb zk_cX12_colour zn_cX12_colour rfl)
theorem dX12_colour_235 : decode cX12_colour 235 = .ok (.iconst 4, 1) := zo_7 (zkb zk_cX12_colour zn_cX12_colour rfl)
theorem dX12_colour_236 : decode cX12_colour 236 = .ok (.irem, 1) := zo_112 (zkb zk_cX12_colour zn_cX12_colour rfl)
theorem dX12_colour_237 : decode cX12_colour 237 = .ok (.imul, 1) := zo_104 (zkb zk_cX12_colour zn_cX12_colour rfl)
theorem dX12_colour_238 : decode cX12_colour 238 = .ok (.iadd, 1) := zo_96 (zkb zk_cX12_colour zn_cX12_colour rfl)
theorem dX12_colour_239 : decode cX12_colour 239 = .ok (.sipush 1280, 3) := zo_17 (b1 := 5) (b2 := 0) (zkb3 zk_cX12_colour zn_cX12_colour rfl) rfl
theorem dX12_colour_242 : decode cX12_colour 242 = .ok (.iload_n 2, 1) := zo_28 (zkb zk_cX12_colour zn_cX12_colour rfl)
theorem dX12_colour_243 : decode cX12_colour 243 = .ok (.bipush 16, 2) := zo_16 (b1 := 16) (zkb2 zk_cX12_colour zn_cX12_colour rfl) rfl
theorem dX12_colour_245 : decode cX12_colour 245 = .ok (.idiv, 1) := zo_108 (zkb zk_cX12_colour zn_cX12_colour rfl)
theorem dX12_colour_246 : decode cX12_colour 246 = .ok (.imul, 1) := zo_104 (zkb zk_cX12_colour zn_cX12_colour rfl)
theorem dX12_colour_247 : decode cX12_colour 247 = .ok (.iadd, 1) := zo_96 (zkb zk_cX12_colour zn_cX12_colour rfl)
theorem dX12_colour_248 : decode cX12_colour 248 = .ok (.goto 4, 3) := zo_167 (b1 := 0) (b2 := 4) (zkb3 zk_cX12_colour zn_cX12_colour rfl) rfl
theorem dX12_colour_251 : decode cX12_colour 251 = .ok (.iload_n 2, 1) := zo_28 (zkb zk_cX12_colour zn_cX12_colour rfl)
theorem dX12_colour_252 : decode cX12_colour 252 = .ok (.ireturn, 1) := zo_172 (zkb zk_cX12_colour zn_cX12_colour rfl)
noncomputable def kn_cX12_loudness : Nat := 0xac03ac460111ac9a0111ac050211ac8a0211ac330311ac070411ac120511ac620611ac090811ac1e0a11acbd0c11ac091011ac301411ac6a1911acff1f11830000007f0000007b00000077000000730000006f0000006b00000067000000630000005f0000005b00000057000000530000004f0000004b0000000e00000000000000870000000000aa1a
theorem zk_cX12_loudness : zkd cX12_loudness.data.toList kn_cX12_loudness = true := by decide +kernel
theorem zn_cX12_loudness : cX12_loudness.data.toList.length = 138 := by decide +kernel
theorem dX12_loudness_0 : decode cX12_loudness 0 = .ok (.iload_n 0, 1) := zo_26 (zkb zk_cX12_loudness zn_cX12_loudness rfl)
theorem dX12_loudness_1 : decode cX12_loudness 1 = .ok (.tableswitch 135 0 14 #[75, 79, 83, 87, 91, 95, 99, 103, 107, 111, 115, 119, 123, 127, 131], 75) := by decide +kernel
theorem dX12_loudness_76 : decode cX12_loudness 76 = .ok (.sipush 8191, 3) := zo_17 (b1 := 31) (b2 := 255) (zkb3 zk_cX12_loudness zn_cX12_loudness rfl) rfl
theorem dX12_loudness_79 : decode cX12_loudness 79 = .ok (.ireturn, 1) := zo_172 (zkb zk_cX12_loudness zn_cX12_loudness rfl)
theorem dX12_loudness_80 : decode cX12_loudness 80 = .ok (.sipush 6506, 3) := zo_17 (b1 := 25) (b2 := 106) (zkb3 zk_cX12_loudness zn_cX12_loudness rfl) rfl
theorem dX12_loudness_83 : decode cX12_loudness 83 = .ok (.ireturn, 1) := zo_172 (zkb zk_cX12_loudness zn_cX12_loudness rfl)
theorem dX12_loudness_84 : decode cX12_loudness 84 = .ok (.sipush 5168, 3) := zo_17 (b1 := 20) (b2 := 48) (zkb3 zk_cX12_loudness zn_cX12_loudness rfl) rfl
theorem dX12_loudness_87 : decode cX12_loudness 87 = .ok (.ireturn, 1) := zo_172 (zkb zk_cX12_loudness zn_cX12_loudness rfl)
theorem dX12_loudness_88 : decode cX12_loudness 88 = .ok (.sipush 4105, 3) := zo_17 (b1 := 16) (b2 := 9) (zkb3 zk_cX12_loudness zn_cX12_loudness rfl) rfl
theorem dX12_loudness_91 : decode cX12_loudness 91 = .ok (.ireturn, 1) := zo_172 (zkb zk_cX12_loudness zn_cX12_loudness rfl)
theorem dX12_loudness_92 : decode cX12_loudness 92 = .ok (.sipush 3261, 3) := zo_17 (b1 := 12) (b2 := 189) (zkb3 zk_cX12_loudness zn_cX12_loudness rfl) rfl
theorem dX12_loudness_95 : decode cX12_loudness 95 = .ok (.ireturn, 1) := zo_172 (zkb zk_cX12_loudness zn_cX12_loudness rfl)
theorem dX12_loudness_96 : decode cX12_loudness 96 = .ok (.sipush 2590, 3) := zo_17 (b1 := 10) (b2 := 30) (zkb3 zk_cX12_loudness zn_cX12_loudness rfl) rfl
theorem dX12_loudness_99 : decode cX12_loudness 99 = .ok (.ireturn, 1) := zo_172 (zkb zk_cX12_loudness zn_cX12_loudness rfl)
theorem dX12_loudness_100 : decode cX12_loudness 100 = .ok (.sipush 2057, 3) := zo_17 (b1 := 8) (b2 := 9) (zkb3 zk_cX12_loudness zn_cX12_loudness rfl) rfl
theorem dX12_loudness_103 : decode cX12_loudness 103 = .ok (.ireturn, 1) := zo_172 (zkb zk_cX12_loudness zn_cX12_loudness rfl)
theorem dX12_loudness_104 : decode cX12_loudness 104 = .ok (.sipush 1634, 3) := zo_17 (b1 := 6) (b2 := 98) (zkb3 zk_cX12_loudness zn_cX12_loudness rfl) rfl
theorem dX12_loudness_107 : decode cX12_loudness 107 = .ok (.ireturn, 1) := zo_172 (zkb zk_cX12_loudness zn_cX12_loudness rfl)
theorem dX12_loudness_108 : decode cX12_loudness 108 = .ok (.sipush 1298, 3) := zo_17 (b1 := 5) (b2 := 18) (zkb3 zk_cX12_loudness zn_cX12_loudness rfl) rfl
theorem dX12_loudness_111 : decode cX12_loudness 111 = .ok (.ireturn, 1) := zo_172 (zkb zk_cX12_loudness zn_cX12_loudness rfl)
theorem dX12_loudness_112 : decode cX12_loudness 112 = .ok (.sipush 1031, 3) := zo_17 (b1 := 4) (b2 := 7) (zkb3 zk_cX12_loudness zn_cX12_loudness rfl) rfl
theorem dX12_loudness_115 : decode cX12_loudness 115 = .ok (.ireturn, 1) := zo_172 (zkb zk_cX12_loudness zn_cX12_loudness rfl)
theorem dX12_loudness_116 : decode cX12_loudness 116 = .ok (.sipush 819, 3) := zo_17 (b1 := 3) (b2 := 51) (zkb3 zk_cX12_loudness zn_cX12_loudness rfl) rfl
theorem dX12_loudness_119 : decode cX12_loudness 119 = .ok (.ireturn, 1) := zo_172 (zkb zk_cX12_loudness zn_cX12_loudness rfl)
theorem dX12_loudness_120 : decode cX12_loudness 120 = .ok (.sipush 650, 3) := zo_17 (b1 := 2) (b2 := 138) (zkb3 zk_cX12_loudness zn_cX12_loudness rfl) rfl
theorem dX12_loudness_123 : decode cX12_loudness 123 = .ok (.ireturn, 1) := zo_172 (zkb zk_cX12_loudness zn_cX12_loudness rfl)
theorem dX12_loudness_124 : decode cX12_loudness 124 = .ok (.sipush 517, 3) := zo_17 (b1 := 2) (b2 := 5) (zkb3 zk_cX12_loudness zn_cX12_loudness rfl) rfl
theorem dX12_loudness_127 : decode cX12_loudness 127 = .ok (.ireturn, 1) := zo_172 (zkb zk_cX12_loudness zn_cX12_loudness rfl)
theorem dX12_loudness_128 : decode cX12_loudness 128 = .ok (.sipush 410, 3) := zo_17 (b1 := 1) (b2 := 154) (zkb3 zk_cX12_loudness zn_cX12_loudness rfl) rfl
theorem dX12_loudness_131 : decode cX12_loudness 131 = .ok (.ireturn, 1) := zo_172 (zkb zk_cX12_loudness zn_cX12_loudness rfl)
theorem dX12_loudness_132 : decode cX12_loudness 132 = .ok (.sipush 326, 3) := zo_17 (b1 := 1) (b2 := 70) (zkb3 zk_cX12_loudness zn_cX12_loudness rfl) rfl
theorem dX12_loudness_135 : decode cX12_loudness 135 = .ok (.ireturn, 1) := zo_172 (zkb zk_cX12_loudness zn_cX12_loudness rfl)
theorem dX12_loudness_136 : decode cX12_loudness 136 = .ok (.iconst 0, 1) := zo_3 (zkb zk_cX12_loudness zn_cX12_loudness rfl)
theorem dX12_loudness_137 : decode cX12_loudness 137 = .ok (.ireturn, 1) := zo_172 (zkb zk_cX12_loudness zn_cX12_loudness rfl)
noncomputable def kn_cX12_planned : Nat := 0xb192ffa7d9ffa70101844f2e6006601b1801111600b42a601b1801111600b42a1f00a2682eab00111600b42a061b3c034f64042e5cab00111600b42a4f2e1a01111600b42a602e1901111600b42a2a101600b42a56009d942f051a00b42a852e1801111600b42a69009e2eab00111600b42a
theorem zk_cX12_planned : zkd cX12_planned.data.toList kn_cX12_planned = true := by decide +kernel
theorem zn_cX12_planned : cX12_planned.data.toList.length = 114 := by decide +kernel
theorem dX12_planned_0 : decode cX12_planned 0 = .ok (.aload_n 0, 1) := zo_42 (zkb zk_cX12_planned zn_cX12_planned rfl)
theorem dX12_planned_1 : decode cX12_planned 1 = .ok (.getfield 22, 3) := zo_180 (b1 := 0) (b2 := 22) (zkb3 zk_cX12_planned zn_cX12_planned rfl) rfl
theorem dX12_planned_4 : decode cX12_planned 4 = .ok (.sipush 171, 3) := zo_17 (b1 := 0) (b2 := 171) (zkb3 zk_cX12_planned zn_cX12_planned rfl) rfl
theorem dX12_planned_7 : decode cX12_planned 7 = .ok (.iaload, 1) := zo_46 (zkb zk_cX12_planned zn_cX12_planned rfl)
theorem dX12_planned_8 : decode cX12_planned 8 = .ok (.ifCond .le 105, 3) := zo_158 (b1 := 0) (b2 := 105) (zkb3 zk_cX12_planned zn_cX12_planned rfl) rfl
theorem dX12_planned_11 : decode cX12_planned 11 = .ok (.aload_n 0, 1) := zo_42 (zkb zk_cX12_planned zn_cX12_planned rfl)
theorem dX12_planned_12 : decode cX12_planned 12 = .ok (.getfield 22, 3) := zo_180 (b1 := 0) (b2 := 22) (zkb3 zk_cX12_planned zn_cX12_planned rfl) rfl
theorem dX12_planned_15 : decode cX12_planned 15 = .ok (.sipush 280, 3) := zo_17 (b1 := 1) (b2 := 24) (zkb3 zk_cX12_planned zn_cX12_planned rfl) rfl
theorem dX12_planned_18 : decode cX12_planned 18 = .ok (.iaload, 1) := zo_46 (zkb zk_cX12_planned zn_cX12_planned rfl)
theorem dX12_planned_19 : decode cX12_planned 19 = .ok (.i2l, 1) := zo_133 (zkb zk_cX12_planned zn_cX12_planned rfl)
theorem dX12_planned_20 : decode cX12_planned 20 = .ok (.aload_n 0, 1) := zo_42 (zkb zk_cX12_planned zn_cX12_planned rfl)
theorem dX12_planned_21 : decode cX12_planned 21 = .ok (.getfield 26, 3) := zo_180 (b1 := 0) (b2 := 26) (zkb3 zk_cX12_planned zn_cX12_planned rfl) rfl
theorem dX12_planned_24 : decode cX12_planned 24 = .ok (.iconst 2, 1) := zo_5 (zkb zk_cX12_planned zn_cX12_planned rfl)
theorem dX12_planned_25 : decode cX12_planned 25 = .ok (.laload, 1) := zo_47 (zkb zk_cX12_planned zn_cX12_planned rfl)
theorem dX12_planned_26 : decode cX12_planned 26 = .ok (.lcmp, 1) := zo_148 (zkb zk_cX12_planned zn_cX12_planned rfl)
theorem dX12_planned_27 : decode cX12_planned 27 = .ok (.ifCond .gt 86, 3) := zo_157 (b1 := 0) (b2 := 86) (zkb3 zk_cX12_planned zn_cX12_planned rfl) rfl
theorem dX12_planned_30 : decode cX12_planned 30 = .ok (.aload_n 0, 1) := zo_42 (zkb zk_cX12_planned zn_cX12_planned rfl)
theorem dX12_planned_31 : decode cX12_planned 31 = .ok (.getfield 22, 3) := zo_180 (b1 := 0) (b2 := 22) (zkb3 zk_cX12_planned zn_cX12_planned rfl) rfl
theorem dX12_planned_34 : decode cX12_planned 34 = .ok (.bipush 42, 2) := zo_16 (b1 := 42) (zkb2 zk_cX12_planned zn_cX12_planned rfl) rfl
theorem dX12_planned_36 : decode cX12_planned 36 = .ok (.aload_n 0, 1) := zo_42 (zkb zk_cX12_planned zn_cX12_planned rfl)
theorem dX12_planned_37 : decode cX12_planned 37 = .ok (.getfield 22, 3) := zo_180 (b1 := 0) (b2 := 22) (zkb3 zk_cX12_planned zn_cX12_planned rfl) rfl
theorem dX12_planned_40 : decode cX12_planned 40 = .ok (.sipush 281, 3) := zo_17 (b1 := 1) (b2 := 25) (zkb3 zk_cX12_planned zn_cX12_planned rfl) rfl
theorem dX12_planned_43 : decode cX12_planned 43 = .ok (.iaload, 1) := zo_46 (zkb zk_cX12_planned zn_cX12_planned rfl)
theorem dX12_planned_44 : decode cX12_planned 44 = .ok (.iadd, 1) := zo_96 (zkb zk_cX12_planned zn_cX12_planned rfl)
theorem dX12_planned_45 : decode cX12_planned 45 = .ok (.aload_n 0, 1) := zo_42 (zkb zk_cX12_planned zn_cX12_planned rfl)
theorem dX12_planned_46 : decode cX12_planned 46 = .ok (.getfield 22, 3) := zo_180 (b1 := 0) (b2 := 22) (zkb3 zk_cX12_planned zn_cX12_planned rfl) rfl
theorem dX12_planned_49 : decode cX12_planned 49 = .ok (.sipush 282, 3) := zo_17 (b1 := 1) (b2 := 26) (zkb3 zk_cX12_planned zn_cX12_planned rfl) rfl
theorem dX12_planned_52 : decode cX12_planned 52 = .ok (.iaload, 1) := zo_46 (zkb zk_cX12_planned zn_cX12_planned rfl)
theorem dX12_planned_53 : decode cX12_planned 53 = .ok (.iastore, 1) := zo_79 (zkb zk_cX12_planned zn_cX12_planned rfl)
theorem dX12_planned_54 : decode cX12_planned 54 = .ok (.aload_n 0, 1) := zo_42 (zkb zk_cX12_planned zn_cX12_planned rfl)
theorem dX12_planned_55 : decode cX12_planned 55 = .ok (.getfield 22, 3) := zo_180 (b1 := 0) (b2 := 22) (zkb3 zk_cX12_planned zn_cX12_planned rfl) rfl
theorem dX12_planned_58 : decode cX12_planned 58 = .ok (.sipush 171, 3) := zo_17 (b1 := 0) (b2 := 171) (zkb3 zk_cX12_planned zn_cX12_planned rfl) rfl
theorem dX12_planned_61 : decode cX12_planned 61 = .ok (.dup2, 1) := zo_92 (zkb zk_cX12_planned zn_cX12_planned rfl)
theorem dX12_planned_62 : decode cX12_planned 62 = .ok (.iaload, 1) := zo_46 (zkb zk_cX12_planned zn_cX12_planned rfl)
theorem dX12_planned_63 : decode cX12_planned 63 = .ok (.iconst 1, 1) := zo_4 (zkb zk_cX12_planned zn_cX12_planned rfl)
theorem dX12_planned_64 : decode cX12_planned 64 = .ok (.isub, 1) := zo_100 (zkb zk_cX12_planned zn_cX12_planned rfl)
theorem dX12_planned_65 : decode cX12_planned 65 = .ok (.iastore, 1) := zo_79 (zkb zk_cX12_planned zn_cX12_planned rfl)
theorem dX12_planned_66 : decode cX12_planned 66 = .ok (.iconst 0, 1) := zo_3 (zkb zk_cX12_planned zn_cX12_planned rfl)
theorem dX12_planned_67 : decode cX12_planned 67 = .ok (.istore_n 1, 1) := zo_60 (zkb zk_cX12_planned zn_cX12_planned rfl)
theorem dX12_planned_68 : decode cX12_planned 68 = .ok (.iload_n 1, 1) := zo_27 (zkb zk_cX12_planned zn_cX12_planned rfl)
theorem dX12_planned_69 : decode cX12_planned 69 = .ok (.iconst 3, 1) := zo_6 (zkb zk_cX12_planned zn_cX12_planned rfl)
theorem dX12_planned_70 : decode cX12_planned 70 = .ok (.aload_n 0, 1) := zo_42 (zkb zk_cX12_planned zn_cX12_planned rfl)
theorem dX12_planned_71 : decode cX12_planned 71 = .ok (.getfield 22, 3) := zo_180 (b1 := 0) (b2 := 22) (zkb3 zk_cX12_planned zn_cX12_planned rfl) rfl
theorem dX12_planned_74 : decode cX12_planned 74 = .ok (.sipush 171, 3) := zo_17 (b1 := 0) (b2 := 171) (zkb3 zk_cX12_planned zn_cX12_planned rfl) rfl
theorem dX12_planned_77 : decode cX12_planned 77 = .ok (.iaload, 1) := zo_46 (zkb zk_cX12_planned zn_cX12_planned rfl)
theorem dX12_planned_78 : decode cX12_planned 78 = .ok (.imul, 1) := zo_104 (zkb zk_cX12_planned zn_cX12_planned rfl)
theorem dX12_planned_79 : decode cX12_planned 79 = .ok (.if_icmp .ge 31, 3) := zo_162 (b1 := 0) (b2 := 31) (zkb3 zk_cX12_planned zn_cX12_planned rfl) rfl
theorem dX12_planned_82 : decode cX12_planned 82 = .ok (.aload_n 0, 1) := zo_42 (zkb zk_cX12_planned zn_cX12_planned rfl)
theorem dX12_planned_83 : decode cX12_planned 83 = .ok (.getfield 22, 3) := zo_180 (b1 := 0) (b2 := 22) (zkb3 zk_cX12_planned zn_cX12_planned rfl) rfl
theorem dX12_planned_86 : decode cX12_planned 86 = .ok (.sipush 280, 3) := zo_17 (b1 := 1) (b2 := 24) (zkb3 zk_cX12_planned zn_cX12_planned rfl) rfl
theorem dX12_planned_89 : decode cX12_planned 89 = .ok (.iload_n 1, 1) := zo_27 (zkb zk_cX12_planned zn_cX12_planned rfl)
theorem dX12_planned_90 : decode cX12_planned 90 = .ok (.iadd, 1) := zo_96 (zkb zk_cX12_planned zn_cX12_planned rfl)
theorem dX12_planned_91 : decode cX12_planned 91 = .ok (.aload_n 0, 1) := zo_42 (zkb zk_cX12_planned zn_cX12_planned rfl)
theorem dX12_planned_92 : decode cX12_planned 92 = .ok (.getfield 22, 3) := zo_180 (b1 := 0) (b2 := 22) (zkb3 zk_cX12_planned zn_cX12_planned rfl) rfl
theorem dX12_planned_95 : decode cX12_planned 95 = .ok (.sipush 280, 3) := zo_17 (b1 := 1) (b2 := 24) (zkb3 zk_cX12_planned zn_cX12_planned rfl) rfl
theorem dX12_planned_98 : decode cX12_planned 98 = .ok (.iload_n 1, 1) := zo_27 (zkb zk_cX12_planned zn_cX12_planned rfl)
theorem dX12_planned_99 : decode cX12_planned 99 = .ok (.iadd, 1) := zo_96 (zkb zk_cX12_planned zn_cX12_planned rfl)
theorem dX12_planned_100 : decode cX12_planned 100 = .ok (.iconst 3, 1) := zo_6 (zkb zk_cX12_planned zn_cX12_planned rfl)
theorem dX12_planned_101 : decode cX12_planned 101 = .ok (.iadd, 1) := zo_96 (zkb zk_cX12_planned zn_cX12_planned rfl)
theorem dX12_planned_102 : decode cX12_planned 102 = .ok (.iaload, 1) := zo_46 (zkb zk_cX12_planned zn_cX12_planned rfl)
theorem dX12_planned_103 : decode cX12_planned 103 = .ok (.iastore, 1) := zo_79 (zkb zk_cX12_planned zn_cX12_planned rfl)
theorem dX12_planned_104 : decode cX12_planned 104 = .ok (.iinc 1 1, 3) := zo_132 (b1 := 1) (b2 := 1) (zkb3 zk_cX12_planned zn_cX12_planned rfl) rfl
theorem dX12_planned_107 : decode cX12_planned 107 = .ok (.goto (-39), 3) := zo_167 (b1 := 255) (b2 := 217) (zkb3 zk_cX12_planned zn_cX12_planned rfl) rfl
theorem dX12_planned_110 : decode cX12_planned 110 = .ok (.goto (-110), 3) := zo_167 (b1 := 255) (b2 := 146) (zkb3 zk_cX12_planned zn_cX12_planned rfl) rfl
theorem dX12_planned_113 : decode cX12_planned 113 = .ok (.return_, 1) := zo_177 (zkb zk_cX12_planned zn_cX12_planned rfl)
noncomputable def rmX12_colour : Room := { frames := 2, cells := 0, slots := 0, locals := 42 }
noncomputable def wzX12_colour : List Cond := .code yX12_colour cX12_colour 3 (some .int) :: wsL_law
theorem hinX12_colour_X120 : ∀ w ∈ wsX120, w ∈ wzX12_colour := fun w h => List.mem_cons_of_mem _ (inlX12 w h)
noncomputable def fX12_colour_62  (σ : zSt) (s0 : Int32) : Option (zSt × Int32) :=
  some (σ, s0)
noncomputable def fX12_colour_252  (σ : zSt) (s0 : Int32) : Option (zSt × Int32) :=
  some (σ, s0)
noncomputable def fX12_colour_217  (σ : zSt) (x2 : Int32) : Option (zSt × Int32) :=
  if (zgi σ 0 3) = 2 then zck (decide (¬ 4 = 0)) (
  zck (decide (¬ 4 = 0)) (
  zck (decide (¬ 4 = 0)) (
  zck (decide (¬ 16 = 0)) (
  fX12_colour_252 σ (((5 * (zrem x2 4)) + (80 * (zrem (x2 / 4) 4))) + (1280 * (x2 / 16))))))) else
  fX12_colour_252 σ x2
noncomputable def fX12_colour  (σ : zSt) (x1 : Int32) : Option (zSt × Int32) :=
  zbi (fX12_mode σ ) (fun σ1 v2 =>
  if v2 = 4 then if (zgi σ1 0 3) = 2 then zck (zin (2 * x1) 64) (
  zck (zin ((2 * x1) + 1) 64) (
  zck (decide (¬ 4096 = 0)) (
  fX12_colour_62 σ1 (zrem (((zgi σ1 8 (2 * x1).toNatClampNeg) &&& 255) ||| (((zgi σ1 8 ((2 * x1) + 1).toNatClampNeg) &&& 255) <<< ((8 : Int32) &&& 31))) 4096)))) else
  zck (zin x1 64) (
  fX12_colour_62 σ1 ((zgi σ1 8 x1.toNatClampNeg) &&& 63)) else
  if x1 = 2 then fX12_colour_217 σ1 8 else
  if x1 = 3 then fX12_colour_217 σ1 12 else
  if x1 = 4 then fX12_colour_217 σ1 16 else
  if x1 = 5 then fX12_colour_217 σ1 48 else
  if x1 = 6 then fX12_colour_217 σ1 1 else
  if x1 = 7 then fX12_colour_217 σ1 60 else
  if x1 = 8 then fX12_colour_217 σ1 2 else
  if x1 = 9 then fX12_colour_217 σ1 3 else
  if x1 = 10 then fX12_colour_217 σ1 5 else
  if x1 = 11 then fX12_colour_217 σ1 15 else
  if x1 = 12 then fX12_colour_217 σ1 4 else
  if x1 = 13 then fX12_colour_217 σ1 51 else
  if x1 = 14 then fX12_colour_217 σ1 21 else
  if x1 = 15 then fX12_colour_217 σ1 63 else
  fX12_colour_217 σ1 0)
set_option maxRecDepth 20000 in
set_option maxHeartbeats 4000000 in
theorem bX12_colour_62 {st : Nat → Nat} {p : Program} {l : Launch} {e : Env} {s : State} {m : MethodId} {args : Array Value} {below : List Frame} {meth : Method} {c : Code} {D : va_G} {A : Nat → Prop} {ad : Nat → Nat} {cy : Nat → ClassId} (hC : zC p m c cX12_colour 3 s args wzX12_colour RX12 meth (some .int))  {res : zSt × Int32} {H : Heap} {locs : List Loc} {σ : zSt} {ls : Array Slot} {s0 : Int32} (hI : zI st D (tM cy) (wM ad cy σ) A s H locs) (hl : lv_has ls 3 []) (hf : fX12_colour_62  σ s0 = some res) : W p l e rmX12_colour s m args below meth c H locs 0 0 (zQi below args s D (tM cy) (wM ad cy) A res) (F0 m 62 ls [.int s0]) := by
  have hx := hC.1
  have hb := hC.2.1
  unfold fX12_colour_62 at hf
  exact z_ireturn hC hI hf dX12_colour_62
set_option maxRecDepth 20000 in
set_option maxHeartbeats 4000000 in
theorem bX12_colour_252 {st : Nat → Nat} {p : Program} {l : Launch} {e : Env} {s : State} {m : MethodId} {args : Array Value} {below : List Frame} {meth : Method} {c : Code} {D : va_G} {A : Nat → Prop} {ad : Nat → Nat} {cy : Nat → ClassId} (hC : zC p m c cX12_colour 3 s args wzX12_colour RX12 meth (some .int))  {res : zSt × Int32} {H : Heap} {locs : List Loc} {σ : zSt} {ls : Array Slot} {s0 : Int32} (hI : zI st D (tM cy) (wM ad cy σ) A s H locs) (hl : lv_has ls 3 []) (hf : fX12_colour_252  σ s0 = some res) : W p l e rmX12_colour s m args below meth c H locs 0 0 (zQi below args s D (tM cy) (wM ad cy) A res) (F0 m 252 ls [.int s0]) := by
  have hx := hC.1
  have hb := hC.2.1
  unfold fX12_colour_252 at hf
  exact z_ireturn hC hI hf dX12_colour_252
set_option maxRecDepth 20000 in
set_option maxHeartbeats 4000000 in
theorem bX12_colour_217 {st : Nat → Nat} {p : Program} {l : Launch} {e : Env} {s : State} {m : MethodId} {args : Array Value} {below : List Frame} {meth : Method} {c : Code} {D : va_G} {A : Nat → Prop} {ad : Nat → Nat} {cy : Nat → ClassId} (hC : zC p m c cX12_colour 3 s args wzX12_colour RX12 meth (some .int))  {res : zSt × Int32} {H : Heap} {locs : List Loc} {σ : zSt} {ls : Array Slot} {x2 : Int32} (hI : zI st D (tM cy) (wM ad cy σ) A s H locs) (hl : lv_has ls 3 [(0, .ref (ad 0)), (2, .int x2)]) (hf : fX12_colour_217  σ x2 = some res) : W p l e rmX12_colour s m args below meth c H locs 0 0 (zQi below args s D (tM cy) (wM ad cy) A res) (F0 m 217 ls []) := by
  have hx := hC.1
  have hb := hC.2.1
  unfold fX12_colour_217 at hf
  refine lv_aload_n hx hb dX12_colour_217 rfl (lv_at hl 0 rfl) ?_
  refine z_get hC hI hinX12_colour_X120 0 (wM_e0 ad cy σ) rfl 3 (by decide) (List.mem_cons_of_mem _ zw10_10) rfl dX12_colour_218 ?_
  refine lv_iconst (v := 2) hx hb dX12_colour_221 (by decide) ?_
  refine lv_icmp_ne (tgt := 251) hx hb dX12_colour_222 (by decide) (fun q => ?_) (fun q => ?_)
  · replace hf := zif_f q hf
    refine lv_iload_n hx hb dX12_colour_251 rfl (lv_at hl 1 rfl) ?_
    exact bX12_colour_252 hC  hI (lv_sub hl [] rfl) hf
  replace hf := zif_t q hf
  refine lv_iconst (v := 5) hx hb dX12_colour_225 (by decide) ?_
  refine lv_iload_n hx hb dX12_colour_226 rfl (lv_at hl 1 rfl) ?_
  refine lv_iconst (v := 4) hx hb dX12_colour_227 (by decide) ?_
  obtain ⟨q, hf⟩ := zck_use hf
  refine z_irem hx hb dX12_colour_228 (of_decide_eq_true q) ?_
  refine lv_imul hx hb dX12_colour_229 ?_
  refine lv_bipush (v := 80) hx hb dX12_colour_230 (by decide) ?_
  refine lv_iload_n hx hb dX12_colour_232 rfl (lv_at hl 1 rfl) ?_
  refine lv_iconst (v := 4) hx hb dX12_colour_233 (by decide) ?_
  obtain ⟨q, hf⟩ := zck_use hf
  refine lv_idiv hx hb dX12_colour_234 (of_decide_eq_true q) ?_
  refine lv_iconst (v := 4) hx hb dX12_colour_235 (by decide) ?_
  obtain ⟨q, hf⟩ := zck_use hf
  refine z_irem hx hb dX12_colour_236 (of_decide_eq_true q) ?_
  refine lv_imul hx hb dX12_colour_237 ?_
  refine lv_iadd hx hb dX12_colour_238 ?_
  refine lv_sipush (v := 1280) hx hb dX12_colour_239 (by decide) ?_
  refine lv_iload_n hx hb dX12_colour_242 rfl (lv_at hl 1 rfl) ?_
  refine lv_bipush (v := 16) hx hb dX12_colour_243 (by decide) ?_
  obtain ⟨q, hf⟩ := zck_use hf
  refine lv_idiv hx hb dX12_colour_245 (of_decide_eq_true q) ?_
  refine lv_imul hx hb dX12_colour_246 ?_
  refine lv_iadd hx hb dX12_colour_247 ?_
  refine lv_goto (tgt := 252) hx hb dX12_colour_248 (by decide) ?_
  exact bX12_colour_252 hC  hI (lv_sub hl [] rfl) hf
set_option maxRecDepth 20000 in
set_option maxHeartbeats 4000000 in
theorem bX12_colour {st : Nat → Nat} {p : Program} {l : Launch} {e : Env} {s : State} {m : MethodId} {args : Array Value} {below : List Frame} {meth : Method} {c : Code} {D : va_G} {A : Nat → Prop} {ad : Nat → Nat} {cy : Nat → ClassId} (hC : zC p m c cX12_colour 3 s args wzX12_colour RX12 meth (some .int))  {res : zSt × Int32} {H : Heap} {locs : List Loc} {σ : zSt} {ls : Array Slot} {x1 : Int32} (hI : zI st D (tM cy) (wM ad cy σ) A s H locs) (hl : lv_has ls 3 [(0, .ref (ad 0)), (1, .int x1)]) (hf : fX12_colour  σ x1 = some res) : W p l e rmX12_colour s m args below meth c H locs 0 0 (zQi below args s D (tM cy) (wM ad cy) A res) (F0 m 0 ls []) := by
  have hx := hC.1
  have hb := hC.2.1
  unfold fX12_colour at hf
  refine lv_aload_n hx hb dX12_colour_0 rfl (lv_at hl 0 rfl) ?_
  obtain ⟨σ1, v2, g1, hf⟩ := zbi_use hf
  refine z_callVi (As := []) (rest := []) hC hI (cX12_mode_met st l D ad cy σ  _ g1) (zgV zw57_6 zw57_7 zw57_8 zw1_5 zw57_9) rfl ⟨rfl, rfl⟩ 0 hdX12_mode ⟨Nat.le_of_ble_eq_true rfl, Nat.le_of_ble_eq_true rfl⟩ rfl rfl (wM_e0 ad cy σ) rfl hl rfl (Nat.le_of_ble_eq_true rfl) dX12_colour_1 ⟨Nat.zero_le _, Nat.zero_le _⟩ (fun H locs hI => ?_)
  refine lv_iconst (v := 4) hx hb dX12_colour_4 (by decide) ?_
  refine lv_icmp_ne (tgt := 63) hx hb dX12_colour_5 (by decide) (fun q => ?_) (fun q => ?_)
  · replace hf := zif_f q hf
    refine lv_iload_n hx hb dX12_colour_63 rfl (lv_at hl 1 rfl) ?_
    by_cases q0 : x1 = 2
    · replace hf := zif_t q0 hf
      refine lv_tableIn (tgt := 136) hx hb dX12_colour_64 (by rw [q0]; decide) (by rw [q0]; decide) (by rw [q0]; rfl) (by decide) ?_
      refine lv_bipush (v := 8) hx hb dX12_colour_136 (by decide) ?_
      refine lv_istore_n (lv' := [(2, .int 8), (0, .ref (ad 0)), (1, .int x1)]) hx hb dX12_colour_138 rfl hl (by decide) rfl (fun ls hl => ?_)
      refine lv_goto (tgt := 217) hx hb dX12_colour_139 (by decide) ?_
      exact bX12_colour_217 hC  hI (lv_sub hl [1, 0] rfl) hf
    replace hf := zif_f q0 hf
    by_cases q1 : x1 = 3
    · replace hf := zif_t q1 hf
      refine lv_tableIn (tgt := 142) hx hb dX12_colour_64 (by rw [q1]; decide) (by rw [q1]; decide) (by rw [q1]; rfl) (by decide) ?_
      refine lv_bipush (v := 12) hx hb dX12_colour_142 (by decide) ?_
      refine lv_istore_n (lv' := [(2, .int 12), (0, .ref (ad 0)), (1, .int x1)]) hx hb dX12_colour_144 rfl hl (by decide) rfl (fun ls hl => ?_)
      refine lv_goto (tgt := 217) hx hb dX12_colour_145 (by decide) ?_
      exact bX12_colour_217 hC  hI (lv_sub hl [1, 0] rfl) hf
    replace hf := zif_f q1 hf
    by_cases q2 : x1 = 4
    · replace hf := zif_t q2 hf
      refine lv_tableIn (tgt := 148) hx hb dX12_colour_64 (by rw [q2]; decide) (by rw [q2]; decide) (by rw [q2]; rfl) (by decide) ?_
      refine lv_bipush (v := 16) hx hb dX12_colour_148 (by decide) ?_
      refine lv_istore_n (lv' := [(2, .int 16), (0, .ref (ad 0)), (1, .int x1)]) hx hb dX12_colour_150 rfl hl (by decide) rfl (fun ls hl => ?_)
      refine lv_goto (tgt := 217) hx hb dX12_colour_151 (by decide) ?_
      exact bX12_colour_217 hC  hI (lv_sub hl [1, 0] rfl) hf
    replace hf := zif_f q2 hf
    by_cases q3 : x1 = 5
    · replace hf := zif_t q3 hf
      refine lv_tableIn (tgt := 154) hx hb dX12_colour_64 (by rw [q3]; decide) (by rw [q3]; decide) (by rw [q3]; rfl) (by decide) ?_
      refine lv_bipush (v := 48) hx hb dX12_colour_154 (by decide) ?_
      refine lv_istore_n (lv' := [(2, .int 48), (0, .ref (ad 0)), (1, .int x1)]) hx hb dX12_colour_156 rfl hl (by decide) rfl (fun ls hl => ?_)
      refine lv_goto (tgt := 217) hx hb dX12_colour_157 (by decide) ?_
      exact bX12_colour_217 hC  hI (lv_sub hl [1, 0] rfl) hf
    replace hf := zif_f q3 hf
    by_cases q4 : x1 = 6
    · replace hf := zif_t q4 hf
      refine lv_tableIn (tgt := 160) hx hb dX12_colour_64 (by rw [q4]; decide) (by rw [q4]; decide) (by rw [q4]; rfl) (by decide) ?_
      refine lv_iconst (v := 1) hx hb dX12_colour_160 (by decide) ?_
      refine lv_istore_n (lv' := [(2, .int 1), (0, .ref (ad 0)), (1, .int x1)]) hx hb dX12_colour_161 rfl hl (by decide) rfl (fun ls hl => ?_)
      refine lv_goto (tgt := 217) hx hb dX12_colour_162 (by decide) ?_
      exact bX12_colour_217 hC  hI (lv_sub hl [1, 0] rfl) hf
    replace hf := zif_f q4 hf
    by_cases q5 : x1 = 7
    · replace hf := zif_t q5 hf
      refine lv_tableIn (tgt := 165) hx hb dX12_colour_64 (by rw [q5]; decide) (by rw [q5]; decide) (by rw [q5]; rfl) (by decide) ?_
      refine lv_bipush (v := 60) hx hb dX12_colour_165 (by decide) ?_
      refine lv_istore_n (lv' := [(2, .int 60), (0, .ref (ad 0)), (1, .int x1)]) hx hb dX12_colour_167 rfl hl (by decide) rfl (fun ls hl => ?_)
      refine lv_goto (tgt := 217) hx hb dX12_colour_168 (by decide) ?_
      exact bX12_colour_217 hC  hI (lv_sub hl [1, 0] rfl) hf
    replace hf := zif_f q5 hf
    by_cases q6 : x1 = 8
    · replace hf := zif_t q6 hf
      refine lv_tableIn (tgt := 171) hx hb dX12_colour_64 (by rw [q6]; decide) (by rw [q6]; decide) (by rw [q6]; rfl) (by decide) ?_
      refine lv_iconst (v := 2) hx hb dX12_colour_171 (by decide) ?_
      refine lv_istore_n (lv' := [(2, .int 2), (0, .ref (ad 0)), (1, .int x1)]) hx hb dX12_colour_172 rfl hl (by decide) rfl (fun ls hl => ?_)
      refine lv_goto (tgt := 217) hx hb dX12_colour_173 (by decide) ?_
      exact bX12_colour_217 hC  hI (lv_sub hl [1, 0] rfl) hf
    replace hf := zif_f q6 hf
    by_cases q7 : x1 = 9
    · replace hf := zif_t q7 hf
      refine lv_tableIn (tgt := 176) hx hb dX12_colour_64 (by rw [q7]; decide) (by rw [q7]; decide) (by rw [q7]; rfl) (by decide) ?_
      refine lv_iconst (v := 3) hx hb dX12_colour_176 (by decide) ?_
      refine lv_istore_n (lv' := [(2, .int 3), (0, .ref (ad 0)), (1, .int x1)]) hx hb dX12_colour_177 rfl hl (by decide) rfl (fun ls hl => ?_)
      refine lv_goto (tgt := 217) hx hb dX12_colour_178 (by decide) ?_
      exact bX12_colour_217 hC  hI (lv_sub hl [1, 0] rfl) hf
    replace hf := zif_f q7 hf
    by_cases q8 : x1 = 10
    · replace hf := zif_t q8 hf
      refine lv_tableIn (tgt := 181) hx hb dX12_colour_64 (by rw [q8]; decide) (by rw [q8]; decide) (by rw [q8]; rfl) (by decide) ?_
      refine lv_iconst (v := 5) hx hb dX12_colour_181 (by decide) ?_
      refine lv_istore_n (lv' := [(2, .int 5), (0, .ref (ad 0)), (1, .int x1)]) hx hb dX12_colour_182 rfl hl (by decide) rfl (fun ls hl => ?_)
      refine lv_goto (tgt := 217) hx hb dX12_colour_183 (by decide) ?_
      exact bX12_colour_217 hC  hI (lv_sub hl [1, 0] rfl) hf
    replace hf := zif_f q8 hf
    by_cases q9 : x1 = 11
    · replace hf := zif_t q9 hf
      refine lv_tableIn (tgt := 186) hx hb dX12_colour_64 (by rw [q9]; decide) (by rw [q9]; decide) (by rw [q9]; rfl) (by decide) ?_
      refine lv_bipush (v := 15) hx hb dX12_colour_186 (by decide) ?_
      refine lv_istore_n (lv' := [(2, .int 15), (0, .ref (ad 0)), (1, .int x1)]) hx hb dX12_colour_188 rfl hl (by decide) rfl (fun ls hl => ?_)
      refine lv_goto (tgt := 217) hx hb dX12_colour_189 (by decide) ?_
      exact bX12_colour_217 hC  hI (lv_sub hl [1, 0] rfl) hf
    replace hf := zif_f q9 hf
    by_cases q10 : x1 = 12
    · replace hf := zif_t q10 hf
      refine lv_tableIn (tgt := 192) hx hb dX12_colour_64 (by rw [q10]; decide) (by rw [q10]; decide) (by rw [q10]; rfl) (by decide) ?_
      refine lv_iconst (v := 4) hx hb dX12_colour_192 (by decide) ?_
      refine lv_istore_n (lv' := [(2, .int 4), (0, .ref (ad 0)), (1, .int x1)]) hx hb dX12_colour_193 rfl hl (by decide) rfl (fun ls hl => ?_)
      refine lv_goto (tgt := 217) hx hb dX12_colour_194 (by decide) ?_
      exact bX12_colour_217 hC  hI (lv_sub hl [1, 0] rfl) hf
    replace hf := zif_f q10 hf
    by_cases q11 : x1 = 13
    · replace hf := zif_t q11 hf
      refine lv_tableIn (tgt := 197) hx hb dX12_colour_64 (by rw [q11]; decide) (by rw [q11]; decide) (by rw [q11]; rfl) (by decide) ?_
      refine lv_bipush (v := 51) hx hb dX12_colour_197 (by decide) ?_
      refine lv_istore_n (lv' := [(2, .int 51), (0, .ref (ad 0)), (1, .int x1)]) hx hb dX12_colour_199 rfl hl (by decide) rfl (fun ls hl => ?_)
      refine lv_goto (tgt := 217) hx hb dX12_colour_200 (by decide) ?_
      exact bX12_colour_217 hC  hI (lv_sub hl [1, 0] rfl) hf
    replace hf := zif_f q11 hf
    by_cases q12 : x1 = 14
    · replace hf := zif_t q12 hf
      refine lv_tableIn (tgt := 203) hx hb dX12_colour_64 (by rw [q12]; decide) (by rw [q12]; decide) (by rw [q12]; rfl) (by decide) ?_
      refine lv_bipush (v := 21) hx hb dX12_colour_203 (by decide) ?_
      refine lv_istore_n (lv' := [(2, .int 21), (0, .ref (ad 0)), (1, .int x1)]) hx hb dX12_colour_205 rfl hl (by decide) rfl (fun ls hl => ?_)
      refine lv_goto (tgt := 217) hx hb dX12_colour_206 (by decide) ?_
      exact bX12_colour_217 hC  hI (lv_sub hl [1, 0] rfl) hf
    replace hf := zif_f q12 hf
    by_cases q13 : x1 = 15
    · replace hf := zif_t q13 hf
      refine lv_tableIn (tgt := 209) hx hb dX12_colour_64 (by rw [q13]; decide) (by rw [q13]; decide) (by rw [q13]; rfl) (by decide) ?_
      refine lv_bipush (v := 63) hx hb dX12_colour_209 (by decide) ?_
      refine lv_istore_n (lv' := [(2, .int 63), (0, .ref (ad 0)), (1, .int x1)]) hx hb dX12_colour_211 rfl hl (by decide) rfl (fun ls hl => ?_)
      refine lv_goto (tgt := 217) hx hb dX12_colour_212 (by decide) ?_
      exact bX12_colour_217 hC  hI (lv_sub hl [1, 0] rfl) hf
    replace hf := zif_f q13 hf
    refine lv_tableOut (tgt := 215) hx hb dX12_colour_64 (zsw (fun k h1 h2 => by rcases (show k = 2 ∨ k = 3 ∨ k = 4 ∨ k = 5 ∨ k = 6 ∨ k = 7 ∨ k = 8 ∨ k = 9 ∨ k = 10 ∨ k = 11 ∨ k = 12 ∨ k = 13 ∨ k = 14 ∨ k = 15 by omega) with rfl | rfl | rfl | rfl | rfl | rfl | rfl | rfl | rfl | rfl | rfl | rfl | rfl | rfl <;> assumption)) (by decide) ?_
    refine lv_iconst (v := 0) hx hb dX12_colour_215 (by decide) ?_
    refine lv_istore_n (lv' := [(2, .int 0), (0, .ref (ad 0)), (1, .int x1)]) hx hb dX12_colour_216 rfl hl (by decide) rfl (fun ls hl => ?_)
    exact bX12_colour_217 hC  hI (lv_sub hl [1, 0] rfl) hf
  replace hf := zif_t q hf
  refine lv_aload_n hx hb dX12_colour_8 rfl (lv_at hl 0 rfl) ?_
  refine z_get hC hI hinX12_colour_X120 0 (wM_e0 ad cy σ1) rfl 3 (by decide) (List.mem_cons_of_mem _ zw10_10) rfl dX12_colour_9 ?_
  refine lv_iconst (v := 2) hx hb dX12_colour_12 (by decide) ?_
  refine lv_icmp_ne (tgt := 53) hx hb dX12_colour_13 (by decide) (fun q => ?_) (fun q => ?_)
  · replace hf := zif_f q hf
    refine lv_aload_n hx hb dX12_colour_53 rfl (lv_at hl 0 rfl) ?_
    refine z_get hC hI hinX12_colour_X120 0 (wM_e0 ad cy σ1) rfl 15 (by decide) (List.mem_cons_of_mem _ zw9_13) rfl dX12_colour_54 ?_
    refine lv_iload_n hx hb dX12_colour_57 rfl (lv_at hl 1 rfl) ?_
    obtain ⟨q, hf⟩ := zck_use hf
    refine z_bald hC hI 8 7 (wM_e8 ad cy σ1) (tM_t8 cy) q dX12_colour_58 ?_
    refine lv_bipush (v := 63) hx hb dX12_colour_59 (by decide) ?_
    refine lv_iand hx hb dX12_colour_61 ?_
    exact bX12_colour_62 hC  hI (lv_sub hl [] rfl) hf
  replace hf := zif_t q hf
  refine lv_aload_n hx hb dX12_colour_16 rfl (lv_at hl 0 rfl) ?_
  refine z_get hC hI hinX12_colour_X120 0 (wM_e0 ad cy σ1) rfl 15 (by decide) (List.mem_cons_of_mem _ zw9_13) rfl dX12_colour_17 ?_
  refine lv_iconst (v := 2) hx hb dX12_colour_20 (by decide) ?_
  refine lv_iload_n hx hb dX12_colour_21 rfl (lv_at hl 1 rfl) ?_
  refine lv_imul hx hb dX12_colour_22 ?_
  obtain ⟨q, hf⟩ := zck_use hf
  refine z_bald hC hI 8 7 (wM_e8 ad cy σ1) (tM_t8 cy) q dX12_colour_23 ?_
  refine lv_sipush (v := 255) hx hb dX12_colour_24 (by decide) ?_
  refine lv_iand hx hb dX12_colour_27 ?_
  refine lv_aload_n hx hb dX12_colour_28 rfl (lv_at hl 0 rfl) ?_
  refine z_get hC hI hinX12_colour_X120 0 (wM_e0 ad cy σ1) rfl 15 (by decide) (List.mem_cons_of_mem _ zw9_13) rfl dX12_colour_29 ?_
  refine lv_iconst (v := 2) hx hb dX12_colour_32 (by decide) ?_
  refine lv_iload_n hx hb dX12_colour_33 rfl (lv_at hl 1 rfl) ?_
  refine lv_imul hx hb dX12_colour_34 ?_
  refine lv_iconst (v := 1) hx hb dX12_colour_35 (by decide) ?_
  refine lv_iadd hx hb dX12_colour_36 ?_
  obtain ⟨q, hf⟩ := zck_use hf
  refine z_bald hC hI 8 7 (wM_e8 ad cy σ1) (tM_t8 cy) q dX12_colour_37 ?_
  refine lv_sipush (v := 255) hx hb dX12_colour_38 (by decide) ?_
  refine lv_iand hx hb dX12_colour_41 ?_
  refine lv_bipush (v := 8) hx hb dX12_colour_42 (by decide) ?_
  refine lv_ishl hx hb dX12_colour_44 ?_
  refine lv_ior hx hb dX12_colour_45 ?_
  refine lv_sipush (v := 4096) hx hb dX12_colour_46 (by decide) ?_
  obtain ⟨q, hf⟩ := zck_use hf
  refine z_irem hx hb dX12_colour_49 (of_decide_eq_true q) ?_
  refine lv_goto (tgt := 62) hx hb dX12_colour_50 (by decide) ?_
  exact bX12_colour_62 hC  hI (lv_sub hl [] rfl) hf
set_option maxRecDepth 20000 in
theorem cX12_colour_met (st : Nat → Nat) (l : Launch) (D : va_G) (ad : Nat → Nat) (cy : Nat → ClassId) (σ : zSt) (x1 : Int32) (res : zSt × Int32) (hf : fX12_colour σ x1 = some res) (sz : Nat) : zMi st l yX12_colour wzX12_colour rmX12_colour [.ref (ad 0), .int x1] D (tM cy) (wM ad cy) sz σ res :=
  zMi.of (cc := cX12_colour) (maxL := 3) (ret := (some .int)) (by decide) rfl (Nat.le_of_ble_eq_true rfl) (fun p e s m args below meth c hC A hI ls hl => bX12_colour hC hI hl hf)
theorem hdX12_colour : yX12_colour.cls = RX12 ∧ yX12_colour.cls ≠ "java/lang/invoke/MethodHandle" ∧ yX12_colour.cls ≠ "java/lang/invoke/VarHandle" ∧ (parseMethodDescriptor yX12_colour.desc).map (fun d => d.parameters.length) = some 1 := by decide +kernel
noncomputable def rmX12_old : Room := { frames := 2, cells := 0, slots := 0, locals := 42 }
noncomputable def wzX12_old : List Cond := .code yX12_old cX12_old 10 (some .int) :: wsL_law
noncomputable def fX12_old_48  (σ : zSt)  : Option (zSt × Int32) :=
  some (σ, 0)
noncomputable def fX12_old_131  (σ : zSt) (s0 : Int32) : Option (zSt × Int32) :=
  some (σ, s0)
noncomputable def fX12_old_209  (σ : zSt) (s0 : Int32) : Option (zSt × Int32) :=
  some (σ, s0)
noncomputable def fX12_old_395  (σ : zSt) (s0 : Int32) : Option (zSt × Int32) :=
  some (σ, s0)
noncomputable def fX12_old_367  (σ : zSt) (x2 : Int32) (x6 : Int32) (x7 : Int32) : Option (zSt × Int32) :=
  zck (decide (¬ 8 = 0)) (
  if ((x6 >>> ((7 - (zrem x2 8)) &&& 31)) &&& 1) = 1 then fX12_old_395 σ (x7 >>> ((4 : Int32) &&& 31)) else
  fX12_old_395 σ (x7 &&& 15))
noncomputable def fX12_old  (σ : zSt) (x1 : Int32) (x2 : Int32) : Option (zSt × Int32) :=
  zbi (fX12_reg σ 2) (fun σ1 v2 =>
  zck (decide (¬ 16 = 0)) (
  zbv (1024 * (zrem v2 16)) (fun v3 =>
  zbi (fX12_reg σ1 4) (fun σ4 v5 =>
  zck (decide (¬ 8 = 0)) (
  zbv (2048 * (zrem v5 8)) (fun v6 =>
  zbi (fX12_mode σ4 ) (fun σ7 v8 =>
  if v8 = 1 then if x2 < 8 then fX12_old_48 σ7 else
  if x2 ≤ 247 then zck (decide (¬ 8 = 0)) (
  zck (decide (¬ 6 = 0)) (
  zbi (fX12_video8 σ7 ((v3 + (40 * (x1 / 8))) + ((x2 - 8) / 6))) (fun σ38 v39 =>
  zck (decide (¬ 8 = 0)) (
  zbi (fX12_video8 σ38 ((v6 + (8 * v39)) + (zrem x1 8))) (fun σ40 v41 =>
  zck (decide (¬ 6 = 0)) (
  zbv ((v41 >>> ((7 - (zrem (x2 - 8) 6)) &&& 31)) &&& 1) (fun v42 =>
  if v42 = 1 then zbi (fX12_reg σ40 7) (fun σ45 v46 =>
  fX12_old_131 σ45 (v46 >>> ((4 : Int32) &&& 31))) else
  zbi (fX12_reg σ40 7) (fun σ43 v44 =>
  fX12_old_131 σ43 (v44 &&& 15))))))))) else
  fX12_old_48 σ7 else
  zck (decide (¬ 8 = 0)) (
  zck (decide (¬ 8 = 0)) (
  zbi (fX12_video8 σ7 ((v3 + (32 * (x1 / 8))) + (x2 / 8))) (fun σ9 v10 =>
  zbi (fX12_mode σ9 ) (fun σ11 v12 =>
  if v12 = 3 then zck (decide (¬ 8 = 0)) (
  zck (decide (¬ 4 = 0)) (
  zck (decide (¬ 4 = 0)) (
  zck (decide (¬ 2 = 0)) (
  zbi (fX12_video8 σ11 (((v6 + (8 * v10)) + (2 * (zrem (x1 / 8) 4))) + (zrem (x1 / 4) 2))) (fun σ36 v37 =>
  zck (decide (¬ 8 = 0)) (
  if 4 ≤ (zrem x2 8) then fX12_old_209 σ36 (v37 &&& 15) else
  fX12_old_209 σ36 (v37 >>> ((4 : Int32) &&& 31)))))))) else
  zbi (fX12_mode σ11 ) (fun σ13 v14 =>
  if v14 = 0 then zck (decide (¬ 8 = 0)) (
  zbi (fX12_video8 σ13 ((v6 + (8 * v10)) + (zrem x1 8))) (fun σ30 v31 =>
  zbi (fX12_reg σ30 3) (fun σ32 v33 =>
  zck (decide (¬ 8 = 0)) (
  zbi (fX12_video8 σ32 ((64 * v33) + (v10 / 8))) (fun σ34 v35 =>
  fX12_old_367 σ34 x2 v31 v35))))) else
  zck (decide (¬ 64 = 0)) (
  zbv (v10 + (256 * (x1 / 64))) (fun v15 =>
  zbi (fX12_reg σ13 4) (fun σ16 v17 =>
  zck (decide (¬ 4 = 0)) (
  zbv (v15 &&& ((256 * (zrem v17 4)) + 255)) (fun v18 =>
  zbi (fX12_reg σ16 3) (fun σ19 v20 =>
  zck (decide (¬ 128 = 0)) (
  zbv (v15 &&& ((8 * (zrem v20 128)) + 7)) (fun v21 =>
  zbi (fX12_bit σ19 4 2) (fun σ22 v23 =>
  zck (decide (¬ 8 = 0)) (
  zbi (fX12_video8 σ22 (((8192 * v23) + (8 * v18)) + (zrem x1 8))) (fun σ24 v25 =>
  zbi (fX12_bit σ24 3 7) (fun σ26 v27 =>
  zck (decide (¬ 8 = 0)) (
  zbi (fX12_video8 σ26 (((8192 * v27) + (8 * v21)) + (zrem x1 8))) (fun σ28 v29 =>
  fX12_old_367 σ28 x2 v25 v29))))))))))))))))))))))))))
set_option maxRecDepth 20000 in
set_option maxHeartbeats 4000000 in
theorem bX12_old_48 {st : Nat → Nat} {p : Program} {l : Launch} {e : Env} {s : State} {m : MethodId} {args : Array Value} {below : List Frame} {meth : Method} {c : Code} {D : va_G} {A : Nat → Prop} {ad : Nat → Nat} {cy : Nat → ClassId} (hC : zC p m c cX12_old 10 s args wzX12_old RX12 meth (some .int))  {res : zSt × Int32} {H : Heap} {locs : List Loc} {σ : zSt} {ls : Array Slot}  (hI : zI st D (tM cy) (wM ad cy σ) A s H locs) (hl : lv_has ls 10 []) (hf : fX12_old_48  σ  = some res) : W p l e rmX12_old s m args below meth c H locs 0 0 (zQi below args s D (tM cy) (wM ad cy) A res) (F0 m 48 ls []) := by
  have hx := hC.1
  have hb := hC.2.1
  unfold fX12_old_48 at hf
  refine lv_iconst (v := 0) hx hb dX12_old_48 (by decide) ?_
  exact z_ireturn hC hI hf dX12_old_49
set_option maxRecDepth 20000 in
set_option maxHeartbeats 4000000 in
theorem bX12_old_131 {st : Nat → Nat} {p : Program} {l : Launch} {e : Env} {s : State} {m : MethodId} {args : Array Value} {below : List Frame} {meth : Method} {c : Code} {D : va_G} {A : Nat → Prop} {ad : Nat → Nat} {cy : Nat → ClassId} (hC : zC p m c cX12_old 10 s args wzX12_old RX12 meth (some .int))  {res : zSt × Int32} {H : Heap} {locs : List Loc} {σ : zSt} {ls : Array Slot} {s0 : Int32} (hI : zI st D (tM cy) (wM ad cy σ) A s H locs) (hl : lv_has ls 10 []) (hf : fX12_old_131  σ s0 = some res) : W p l e rmX12_old s m args below meth c H locs 0 0 (zQi below args s D (tM cy) (wM ad cy) A res) (F0 m 131 ls [.int s0]) := by
  have hx := hC.1
  have hb := hC.2.1
  unfold fX12_old_131 at hf
  exact z_ireturn hC hI hf dX12_old_131
set_option maxRecDepth 20000 in
set_option maxHeartbeats 4000000 in
theorem bX12_old_209 {st : Nat → Nat} {p : Program} {l : Launch} {e : Env} {s : State} {m : MethodId} {args : Array Value} {below : List Frame} {meth : Method} {c : Code} {D : va_G} {A : Nat → Prop} {ad : Nat → Nat} {cy : Nat → ClassId} (hC : zC p m c cX12_old 10 s args wzX12_old RX12 meth (some .int))  {res : zSt × Int32} {H : Heap} {locs : List Loc} {σ : zSt} {ls : Array Slot} {s0 : Int32} (hI : zI st D (tM cy) (wM ad cy σ) A s H locs) (hl : lv_has ls 10 []) (hf : fX12_old_209  σ s0 = some res) : W p l e rmX12_old s m args below meth c H locs 0 0 (zQi below args s D (tM cy) (wM ad cy) A res) (F0 m 209 ls [.int s0]) := by
  have hx := hC.1
  have hb := hC.2.1
  unfold fX12_old_209 at hf
  exact z_ireturn hC hI hf dX12_old_209
set_option maxRecDepth 20000 in
set_option maxHeartbeats 4000000 in
theorem bX12_old_395 {st : Nat → Nat} {p : Program} {l : Launch} {e : Env} {s : State} {m : MethodId} {args : Array Value} {below : List Frame} {meth : Method} {c : Code} {D : va_G} {A : Nat → Prop} {ad : Nat → Nat} {cy : Nat → ClassId} (hC : zC p m c cX12_old 10 s args wzX12_old RX12 meth (some .int))  {res : zSt × Int32} {H : Heap} {locs : List Loc} {σ : zSt} {ls : Array Slot} {s0 : Int32} (hI : zI st D (tM cy) (wM ad cy σ) A s H locs) (hl : lv_has ls 10 []) (hf : fX12_old_395  σ s0 = some res) : W p l e rmX12_old s m args below meth c H locs 0 0 (zQi below args s D (tM cy) (wM ad cy) A res) (F0 m 395 ls [.int s0]) := by
  have hx := hC.1
  have hb := hC.2.1
  unfold fX12_old_395 at hf
  exact z_ireturn hC hI hf dX12_old_395
set_option maxRecDepth 20000 in
set_option maxHeartbeats 4000000 in
theorem bX12_old_367 {st : Nat → Nat} {p : Program} {l : Launch} {e : Env} {s : State} {m : MethodId} {args : Array Value} {below : List Frame} {meth : Method} {c : Code} {D : va_G} {A : Nat → Prop} {ad : Nat → Nat} {cy : Nat → ClassId} (hC : zC p m c cX12_old 10 s args wzX12_old RX12 meth (some .int))  {res : zSt × Int32} {H : Heap} {locs : List Loc} {σ : zSt} {ls : Array Slot} {x2 : Int32} {x6 : Int32} {x7 : Int32} (hI : zI st D (tM cy) (wM ad cy σ) A s H locs) (hl : lv_has ls 10 [(2, .int x2), (6, .int x6), (7, .int x7)]) (hf : fX12_old_367  σ x2 x6 x7 = some res) : W p l e rmX12_old s m args below meth c H locs 0 0 (zQi below args s D (tM cy) (wM ad cy) A res) (F0 m 367 ls []) := by
  have hx := hC.1
  have hb := hC.2.1
  unfold fX12_old_367 at hf
  refine lv_iload hx hb dX12_old_367 (lv_at hl 1 rfl) ?_
  refine lv_bipush (v := 7) hx hb dX12_old_369 (by decide) ?_
  refine lv_iload_n hx hb dX12_old_371 rfl (lv_at hl 0 rfl) ?_
  refine lv_bipush (v := 8) hx hb dX12_old_372 (by decide) ?_
  obtain ⟨q, hf⟩ := zck_use hf
  refine z_irem hx hb dX12_old_374 (of_decide_eq_true q) ?_
  refine lv_isub hx hb dX12_old_375 ?_
  refine lv_ishr hx hb dX12_old_376 ?_
  refine lv_iconst (v := 1) hx hb dX12_old_377 (by decide) ?_
  refine lv_iand hx hb dX12_old_378 ?_
  refine lv_iconst (v := 1) hx hb dX12_old_379 (by decide) ?_
  refine lv_icmp_ne (tgt := 390) hx hb dX12_old_380 (by decide) (fun q => ?_) (fun q => ?_)
  · replace hf := zif_f q hf
    refine lv_iload hx hb dX12_old_390 (lv_at hl 2 rfl) ?_
    refine lv_bipush (v := 15) hx hb dX12_old_392 (by decide) ?_
    refine lv_iand hx hb dX12_old_394 ?_
    exact bX12_old_395 hC  hI (lv_sub hl [] rfl) hf
  replace hf := zif_t q hf
  refine lv_iload hx hb dX12_old_383 (lv_at hl 2 rfl) ?_
  refine lv_iconst (v := 4) hx hb dX12_old_385 (by decide) ?_
  refine lv_ishr hx hb dX12_old_386 ?_
  refine lv_goto (tgt := 395) hx hb dX12_old_387 (by decide) ?_
  exact bX12_old_395 hC  hI (lv_sub hl [] rfl) hf
set_option maxRecDepth 20000 in
set_option maxHeartbeats 4000000 in
theorem bX12_old {st : Nat → Nat} {p : Program} {l : Launch} {e : Env} {s : State} {m : MethodId} {args : Array Value} {below : List Frame} {meth : Method} {c : Code} {D : va_G} {A : Nat → Prop} {ad : Nat → Nat} {cy : Nat → ClassId} (hC : zC p m c cX12_old 10 s args wzX12_old RX12 meth (some .int))  {res : zSt × Int32} {H : Heap} {locs : List Loc} {σ : zSt} {ls : Array Slot} {x1 : Int32} {x2 : Int32} (hI : zI st D (tM cy) (wM ad cy σ) A s H locs) (hl : lv_has ls 10 [(0, .ref (ad 0)), (1, .int x1), (2, .int x2)]) (hf : fX12_old  σ x1 x2 = some res) : W p l e rmX12_old s m args below meth c H locs 0 0 (zQi below args s D (tM cy) (wM ad cy) A res) (F0 m 0 ls []) := by
  have hx := hC.1
  have hb := hC.2.1
  unfold fX12_old at hf
  refine lv_sipush (v := 1024) hx hb dX12_old_0 (by decide) ?_
  refine lv_aload_n hx hb dX12_old_3 rfl (lv_at hl 0 rfl) ?_
  refine lv_iconst (v := 2) hx hb dX12_old_4 (by decide) ?_
  obtain ⟨σ1, v2, g1, hf⟩ := zbi_use hf
  refine z_callVi (As := [.int 2]) (rest := [.int 1024]) hC hI (cX12_reg_met st l D ad cy σ 2 _ g1) (zgV zw59_6 zw59_7 zw59_8 zw1_5 zw59_9) rfl ⟨rfl, rfl⟩ 1 hdX12_reg ⟨Nat.le_of_ble_eq_true rfl, Nat.le_of_ble_eq_true rfl⟩ rfl rfl (wM_e0 ad cy σ) rfl hl rfl (Nat.le_of_ble_eq_true rfl) dX12_old_5 ⟨Nat.zero_le _, Nat.zero_le _⟩ (fun H locs hI => ?_)
  refine lv_bipush (v := 16) hx hb dX12_old_8 (by decide) ?_
  obtain ⟨q, hf⟩ := zck_use hf
  refine z_irem hx hb dX12_old_10 (of_decide_eq_true q) ?_
  refine lv_imul hx hb dX12_old_11 ?_
  refine lv_topi (fun v3 ev3 => ?_)
  replace hf := zbv_use ev3 hf
  refine lv_istore_n (lv' := [(3, .int v3), (0, .ref (ad 0)), (1, .int x1), (2, .int x2)]) hx hb dX12_old_12 rfl hl (by decide) rfl (fun ls hl => ?_)
  refine lv_sipush (v := 2048) hx hb dX12_old_13 (by decide) ?_
  refine lv_aload_n hx hb dX12_old_16 rfl (lv_at hl 1 rfl) ?_
  refine lv_iconst (v := 4) hx hb dX12_old_17 (by decide) ?_
  obtain ⟨σ4, v5, g4, hf⟩ := zbi_use hf
  refine z_callVi (As := [.int 4]) (rest := [.int 2048]) hC hI (cX12_reg_met st l D ad cy σ1 4 _ g4) (zgV zw59_6 zw59_7 zw59_8 zw1_5 zw59_9) rfl ⟨rfl, rfl⟩ 1 hdX12_reg ⟨Nat.le_of_ble_eq_true rfl, Nat.le_of_ble_eq_true rfl⟩ rfl rfl (wM_e0 ad cy σ1) rfl hl rfl (Nat.le_of_ble_eq_true rfl) dX12_old_18 ⟨Nat.zero_le _, Nat.zero_le _⟩ (fun H locs hI => ?_)
  refine lv_bipush (v := 8) hx hb dX12_old_21 (by decide) ?_
  obtain ⟨q, hf⟩ := zck_use hf
  refine z_irem hx hb dX12_old_23 (of_decide_eq_true q) ?_
  refine lv_imul hx hb dX12_old_24 ?_
  refine lv_topi (fun v6 ev6 => ?_)
  replace hf := zbv_use ev6 hf
  refine lv_istore (lv' := [(4, .int v6), (3, .int v3), (0, .ref (ad 0)), (1, .int x1), (2, .int x2)]) hx hb dX12_old_25 hl (by decide) rfl (fun ls hl => ?_)
  refine lv_aload_n hx hb dX12_old_27 rfl (lv_at hl 2 rfl) ?_
  obtain ⟨σ7, v8, g7, hf⟩ := zbi_use hf
  refine z_callVi (As := []) (rest := []) hC hI (cX12_mode_met st l D ad cy σ4  _ g7) (zgV zw57_6 zw57_7 zw57_8 zw1_5 zw57_9) rfl ⟨rfl, rfl⟩ 0 hdX12_mode ⟨Nat.le_of_ble_eq_true rfl, Nat.le_of_ble_eq_true rfl⟩ rfl rfl (wM_e0 ad cy σ4) rfl hl rfl (Nat.le_of_ble_eq_true rfl) dX12_old_28 ⟨Nat.zero_le _, Nat.zero_le _⟩ (fun H locs hI => ?_)
  refine lv_iconst (v := 1) hx hb dX12_old_31 (by decide) ?_
  refine lv_icmp_ne (tgt := 132) hx hb dX12_old_32 (by decide) (fun q => ?_) (fun q => ?_)
  · replace hf := zif_f q hf
    refine lv_aload_n hx hb dX12_old_132 rfl (lv_at hl 2 rfl) ?_
    refine lv_iload_n hx hb dX12_old_133 rfl (lv_at hl 1 rfl) ?_
    refine lv_bipush (v := 32) hx hb dX12_old_134 (by decide) ?_
    refine lv_iload_n hx hb dX12_old_136 rfl (lv_at hl 3 rfl) ?_
    refine lv_bipush (v := 8) hx hb dX12_old_137 (by decide) ?_
    obtain ⟨q, hf⟩ := zck_use hf
    refine lv_idiv hx hb dX12_old_139 (of_decide_eq_true q) ?_
    refine lv_imul hx hb dX12_old_140 ?_
    refine lv_iadd hx hb dX12_old_141 ?_
    refine lv_iload_n hx hb dX12_old_142 rfl (lv_at hl 4 rfl) ?_
    refine lv_bipush (v := 8) hx hb dX12_old_143 (by decide) ?_
    obtain ⟨q, hf⟩ := zck_use hf
    refine lv_idiv hx hb dX12_old_145 (of_decide_eq_true q) ?_
    refine lv_iadd hx hb dX12_old_146 ?_
    obtain ⟨σ9, v10, g9, hf⟩ := zbi_use hf
    refine z_callVi (As := [.int ((v3 + (32 * (x1 / 8))) + (x2 / 8))]) (rest := []) hC hI (cX12_video8_met st l D ad cy σ7 ((v3 + (32 * (x1 / 8))) + (x2 / 8)) _ g9) (zgV zw56_6 zw56_7 zw56_8 zw1_5 zw56_9) rfl ⟨rfl, rfl⟩ 1 hdX12_video8 ⟨Nat.le_of_ble_eq_true rfl, Nat.le_of_ble_eq_true rfl⟩ rfl rfl (wM_e0 ad cy σ7) rfl hl rfl (Nat.le_of_ble_eq_true rfl) dX12_old_147 ⟨Nat.zero_le _, Nat.zero_le _⟩ (fun H locs hI => ?_)
    refine lv_istore (lv' := [(5, .int v10), (4, .int v6), (3, .int v3), (0, .ref (ad 0)), (1, .int x1), (2, .int x2)]) hx hb dX12_old_150 hl (by decide) rfl (fun ls hl => ?_)
    refine lv_aload_n hx hb dX12_old_152 rfl (lv_at hl 3 rfl) ?_
    obtain ⟨σ11, v12, g11, hf⟩ := zbi_use hf
    refine z_callVi (As := []) (rest := []) hC hI (cX12_mode_met st l D ad cy σ9  _ g11) (zgV zw57_6 zw57_7 zw57_8 zw1_5 zw57_9) rfl ⟨rfl, rfl⟩ 0 hdX12_mode ⟨Nat.le_of_ble_eq_true rfl, Nat.le_of_ble_eq_true rfl⟩ rfl rfl (wM_e0 ad cy σ9) rfl hl rfl (Nat.le_of_ble_eq_true rfl) dX12_old_153 ⟨Nat.zero_le _, Nat.zero_le _⟩ (fun H locs hI => ?_)
    refine lv_iconst (v := 3) hx hb dX12_old_156 (by decide) ?_
    refine lv_icmp_ne (tgt := 210) hx hb dX12_old_157 (by decide) (fun q => ?_) (fun q => ?_)
    · replace hf := zif_f q hf
      refine lv_aload_n hx hb dX12_old_210 rfl (lv_at hl 3 rfl) ?_
      obtain ⟨σ13, v14, g13, hf⟩ := zbi_use hf
      refine z_callVi (As := []) (rest := []) hC hI (cX12_mode_met st l D ad cy σ11  _ g13) (zgV zw57_6 zw57_7 zw57_8 zw1_5 zw57_9) rfl ⟨rfl, rfl⟩ 0 hdX12_mode ⟨Nat.le_of_ble_eq_true rfl, Nat.le_of_ble_eq_true rfl⟩ rfl rfl (wM_e0 ad cy σ11) rfl hl rfl (Nat.le_of_ble_eq_true rfl) dX12_old_211 ⟨Nat.zero_le _, Nat.zero_le _⟩ (fun H locs hI => ?_)
      refine lv_if_ne (tgt := 259) hx hb dX12_old_214 (by decide) (fun q => ?_) (fun q => ?_)
      · replace hf := zif_f q hf
        refine lv_iload hx hb dX12_old_259 (lv_at hl 0 rfl) ?_
        refine lv_sipush (v := 256) hx hb dX12_old_261 (by decide) ?_
        refine lv_iload_n hx hb dX12_old_264 rfl (lv_at hl 4 rfl) ?_
        refine lv_bipush (v := 64) hx hb dX12_old_265 (by decide) ?_
        obtain ⟨q, hf⟩ := zck_use hf
        refine lv_idiv hx hb dX12_old_267 (of_decide_eq_true q) ?_
        refine lv_imul hx hb dX12_old_268 ?_
        refine lv_iadd hx hb dX12_old_269 ?_
        refine lv_topi (fun v15 ev15 => ?_)
        replace hf := zbv_use ev15 hf
        refine lv_istore (lv' := [(5, .int v15), (4, .int v6), (3, .int v3), (0, .ref (ad 0)), (1, .int x1), (2, .int x2)]) hx hb dX12_old_270 hl (by decide) rfl (fun ls hl => ?_)
        refine lv_iload hx hb dX12_old_272 (lv_at hl 0 rfl) ?_
        refine lv_sipush (v := 256) hx hb dX12_old_274 (by decide) ?_
        refine lv_aload_n hx hb dX12_old_277 rfl (lv_at hl 3 rfl) ?_
        refine lv_iconst (v := 4) hx hb dX12_old_278 (by decide) ?_
        obtain ⟨σ16, v17, g16, hf⟩ := zbi_use hf
        refine z_callVi (As := [.int 4]) (rest := [.int 256, .int v15]) hC hI (cX12_reg_met st l D ad cy σ13 4 _ g16) (zgV zw59_6 zw59_7 zw59_8 zw1_5 zw59_9) rfl ⟨rfl, rfl⟩ 1 hdX12_reg ⟨Nat.le_of_ble_eq_true rfl, Nat.le_of_ble_eq_true rfl⟩ rfl rfl (wM_e0 ad cy σ13) rfl hl rfl (Nat.le_of_ble_eq_true rfl) dX12_old_279 ⟨Nat.zero_le _, Nat.zero_le _⟩ (fun H locs hI => ?_)
        refine lv_iconst (v := 4) hx hb dX12_old_282 (by decide) ?_
        obtain ⟨q, hf⟩ := zck_use hf
        refine z_irem hx hb dX12_old_283 (of_decide_eq_true q) ?_
        refine lv_imul hx hb dX12_old_284 ?_
        refine lv_sipush (v := 255) hx hb dX12_old_285 (by decide) ?_
        refine lv_iadd hx hb dX12_old_288 ?_
        refine lv_iand hx hb dX12_old_289 ?_
        refine lv_topi (fun v18 ev18 => ?_)
        replace hf := zbv_use ev18 hf
        refine lv_istore (lv' := [(8, .int v18), (5, .int v15), (4, .int v6), (3, .int v3), (0, .ref (ad 0)), (1, .int x1), (2, .int x2)]) hx hb dX12_old_290 hl (by decide) rfl (fun ls hl => ?_)
        refine lv_iload hx hb dX12_old_292 (lv_at hl 1 rfl) ?_
        refine lv_bipush (v := 8) hx hb dX12_old_294 (by decide) ?_
        refine lv_aload_n hx hb dX12_old_296 rfl (lv_at hl 4 rfl) ?_
        refine lv_iconst (v := 3) hx hb dX12_old_297 (by decide) ?_
        obtain ⟨σ19, v20, g19, hf⟩ := zbi_use hf
        refine z_callVi (As := [.int 3]) (rest := [.int 8, .int v15]) hC hI (cX12_reg_met st l D ad cy σ16 3 _ g19) (zgV zw59_6 zw59_7 zw59_8 zw1_5 zw59_9) rfl ⟨rfl, rfl⟩ 1 hdX12_reg ⟨Nat.le_of_ble_eq_true rfl, Nat.le_of_ble_eq_true rfl⟩ rfl rfl (wM_e0 ad cy σ16) rfl hl rfl (Nat.le_of_ble_eq_true rfl) dX12_old_298 ⟨Nat.zero_le _, Nat.zero_le _⟩ (fun H locs hI => ?_)
        refine lv_sipush (v := 128) hx hb dX12_old_301 (by decide) ?_
        obtain ⟨q, hf⟩ := zck_use hf
        refine z_irem hx hb dX12_old_304 (of_decide_eq_true q) ?_
        refine lv_imul hx hb dX12_old_305 ?_
        refine lv_bipush (v := 7) hx hb dX12_old_306 (by decide) ?_
        refine lv_iadd hx hb dX12_old_308 ?_
        refine lv_iand hx hb dX12_old_309 ?_
        refine lv_topi (fun v21 ev21 => ?_)
        replace hf := zbv_use ev21 hf
        refine lv_istore (lv' := [(9, .int v21), (8, .int v18), (5, .int v15), (4, .int v6), (3, .int v3), (0, .ref (ad 0)), (1, .int x1), (2, .int x2)]) hx hb dX12_old_310 hl (by decide) rfl (fun ls hl => ?_)
        refine lv_aload_n hx hb dX12_old_312 rfl (lv_at hl 5 rfl) ?_
        refine lv_sipush (v := 8192) hx hb dX12_old_313 (by decide) ?_
        refine lv_aload_n hx hb dX12_old_316 rfl (lv_at hl 5 rfl) ?_
        refine lv_iconst (v := 4) hx hb dX12_old_317 (by decide) ?_
        refine lv_iconst (v := 2) hx hb dX12_old_318 (by decide) ?_
        obtain ⟨σ22, v23, g22, hf⟩ := zbi_use hf
        refine z_callVi (As := [.int 4, .int 2]) (rest := [.int 8192, .ref (ad 0)]) hC hI (cX12_bit_met st l D ad cy σ19 4 2 _ g22) (zgV zw49_0 zw49_1 zw49_2 zw1_5 zw49_3) rfl ⟨rfl, rfl⟩ 2 hdX12_bit ⟨Nat.le_of_ble_eq_true rfl, Nat.le_of_ble_eq_true rfl⟩ rfl rfl (wM_e0 ad cy σ19) rfl hl rfl (Nat.le_of_ble_eq_true rfl) dX12_old_319 ⟨Nat.zero_le _, Nat.zero_le _⟩ (fun H locs hI => ?_)
        refine lv_imul hx hb dX12_old_322 ?_
        refine lv_bipush (v := 8) hx hb dX12_old_323 (by decide) ?_
        refine lv_iload hx hb dX12_old_325 (lv_at hl 1 rfl) ?_
        refine lv_imul hx hb dX12_old_327 ?_
        refine lv_iadd hx hb dX12_old_328 ?_
        refine lv_iload_n hx hb dX12_old_329 rfl (lv_at hl 6 rfl) ?_
        refine lv_bipush (v := 8) hx hb dX12_old_330 (by decide) ?_
        obtain ⟨q, hf⟩ := zck_use hf
        refine z_irem hx hb dX12_old_332 (of_decide_eq_true q) ?_
        refine lv_iadd hx hb dX12_old_333 ?_
        obtain ⟨σ24, v25, g24, hf⟩ := zbi_use hf
        refine z_callVi (As := [.int (((8192 * v23) + (8 * v18)) + (zrem x1 8))]) (rest := []) hC hI (cX12_video8_met st l D ad cy σ22 (((8192 * v23) + (8 * v18)) + (zrem x1 8)) _ g24) (zgV zw56_6 zw56_7 zw56_8 zw1_5 zw56_9) rfl ⟨rfl, rfl⟩ 1 hdX12_video8 ⟨Nat.le_of_ble_eq_true rfl, Nat.le_of_ble_eq_true rfl⟩ rfl rfl (wM_e0 ad cy σ22) rfl hl rfl (Nat.le_of_ble_eq_true rfl) dX12_old_334 ⟨Nat.zero_le _, Nat.zero_le _⟩ (fun H locs hI => ?_)
        refine lv_istore (lv' := [(6, .int v25), (9, .int v21), (8, .int v18), (5, .int v15), (4, .int v6), (3, .int v3), (0, .ref (ad 0)), (1, .int x1), (2, .int x2)]) hx hb dX12_old_337 hl (by decide) rfl (fun ls hl => ?_)
        refine lv_aload_n hx hb dX12_old_339 rfl (lv_at hl 6 rfl) ?_
        refine lv_sipush (v := 8192) hx hb dX12_old_340 (by decide) ?_
        refine lv_aload_n hx hb dX12_old_343 rfl (lv_at hl 6 rfl) ?_
        refine lv_iconst (v := 3) hx hb dX12_old_344 (by decide) ?_
        refine lv_bipush (v := 7) hx hb dX12_old_345 (by decide) ?_
        obtain ⟨σ26, v27, g26, hf⟩ := zbi_use hf
        refine z_callVi (As := [.int 3, .int 7]) (rest := [.int 8192, .ref (ad 0)]) hC hI (cX12_bit_met st l D ad cy σ24 3 7 _ g26) (zgV zw49_0 zw49_1 zw49_2 zw1_5 zw49_3) rfl ⟨rfl, rfl⟩ 2 hdX12_bit ⟨Nat.le_of_ble_eq_true rfl, Nat.le_of_ble_eq_true rfl⟩ rfl rfl (wM_e0 ad cy σ24) rfl hl rfl (Nat.le_of_ble_eq_true rfl) dX12_old_347 ⟨Nat.zero_le _, Nat.zero_le _⟩ (fun H locs hI => ?_)
        refine lv_imul hx hb dX12_old_350 ?_
        refine lv_bipush (v := 8) hx hb dX12_old_351 (by decide) ?_
        refine lv_iload hx hb dX12_old_353 (lv_at hl 1 rfl) ?_
        refine lv_imul hx hb dX12_old_355 ?_
        refine lv_iadd hx hb dX12_old_356 ?_
        refine lv_iload_n hx hb dX12_old_357 rfl (lv_at hl 7 rfl) ?_
        refine lv_bipush (v := 8) hx hb dX12_old_358 (by decide) ?_
        obtain ⟨q, hf⟩ := zck_use hf
        refine z_irem hx hb dX12_old_360 (of_decide_eq_true q) ?_
        refine lv_iadd hx hb dX12_old_361 ?_
        obtain ⟨σ28, v29, g28, hf⟩ := zbi_use hf
        refine z_callVi (As := [.int (((8192 * v27) + (8 * v21)) + (zrem x1 8))]) (rest := []) hC hI (cX12_video8_met st l D ad cy σ26 (((8192 * v27) + (8 * v21)) + (zrem x1 8)) _ g28) (zgV zw56_6 zw56_7 zw56_8 zw1_5 zw56_9) rfl ⟨rfl, rfl⟩ 1 hdX12_video8 ⟨Nat.le_of_ble_eq_true rfl, Nat.le_of_ble_eq_true rfl⟩ rfl rfl (wM_e0 ad cy σ26) rfl hl rfl (Nat.le_of_ble_eq_true rfl) dX12_old_362 ⟨Nat.zero_le _, Nat.zero_le _⟩ (fun H locs hI => ?_)
        refine lv_istore (lv' := [(7, .int v29), (6, .int v25), (9, .int v21), (8, .int v18), (5, .int v15), (4, .int v6), (3, .int v3), (0, .ref (ad 0)), (1, .int x1), (2, .int x2)]) hx hb dX12_old_365 hl (by decide) rfl (fun ls hl => ?_)
        exact bX12_old_367 hC  hI (lv_sub hl [9, 1, 0] rfl) hf
      replace hf := zif_t q hf
      refine lv_aload_n hx hb dX12_old_217 rfl (lv_at hl 3 rfl) ?_
      refine lv_iload hx hb dX12_old_218 (lv_at hl 1 rfl) ?_
      refine lv_bipush (v := 8) hx hb dX12_old_220 (by decide) ?_
      refine lv_iload hx hb dX12_old_222 (lv_at hl 0 rfl) ?_
      refine lv_imul hx hb dX12_old_224 ?_
      refine lv_iadd hx hb dX12_old_225 ?_
      refine lv_iload_n hx hb dX12_old_226 rfl (lv_at hl 4 rfl) ?_
      refine lv_bipush (v := 8) hx hb dX12_old_227 (by decide) ?_
      obtain ⟨q, hf⟩ := zck_use hf
      refine z_irem hx hb dX12_old_229 (of_decide_eq_true q) ?_
      refine lv_iadd hx hb dX12_old_230 ?_
      obtain ⟨σ30, v31, g30, hf⟩ := zbi_use hf
      refine z_callVi (As := [.int ((v6 + (8 * v10)) + (zrem x1 8))]) (rest := []) hC hI (cX12_video8_met st l D ad cy σ13 ((v6 + (8 * v10)) + (zrem x1 8)) _ g30) (zgV zw56_6 zw56_7 zw56_8 zw1_5 zw56_9) rfl ⟨rfl, rfl⟩ 1 hdX12_video8 ⟨Nat.le_of_ble_eq_true rfl, Nat.le_of_ble_eq_true rfl⟩ rfl rfl (wM_e0 ad cy σ13) rfl hl rfl (Nat.le_of_ble_eq_true rfl) dX12_old_231 ⟨Nat.zero_le _, Nat.zero_le _⟩ (fun H locs hI => ?_)
      refine lv_istore (lv' := [(6, .int v31), (5, .int v10), (4, .int v6), (3, .int v3), (0, .ref (ad 0)), (1, .int x1), (2, .int x2)]) hx hb dX12_old_234 hl (by decide) rfl (fun ls hl => ?_)
      refine lv_aload_n hx hb dX12_old_236 rfl (lv_at hl 4 rfl) ?_
      refine lv_bipush (v := 64) hx hb dX12_old_237 (by decide) ?_
      refine lv_aload_n hx hb dX12_old_239 rfl (lv_at hl 4 rfl) ?_
      refine lv_iconst (v := 3) hx hb dX12_old_240 (by decide) ?_
      obtain ⟨σ32, v33, g32, hf⟩ := zbi_use hf
      refine z_callVi (As := [.int 3]) (rest := [.int 64, .ref (ad 0)]) hC hI (cX12_reg_met st l D ad cy σ30 3 _ g32) (zgV zw59_6 zw59_7 zw59_8 zw1_5 zw59_9) rfl ⟨rfl, rfl⟩ 1 hdX12_reg ⟨Nat.le_of_ble_eq_true rfl, Nat.le_of_ble_eq_true rfl⟩ rfl rfl (wM_e0 ad cy σ30) rfl hl rfl (Nat.le_of_ble_eq_true rfl) dX12_old_241 ⟨Nat.zero_le _, Nat.zero_le _⟩ (fun H locs hI => ?_)
      refine lv_imul hx hb dX12_old_244 ?_
      refine lv_iload hx hb dX12_old_245 (lv_at hl 1 rfl) ?_
      refine lv_bipush (v := 8) hx hb dX12_old_247 (by decide) ?_
      obtain ⟨q, hf⟩ := zck_use hf
      refine lv_idiv hx hb dX12_old_249 (of_decide_eq_true q) ?_
      refine lv_iadd hx hb dX12_old_250 ?_
      obtain ⟨σ34, v35, g34, hf⟩ := zbi_use hf
      refine z_callVi (As := [.int ((64 * v33) + (v10 / 8))]) (rest := []) hC hI (cX12_video8_met st l D ad cy σ32 ((64 * v33) + (v10 / 8)) _ g34) (zgV zw56_6 zw56_7 zw56_8 zw1_5 zw56_9) rfl ⟨rfl, rfl⟩ 1 hdX12_video8 ⟨Nat.le_of_ble_eq_true rfl, Nat.le_of_ble_eq_true rfl⟩ rfl rfl (wM_e0 ad cy σ32) rfl hl rfl (Nat.le_of_ble_eq_true rfl) dX12_old_251 ⟨Nat.zero_le _, Nat.zero_le _⟩ (fun H locs hI => ?_)
      refine lv_istore (lv' := [(7, .int v35), (6, .int v31), (5, .int v10), (4, .int v6), (3, .int v3), (0, .ref (ad 0)), (1, .int x1), (2, .int x2)]) hx hb dX12_old_254 hl (by decide) rfl (fun ls hl => ?_)
      refine lv_goto (tgt := 367) hx hb dX12_old_256 (by decide) ?_
      exact bX12_old_367 hC  hI (lv_sub hl [7, 1, 0] rfl) hf
    replace hf := zif_t q hf
    refine lv_aload_n hx hb dX12_old_160 rfl (lv_at hl 3 rfl) ?_
    refine lv_iload hx hb dX12_old_161 (lv_at hl 1 rfl) ?_
    refine lv_bipush (v := 8) hx hb dX12_old_163 (by decide) ?_
    refine lv_iload hx hb dX12_old_165 (lv_at hl 0 rfl) ?_
    refine lv_imul hx hb dX12_old_167 ?_
    refine lv_iadd hx hb dX12_old_168 ?_
    refine lv_iconst (v := 2) hx hb dX12_old_169 (by decide) ?_
    refine lv_iload_n hx hb dX12_old_170 rfl (lv_at hl 4 rfl) ?_
    refine lv_bipush (v := 8) hx hb dX12_old_171 (by decide) ?_
    obtain ⟨q, hf⟩ := zck_use hf
    refine lv_idiv hx hb dX12_old_173 (of_decide_eq_true q) ?_
    refine lv_iconst (v := 4) hx hb dX12_old_174 (by decide) ?_
    obtain ⟨q, hf⟩ := zck_use hf
    refine z_irem hx hb dX12_old_175 (of_decide_eq_true q) ?_
    refine lv_imul hx hb dX12_old_176 ?_
    refine lv_iadd hx hb dX12_old_177 ?_
    refine lv_iload_n hx hb dX12_old_178 rfl (lv_at hl 4 rfl) ?_
    refine lv_iconst (v := 4) hx hb dX12_old_179 (by decide) ?_
    obtain ⟨q, hf⟩ := zck_use hf
    refine lv_idiv hx hb dX12_old_180 (of_decide_eq_true q) ?_
    refine lv_iconst (v := 2) hx hb dX12_old_181 (by decide) ?_
    obtain ⟨q, hf⟩ := zck_use hf
    refine z_irem hx hb dX12_old_182 (of_decide_eq_true q) ?_
    refine lv_iadd hx hb dX12_old_183 ?_
    obtain ⟨σ36, v37, g36, hf⟩ := zbi_use hf
    refine z_callVi (As := [.int (((v6 + (8 * v10)) + (2 * (zrem (x1 / 8) 4))) + (zrem (x1 / 4) 2))]) (rest := []) hC hI (cX12_video8_met st l D ad cy σ11 (((v6 + (8 * v10)) + (2 * (zrem (x1 / 8) 4))) + (zrem (x1 / 4) 2)) _ g36) (zgV zw56_6 zw56_7 zw56_8 zw1_5 zw56_9) rfl ⟨rfl, rfl⟩ 1 hdX12_video8 ⟨Nat.le_of_ble_eq_true rfl, Nat.le_of_ble_eq_true rfl⟩ rfl rfl (wM_e0 ad cy σ11) rfl hl rfl (Nat.le_of_ble_eq_true rfl) dX12_old_184 ⟨Nat.zero_le _, Nat.zero_le _⟩ (fun H locs hI => ?_)
    refine lv_istore (lv' := [(6, .int v37), (5, .int v10), (4, .int v6), (3, .int v3), (0, .ref (ad 0)), (1, .int x1), (2, .int x2)]) hx hb dX12_old_187 hl (by decide) rfl (fun ls hl => ?_)
    refine lv_iload_n hx hb dX12_old_189 rfl (lv_at hl 6 rfl) ?_
    refine lv_bipush (v := 8) hx hb dX12_old_190 (by decide) ?_
    obtain ⟨q, hf⟩ := zck_use hf
    refine z_irem hx hb dX12_old_192 (of_decide_eq_true q) ?_
    refine lv_iconst (v := 4) hx hb dX12_old_193 (by decide) ?_
    refine lv_icmp_ge (tgt := 204) hx hb dX12_old_194 (by decide) (fun q => ?_) (fun q => ?_)
    · replace hf := zif_t q hf
      refine lv_iload hx hb dX12_old_204 (lv_at hl 0 rfl) ?_
      refine lv_bipush (v := 15) hx hb dX12_old_206 (by decide) ?_
      refine lv_iand hx hb dX12_old_208 ?_
      exact bX12_old_209 hC  hI (lv_sub hl [] rfl) hf
    replace hf := zif_f q hf
    refine lv_iload hx hb dX12_old_197 (lv_at hl 0 rfl) ?_
    refine lv_iconst (v := 4) hx hb dX12_old_199 (by decide) ?_
    refine lv_ishr hx hb dX12_old_200 ?_
    refine lv_goto (tgt := 209) hx hb dX12_old_201 (by decide) ?_
    exact bX12_old_209 hC  hI (lv_sub hl [] rfl) hf
  replace hf := zif_t q hf
  refine lv_iload_n hx hb dX12_old_35 rfl (lv_at hl 4 rfl) ?_
  refine lv_bipush (v := 8) hx hb dX12_old_36 (by decide) ?_
  refine lv_icmp_lt (tgt := 48) hx hb dX12_old_38 (by decide) (fun q => ?_) (fun q => ?_)
  · replace hf := zif_t q hf
    exact bX12_old_48 hC  hI (lv_sub hl [] rfl) hf
  replace hf := zif_f q hf
  refine lv_iload_n hx hb dX12_old_41 rfl (lv_at hl 4 rfl) ?_
  refine lv_sipush (v := 247) hx hb dX12_old_42 (by decide) ?_
  refine lv_icmp_le (tgt := 50) hx hb dX12_old_45 (by decide) (fun q => ?_) (fun q => ?_)
  · replace hf := zif_t q hf
    refine lv_aload_n hx hb dX12_old_50 rfl (lv_at hl 2 rfl) ?_
    refine lv_iload_n hx hb dX12_old_51 rfl (lv_at hl 1 rfl) ?_
    refine lv_bipush (v := 40) hx hb dX12_old_52 (by decide) ?_
    refine lv_iload_n hx hb dX12_old_54 rfl (lv_at hl 3 rfl) ?_
    refine lv_bipush (v := 8) hx hb dX12_old_55 (by decide) ?_
    obtain ⟨q, hf⟩ := zck_use hf
    refine lv_idiv hx hb dX12_old_57 (of_decide_eq_true q) ?_
    refine lv_imul hx hb dX12_old_58 ?_
    refine lv_iadd hx hb dX12_old_59 ?_
    refine lv_iload_n hx hb dX12_old_60 rfl (lv_at hl 4 rfl) ?_
    refine lv_bipush (v := 8) hx hb dX12_old_61 (by decide) ?_
    refine lv_isub hx hb dX12_old_63 ?_
    refine lv_bipush (v := 6) hx hb dX12_old_64 (by decide) ?_
    obtain ⟨q, hf⟩ := zck_use hf
    refine lv_idiv hx hb dX12_old_66 (of_decide_eq_true q) ?_
    refine lv_iadd hx hb dX12_old_67 ?_
    obtain ⟨σ38, v39, g38, hf⟩ := zbi_use hf
    refine z_callVi (As := [.int ((v3 + (40 * (x1 / 8))) + ((x2 - 8) / 6))]) (rest := []) hC hI (cX12_video8_met st l D ad cy σ7 ((v3 + (40 * (x1 / 8))) + ((x2 - 8) / 6)) _ g38) (zgV zw56_6 zw56_7 zw56_8 zw1_5 zw56_9) rfl ⟨rfl, rfl⟩ 1 hdX12_video8 ⟨Nat.le_of_ble_eq_true rfl, Nat.le_of_ble_eq_true rfl⟩ rfl rfl (wM_e0 ad cy σ7) rfl hl rfl (Nat.le_of_ble_eq_true rfl) dX12_old_68 ⟨Nat.zero_le _, Nat.zero_le _⟩ (fun H locs hI => ?_)
    refine lv_istore (lv' := [(5, .int v39), (4, .int v6), (3, .int v3), (0, .ref (ad 0)), (1, .int x1), (2, .int x2)]) hx hb dX12_old_71 hl (by decide) rfl (fun ls hl => ?_)
    refine lv_aload_n hx hb dX12_old_73 rfl (lv_at hl 3 rfl) ?_
    refine lv_iload hx hb dX12_old_74 (lv_at hl 1 rfl) ?_
    refine lv_bipush (v := 8) hx hb dX12_old_76 (by decide) ?_
    refine lv_iload hx hb dX12_old_78 (lv_at hl 0 rfl) ?_
    refine lv_imul hx hb dX12_old_80 ?_
    refine lv_iadd hx hb dX12_old_81 ?_
    refine lv_iload_n hx hb dX12_old_82 rfl (lv_at hl 4 rfl) ?_
    refine lv_bipush (v := 8) hx hb dX12_old_83 (by decide) ?_
    obtain ⟨q, hf⟩ := zck_use hf
    refine z_irem hx hb dX12_old_85 (of_decide_eq_true q) ?_
    refine lv_iadd hx hb dX12_old_86 ?_
    obtain ⟨σ40, v41, g40, hf⟩ := zbi_use hf
    refine z_callVi (As := [.int ((v6 + (8 * v39)) + (zrem x1 8))]) (rest := []) hC hI (cX12_video8_met st l D ad cy σ38 ((v6 + (8 * v39)) + (zrem x1 8)) _ g40) (zgV zw56_6 zw56_7 zw56_8 zw1_5 zw56_9) rfl ⟨rfl, rfl⟩ 1 hdX12_video8 ⟨Nat.le_of_ble_eq_true rfl, Nat.le_of_ble_eq_true rfl⟩ rfl rfl (wM_e0 ad cy σ38) rfl hl rfl (Nat.le_of_ble_eq_true rfl) dX12_old_87 ⟨Nat.zero_le _, Nat.zero_le _⟩ (fun H locs hI => ?_)
    refine lv_bipush (v := 7) hx hb dX12_old_90 (by decide) ?_
    refine lv_iload_n hx hb dX12_old_92 rfl (lv_at hl 5 rfl) ?_
    refine lv_bipush (v := 8) hx hb dX12_old_93 (by decide) ?_
    refine lv_isub hx hb dX12_old_95 ?_
    refine lv_bipush (v := 6) hx hb dX12_old_96 (by decide) ?_
    obtain ⟨q, hf⟩ := zck_use hf
    refine z_irem hx hb dX12_old_98 (of_decide_eq_true q) ?_
    refine lv_isub hx hb dX12_old_99 ?_
    refine lv_ishr hx hb dX12_old_100 ?_
    refine lv_iconst (v := 1) hx hb dX12_old_101 (by decide) ?_
    refine lv_iand hx hb dX12_old_102 ?_
    refine lv_topi (fun v42 ev42 => ?_)
    replace hf := zbv_use ev42 hf
    refine lv_istore (lv' := [(6, .int v42), (5, .int v39), (4, .int v6), (3, .int v3), (0, .ref (ad 0)), (1, .int x1), (2, .int x2)]) hx hb dX12_old_103 hl (by decide) rfl (fun ls hl => ?_)
    refine lv_iload hx hb dX12_old_105 (lv_at hl 0 rfl) ?_
    refine lv_iconst (v := 1) hx hb dX12_old_107 (by decide) ?_
    refine lv_icmp_ne (tgt := 122) hx hb dX12_old_108 (by decide) (fun q => ?_) (fun q => ?_)
    · replace hf := zif_f q hf
      refine lv_aload_n hx hb dX12_old_122 rfl (lv_at hl 4 rfl) ?_
      refine lv_bipush (v := 7) hx hb dX12_old_123 (by decide) ?_
      obtain ⟨σ43, v44, g43, hf⟩ := zbi_use hf
      refine z_callVi (As := [.int 7]) (rest := []) hC hI (cX12_reg_met st l D ad cy σ40 7 _ g43) (zgV zw59_6 zw59_7 zw59_8 zw1_5 zw59_9) rfl ⟨rfl, rfl⟩ 1 hdX12_reg ⟨Nat.le_of_ble_eq_true rfl, Nat.le_of_ble_eq_true rfl⟩ rfl rfl (wM_e0 ad cy σ40) rfl hl rfl (Nat.le_of_ble_eq_true rfl) dX12_old_125 ⟨Nat.zero_le _, Nat.zero_le _⟩ (fun H locs hI => ?_)
      refine lv_bipush (v := 15) hx hb dX12_old_128 (by decide) ?_
      refine lv_iand hx hb dX12_old_130 ?_
      exact bX12_old_131 hC  hI (lv_sub hl [] rfl) hf
    replace hf := zif_t q hf
    refine lv_aload_n hx hb dX12_old_111 rfl (lv_at hl 4 rfl) ?_
    refine lv_bipush (v := 7) hx hb dX12_old_112 (by decide) ?_
    obtain ⟨σ45, v46, g45, hf⟩ := zbi_use hf
    refine z_callVi (As := [.int 7]) (rest := []) hC hI (cX12_reg_met st l D ad cy σ40 7 _ g45) (zgV zw59_6 zw59_7 zw59_8 zw1_5 zw59_9) rfl ⟨rfl, rfl⟩ 1 hdX12_reg ⟨Nat.le_of_ble_eq_true rfl, Nat.le_of_ble_eq_true rfl⟩ rfl rfl (wM_e0 ad cy σ40) rfl hl rfl (Nat.le_of_ble_eq_true rfl) dX12_old_114 ⟨Nat.zero_le _, Nat.zero_le _⟩ (fun H locs hI => ?_)
    refine lv_iconst (v := 4) hx hb dX12_old_117 (by decide) ?_
    refine lv_ishr hx hb dX12_old_118 ?_
    refine lv_goto (tgt := 131) hx hb dX12_old_119 (by decide) ?_
    exact bX12_old_131 hC  hI (lv_sub hl [] rfl) hf
  replace hf := zif_f q hf
  exact bX12_old_48 hC  hI (lv_sub hl [] rfl) hf
set_option maxRecDepth 20000 in
theorem cX12_old_met (st : Nat → Nat) (l : Launch) (D : va_G) (ad : Nat → Nat) (cy : Nat → ClassId) (σ : zSt) (x1 : Int32) (x2 : Int32) (res : zSt × Int32) (hf : fX12_old σ x1 x2 = some res) (sz : Nat) : zMi st l yX12_old wzX12_old rmX12_old [.ref (ad 0), .int x1, .int x2] D (tM cy) (wM ad cy) sz σ res :=
  zMi.of (cc := cX12_old) (maxL := 10) (ret := (some .int)) (by decide) rfl (Nat.le_of_ble_eq_true rfl) (fun p e s m args below meth c hC A hI ls hl => bX12_old hC hI hl hf)
theorem hdX12_old : yX12_old.cls = RX12 ∧ yX12_old.cls ≠ "java/lang/invoke/MethodHandle" ∧ yX12_old.cls ≠ "java/lang/invoke/VarHandle" ∧ (parseMethodDescriptor yX12_old.desc).map (fun d => d.parameters.length) = some 2 := by decide +kernel
noncomputable def rmX12_oldSprites : Room := { frames := 1, cells := 0, slots := 0, locals := 22 }
noncomputable def wzX12_oldSprites : List Cond := .code yX12_oldSprites cX12_oldSprites 16 none :: wsL_law
theorem hinX12_oldSprites_X120 : ∀ w ∈ wsX120, w ∈ wzX12_oldSprites := fun w h => List.mem_cons_of_mem _ (inlX12 w h)
noncomputable def fX12_oldSprites_388 (k40 : zSt → Int32 → Int32 → Int32 → Int32 → Int32 → Option (zSt)) (σ : zSt) (x1 : Int32) (x2 : Int32) (x3 : Int32) (x4 : Int32) (x5 : Int32) : Option (zSt) :=
  zbv (x5 + 1) (fun v1 =>
  k40 σ x1 x2 x3 x4 v1)
noncomputable def fX12_oldSprites_150  (σ : zSt)  : Option (zSt) :=
  some σ
noncomputable def fX12_oldSprites_382 (k40 : zSt → Int32 → Int32 → Int32 → Int32 → Int32 → Option (zSt)) (k231 : zSt → Int32 → Int32 → Int32 → Int32 → Int32 → Int32 → Int32 → Int32 → Int32 → Int32 → Option (zSt)) (σ : zSt) (x1 : Int32) (x2 : Int32) (x3 : Int32) (x4 : Int32) (x5 : Int32) (x8 : Int32) (x9 : Int32) (x10 : Int32) (x11 : Int32) (x12 : Int32) : Option (zSt) :=
  zbv (x12 + 1) (fun v2 =>
  k231 σ x1 x2 x3 x4 x5 x8 x9 x10 x11 v2)
noncomputable def fX12_oldSprites_350 (k40 : zSt → Int32 → Int32 → Int32 → Int32 → Int32 → Option (zSt)) (k231 : zSt → Int32 → Int32 → Int32 → Int32 → Int32 → Int32 → Int32 → Int32 → Int32 → Int32 → Option (zSt)) (σ : zSt) (x1 : Int32) (x2 : Int32) (x3 : Int32) (x4 : Int32) (x5 : Int32) (x8 : Int32) (x9 : Int32) (x10 : Int32) (x11 : Int32) (x12 : Int32) (x15 : Int32) : Option (zSt) :=
  zck (zin x15 256) (zbv (zsi σ 25 (x15.toNatClampNeg) (vp_nar .boolean 1)) (fun σ3 =>
  if x10 ≤ 0 then fX12_oldSprites_382 k40 k231 σ3 x1 x2 x3 x4 x5 x8 x9 x10 x11 x12 else
  zck (zin x15 256) (
  if (zgi σ3 24 x15.toNatClampNeg) = 0 then zck (zin x15 256) (zbv (zsi σ3 24 (x15.toNatClampNeg) x10) (fun σ4 =>
  fX12_oldSprites_382 k40 k231 σ4 x1 x2 x3 x4 x5 x8 x9 x10 x11 x12)) else
  fX12_oldSprites_382 k40 k231 σ3 x1 x2 x3 x4 x5 x8 x9 x10 x11 x12)))
noncomputable def fX12_oldSprites_283 (k40 : zSt → Int32 → Int32 → Int32 → Int32 → Int32 → Option (zSt)) (k231 : zSt → Int32 → Int32 → Int32 → Int32 → Int32 → Int32 → Int32 → Int32 → Int32 → Int32 → Option (zSt)) (σ : zSt) (x1 : Int32) (x2 : Int32) (x3 : Int32) (x4 : Int32) (x5 : Int32) (x8 : Int32) (x9 : Int32) (x10 : Int32) (x11 : Int32) (x12 : Int32) (x13 : Int32) (s0 : Int32) (s1 : Int32) : Option (zSt) :=
  zbi (fX12_video8 σ (s1 + s0)) (fun σ5 v6 =>
  zck (decide (¬ 8 = 0)) (
  zbv ((v6 >>> ((7 - (zrem x13 8)) &&& 31)) &&& 1) (fun v7 =>
  zbv (x11 + x12) (fun v8 =>
  if v7 = 0 then fX12_oldSprites_382 k40 k231 σ5 x1 x2 x3 x4 x5 x8 x9 x10 x11 x12 else
  if v8 < 0 then fX12_oldSprites_382 k40 k231 σ5 x1 x2 x3 x4 x5 x8 x9 x10 x11 x12 else
  if v8 ≤ 255 then zck (zin v8 256) (
  if (zgi σ5 25 v8.toNatClampNeg) = 0 then fX12_oldSprites_350 k40 k231 σ5 x1 x2 x3 x4 x5 x8 x9 x10 x11 x12 v8 else
  zck (zin 62 1048) (
  zck (zin 62 1048) (zbv (zsi σ5 3 ((62 : Int32).toNatClampNeg) ((zgi σ5 3 (62 : Int32).toNatClampNeg) ||| 32)) (fun σ9 =>
  fX12_oldSprites_350 k40 k231 σ9 x1 x2 x3 x4 x5 x8 x9 x10 x11 x12 v8)))) else
  fX12_oldSprites_382 k40 k231 σ5 x1 x2 x3 x4 x5 x8 x9 x10 x11 x12))))
noncomputable def fX12_oldSprites_231_body (k40 : zSt → Int32 → Int32 → Int32 → Int32 → Int32 → Option (zSt)) (k231 : zSt → Int32 → Int32 → Int32 → Int32 → Int32 → Int32 → Int32 → Int32 → Int32 → Int32 → Option (zSt)) (σ : zSt) (x1 : Int32) (x2 : Int32) (x3 : Int32) (x4 : Int32) (x5 : Int32) (x8 : Int32) (x9 : Int32) (x10 : Int32) (x11 : Int32) (x12 : Int32) : Option (zSt) :=
  if (x3 * x2) ≤ x12 then fX12_oldSprites_388 k40 σ x1 x2 x3 x4 x5 else
  zck (decide (¬ x2 = 0)) (
  zbv (x12 / x2) (fun v10 =>
  zbi (fX12_reg σ 6) (fun σ11 v12 =>
  zck (decide (¬ 8 = 0)) (
  zck (decide (¬ x2 = 0)) (
  if v10 ≤ 7 then fX12_oldSprites_283 k40 k231 σ11 x1 x2 x3 x4 x5 x8 x9 x10 x11 x12 v10 0 (((2048 * (zrem v12 8)) + (8 * x9)) + (x8 / x2)) else
  fX12_oldSprites_283 k40 k231 σ11 x1 x2 x3 x4 x5 x8 x9 x10 x11 x12 v10 16 (((2048 * (zrem v12 8)) + (8 * x9)) + (x8 / x2)))))))
noncomputable def fX12_oldSprites_231 (k40 : zSt → Int32 → Int32 → Int32 → Int32 → Int32 → Option (zSt)) : Nat → zSt → Int32 → Int32 → Int32 → Int32 → Int32 → Int32 → Int32 → Int32 → Int32 → Int32 → Option (zSt)
  | 0, _, _, _, _, _, _, _, _, _, _, _ => none
  | n + 1, σ, x1, x2, x3, x4, x5, x8, x9, x10, x11, x12 => fX12_oldSprites_231_body k40 (fX12_oldSprites_231 k40 n) σ x1 x2 x3 x4 x5 x8 x9 x10 x11 x12
noncomputable def fX12_oldSprites_225 (k40 : zSt → Int32 → Int32 → Int32 → Int32 → Int32 → Option (zSt)) (σ : zSt) (x1 : Int32) (x2 : Int32) (x3 : Int32) (x4 : Int32) (x5 : Int32) (x8 : Int32) (x9 : Int32) (x10 : Int32) (s0 : Int32) (s1 : Int32) : Option (zSt) :=
  zbv (s1 - s0) (fun v13 =>
  fX12_oldSprites_231 k40 zfuel σ x1 x2 x3 x4 x5 x8 x9 x10 v13 0)
noncomputable def fX12_oldSprites_183 (k40 : zSt → Int32 → Int32 → Int32 → Int32 → Int32 → Option (zSt)) (σ : zSt) (x1 : Int32) (x2 : Int32) (x3 : Int32) (x4 : Int32) (x5 : Int32) (x6 : Int32) (x8 : Int32) (s0 : Int32) : Option (zSt) :=
  zbi (fX12_video8 σ (x6 + 3)) (fun σ14 v15 =>
  zbv (v15 &&& 15) (fun v16 =>
  zbi (fX12_video8 σ14 (x6 + 1)) (fun σ17 v18 =>
  zbi (fX12_video8 σ17 (x6 + 3)) (fun σ19 v20 =>
  if v20 ≤ 127 then fX12_oldSprites_225 k40 σ19 x1 x2 x3 x4 x5 x8 s0 v16 0 v18 else
  fX12_oldSprites_225 k40 σ19 x1 x2 x3 x4 x5 x8 s0 v16 32 v18))))
noncomputable def fX12_oldSprites_40_body (k40 : zSt → Int32 → Int32 → Int32 → Int32 → Int32 → Option (zSt)) (σ : zSt) (x1 : Int32) (x2 : Int32) (x3 : Int32) (x4 : Int32) (x5 : Int32) : Option (zSt) :=
  if 32 ≤ x5 then some σ else
  zbi (fX12_reg σ 5) (fun σ21 v22 =>
  zck (decide (¬ 128 = 0)) (
  zbv ((128 * (zrem v22 128)) + (4 * x5)) (fun v23 =>
  zbi (fX12_video8 σ21 v23) (fun σ24 v25 =>
  if v25 = 208 then some σ24 else
  zbv (((x1 - v25) - 1) &&& 255) (fun v26 =>
  if v26 < (x3 * x2) then if x4 = 4 then zck (zin 62 1048) (
  if ((zgi σ24 3 (62 : Int32).toNatClampNeg) &&& 64) = 0 then zck (zin 62 1048) (
  zck (zin 62 1048) (zbv (zsi σ24 3 ((62 : Int32).toNatClampNeg) ((((zgi σ24 3 (62 : Int32).toNatClampNeg) &&& 224) ||| 64) ||| x5)) (fun σ32 =>
  fX12_oldSprites_150 σ32))) else
  fX12_oldSprites_150 σ24) else
  zbv (x4 + 1) (fun v27 =>
  if x3 = 16 then zbi (fX12_video8 σ24 (v23 + 2)) (fun σ30 v31 =>
  fX12_oldSprites_183 k40 σ30 x1 x2 x3 v27 x5 v23 v26 (v31 &&& 252)) else
  zbi (fX12_video8 σ24 (v23 + 2)) (fun σ28 v29 =>
  fX12_oldSprites_183 k40 σ28 x1 x2 x3 v27 x5 v23 v26 v29)) else
  fX12_oldSprites_388 k40 σ24 x1 x2 x3 x4 x5)))))
noncomputable def fX12_oldSprites_40  : Nat → zSt → Int32 → Int32 → Int32 → Int32 → Int32 → Option (zSt)
  | 0, _, _, _, _, _, _ => none
  | n + 1, σ, x1, x2, x3, x4, x5 => fX12_oldSprites_40_body (fX12_oldSprites_40  n) σ x1 x2 x3 x4 x5
noncomputable def fX12_oldSprites_33  (σ : zSt) (x1 : Int32) (x2 : Int32) (s0 : Int32) : Option (zSt) :=
  fX12_oldSprites_40 zfuel σ x1 x2 s0 0 0
noncomputable def fX12_oldSprites_15  (σ : zSt) (x1 : Int32) (s0 : Int32) : Option (zSt) :=
  zbi (fX12_bit σ 1 1) (fun σ33 v34 =>
  if v34 = 1 then fX12_oldSprites_33 σ33 x1 s0 16 else
  fX12_oldSprites_33 σ33 x1 s0 8)
noncomputable def fX12_oldSprites  (σ : zSt) (x1 : Int32) : Option (zSt) :=
  zbi (fX12_bit σ 1 0) (fun σ35 v36 =>
  if v36 = 1 then fX12_oldSprites_15 σ35 x1 2 else
  fX12_oldSprites_15 σ35 x1 1)
set_option maxRecDepth 20000 in
set_option maxHeartbeats 4000000 in
theorem bX12_oldSprites_388 {st : Nat → Nat} {p : Program} {l : Launch} {e : Env} {s : State} {m : MethodId} {args : Array Value} {below : List Frame} {meth : Method} {c : Code} {D : va_G} {A : Nat → Prop} {ad : Nat → Nat} {cy : Nat → ClassId} (hC : zC p m c cX12_oldSprites 16 s args wzX12_oldSprites RX12 meth none) {k40 : zSt → Int32 → Int32 → Int32 → Int32 → Int32 → Option (zSt)} {res : zSt} (hk40 : ∀ (H : Heap) (locs : List Loc) (σ : zSt) (ls : Array Slot) (x1 : Int32) (x2 : Int32) (x3 : Int32) (x4 : Int32) (x5 : Int32), zI st D (tM cy) (wM ad cy σ) A s H locs → lv_has ls 16 [(0, .ref (ad 0)), (1, .int x1), (2, .int x2), (3, .int x3), (4, .int x4), (5, .int x5)] → k40 σ x1 x2 x3 x4 x5 = some res → W p l e rmX12_oldSprites s m args below meth c H locs 0 0 (zQu below args s D (tM cy) (wM ad cy) A res) (F0 m 40 ls [])) {H : Heap} {locs : List Loc} {σ : zSt} {ls : Array Slot} {x1 : Int32} {x2 : Int32} {x3 : Int32} {x4 : Int32} {x5 : Int32} (hI : zI st D (tM cy) (wM ad cy σ) A s H locs) (hl : lv_has ls 16 [(0, .ref (ad 0)), (1, .int x1), (2, .int x2), (3, .int x3), (4, .int x4), (5, .int x5)]) (hf : fX12_oldSprites_388 k40 σ x1 x2 x3 x4 x5 = some res) : W p l e rmX12_oldSprites s m args below meth c H locs 0 0 (zQu below args s D (tM cy) (wM ad cy) A res) (F0 m 388 ls []) := by
  have hx := hC.1
  have hb := hC.2.1
  unfold fX12_oldSprites_388 at hf
  obtain ⟨v1, ev1⟩ : ∃ z : Int32, z = x5 + 1 := ⟨_, rfl⟩
  replace hf := zbv_use ev1 hf
  refine lv_iinc (v := v1) (lv' := [(5, .int v1), (0, .ref (ad 0)), (1, .int x1), (2, .int x2), (3, .int x3), (4, .int x4)]) hx hb dX12_oldSprites_388 hl (k := 5) rfl (by rw [ev1]; rfl) (by decide) rfl (fun ls hl => ?_)
  refine lv_goto (tgt := 40) hx hb dX12_oldSprites_391 (by decide) ?_
  exact hk40 _ _ _ _ _ _ _ _ _ hI (lv_sub hl [1, 2, 3, 4, 5, 0] rfl) hf
set_option maxRecDepth 20000 in
set_option maxHeartbeats 4000000 in
theorem bX12_oldSprites_150 {st : Nat → Nat} {p : Program} {l : Launch} {e : Env} {s : State} {m : MethodId} {args : Array Value} {below : List Frame} {meth : Method} {c : Code} {D : va_G} {A : Nat → Prop} {ad : Nat → Nat} {cy : Nat → ClassId} (hC : zC p m c cX12_oldSprites 16 s args wzX12_oldSprites RX12 meth none)  {res : zSt} {H : Heap} {locs : List Loc} {σ : zSt} {ls : Array Slot}  (hI : zI st D (tM cy) (wM ad cy σ) A s H locs) (hl : lv_has ls 16 []) (hf : fX12_oldSprites_150  σ  = some res) : W p l e rmX12_oldSprites s m args below meth c H locs 0 0 (zQu below args s D (tM cy) (wM ad cy) A res) (F0 m 150 ls []) := by
  have hx := hC.1
  have hb := hC.2.1
  unfold fX12_oldSprites_150 at hf
  exact z_return hC hI hf dX12_oldSprites_150
set_option maxRecDepth 20000 in
set_option maxHeartbeats 4000000 in
theorem bX12_oldSprites_382 {st : Nat → Nat} {p : Program} {l : Launch} {e : Env} {s : State} {m : MethodId} {args : Array Value} {below : List Frame} {meth : Method} {c : Code} {D : va_G} {A : Nat → Prop} {ad : Nat → Nat} {cy : Nat → ClassId} (hC : zC p m c cX12_oldSprites 16 s args wzX12_oldSprites RX12 meth none) {k40 : zSt → Int32 → Int32 → Int32 → Int32 → Int32 → Option (zSt)} {k231 : zSt → Int32 → Int32 → Int32 → Int32 → Int32 → Int32 → Int32 → Int32 → Int32 → Int32 → Option (zSt)} {res : zSt} (hk40 : ∀ (H : Heap) (locs : List Loc) (σ : zSt) (ls : Array Slot) (x1 : Int32) (x2 : Int32) (x3 : Int32) (x4 : Int32) (x5 : Int32), zI st D (tM cy) (wM ad cy σ) A s H locs → lv_has ls 16 [(0, .ref (ad 0)), (1, .int x1), (2, .int x2), (3, .int x3), (4, .int x4), (5, .int x5)] → k40 σ x1 x2 x3 x4 x5 = some res → W p l e rmX12_oldSprites s m args below meth c H locs 0 0 (zQu below args s D (tM cy) (wM ad cy) A res) (F0 m 40 ls [])) (hk231 : ∀ (H : Heap) (locs : List Loc) (σ : zSt) (ls : Array Slot) (x1 : Int32) (x2 : Int32) (x3 : Int32) (x4 : Int32) (x5 : Int32) (x8 : Int32) (x9 : Int32) (x10 : Int32) (x11 : Int32) (x12 : Int32), zI st D (tM cy) (wM ad cy σ) A s H locs → lv_has ls 16 [(0, .ref (ad 0)), (1, .int x1), (2, .int x2), (3, .int x3), (4, .int x4), (5, .int x5), (8, .int x8), (9, .int x9), (10, .int x10), (11, .int x11), (12, .int x12)] → k231 σ x1 x2 x3 x4 x5 x8 x9 x10 x11 x12 = some res → W p l e rmX12_oldSprites s m args below meth c H locs 0 0 (zQu below args s D (tM cy) (wM ad cy) A res) (F0 m 231 ls [])) {H : Heap} {locs : List Loc} {σ : zSt} {ls : Array Slot} {x1 : Int32} {x2 : Int32} {x3 : Int32} {x4 : Int32} {x5 : Int32} {x8 : Int32} {x9 : Int32} {x10 : Int32} {x11 : Int32} {x12 : Int32} (hI : zI st D (tM cy) (wM ad cy σ) A s H locs) (hl : lv_has ls 16 [(0, .ref (ad 0)), (1, .int x1), (2, .int x2), (3, .int x3), (4, .int x4), (5, .int x5), (8, .int x8), (9, .int x9), (10, .int x10), (11, .int x11), (12, .int x12)]) (hf : fX12_oldSprites_382 k40 k231 σ x1 x2 x3 x4 x5 x8 x9 x10 x11 x12 = some res) : W p l e rmX12_oldSprites s m args below meth c H locs 0 0 (zQu below args s D (tM cy) (wM ad cy) A res) (F0 m 382 ls []) := by
  have hx := hC.1
  have hb := hC.2.1
  unfold fX12_oldSprites_382 at hf
  obtain ⟨v2, ev2⟩ : ∃ z : Int32, z = x12 + 1 := ⟨_, rfl⟩
  replace hf := zbv_use ev2 hf
  refine lv_iinc (v := v2) (lv' := [(12, .int v2), (0, .ref (ad 0)), (1, .int x1), (2, .int x2), (3, .int x3), (4, .int x4), (5, .int x5), (8, .int x8), (9, .int x9), (10, .int x10), (11, .int x11)]) hx hb dX12_oldSprites_382 hl (k := 10) rfl (by rw [ev2]; rfl) (by decide) rfl (fun ls hl => ?_)
  refine lv_goto (tgt := 231) hx hb dX12_oldSprites_385 (by decide) ?_
  exact hk231 _ _ _ _ _ _ _ _ _ _ _ _ _ _ hI (lv_sub hl [1, 2, 3, 4, 5, 6, 7, 8, 9, 10, 0] rfl) hf
set_option maxRecDepth 20000 in
set_option maxHeartbeats 4000000 in
theorem bX12_oldSprites_350 {st : Nat → Nat} {p : Program} {l : Launch} {e : Env} {s : State} {m : MethodId} {args : Array Value} {below : List Frame} {meth : Method} {c : Code} {D : va_G} {A : Nat → Prop} {ad : Nat → Nat} {cy : Nat → ClassId} (hC : zC p m c cX12_oldSprites 16 s args wzX12_oldSprites RX12 meth none) {k40 : zSt → Int32 → Int32 → Int32 → Int32 → Int32 → Option (zSt)} {k231 : zSt → Int32 → Int32 → Int32 → Int32 → Int32 → Int32 → Int32 → Int32 → Int32 → Int32 → Option (zSt)} {res : zSt} (hk40 : ∀ (H : Heap) (locs : List Loc) (σ : zSt) (ls : Array Slot) (x1 : Int32) (x2 : Int32) (x3 : Int32) (x4 : Int32) (x5 : Int32), zI st D (tM cy) (wM ad cy σ) A s H locs → lv_has ls 16 [(0, .ref (ad 0)), (1, .int x1), (2, .int x2), (3, .int x3), (4, .int x4), (5, .int x5)] → k40 σ x1 x2 x3 x4 x5 = some res → W p l e rmX12_oldSprites s m args below meth c H locs 0 0 (zQu below args s D (tM cy) (wM ad cy) A res) (F0 m 40 ls [])) (hk231 : ∀ (H : Heap) (locs : List Loc) (σ : zSt) (ls : Array Slot) (x1 : Int32) (x2 : Int32) (x3 : Int32) (x4 : Int32) (x5 : Int32) (x8 : Int32) (x9 : Int32) (x10 : Int32) (x11 : Int32) (x12 : Int32), zI st D (tM cy) (wM ad cy σ) A s H locs → lv_has ls 16 [(0, .ref (ad 0)), (1, .int x1), (2, .int x2), (3, .int x3), (4, .int x4), (5, .int x5), (8, .int x8), (9, .int x9), (10, .int x10), (11, .int x11), (12, .int x12)] → k231 σ x1 x2 x3 x4 x5 x8 x9 x10 x11 x12 = some res → W p l e rmX12_oldSprites s m args below meth c H locs 0 0 (zQu below args s D (tM cy) (wM ad cy) A res) (F0 m 231 ls [])) {H : Heap} {locs : List Loc} {σ : zSt} {ls : Array Slot} {x1 : Int32} {x2 : Int32} {x3 : Int32} {x4 : Int32} {x5 : Int32} {x8 : Int32} {x9 : Int32} {x10 : Int32} {x11 : Int32} {x12 : Int32} {x15 : Int32} (hI : zI st D (tM cy) (wM ad cy σ) A s H locs) (hl : lv_has ls 16 [(0, .ref (ad 0)), (1, .int x1), (2, .int x2), (3, .int x3), (4, .int x4), (5, .int x5), (8, .int x8), (9, .int x9), (10, .int x10), (11, .int x11), (12, .int x12), (15, .int x15)]) (hf : fX12_oldSprites_350 k40 k231 σ x1 x2 x3 x4 x5 x8 x9 x10 x11 x12 x15 = some res) : W p l e rmX12_oldSprites s m args below meth c H locs 0 0 (zQu below args s D (tM cy) (wM ad cy) A res) (F0 m 350 ls []) := by
  have hx := hC.1
  have hb := hC.2.1
  unfold fX12_oldSprites_350 at hf
  refine lv_aload_n hx hb dX12_oldSprites_350 rfl (lv_at hl 0 rfl) ?_
  refine z_get hC hI hinX12_oldSprites_X120 0 (wM_e0 ad cy σ) rfl 37 (by decide) (List.mem_cons_of_mem _ zw10_8) rfl dX12_oldSprites_351 ?_
  refine lv_iload hx hb dX12_oldSprites_354 (lv_at hl 11 rfl) ?_
  refine lv_iconst (v := 1) hx hb dX12_oldSprites_356 (by decide) ?_
  obtain ⟨q, hf⟩ := zck_use hf
  obtain ⟨σ3, eσ3⟩ : ∃ z, z = zsi σ 25 (x15.toNatClampNeg) (vp_nar .boolean 1) := ⟨_, rfl⟩
  replace hf := zbv_use eσ3 hf
  refine z_zast hC hI 25 24 (wM_e25 ad cy σ) (tM_t25 cy) q ((wM_s25 ad cy σ _ _).trans (congrArg (wM ad cy) eσ3.symm)) dX12_oldSprites_357 (fun H locs hI => ?_)
  refine lv_iload hx hb dX12_oldSprites_358 (lv_at hl 8 rfl) ?_
  refine lv_if_le (tgt := 382) hx hb dX12_oldSprites_360 (by decide) (fun q => ?_) (fun q => ?_)
  · replace hf := zif_t q hf
    exact bX12_oldSprites_382 hC hk40 hk231 hI (lv_sub hl [0, 1, 2, 3, 4, 5, 6, 7, 8, 9, 10] rfl) hf
  replace hf := zif_f q hf
  refine lv_aload_n hx hb dX12_oldSprites_363 rfl (lv_at hl 0 rfl) ?_
  refine z_get hC hI hinX12_oldSprites_X120 0 (wM_e0 ad cy σ3) rfl 36 (by decide) (List.mem_cons_of_mem _ zw10_7) rfl dX12_oldSprites_364 ?_
  refine lv_iload hx hb dX12_oldSprites_367 (lv_at hl 11 rfl) ?_
  obtain ⟨q, hf⟩ := zck_use hf
  refine z_iald hC hI 24 23 (wM_e24 ad cy σ3) (tM_t24 cy) q dX12_oldSprites_369 ?_
  refine lv_if_ne (tgt := 382) hx hb dX12_oldSprites_370 (by decide) (fun q => ?_) (fun q => ?_)
  · replace hf := zif_f q hf
    exact bX12_oldSprites_382 hC hk40 hk231 hI (lv_sub hl [0, 1, 2, 3, 4, 5, 6, 7, 8, 9, 10] rfl) hf
  replace hf := zif_t q hf
  refine lv_aload_n hx hb dX12_oldSprites_373 rfl (lv_at hl 0 rfl) ?_
  refine z_get hC hI hinX12_oldSprites_X120 0 (wM_e0 ad cy σ3) rfl 36 (by decide) (List.mem_cons_of_mem _ zw10_7) rfl dX12_oldSprites_374 ?_
  refine lv_iload hx hb dX12_oldSprites_377 (lv_at hl 11 rfl) ?_
  refine lv_iload hx hb dX12_oldSprites_379 (lv_at hl 8 rfl) ?_
  obtain ⟨q, hf⟩ := zck_use hf
  obtain ⟨σ4, eσ4⟩ : ∃ z, z = zsi σ3 24 (x15.toNatClampNeg) x10 := ⟨_, rfl⟩
  replace hf := zbv_use eσ4 hf
  refine z_iast hC hI 24 23 (wM_e24 ad cy σ3) (tM_t24 cy) q ((wM_s24 ad cy σ3 _ _).trans (congrArg (wM ad cy) eσ4.symm)) dX12_oldSprites_381 (fun H locs hI => ?_)
  exact bX12_oldSprites_382 hC hk40 hk231 hI (lv_sub hl [0, 1, 2, 3, 4, 5, 6, 7, 8, 9, 10] rfl) hf
set_option maxRecDepth 20000 in
set_option maxHeartbeats 4000000 in
theorem bX12_oldSprites_283 {st : Nat → Nat} {p : Program} {l : Launch} {e : Env} {s : State} {m : MethodId} {args : Array Value} {below : List Frame} {meth : Method} {c : Code} {D : va_G} {A : Nat → Prop} {ad : Nat → Nat} {cy : Nat → ClassId} (hC : zC p m c cX12_oldSprites 16 s args wzX12_oldSprites RX12 meth none) {k40 : zSt → Int32 → Int32 → Int32 → Int32 → Int32 → Option (zSt)} {k231 : zSt → Int32 → Int32 → Int32 → Int32 → Int32 → Int32 → Int32 → Int32 → Int32 → Int32 → Option (zSt)} {res : zSt} (hk40 : ∀ (H : Heap) (locs : List Loc) (σ : zSt) (ls : Array Slot) (x1 : Int32) (x2 : Int32) (x3 : Int32) (x4 : Int32) (x5 : Int32), zI st D (tM cy) (wM ad cy σ) A s H locs → lv_has ls 16 [(0, .ref (ad 0)), (1, .int x1), (2, .int x2), (3, .int x3), (4, .int x4), (5, .int x5)] → k40 σ x1 x2 x3 x4 x5 = some res → W p l e rmX12_oldSprites s m args below meth c H locs 0 0 (zQu below args s D (tM cy) (wM ad cy) A res) (F0 m 40 ls [])) (hk231 : ∀ (H : Heap) (locs : List Loc) (σ : zSt) (ls : Array Slot) (x1 : Int32) (x2 : Int32) (x3 : Int32) (x4 : Int32) (x5 : Int32) (x8 : Int32) (x9 : Int32) (x10 : Int32) (x11 : Int32) (x12 : Int32), zI st D (tM cy) (wM ad cy σ) A s H locs → lv_has ls 16 [(0, .ref (ad 0)), (1, .int x1), (2, .int x2), (3, .int x3), (4, .int x4), (5, .int x5), (8, .int x8), (9, .int x9), (10, .int x10), (11, .int x11), (12, .int x12)] → k231 σ x1 x2 x3 x4 x5 x8 x9 x10 x11 x12 = some res → W p l e rmX12_oldSprites s m args below meth c H locs 0 0 (zQu below args s D (tM cy) (wM ad cy) A res) (F0 m 231 ls [])) {H : Heap} {locs : List Loc} {σ : zSt} {ls : Array Slot} {x1 : Int32} {x2 : Int32} {x3 : Int32} {x4 : Int32} {x5 : Int32} {x8 : Int32} {x9 : Int32} {x10 : Int32} {x11 : Int32} {x12 : Int32} {x13 : Int32} {s0 : Int32} {s1 : Int32} (hI : zI st D (tM cy) (wM ad cy σ) A s H locs) (hl : lv_has ls 16 [(0, .ref (ad 0)), (1, .int x1), (2, .int x2), (3, .int x3), (4, .int x4), (5, .int x5), (8, .int x8), (9, .int x9), (10, .int x10), (11, .int x11), (12, .int x12), (13, .int x13)]) (hf : fX12_oldSprites_283 k40 k231 σ x1 x2 x3 x4 x5 x8 x9 x10 x11 x12 x13 s0 s1 = some res) : W p l e rmX12_oldSprites s m args below meth c H locs 0 0 (zQu below args s D (tM cy) (wM ad cy) A res) (F0 m 283 ls [.int s0, .int s1, .ref (ad 0)]) := by
  have hx := hC.1
  have hb := hC.2.1
  unfold fX12_oldSprites_283 at hf
  refine lv_iadd hx hb dX12_oldSprites_283 ?_
  obtain ⟨σ5, v6, g5, hf⟩ := zbi_use hf
  refine z_callVi (As := [.int (s1 + s0)]) (rest := []) hC hI (cX12_video8_met st l D ad cy σ (s1 + s0) _ g5) (zgV zw56_6 zw56_7 zw56_8 zw1_5 zw56_9) rfl ⟨rfl, rfl⟩ 1 hdX12_video8 ⟨Nat.le_of_ble_eq_true rfl, Nat.le_of_ble_eq_true rfl⟩ rfl rfl (wM_e0 ad cy σ) rfl hl rfl (Nat.le_of_ble_eq_true rfl) dX12_oldSprites_284 ⟨Nat.zero_le _, Nat.zero_le _⟩ (fun H locs hI => ?_)
  refine lv_bipush (v := 7) hx hb dX12_oldSprites_287 (by decide) ?_
  refine lv_iload hx hb dX12_oldSprites_289 (lv_at hl 11 rfl) ?_
  refine lv_bipush (v := 8) hx hb dX12_oldSprites_291 (by decide) ?_
  obtain ⟨q, hf⟩ := zck_use hf
  refine z_irem hx hb dX12_oldSprites_293 (of_decide_eq_true q) ?_
  refine lv_isub hx hb dX12_oldSprites_294 ?_
  refine lv_ishr hx hb dX12_oldSprites_295 ?_
  refine lv_iconst (v := 1) hx hb dX12_oldSprites_296 (by decide) ?_
  refine lv_iand hx hb dX12_oldSprites_297 ?_
  refine lv_topi (fun v7 ev7 => ?_)
  replace hf := zbv_use ev7 hf
  refine lv_istore (lv' := [(14, .int v7), (0, .ref (ad 0)), (1, .int x1), (2, .int x2), (3, .int x3), (4, .int x4), (5, .int x5), (8, .int x8), (9, .int x9), (10, .int x10), (11, .int x11), (12, .int x12), (13, .int x13)]) hx hb dX12_oldSprites_298 hl (by decide) rfl (fun ls hl => ?_)
  refine lv_iload hx hb dX12_oldSprites_300 (lv_at hl 10 rfl) ?_
  refine lv_iload hx hb dX12_oldSprites_302 (lv_at hl 11 rfl) ?_
  refine lv_iadd hx hb dX12_oldSprites_304 ?_
  refine lv_topi (fun v8 ev8 => ?_)
  replace hf := zbv_use ev8 hf
  refine lv_istore (lv' := [(15, .int v8), (14, .int v7), (0, .ref (ad 0)), (1, .int x1), (2, .int x2), (3, .int x3), (4, .int x4), (5, .int x5), (8, .int x8), (9, .int x9), (10, .int x10), (11, .int x11), (12, .int x12), (13, .int x13)]) hx hb dX12_oldSprites_305 hl (by decide) rfl (fun ls hl => ?_)
  refine lv_iload hx hb dX12_oldSprites_307 (lv_at hl 1 rfl) ?_
  refine lv_if_eq (tgt := 382) hx hb dX12_oldSprites_309 (by decide) (fun q => ?_) (fun q => ?_)
  · replace hf := zif_t q hf
    exact bX12_oldSprites_382 hC hk40 hk231 hI (lv_sub hl [2, 3, 4, 5, 6, 7, 8, 9, 10, 11, 12] rfl) hf
  replace hf := zif_f q hf
  refine lv_iload hx hb dX12_oldSprites_312 (lv_at hl 0 rfl) ?_
  refine lv_if_lt (tgt := 382) hx hb dX12_oldSprites_314 (by decide) (fun q => ?_) (fun q => ?_)
  · replace hf := zif_t q hf
    exact bX12_oldSprites_382 hC hk40 hk231 hI (lv_sub hl [2, 3, 4, 5, 6, 7, 8, 9, 10, 11, 12] rfl) hf
  replace hf := zif_f q hf
  refine lv_iload hx hb dX12_oldSprites_317 (lv_at hl 0 rfl) ?_
  refine lv_sipush (v := 255) hx hb dX12_oldSprites_319 (by decide) ?_
  refine lv_icmp_le (tgt := 328) hx hb dX12_oldSprites_322 (by decide) (fun q => ?_) (fun q => ?_)
  · replace hf := zif_t q hf
    refine lv_aload_n hx hb dX12_oldSprites_328 rfl (lv_at hl 2 rfl) ?_
    refine z_get hC hI hinX12_oldSprites_X120 0 (wM_e0 ad cy σ5) rfl 37 (by decide) (List.mem_cons_of_mem _ zw10_8) rfl dX12_oldSprites_329 ?_
    refine lv_iload hx hb dX12_oldSprites_332 (lv_at hl 0 rfl) ?_
    obtain ⟨q, hf⟩ := zck_use hf
    refine z_zald hC hI 25 24 (wM_e25 ad cy σ5) (tM_t25 cy) q dX12_oldSprites_334 ?_
    refine lv_if_eq (tgt := 350) hx hb dX12_oldSprites_335 (by decide) (fun q => ?_) (fun q => ?_)
    · replace hf := zif_t q hf
      exact bX12_oldSprites_350 hC hk40 hk231 hI (lv_sub hl [2, 3, 4, 5, 6, 7, 8, 9, 10, 11, 12, 0] rfl) hf
    replace hf := zif_f q hf
    refine lv_aload_n hx hb dX12_oldSprites_338 rfl (lv_at hl 2 rfl) ?_
    refine z_get hC hI hinX12_oldSprites_X120 0 (wM_e0 ad cy σ5) rfl 10 (by decide) (List.mem_cons_of_mem _ zw9_7) rfl dX12_oldSprites_339 ?_
    refine lv_bipush (v := 62) hx hb dX12_oldSprites_342 (by decide) ?_
    refine lv_dup2_11 hx hb dX12_oldSprites_344 rfl rfl ?_
    obtain ⟨q, hf⟩ := zck_use hf
    refine z_iald hC hI 3 2 (wM_e3 ad cy σ5) (tM_t3 cy) q dX12_oldSprites_345 ?_
    refine lv_bipush (v := 32) hx hb dX12_oldSprites_346 (by decide) ?_
    refine lv_ior hx hb dX12_oldSprites_348 ?_
    obtain ⟨q, hf⟩ := zck_use hf
    obtain ⟨σ9, eσ9⟩ : ∃ z, z = zsi σ5 3 ((62 : Int32).toNatClampNeg) ((zgi σ5 3 (62 : Int32).toNatClampNeg) ||| 32) := ⟨_, rfl⟩
    replace hf := zbv_use eσ9 hf
    refine z_iast hC hI 3 2 (wM_e3 ad cy σ5) (tM_t3 cy) q ((wM_s3 ad cy σ5 _ _).trans (congrArg (wM ad cy) eσ9.symm)) dX12_oldSprites_349 (fun H locs hI => ?_)
    exact bX12_oldSprites_350 hC hk40 hk231 hI (lv_sub hl [2, 3, 4, 5, 6, 7, 8, 9, 10, 11, 12, 0] rfl) hf
  replace hf := zif_f q hf
  refine lv_goto (tgt := 382) hx hb dX12_oldSprites_325 (by decide) ?_
  exact bX12_oldSprites_382 hC hk40 hk231 hI (lv_sub hl [2, 3, 4, 5, 6, 7, 8, 9, 10, 11, 12] rfl) hf
set_option maxRecDepth 20000 in
set_option maxHeartbeats 4000000 in
theorem bX12_oldSprites_231_body {st : Nat → Nat} {p : Program} {l : Launch} {e : Env} {s : State} {m : MethodId} {args : Array Value} {below : List Frame} {meth : Method} {c : Code} {D : va_G} {A : Nat → Prop} {ad : Nat → Nat} {cy : Nat → ClassId} (hC : zC p m c cX12_oldSprites 16 s args wzX12_oldSprites RX12 meth none) {k40 : zSt → Int32 → Int32 → Int32 → Int32 → Int32 → Option (zSt)} {k231 : zSt → Int32 → Int32 → Int32 → Int32 → Int32 → Int32 → Int32 → Int32 → Int32 → Int32 → Option (zSt)} {res : zSt} (hk40 : ∀ (H : Heap) (locs : List Loc) (σ : zSt) (ls : Array Slot) (x1 : Int32) (x2 : Int32) (x3 : Int32) (x4 : Int32) (x5 : Int32), zI st D (tM cy) (wM ad cy σ) A s H locs → lv_has ls 16 [(0, .ref (ad 0)), (1, .int x1), (2, .int x2), (3, .int x3), (4, .int x4), (5, .int x5)] → k40 σ x1 x2 x3 x4 x5 = some res → W p l e rmX12_oldSprites s m args below meth c H locs 0 0 (zQu below args s D (tM cy) (wM ad cy) A res) (F0 m 40 ls [])) (hk231 : ∀ (H : Heap) (locs : List Loc) (σ : zSt) (ls : Array Slot) (x1 : Int32) (x2 : Int32) (x3 : Int32) (x4 : Int32) (x5 : Int32) (x8 : Int32) (x9 : Int32) (x10 : Int32) (x11 : Int32) (x12 : Int32), zI st D (tM cy) (wM ad cy σ) A s H locs → lv_has ls 16 [(0, .ref (ad 0)), (1, .int x1), (2, .int x2), (3, .int x3), (4, .int x4), (5, .int x5), (8, .int x8), (9, .int x9), (10, .int x10), (11, .int x11), (12, .int x12)] → k231 σ x1 x2 x3 x4 x5 x8 x9 x10 x11 x12 = some res → W p l e rmX12_oldSprites s m args below meth c H locs 0 0 (zQu below args s D (tM cy) (wM ad cy) A res) (F0 m 231 ls [])) {H : Heap} {locs : List Loc} {σ : zSt} {ls : Array Slot} {x1 : Int32} {x2 : Int32} {x3 : Int32} {x4 : Int32} {x5 : Int32} {x8 : Int32} {x9 : Int32} {x10 : Int32} {x11 : Int32} {x12 : Int32} (hI : zI st D (tM cy) (wM ad cy σ) A s H locs) (hl : lv_has ls 16 [(0, .ref (ad 0)), (1, .int x1), (2, .int x2), (3, .int x3), (4, .int x4), (5, .int x5), (8, .int x8), (9, .int x9), (10, .int x10), (11, .int x11), (12, .int x12)]) (hf : fX12_oldSprites_231_body k40 k231 σ x1 x2 x3 x4 x5 x8 x9 x10 x11 x12 = some res) : W p l e rmX12_oldSprites s m args below meth c H locs 0 0 (zQu below args s D (tM cy) (wM ad cy) A res) (F0 m 231 ls []) := by
  have hx := hC.1
  have hb := hC.2.1
  unfold fX12_oldSprites_231_body at hf
  refine lv_iload hx hb dX12_oldSprites_231 (lv_at hl 10 rfl) ?_
  refine lv_iload_n hx hb dX12_oldSprites_233 rfl (lv_at hl 3 rfl) ?_
  refine lv_iload_n hx hb dX12_oldSprites_234 rfl (lv_at hl 2 rfl) ?_
  refine lv_imul hx hb dX12_oldSprites_235 ?_
  refine lv_icmp_ge (tgt := 388) hx hb dX12_oldSprites_236 (by decide) (fun q => ?_) (fun q => ?_)
  · replace hf := zif_t q hf
    exact bX12_oldSprites_388 hC hk40 hI (lv_sub hl [0, 1, 2, 3, 4, 5] rfl) hf
  replace hf := zif_f q hf
  refine lv_iload hx hb dX12_oldSprites_239 (lv_at hl 10 rfl) ?_
  refine lv_iload_n hx hb dX12_oldSprites_241 rfl (lv_at hl 2 rfl) ?_
  obtain ⟨q, hf⟩ := zck_use hf
  refine lv_idiv hx hb dX12_oldSprites_242 (of_decide_eq_true q) ?_
  refine lv_topi (fun v10 ev10 => ?_)
  replace hf := zbv_use ev10 hf
  refine lv_istore (lv' := [(13, .int v10), (0, .ref (ad 0)), (1, .int x1), (2, .int x2), (3, .int x3), (4, .int x4), (5, .int x5), (8, .int x8), (9, .int x9), (10, .int x10), (11, .int x11), (12, .int x12)]) hx hb dX12_oldSprites_243 hl (by decide) rfl (fun ls hl => ?_)
  refine lv_aload_n hx hb dX12_oldSprites_245 rfl (lv_at hl 1 rfl) ?_
  refine lv_sipush (v := 2048) hx hb dX12_oldSprites_246 (by decide) ?_
  refine lv_aload_n hx hb dX12_oldSprites_249 rfl (lv_at hl 1 rfl) ?_
  refine lv_bipush (v := 6) hx hb dX12_oldSprites_250 (by decide) ?_
  obtain ⟨σ11, v12, g11, hf⟩ := zbi_use hf
  refine z_callVi (As := [.int 6]) (rest := [.int 2048, .ref (ad 0)]) hC hI (cX12_reg_met st l D ad cy σ 6 _ g11) (zgV zw59_6 zw59_7 zw59_8 zw1_5 zw59_9) rfl ⟨rfl, rfl⟩ 1 hdX12_reg ⟨Nat.le_of_ble_eq_true rfl, Nat.le_of_ble_eq_true rfl⟩ rfl rfl (wM_e0 ad cy σ) rfl hl rfl (Nat.le_of_ble_eq_true rfl) dX12_oldSprites_252 ⟨Nat.zero_le _, Nat.zero_le _⟩ (fun H locs hI => ?_)
  refine lv_bipush (v := 8) hx hb dX12_oldSprites_255 (by decide) ?_
  obtain ⟨q, hf⟩ := zck_use hf
  refine z_irem hx hb dX12_oldSprites_257 (of_decide_eq_true q) ?_
  refine lv_imul hx hb dX12_oldSprites_258 ?_
  refine lv_bipush (v := 8) hx hb dX12_oldSprites_259 (by decide) ?_
  refine lv_iload hx hb dX12_oldSprites_261 (lv_at hl 8 rfl) ?_
  refine lv_imul hx hb dX12_oldSprites_263 ?_
  refine lv_iadd hx hb dX12_oldSprites_264 ?_
  refine lv_iload hx hb dX12_oldSprites_265 (lv_at hl 7 rfl) ?_
  refine lv_iload_n hx hb dX12_oldSprites_267 rfl (lv_at hl 3 rfl) ?_
  obtain ⟨q, hf⟩ := zck_use hf
  refine lv_idiv hx hb dX12_oldSprites_268 (of_decide_eq_true q) ?_
  refine lv_iadd hx hb dX12_oldSprites_269 ?_
  refine lv_iload hx hb dX12_oldSprites_270 (lv_at hl 0 rfl) ?_
  refine lv_bipush (v := 7) hx hb dX12_oldSprites_272 (by decide) ?_
  refine lv_icmp_le (tgt := 282) hx hb dX12_oldSprites_274 (by decide) (fun q => ?_) (fun q => ?_)
  · replace hf := zif_t q hf
    refine lv_iconst (v := 0) hx hb dX12_oldSprites_282 (by decide) ?_
    exact bX12_oldSprites_283 hC hk40 hk231 hI (lv_sub hl [1, 2, 3, 4, 5, 6, 7, 8, 9, 10, 11, 0] rfl) hf
  replace hf := zif_f q hf
  refine lv_bipush (v := 16) hx hb dX12_oldSprites_277 (by decide) ?_
  refine lv_goto (tgt := 283) hx hb dX12_oldSprites_279 (by decide) ?_
  exact bX12_oldSprites_283 hC hk40 hk231 hI (lv_sub hl [1, 2, 3, 4, 5, 6, 7, 8, 9, 10, 11, 0] rfl) hf
theorem blX12_oldSprites_231 {st : Nat → Nat} {p : Program} {l : Launch} {e : Env} {s : State} {m : MethodId} {args : Array Value} {below : List Frame} {meth : Method} {c : Code} {D : va_G} {A : Nat → Prop} {ad : Nat → Nat} {cy : Nat → ClassId} (hC : zC p m c cX12_oldSprites 16 s args wzX12_oldSprites RX12 meth none) {k40 : zSt → Int32 → Int32 → Int32 → Int32 → Int32 → Option (zSt)} {res : zSt} (hk40 : ∀ (H : Heap) (locs : List Loc) (σ : zSt) (ls : Array Slot) (x1 : Int32) (x2 : Int32) (x3 : Int32) (x4 : Int32) (x5 : Int32), zI st D (tM cy) (wM ad cy σ) A s H locs → lv_has ls 16 [(0, .ref (ad 0)), (1, .int x1), (2, .int x2), (3, .int x3), (4, .int x4), (5, .int x5)] → k40 σ x1 x2 x3 x4 x5 = some res → W p l e rmX12_oldSprites s m args below meth c H locs 0 0 (zQu below args s D (tM cy) (wM ad cy) A res) (F0 m 40 ls [])) : ∀ (n : Nat) (H : Heap) (locs : List Loc) (σ : zSt) (ls : Array Slot) (x1 : Int32) (x2 : Int32) (x3 : Int32) (x4 : Int32) (x5 : Int32) (x8 : Int32) (x9 : Int32) (x10 : Int32) (x11 : Int32) (x12 : Int32), zI st D (tM cy) (wM ad cy σ) A s H locs → lv_has ls 16 [(0, .ref (ad 0)), (1, .int x1), (2, .int x2), (3, .int x3), (4, .int x4), (5, .int x5), (8, .int x8), (9, .int x9), (10, .int x10), (11, .int x11), (12, .int x12)] → fX12_oldSprites_231 k40 n σ x1 x2 x3 x4 x5 x8 x9 x10 x11 x12 = some res → W p l e rmX12_oldSprites s m args below meth c H locs 0 0 (zQu below args s D (tM cy) (wM ad cy) A res) (F0 m 231 ls []) := by
  intro n
  induction n with
  | zero => intro H locs σ ls x1 x2 x3 x4 x5 x8 x9 x10 x11 x12 hI hl hf; cases hf
  | succ n ih => intro H locs σ ls x1 x2 x3 x4 x5 x8 x9 x10 x11 x12 hI hl hf; exact bX12_oldSprites_231_body hC hk40 ih hI hl hf
set_option maxRecDepth 20000 in
set_option maxHeartbeats 4000000 in
theorem bX12_oldSprites_225 {st : Nat → Nat} {p : Program} {l : Launch} {e : Env} {s : State} {m : MethodId} {args : Array Value} {below : List Frame} {meth : Method} {c : Code} {D : va_G} {A : Nat → Prop} {ad : Nat → Nat} {cy : Nat → ClassId} (hC : zC p m c cX12_oldSprites 16 s args wzX12_oldSprites RX12 meth none) {k40 : zSt → Int32 → Int32 → Int32 → Int32 → Int32 → Option (zSt)} {res : zSt} (hk40 : ∀ (H : Heap) (locs : List Loc) (σ : zSt) (ls : Array Slot) (x1 : Int32) (x2 : Int32) (x3 : Int32) (x4 : Int32) (x5 : Int32), zI st D (tM cy) (wM ad cy σ) A s H locs → lv_has ls 16 [(0, .ref (ad 0)), (1, .int x1), (2, .int x2), (3, .int x3), (4, .int x4), (5, .int x5)] → k40 σ x1 x2 x3 x4 x5 = some res → W p l e rmX12_oldSprites s m args below meth c H locs 0 0 (zQu below args s D (tM cy) (wM ad cy) A res) (F0 m 40 ls [])) {H : Heap} {locs : List Loc} {σ : zSt} {ls : Array Slot} {x1 : Int32} {x2 : Int32} {x3 : Int32} {x4 : Int32} {x5 : Int32} {x8 : Int32} {x9 : Int32} {x10 : Int32} {s0 : Int32} {s1 : Int32} (hI : zI st D (tM cy) (wM ad cy σ) A s H locs) (hl : lv_has ls 16 [(0, .ref (ad 0)), (1, .int x1), (2, .int x2), (3, .int x3), (4, .int x4), (5, .int x5), (8, .int x8), (9, .int x9), (10, .int x10)]) (hf : fX12_oldSprites_225 k40 σ x1 x2 x3 x4 x5 x8 x9 x10 s0 s1 = some res) : W p l e rmX12_oldSprites s m args below meth c H locs 0 0 (zQu below args s D (tM cy) (wM ad cy) A res) (F0 m 225 ls [.int s0, .int s1]) := by
  have hx := hC.1
  have hb := hC.2.1
  unfold fX12_oldSprites_225 at hf
  refine lv_isub hx hb dX12_oldSprites_225 ?_
  refine lv_topi (fun v13 ev13 => ?_)
  replace hf := zbv_use ev13 hf
  refine lv_istore (lv' := [(11, .int v13), (0, .ref (ad 0)), (1, .int x1), (2, .int x2), (3, .int x3), (4, .int x4), (5, .int x5), (8, .int x8), (9, .int x9), (10, .int x10)]) hx hb dX12_oldSprites_226 hl (by decide) rfl (fun ls hl => ?_)
  refine lv_iconst (v := 0) hx hb dX12_oldSprites_228 (by decide) ?_
  refine lv_istore (lv' := [(12, .int 0), (11, .int v13), (0, .ref (ad 0)), (1, .int x1), (2, .int x2), (3, .int x3), (4, .int x4), (5, .int x5), (8, .int x8), (9, .int x9), (10, .int x10)]) hx hb dX12_oldSprites_229 hl (by decide) rfl (fun ls hl => ?_)
  exact blX12_oldSprites_231 hC hk40 zfuel _ _ _ _ _ _ _ _ _ _ _ _ _ _ hI (lv_sub hl [2, 3, 4, 5, 6, 7, 8, 9, 10, 1, 0] rfl) hf
set_option maxRecDepth 20000 in
set_option maxHeartbeats 4000000 in
theorem bX12_oldSprites_183 {st : Nat → Nat} {p : Program} {l : Launch} {e : Env} {s : State} {m : MethodId} {args : Array Value} {below : List Frame} {meth : Method} {c : Code} {D : va_G} {A : Nat → Prop} {ad : Nat → Nat} {cy : Nat → ClassId} (hC : zC p m c cX12_oldSprites 16 s args wzX12_oldSprites RX12 meth none) {k40 : zSt → Int32 → Int32 → Int32 → Int32 → Int32 → Option (zSt)} {res : zSt} (hk40 : ∀ (H : Heap) (locs : List Loc) (σ : zSt) (ls : Array Slot) (x1 : Int32) (x2 : Int32) (x3 : Int32) (x4 : Int32) (x5 : Int32), zI st D (tM cy) (wM ad cy σ) A s H locs → lv_has ls 16 [(0, .ref (ad 0)), (1, .int x1), (2, .int x2), (3, .int x3), (4, .int x4), (5, .int x5)] → k40 σ x1 x2 x3 x4 x5 = some res → W p l e rmX12_oldSprites s m args below meth c H locs 0 0 (zQu below args s D (tM cy) (wM ad cy) A res) (F0 m 40 ls [])) {H : Heap} {locs : List Loc} {σ : zSt} {ls : Array Slot} {x1 : Int32} {x2 : Int32} {x3 : Int32} {x4 : Int32} {x5 : Int32} {x6 : Int32} {x8 : Int32} {s0 : Int32} (hI : zI st D (tM cy) (wM ad cy σ) A s H locs) (hl : lv_has ls 16 [(0, .ref (ad 0)), (1, .int x1), (2, .int x2), (3, .int x3), (4, .int x4), (5, .int x5), (6, .int x6), (8, .int x8)]) (hf : fX12_oldSprites_183 k40 σ x1 x2 x3 x4 x5 x6 x8 s0 = some res) : W p l e rmX12_oldSprites s m args below meth c H locs 0 0 (zQu below args s D (tM cy) (wM ad cy) A res) (F0 m 183 ls [.int s0]) := by
  have hx := hC.1
  have hb := hC.2.1
  unfold fX12_oldSprites_183 at hf
  refine lv_istore (lv' := [(9, .int s0), (0, .ref (ad 0)), (1, .int x1), (2, .int x2), (3, .int x3), (4, .int x4), (5, .int x5), (6, .int x6), (8, .int x8)]) hx hb dX12_oldSprites_183 hl (by decide) rfl (fun ls hl => ?_)
  refine lv_aload_n hx hb dX12_oldSprites_185 rfl (lv_at hl 1 rfl) ?_
  refine lv_iload hx hb dX12_oldSprites_186 (lv_at hl 7 rfl) ?_
  refine lv_iconst (v := 3) hx hb dX12_oldSprites_188 (by decide) ?_
  refine lv_iadd hx hb dX12_oldSprites_189 ?_
  obtain ⟨σ14, v15, g14, hf⟩ := zbi_use hf
  refine z_callVi (As := [.int (x6 + 3)]) (rest := []) hC hI (cX12_video8_met st l D ad cy σ (x6 + 3) _ g14) (zgV zw56_6 zw56_7 zw56_8 zw1_5 zw56_9) rfl ⟨rfl, rfl⟩ 1 hdX12_video8 ⟨Nat.le_of_ble_eq_true rfl, Nat.le_of_ble_eq_true rfl⟩ rfl rfl (wM_e0 ad cy σ) rfl hl rfl (Nat.le_of_ble_eq_true rfl) dX12_oldSprites_190 ⟨Nat.zero_le _, Nat.zero_le _⟩ (fun H locs hI => ?_)
  refine lv_bipush (v := 15) hx hb dX12_oldSprites_193 (by decide) ?_
  refine lv_iand hx hb dX12_oldSprites_195 ?_
  refine lv_topi (fun v16 ev16 => ?_)
  replace hf := zbv_use ev16 hf
  refine lv_istore (lv' := [(10, .int v16), (9, .int s0), (0, .ref (ad 0)), (1, .int x1), (2, .int x2), (3, .int x3), (4, .int x4), (5, .int x5), (6, .int x6), (8, .int x8)]) hx hb dX12_oldSprites_196 hl (by decide) rfl (fun ls hl => ?_)
  refine lv_aload_n hx hb dX12_oldSprites_198 rfl (lv_at hl 2 rfl) ?_
  refine lv_iload hx hb dX12_oldSprites_199 (lv_at hl 8 rfl) ?_
  refine lv_iconst (v := 1) hx hb dX12_oldSprites_201 (by decide) ?_
  refine lv_iadd hx hb dX12_oldSprites_202 ?_
  obtain ⟨σ17, v18, g17, hf⟩ := zbi_use hf
  refine z_callVi (As := [.int (x6 + 1)]) (rest := []) hC hI (cX12_video8_met st l D ad cy σ14 (x6 + 1) _ g17) (zgV zw56_6 zw56_7 zw56_8 zw1_5 zw56_9) rfl ⟨rfl, rfl⟩ 1 hdX12_video8 ⟨Nat.le_of_ble_eq_true rfl, Nat.le_of_ble_eq_true rfl⟩ rfl rfl (wM_e0 ad cy σ14) rfl hl rfl (Nat.le_of_ble_eq_true rfl) dX12_oldSprites_203 ⟨Nat.zero_le _, Nat.zero_le _⟩ (fun H locs hI => ?_)
  refine lv_aload_n hx hb dX12_oldSprites_206 rfl (lv_at hl 2 rfl) ?_
  refine lv_iload hx hb dX12_oldSprites_207 (lv_at hl 8 rfl) ?_
  refine lv_iconst (v := 3) hx hb dX12_oldSprites_209 (by decide) ?_
  refine lv_iadd hx hb dX12_oldSprites_210 ?_
  obtain ⟨σ19, v20, g19, hf⟩ := zbi_use hf
  refine z_callVi (As := [.int (x6 + 3)]) (rest := [.int v18]) hC hI (cX12_video8_met st l D ad cy σ17 (x6 + 3) _ g19) (zgV zw56_6 zw56_7 zw56_8 zw1_5 zw56_9) rfl ⟨rfl, rfl⟩ 1 hdX12_video8 ⟨Nat.le_of_ble_eq_true rfl, Nat.le_of_ble_eq_true rfl⟩ rfl rfl (wM_e0 ad cy σ17) rfl hl rfl (Nat.le_of_ble_eq_true rfl) dX12_oldSprites_211 ⟨Nat.zero_le _, Nat.zero_le _⟩ (fun H locs hI => ?_)
  refine lv_bipush (v := 127) hx hb dX12_oldSprites_214 (by decide) ?_
  refine lv_icmp_le (tgt := 224) hx hb dX12_oldSprites_216 (by decide) (fun q => ?_) (fun q => ?_)
  · replace hf := zif_t q hf
    refine lv_iconst (v := 0) hx hb dX12_oldSprites_224 (by decide) ?_
    exact bX12_oldSprites_225 hC hk40 hI (lv_sub hl [2, 3, 4, 5, 6, 7, 9, 1, 0] rfl) hf
  replace hf := zif_f q hf
  refine lv_bipush (v := 32) hx hb dX12_oldSprites_219 (by decide) ?_
  refine lv_goto (tgt := 225) hx hb dX12_oldSprites_221 (by decide) ?_
  exact bX12_oldSprites_225 hC hk40 hI (lv_sub hl [2, 3, 4, 5, 6, 7, 9, 1, 0] rfl) hf
set_option maxRecDepth 20000 in
set_option maxHeartbeats 4000000 in
theorem bX12_oldSprites_40_body {st : Nat → Nat} {p : Program} {l : Launch} {e : Env} {s : State} {m : MethodId} {args : Array Value} {below : List Frame} {meth : Method} {c : Code} {D : va_G} {A : Nat → Prop} {ad : Nat → Nat} {cy : Nat → ClassId} (hC : zC p m c cX12_oldSprites 16 s args wzX12_oldSprites RX12 meth none) {k40 : zSt → Int32 → Int32 → Int32 → Int32 → Int32 → Option (zSt)} {res : zSt} (hk40 : ∀ (H : Heap) (locs : List Loc) (σ : zSt) (ls : Array Slot) (x1 : Int32) (x2 : Int32) (x3 : Int32) (x4 : Int32) (x5 : Int32), zI st D (tM cy) (wM ad cy σ) A s H locs → lv_has ls 16 [(0, .ref (ad 0)), (1, .int x1), (2, .int x2), (3, .int x3), (4, .int x4), (5, .int x5)] → k40 σ x1 x2 x3 x4 x5 = some res → W p l e rmX12_oldSprites s m args below meth c H locs 0 0 (zQu below args s D (tM cy) (wM ad cy) A res) (F0 m 40 ls [])) {H : Heap} {locs : List Loc} {σ : zSt} {ls : Array Slot} {x1 : Int32} {x2 : Int32} {x3 : Int32} {x4 : Int32} {x5 : Int32} (hI : zI st D (tM cy) (wM ad cy σ) A s H locs) (hl : lv_has ls 16 [(0, .ref (ad 0)), (1, .int x1), (2, .int x2), (3, .int x3), (4, .int x4), (5, .int x5)]) (hf : fX12_oldSprites_40_body k40 σ x1 x2 x3 x4 x5 = some res) : W p l e rmX12_oldSprites s m args below meth c H locs 0 0 (zQu below args s D (tM cy) (wM ad cy) A res) (F0 m 40 ls []) := by
  have hx := hC.1
  have hb := hC.2.1
  unfold fX12_oldSprites_40_body at hf
  refine lv_iload hx hb dX12_oldSprites_40 (lv_at hl 5 rfl) ?_
  refine lv_bipush (v := 32) hx hb dX12_oldSprites_42 (by decide) ?_
  refine lv_icmp_ge (tgt := 394) hx hb dX12_oldSprites_44 (by decide) (fun q => ?_) (fun q => ?_)
  · replace hf := zif_t q hf
    exact z_return hC hI hf dX12_oldSprites_394
  replace hf := zif_f q hf
  refine lv_sipush (v := 128) hx hb dX12_oldSprites_47 (by decide) ?_
  refine lv_aload_n hx hb dX12_oldSprites_50 rfl (lv_at hl 0 rfl) ?_
  refine lv_iconst (v := 5) hx hb dX12_oldSprites_51 (by decide) ?_
  obtain ⟨σ21, v22, g21, hf⟩ := zbi_use hf
  refine z_callVi (As := [.int 5]) (rest := [.int 128]) hC hI (cX12_reg_met st l D ad cy σ 5 _ g21) (zgV zw59_6 zw59_7 zw59_8 zw1_5 zw59_9) rfl ⟨rfl, rfl⟩ 1 hdX12_reg ⟨Nat.le_of_ble_eq_true rfl, Nat.le_of_ble_eq_true rfl⟩ rfl rfl (wM_e0 ad cy σ) rfl hl rfl (Nat.le_of_ble_eq_true rfl) dX12_oldSprites_52 ⟨Nat.zero_le _, Nat.zero_le _⟩ (fun H locs hI => ?_)
  refine lv_sipush (v := 128) hx hb dX12_oldSprites_55 (by decide) ?_
  obtain ⟨q, hf⟩ := zck_use hf
  refine z_irem hx hb dX12_oldSprites_58 (of_decide_eq_true q) ?_
  refine lv_imul hx hb dX12_oldSprites_59 ?_
  refine lv_iconst (v := 4) hx hb dX12_oldSprites_60 (by decide) ?_
  refine lv_iload hx hb dX12_oldSprites_61 (lv_at hl 5 rfl) ?_
  refine lv_imul hx hb dX12_oldSprites_63 ?_
  refine lv_iadd hx hb dX12_oldSprites_64 ?_
  refine lv_topi (fun v23 ev23 => ?_)
  replace hf := zbv_use ev23 hf
  refine lv_istore (lv' := [(6, .int v23), (0, .ref (ad 0)), (1, .int x1), (2, .int x2), (3, .int x3), (4, .int x4), (5, .int x5)]) hx hb dX12_oldSprites_65 hl (by decide) rfl (fun ls hl => ?_)
  refine lv_aload_n hx hb dX12_oldSprites_67 rfl (lv_at hl 1 rfl) ?_
  refine lv_iload hx hb dX12_oldSprites_68 (lv_at hl 0 rfl) ?_
  obtain ⟨σ24, v25, g24, hf⟩ := zbi_use hf
  refine z_callVi (As := [.int v23]) (rest := []) hC hI (cX12_video8_met st l D ad cy σ21 v23 _ g24) (zgV zw56_6 zw56_7 zw56_8 zw1_5 zw56_9) rfl ⟨rfl, rfl⟩ 1 hdX12_video8 ⟨Nat.le_of_ble_eq_true rfl, Nat.le_of_ble_eq_true rfl⟩ rfl rfl (wM_e0 ad cy σ21) rfl hl rfl (Nat.le_of_ble_eq_true rfl) dX12_oldSprites_70 ⟨Nat.zero_le _, Nat.zero_le _⟩ (fun H locs hI => ?_)
  refine lv_istore (lv' := [(7, .int v25), (6, .int v23), (0, .ref (ad 0)), (1, .int x1), (2, .int x2), (3, .int x3), (4, .int x4), (5, .int x5)]) hx hb dX12_oldSprites_73 hl (by decide) rfl (fun ls hl => ?_)
  refine lv_iload hx hb dX12_oldSprites_75 (lv_at hl 0 rfl) ?_
  refine lv_sipush (v := 208) hx hb dX12_oldSprites_77 (by decide) ?_
  refine lv_icmp_ne (tgt := 84) hx hb dX12_oldSprites_80 (by decide) (fun q => ?_) (fun q => ?_)
  · replace hf := zif_f q hf
    refine lv_iload_n hx hb dX12_oldSprites_84 rfl (lv_at hl 3 rfl) ?_
    refine lv_iload hx hb dX12_oldSprites_85 (lv_at hl 0 rfl) ?_
    refine lv_isub hx hb dX12_oldSprites_87 ?_
    refine lv_iconst (v := 1) hx hb dX12_oldSprites_88 (by decide) ?_
    refine lv_isub hx hb dX12_oldSprites_89 ?_
    refine lv_sipush (v := 255) hx hb dX12_oldSprites_90 (by decide) ?_
    refine lv_iand hx hb dX12_oldSprites_93 ?_
    refine lv_topi (fun v26 ev26 => ?_)
    replace hf := zbv_use ev26 hf
    refine lv_istore (lv' := [(8, .int v26), (7, .int v25), (6, .int v23), (0, .ref (ad 0)), (1, .int x1), (2, .int x2), (3, .int x3), (4, .int x4), (5, .int x5)]) hx hb dX12_oldSprites_94 hl (by decide) rfl (fun ls hl => ?_)
    refine lv_iload hx hb dX12_oldSprites_96 (lv_at hl 0 rfl) ?_
    refine lv_iload_n hx hb dX12_oldSprites_98 rfl (lv_at hl 6 rfl) ?_
    refine lv_iload_n hx hb dX12_oldSprites_99 rfl (lv_at hl 5 rfl) ?_
    refine lv_imul hx hb dX12_oldSprites_100 ?_
    refine lv_icmp_lt (tgt := 107) hx hb dX12_oldSprites_101 (by decide) (fun q => ?_) (fun q => ?_)
    · replace hf := zif_t q hf
      refine lv_iload hx hb dX12_oldSprites_107 (lv_at hl 7 rfl) ?_
      refine lv_iconst (v := 4) hx hb dX12_oldSprites_109 (by decide) ?_
      refine lv_icmp_ne (tgt := 151) hx hb dX12_oldSprites_110 (by decide) (fun q => ?_) (fun q => ?_)
      · replace hf := zif_f q hf
        obtain ⟨v27, ev27⟩ : ∃ z : Int32, z = x4 + 1 := ⟨_, rfl⟩
        replace hf := zbv_use ev27 hf
        refine lv_iinc (v := v27) (lv' := [(4, .int v27), (8, .int v26), (7, .int v25), (6, .int v23), (0, .ref (ad 0)), (1, .int x1), (2, .int x2), (3, .int x3), (5, .int x5)]) hx hb dX12_oldSprites_151 hl (k := 7) rfl (by rw [ev27]; rfl) (by decide) rfl (fun ls hl => ?_)
        refine lv_iload_n hx hb dX12_oldSprites_154 rfl (lv_at hl 7 rfl) ?_
        refine lv_bipush (v := 16) hx hb dX12_oldSprites_155 (by decide) ?_
        refine lv_icmp_ne (tgt := 175) hx hb dX12_oldSprites_157 (by decide) (fun q => ?_) (fun q => ?_)
        · replace hf := zif_f q hf
          refine lv_aload_n hx hb dX12_oldSprites_175 rfl (lv_at hl 4 rfl) ?_
          refine lv_iload hx hb dX12_oldSprites_176 (lv_at hl 3 rfl) ?_
          refine lv_iconst (v := 2) hx hb dX12_oldSprites_178 (by decide) ?_
          refine lv_iadd hx hb dX12_oldSprites_179 ?_
          obtain ⟨σ28, v29, g28, hf⟩ := zbi_use hf
          refine z_callVi (As := [.int (v23 + 2)]) (rest := []) hC hI (cX12_video8_met st l D ad cy σ24 (v23 + 2) _ g28) (zgV zw56_6 zw56_7 zw56_8 zw1_5 zw56_9) rfl ⟨rfl, rfl⟩ 1 hdX12_video8 ⟨Nat.le_of_ble_eq_true rfl, Nat.le_of_ble_eq_true rfl⟩ rfl rfl (wM_e0 ad cy σ24) rfl hl rfl (Nat.le_of_ble_eq_true rfl) dX12_oldSprites_180 ⟨Nat.zero_le _, Nat.zero_le _⟩ (fun H locs hI => ?_)
          exact bX12_oldSprites_183 hC hk40 hI (lv_sub hl [4, 5, 6, 7, 0, 8, 3, 1] rfl) hf
        replace hf := zif_t q hf
        refine lv_aload_n hx hb dX12_oldSprites_160 rfl (lv_at hl 4 rfl) ?_
        refine lv_iload hx hb dX12_oldSprites_161 (lv_at hl 3 rfl) ?_
        refine lv_iconst (v := 2) hx hb dX12_oldSprites_163 (by decide) ?_
        refine lv_iadd hx hb dX12_oldSprites_164 ?_
        obtain ⟨σ30, v31, g30, hf⟩ := zbi_use hf
        refine z_callVi (As := [.int (v23 + 2)]) (rest := []) hC hI (cX12_video8_met st l D ad cy σ24 (v23 + 2) _ g30) (zgV zw56_6 zw56_7 zw56_8 zw1_5 zw56_9) rfl ⟨rfl, rfl⟩ 1 hdX12_video8 ⟨Nat.le_of_ble_eq_true rfl, Nat.le_of_ble_eq_true rfl⟩ rfl rfl (wM_e0 ad cy σ24) rfl hl rfl (Nat.le_of_ble_eq_true rfl) dX12_oldSprites_165 ⟨Nat.zero_le _, Nat.zero_le _⟩ (fun H locs hI => ?_)
        refine lv_sipush (v := 252) hx hb dX12_oldSprites_168 (by decide) ?_
        refine lv_iand hx hb dX12_oldSprites_171 ?_
        refine lv_goto (tgt := 183) hx hb dX12_oldSprites_172 (by decide) ?_
        exact bX12_oldSprites_183 hC hk40 hI (lv_sub hl [4, 5, 6, 7, 0, 8, 3, 1] rfl) hf
      replace hf := zif_t q hf
      refine lv_aload_n hx hb dX12_oldSprites_113 rfl (lv_at hl 3 rfl) ?_
      refine z_get hC hI hinX12_oldSprites_X120 0 (wM_e0 ad cy σ24) rfl 10 (by decide) (List.mem_cons_of_mem _ zw9_7) rfl dX12_oldSprites_114 ?_
      refine lv_bipush (v := 62) hx hb dX12_oldSprites_117 (by decide) ?_
      obtain ⟨q, hf⟩ := zck_use hf
      refine z_iald hC hI 3 2 (wM_e3 ad cy σ24) (tM_t3 cy) q dX12_oldSprites_119 ?_
      refine lv_bipush (v := 64) hx hb dX12_oldSprites_120 (by decide) ?_
      refine lv_iand hx hb dX12_oldSprites_122 ?_
      refine lv_if_ne (tgt := 150) hx hb dX12_oldSprites_123 (by decide) (fun q => ?_) (fun q => ?_)
      · replace hf := zif_f q hf
        exact bX12_oldSprites_150 hC  hI (lv_sub hl [] rfl) hf
      replace hf := zif_t q hf
      refine lv_aload_n hx hb dX12_oldSprites_126 rfl (lv_at hl 3 rfl) ?_
      refine z_get hC hI hinX12_oldSprites_X120 0 (wM_e0 ad cy σ24) rfl 10 (by decide) (List.mem_cons_of_mem _ zw9_7) rfl dX12_oldSprites_127 ?_
      refine lv_bipush (v := 62) hx hb dX12_oldSprites_130 (by decide) ?_
      refine lv_aload_n hx hb dX12_oldSprites_132 rfl (lv_at hl 3 rfl) ?_
      refine z_get hC hI hinX12_oldSprites_X120 0 (wM_e0 ad cy σ24) rfl 10 (by decide) (List.mem_cons_of_mem _ zw9_7) rfl dX12_oldSprites_133 ?_
      refine lv_bipush (v := 62) hx hb dX12_oldSprites_136 (by decide) ?_
      obtain ⟨q, hf⟩ := zck_use hf
      refine z_iald hC hI 3 2 (wM_e3 ad cy σ24) (tM_t3 cy) q dX12_oldSprites_138 ?_
      refine lv_sipush (v := 224) hx hb dX12_oldSprites_139 (by decide) ?_
      refine lv_iand hx hb dX12_oldSprites_142 ?_
      refine lv_bipush (v := 64) hx hb dX12_oldSprites_143 (by decide) ?_
      refine lv_ior hx hb dX12_oldSprites_145 ?_
      refine lv_iload hx hb dX12_oldSprites_146 (lv_at hl 8 rfl) ?_
      refine lv_ior hx hb dX12_oldSprites_148 ?_
      obtain ⟨q, hf⟩ := zck_use hf
      obtain ⟨σ32, eσ32⟩ : ∃ z, z = zsi σ24 3 ((62 : Int32).toNatClampNeg) ((((zgi σ24 3 (62 : Int32).toNatClampNeg) &&& 224) ||| 64) ||| x5) := ⟨_, rfl⟩
      replace hf := zbv_use eσ32 hf
      refine z_iast hC hI 3 2 (wM_e3 ad cy σ24) (tM_t3 cy) q ((wM_s3 ad cy σ24 _ _).trans (congrArg (wM ad cy) eσ32.symm)) dX12_oldSprites_149 (fun H locs hI => ?_)
      exact bX12_oldSprites_150 hC  hI (lv_sub hl [] rfl) hf
    replace hf := zif_f q hf
    refine lv_goto (tgt := 388) hx hb dX12_oldSprites_104 (by decide) ?_
    exact bX12_oldSprites_388 hC hk40 hI (lv_sub hl [3, 4, 5, 6, 7, 8] rfl) hf
  replace hf := zif_t q hf
  exact z_return hC hI hf dX12_oldSprites_83
theorem blX12_oldSprites_40 {st : Nat → Nat} {p : Program} {l : Launch} {e : Env} {s : State} {m : MethodId} {args : Array Value} {below : List Frame} {meth : Method} {c : Code} {D : va_G} {A : Nat → Prop} {ad : Nat → Nat} {cy : Nat → ClassId} (hC : zC p m c cX12_oldSprites 16 s args wzX12_oldSprites RX12 meth none)  {res : zSt} : ∀ (n : Nat) (H : Heap) (locs : List Loc) (σ : zSt) (ls : Array Slot) (x1 : Int32) (x2 : Int32) (x3 : Int32) (x4 : Int32) (x5 : Int32), zI st D (tM cy) (wM ad cy σ) A s H locs → lv_has ls 16 [(0, .ref (ad 0)), (1, .int x1), (2, .int x2), (3, .int x3), (4, .int x4), (5, .int x5)] → fX12_oldSprites_40  n σ x1 x2 x3 x4 x5 = some res → W p l e rmX12_oldSprites s m args below meth c H locs 0 0 (zQu below args s D (tM cy) (wM ad cy) A res) (F0 m 40 ls []) := by
  intro n
  induction n with
  | zero => intro H locs σ ls x1 x2 x3 x4 x5 hI hl hf; cases hf
  | succ n ih => intro H locs σ ls x1 x2 x3 x4 x5 hI hl hf; exact bX12_oldSprites_40_body hC ih hI hl hf
set_option maxRecDepth 20000 in
set_option maxHeartbeats 4000000 in
theorem bX12_oldSprites_33 {st : Nat → Nat} {p : Program} {l : Launch} {e : Env} {s : State} {m : MethodId} {args : Array Value} {below : List Frame} {meth : Method} {c : Code} {D : va_G} {A : Nat → Prop} {ad : Nat → Nat} {cy : Nat → ClassId} (hC : zC p m c cX12_oldSprites 16 s args wzX12_oldSprites RX12 meth none)  {res : zSt} {H : Heap} {locs : List Loc} {σ : zSt} {ls : Array Slot} {x1 : Int32} {x2 : Int32} {s0 : Int32} (hI : zI st D (tM cy) (wM ad cy σ) A s H locs) (hl : lv_has ls 16 [(0, .ref (ad 0)), (1, .int x1), (2, .int x2)]) (hf : fX12_oldSprites_33  σ x1 x2 s0 = some res) : W p l e rmX12_oldSprites s m args below meth c H locs 0 0 (zQu below args s D (tM cy) (wM ad cy) A res) (F0 m 33 ls [.int s0]) := by
  have hx := hC.1
  have hb := hC.2.1
  unfold fX12_oldSprites_33 at hf
  refine lv_istore_n (lv' := [(3, .int s0), (0, .ref (ad 0)), (1, .int x1), (2, .int x2)]) hx hb dX12_oldSprites_33 rfl hl (by decide) rfl (fun ls hl => ?_)
  refine lv_iconst (v := 0) hx hb dX12_oldSprites_34 (by decide) ?_
  refine lv_istore (lv' := [(4, .int 0), (3, .int s0), (0, .ref (ad 0)), (1, .int x1), (2, .int x2)]) hx hb dX12_oldSprites_35 hl (by decide) rfl (fun ls hl => ?_)
  refine lv_iconst (v := 0) hx hb dX12_oldSprites_37 (by decide) ?_
  refine lv_istore (lv' := [(5, .int 0), (4, .int 0), (3, .int s0), (0, .ref (ad 0)), (1, .int x1), (2, .int x2)]) hx hb dX12_oldSprites_38 hl (by decide) rfl (fun ls hl => ?_)
  exact blX12_oldSprites_40 hC  zfuel _ _ _ _ _ _ _ _ _ hI (lv_sub hl [3, 4, 5, 2, 1, 0] rfl) hf
set_option maxRecDepth 20000 in
set_option maxHeartbeats 4000000 in
theorem bX12_oldSprites_15 {st : Nat → Nat} {p : Program} {l : Launch} {e : Env} {s : State} {m : MethodId} {args : Array Value} {below : List Frame} {meth : Method} {c : Code} {D : va_G} {A : Nat → Prop} {ad : Nat → Nat} {cy : Nat → ClassId} (hC : zC p m c cX12_oldSprites 16 s args wzX12_oldSprites RX12 meth none)  {res : zSt} {H : Heap} {locs : List Loc} {σ : zSt} {ls : Array Slot} {x1 : Int32} {s0 : Int32} (hI : zI st D (tM cy) (wM ad cy σ) A s H locs) (hl : lv_has ls 16 [(0, .ref (ad 0)), (1, .int x1)]) (hf : fX12_oldSprites_15  σ x1 s0 = some res) : W p l e rmX12_oldSprites s m args below meth c H locs 0 0 (zQu below args s D (tM cy) (wM ad cy) A res) (F0 m 15 ls [.int s0]) := by
  have hx := hC.1
  have hb := hC.2.1
  unfold fX12_oldSprites_15 at hf
  refine lv_istore_n (lv' := [(2, .int s0), (0, .ref (ad 0)), (1, .int x1)]) hx hb dX12_oldSprites_15 rfl hl (by decide) rfl (fun ls hl => ?_)
  refine lv_aload_n hx hb dX12_oldSprites_16 rfl (lv_at hl 1 rfl) ?_
  refine lv_iconst (v := 1) hx hb dX12_oldSprites_17 (by decide) ?_
  refine lv_iconst (v := 1) hx hb dX12_oldSprites_18 (by decide) ?_
  obtain ⟨σ33, v34, g33, hf⟩ := zbi_use hf
  refine z_callVi (As := [.int 1, .int 1]) (rest := []) hC hI (cX12_bit_met st l D ad cy σ 1 1 _ g33) (zgV zw49_0 zw49_1 zw49_2 zw1_5 zw49_3) rfl ⟨rfl, rfl⟩ 2 hdX12_bit ⟨Nat.le_of_ble_eq_true rfl, Nat.le_of_ble_eq_true rfl⟩ rfl rfl (wM_e0 ad cy σ) rfl hl rfl (Nat.le_of_ble_eq_true rfl) dX12_oldSprites_19 ⟨Nat.zero_le _, Nat.zero_le _⟩ (fun H locs hI => ?_)
  refine lv_iconst (v := 1) hx hb dX12_oldSprites_22 (by decide) ?_
  refine lv_icmp_ne (tgt := 31) hx hb dX12_oldSprites_23 (by decide) (fun q => ?_) (fun q => ?_)
  · replace hf := zif_f q hf
    refine lv_bipush (v := 8) hx hb dX12_oldSprites_31 (by decide) ?_
    exact bX12_oldSprites_33 hC  hI (lv_sub hl [1, 2, 0] rfl) hf
  replace hf := zif_t q hf
  refine lv_bipush (v := 16) hx hb dX12_oldSprites_26 (by decide) ?_
  refine lv_goto (tgt := 33) hx hb dX12_oldSprites_28 (by decide) ?_
  exact bX12_oldSprites_33 hC  hI (lv_sub hl [1, 2, 0] rfl) hf
set_option maxRecDepth 20000 in
set_option maxHeartbeats 4000000 in
theorem bX12_oldSprites {st : Nat → Nat} {p : Program} {l : Launch} {e : Env} {s : State} {m : MethodId} {args : Array Value} {below : List Frame} {meth : Method} {c : Code} {D : va_G} {A : Nat → Prop} {ad : Nat → Nat} {cy : Nat → ClassId} (hC : zC p m c cX12_oldSprites 16 s args wzX12_oldSprites RX12 meth none)  {res : zSt} {H : Heap} {locs : List Loc} {σ : zSt} {ls : Array Slot} {x1 : Int32} (hI : zI st D (tM cy) (wM ad cy σ) A s H locs) (hl : lv_has ls 16 [(0, .ref (ad 0)), (1, .int x1)]) (hf : fX12_oldSprites  σ x1 = some res) : W p l e rmX12_oldSprites s m args below meth c H locs 0 0 (zQu below args s D (tM cy) (wM ad cy) A res) (F0 m 0 ls []) := by
  have hx := hC.1
  have hb := hC.2.1
  unfold fX12_oldSprites at hf
  refine lv_aload_n hx hb dX12_oldSprites_0 rfl (lv_at hl 0 rfl) ?_
  refine lv_iconst (v := 1) hx hb dX12_oldSprites_1 (by decide) ?_
  refine lv_iconst (v := 0) hx hb dX12_oldSprites_2 (by decide) ?_
  obtain ⟨σ35, v36, g35, hf⟩ := zbi_use hf
  refine z_callVi (As := [.int 1, .int 0]) (rest := []) hC hI (cX12_bit_met st l D ad cy σ 1 0 _ g35) (zgV zw49_0 zw49_1 zw49_2 zw1_5 zw49_3) rfl ⟨rfl, rfl⟩ 2 hdX12_bit ⟨Nat.le_of_ble_eq_true rfl, Nat.le_of_ble_eq_true rfl⟩ rfl rfl (wM_e0 ad cy σ) rfl hl rfl (Nat.le_of_ble_eq_true rfl) dX12_oldSprites_3 ⟨Nat.zero_le _, Nat.zero_le _⟩ (fun H locs hI => ?_)
  refine lv_iconst (v := 1) hx hb dX12_oldSprites_6 (by decide) ?_
  refine lv_icmp_ne (tgt := 14) hx hb dX12_oldSprites_7 (by decide) (fun q => ?_) (fun q => ?_)
  · replace hf := zif_f q hf
    refine lv_iconst (v := 1) hx hb dX12_oldSprites_14 (by decide) ?_
    exact bX12_oldSprites_15 hC  hI hl hf
  replace hf := zif_t q hf
  refine lv_iconst (v := 2) hx hb dX12_oldSprites_10 (by decide) ?_
  refine lv_goto (tgt := 15) hx hb dX12_oldSprites_11 (by decide) ?_
  exact bX12_oldSprites_15 hC  hI hl hf
set_option maxRecDepth 20000 in
theorem cX12_oldSprites_met (st : Nat → Nat) (l : Launch) (D : va_G) (ad : Nat → Nat) (cy : Nat → ClassId) (σ : zSt) (x1 : Int32) (res : zSt) (hf : fX12_oldSprites σ x1 = some res) (sz : Nat) : zMu st l yX12_oldSprites wzX12_oldSprites rmX12_oldSprites [.ref (ad 0), .int x1] D (tM cy) (wM ad cy) sz σ res :=
  zMu.of (cc := cX12_oldSprites) (maxL := 16) (ret := none) (by decide) rfl (Nat.le_of_ble_eq_true rfl) (fun p e s m args below meth c hC A hI ls hl => bX12_oldSprites hC hI hl hf)
theorem hdX12_oldSprites : yX12_oldSprites.cls = RX12 ∧ yX12_oldSprites.cls ≠ "java/lang/invoke/MethodHandle" ∧ yX12_oldSprites.cls ≠ "java/lang/invoke/VarHandle" ∧ (parseMethodDescriptor yX12_oldSprites.desc).map (fun d => d.parameters.length) = some 1 := by decide +kernel
noncomputable def rmX12_draws : Room := { frames := 4, cells := 0, slots := 0, locals := 96 }
noncomputable def wzX12_draws : List Cond := .code yX12_draws cX12_draws 5 none :: wsL_law
theorem hinX12_draws_X120 : ∀ w ∈ wsX120, w ∈ wzX12_draws := fun w h => List.mem_cons_of_mem _ (inlX12 w h)
noncomputable def fX12_draws_302_body (k302 : zSt → Int32 → Int32 → Option (zSt)) (σ : zSt) (x1 : Int32) (x3 : Int32) : Option (zSt) :=
  if 256 ≤ x3 then some σ else
  zck (zin x3 256) (
  zbi (fX12_colour σ (zgi σ 22 x3.toNatClampNeg)) (fun σ1 v2 =>
  zck (zin ((256 * x1) + x3) 61440) (zbv (zsi σ1 9 (((256 * x1) + x3).toNatClampNeg) v2) (fun σ3 =>
  zbv (x3 + 1) (fun v4 =>
  k302 σ3 x1 v4)))))
noncomputable def fX12_draws_302  : Nat → zSt → Int32 → Int32 → Option (zSt)
  | 0, _, _, _ => none
  | n + 1, σ, x1, x3 => fX12_draws_302_body (fX12_draws_302  n) σ x1 x3
noncomputable def fX12_draws_300  (σ : zSt) (x1 : Int32) : Option (zSt) :=
  fX12_draws_302 zfuel σ x1 0
noncomputable def fX12_draws_244 (k213 : zSt → Int32 → Int32 → Int32 → Option (zSt)) (σ : zSt) (x1 : Int32) (x2 : Int32) (x3 : Int32) (s0 : Int32) (s1 : Int32) : Option (zSt) :=
  zck (zin s1 256) (zbv (zsi σ 22 (s1.toNatClampNeg) s0) (fun σ5 =>
  zbv (x3 + 1) (fun v6 =>
  k213 σ5 x1 x2 v6)))
noncomputable def fX12_draws_294 (k266 : zSt → Int32 → Int32 → Option (zSt)) (σ : zSt) (x1 : Int32) (x3 : Int32) : Option (zSt) :=
  zbv (x3 + 1) (fun v7 =>
  k266 σ x1 v7)
noncomputable def fX12_draws_266_body (k266 : zSt → Int32 → Int32 → Option (zSt)) (σ : zSt) (x1 : Int32) (x3 : Int32) : Option (zSt) :=
  if 256 ≤ x3 then fX12_draws_300 σ x1 else
  zck (zin x3 256) (
  if (zgi σ 24 x3.toNatClampNeg) ≤ 0 then fX12_draws_294 k266 σ x1 x3 else
  zck (zin x3 256) (
  zck (zin x3 256) (zbv (zsi σ 22 (x3.toNatClampNeg) (zgi σ 24 x3.toNatClampNeg)) (fun σ8 =>
  fX12_draws_294 k266 σ8 x1 x3))))
noncomputable def fX12_draws_266  : Nat → zSt → Int32 → Int32 → Option (zSt)
  | 0, _, _, _ => none
  | n + 1, σ, x1, x3 => fX12_draws_266_body (fX12_draws_266  n) σ x1 x3
noncomputable def fX12_draws_264  (σ : zSt) (x1 : Int32) : Option (zSt) :=
  fX12_draws_266 zfuel σ x1 0
noncomputable def fX12_draws_213_body (k213 : zSt → Int32 → Int32 → Int32 → Option (zSt)) (σ : zSt) (x1 : Int32) (x2 : Int32) (x3 : Int32) : Option (zSt) :=
  if 256 ≤ x3 then zbi (fX12_mode σ ) (fun σ9 v10 =>
  if v10 = 1 then fX12_draws_264 σ9 x1 else
  zbu (fX12_oldSprites σ9 x1) (fun σ11 =>
  fX12_draws_264 σ11 x1)) else
  zbi (fX12_old σ x1 x3) (fun σ12 v13 =>
  if v13 = 0 then fX12_draws_244 k213 σ12 x1 x2 x3 x2 x3 else
  fX12_draws_244 k213 σ12 x1 x2 x3 v13 x3)
noncomputable def fX12_draws_213  : Nat → zSt → Int32 → Int32 → Int32 → Option (zSt)
  | 0, _, _, _, _ => none
  | n + 1, σ, x1, x2, x3 => fX12_draws_213_body (fX12_draws_213  n) σ x1 x2 x3
noncomputable def fX12_draws_200  (σ : zSt) (x1 : Int32) (x2 : Int32) : Option (zSt) :=
  zbi (fX12_bit σ 1 6) (fun σ14 v15 =>
  if v15 = 1 then fX12_draws_213 zfuel σ14 x1 x2 0 else
  fX12_draws_300 σ14 x1)
noncomputable def fX12_draws_160 (k123 : zSt → Int32 → Int32 → Int32 → Option (zSt)) (σ : zSt) (x1 : Int32) (x2 : Int32) (x3 : Int32) : Option (zSt) :=
  zbv (x3 + 1) (fun v16 =>
  k123 σ x1 x2 v16)
noncomputable def fX12_draws_197  (σ : zSt) (x1 : Int32) : Option (zSt) :=
  fX12_draws_300 σ x1
noncomputable def fX12_draws_168_body (k168 : zSt → Int32 → Int32 → Int32 → Option (zSt)) (σ : zSt) (x1 : Int32) (x2 : Int32) (x3 : Int32) : Option (zSt) :=
  if 8 ≤ x3 then fX12_draws_197 σ x1 else
  zbi (fX12_bit σ 0 5) (fun σ17 v18 =>
  if v18 = 1 then zck (zin x3 256) (zbv (zsi σ17 22 (x3.toNatClampNeg) x2) (fun σ19 =>
  zbv (x3 + 1) (fun v20 =>
  k168 σ19 x1 x2 v20))) else
  fX12_draws_197 σ17 x1)
noncomputable def fX12_draws_168  : Nat → zSt → Int32 → Int32 → Int32 → Option (zSt)
  | 0, _, _, _, _ => none
  | n + 1, σ, x1, x2, x3 => fX12_draws_168_body (fX12_draws_168  n) σ x1 x2 x3
noncomputable def fX12_draws_123_body (k123 : zSt → Int32 → Int32 → Int32 → Option (zSt)) (σ : zSt) (x1 : Int32) (x2 : Int32) (x3 : Int32) : Option (zSt) :=
  if 256 ≤ x3 then fX12_draws_168 zfuel σ x1 x2 0 else
  zck (zin x3 256) (
  if (zgi σ 24 x3.toNatClampNeg) ≤ 0 then fX12_draws_160 k123 σ x1 x2 x3 else
  zck (zin x3 256) (
  if (zgi σ 23 x3.toNatClampNeg) = 0 then zck (zin x3 256) (
  zck (zin x3 256) (zbv (zsi σ 22 (x3.toNatClampNeg) (zgi σ 24 x3.toNatClampNeg)) (fun σ21 =>
  fX12_draws_160 k123 σ21 x1 x2 x3))) else
  fX12_draws_160 k123 σ x1 x2 x3))
noncomputable def fX12_draws_123  : Nat → zSt → Int32 → Int32 → Int32 → Option (zSt)
  | 0, _, _, _, _ => none
  | n + 1, σ, x1, x2, x3 => fX12_draws_123_body (fX12_draws_123  n) σ x1 x2 x3
noncomputable def fX12_draws_97_body (k97 : zSt → Int32 → Int32 → Int32 → Option (zSt)) (σ : zSt) (x1 : Int32) (x2 : Int32) (x3 : Int32) : Option (zSt) :=
  if 256 ≤ x3 then zbu (fX12_sprites σ x1) (fun σ22 =>
  fX12_draws_123 zfuel σ22 x1 x2 0) else
  zbu (fX12_tile σ x1 x3) (fun σ23 =>
  zbv (x3 + 1) (fun v24 =>
  k97 σ23 x1 x2 v24))
noncomputable def fX12_draws_97  : Nat → zSt → Int32 → Int32 → Int32 → Option (zSt)
  | 0, _, _, _, _ => none
  | n + 1, σ, x1, x2, x3 => fX12_draws_97_body (fX12_draws_97  n) σ x1 x2 x3
noncomputable def fX12_draws_35_body (k35 : zSt → Int32 → Int32 → Int32 → Option (zSt)) (σ : zSt) (x1 : Int32) (x2 : Int32) (x3 : Int32) : Option (zSt) :=
  if 256 ≤ x3 then zbi (fX12_bit σ 1 6) (fun σ25 v26 =>
  if v26 = 1 then zbi (fX12_mode σ25 ) (fun σ27 v28 =>
  if v28 = 4 then fX12_draws_97 zfuel σ27 x1 x2 0 else
  fX12_draws_200 σ27 x1 x2) else
  fX12_draws_200 σ25 x1 x2) else
  zck (zin x3 256) (zbv (zsi σ 22 (x3.toNatClampNeg) x2) (fun σ29 =>
  zck (zin x3 256) (zbv (zsi σ29 23 (x3.toNatClampNeg) (vp_nar .boolean 0)) (fun σ30 =>
  zck (zin x3 256) (zbv (zsi σ30 24 (x3.toNatClampNeg) 0) (fun σ31 =>
  zck (zin x3 256) (zbv (zsi σ31 25 (x3.toNatClampNeg) (vp_nar .boolean 0)) (fun σ32 =>
  zbv (x3 + 1) (fun v33 =>
  k35 σ32 x1 x2 v33)))))))))
noncomputable def fX12_draws_35  : Nat → zSt → Int32 → Int32 → Int32 → Option (zSt)
  | 0, _, _, _, _ => none
  | n + 1, σ, x1, x2, x3 => fX12_draws_35_body (fX12_draws_35  n) σ x1 x2 x3
noncomputable def fX12_draws_32  (σ : zSt) (x1 : Int32) (s0 : Int32) : Option (zSt) :=
  fX12_draws_35 zfuel σ x1 s0 0
noncomputable def fX12_draws  (σ : zSt) (x1 : Int32) : Option (zSt) :=
  zbi (fX12_mode σ ) (fun σ34 v35 =>
  if v35 = 4 then zbi (fX12_reg σ34 7) (fun σ38 v39 =>
  zck (decide (¬ 16 = 0)) (
  fX12_draws_32 σ38 x1 (16 + (zrem v39 16)))) else
  zbi (fX12_reg σ34 7) (fun σ36 v37 =>
  zck (decide (¬ 16 = 0)) (
  fX12_draws_32 σ36 x1 (zrem v37 16))))
set_option maxRecDepth 20000 in
set_option maxHeartbeats 4000000 in
theorem bX12_draws_302_body {st : Nat → Nat} {p : Program} {l : Launch} {e : Env} {s : State} {m : MethodId} {args : Array Value} {below : List Frame} {meth : Method} {c : Code} {D : va_G} {A : Nat → Prop} {ad : Nat → Nat} {cy : Nat → ClassId} (hC : zC p m c cX12_draws 5 s args wzX12_draws RX12 meth none) {k302 : zSt → Int32 → Int32 → Option (zSt)} {res : zSt} (hk302 : ∀ (H : Heap) (locs : List Loc) (σ : zSt) (ls : Array Slot) (x1 : Int32) (x3 : Int32), zI st D (tM cy) (wM ad cy σ) A s H locs → lv_has ls 5 [(0, .ref (ad 0)), (1, .int x1), (3, .int x3)] → k302 σ x1 x3 = some res → W p l e rmX12_draws s m args below meth c H locs 0 0 (zQu below args s D (tM cy) (wM ad cy) A res) (F0 m 302 ls [])) {H : Heap} {locs : List Loc} {σ : zSt} {ls : Array Slot} {x1 : Int32} {x3 : Int32} (hI : zI st D (tM cy) (wM ad cy σ) A s H locs) (hl : lv_has ls 5 [(0, .ref (ad 0)), (1, .int x1), (3, .int x3)]) (hf : fX12_draws_302_body k302 σ x1 x3 = some res) : W p l e rmX12_draws s m args below meth c H locs 0 0 (zQu below args s D (tM cy) (wM ad cy) A res) (F0 m 302 ls []) := by
  have hx := hC.1
  have hb := hC.2.1
  unfold fX12_draws_302_body at hf
  refine lv_iload_n hx hb dX12_draws_302 rfl (lv_at hl 2 rfl) ?_
  refine lv_sipush (v := 256) hx hb dX12_draws_303 (by decide) ?_
  refine lv_icmp_ge (tgt := 337) hx hb dX12_draws_306 (by decide) (fun q => ?_) (fun q => ?_)
  · replace hf := zif_t q hf
    exact z_return hC hI hf dX12_draws_337
  replace hf := zif_f q hf
  refine lv_aload_n hx hb dX12_draws_309 rfl (lv_at hl 0 rfl) ?_
  refine z_get hC hI hinX12_draws_X120 0 (wM_e0 ad cy σ) rfl 16 (by decide) (List.mem_cons_of_mem _ zw9_15) rfl dX12_draws_310 ?_
  refine lv_sipush (v := 256) hx hb dX12_draws_313 (by decide) ?_
  refine lv_iload_n hx hb dX12_draws_316 rfl (lv_at hl 1 rfl) ?_
  refine lv_imul hx hb dX12_draws_317 ?_
  refine lv_iload_n hx hb dX12_draws_318 rfl (lv_at hl 2 rfl) ?_
  refine lv_iadd hx hb dX12_draws_319 ?_
  refine lv_aload_n hx hb dX12_draws_320 rfl (lv_at hl 0 rfl) ?_
  refine lv_aload_n hx hb dX12_draws_321 rfl (lv_at hl 0 rfl) ?_
  refine z_get hC hI hinX12_draws_X120 0 (wM_e0 ad cy σ) rfl 34 (by decide) (List.mem_cons_of_mem _ zw10_4) rfl dX12_draws_322 ?_
  refine lv_iload_n hx hb dX12_draws_325 rfl (lv_at hl 2 rfl) ?_
  obtain ⟨q, hf⟩ := zck_use hf
  refine z_iald hC hI 22 21 (wM_e22 ad cy σ) (tM_t22 cy) q dX12_draws_326 ?_
  obtain ⟨σ1, v2, g1, hf⟩ := zbi_use hf
  refine z_callVi (As := [.int (zgi σ 22 x3.toNatClampNeg)]) (rest := [.int ((256 * x1) + x3), .ref (ad 9)]) hC hI (cX12_colour_met st l D ad cy σ (zgi σ 22 x3.toNatClampNeg) _ g1) (zgV zw60_6 zw60_7 zw60_8 zw1_5 zw60_9) rfl ⟨rfl, rfl⟩ 1 hdX12_colour ⟨Nat.le_of_ble_eq_true rfl, Nat.le_of_ble_eq_true rfl⟩ rfl rfl (wM_e0 ad cy σ) rfl hl rfl (Nat.le_of_ble_eq_true rfl) dX12_draws_327 ⟨Nat.zero_le _, Nat.zero_le _⟩ (fun H locs hI => ?_)
  obtain ⟨q, hf⟩ := zck_use hf
  obtain ⟨σ3, eσ3⟩ : ∃ z, z = zsi σ1 9 (((256 * x1) + x3).toNatClampNeg) v2 := ⟨_, rfl⟩
  replace hf := zbv_use eσ3 hf
  refine z_iast hC hI 9 8 (wM_e9 ad cy σ1) (tM_t9 cy) q ((wM_s9 ad cy σ1 _ _).trans (congrArg (wM ad cy) eσ3.symm)) dX12_draws_330 (fun H locs hI => ?_)
  obtain ⟨v4, ev4⟩ : ∃ z : Int32, z = x3 + 1 := ⟨_, rfl⟩
  replace hf := zbv_use ev4 hf
  refine lv_iinc (v := v4) (lv' := [(3, .int v4), (0, .ref (ad 0)), (1, .int x1)]) hx hb dX12_draws_331 hl (k := 2) rfl (by rw [ev4]; rfl) (by decide) rfl (fun ls hl => ?_)
  refine lv_goto (tgt := 302) hx hb dX12_draws_334 (by decide) ?_
  exact hk302 _ _ _ _ _ _ hI (lv_sub hl [1, 2, 0] rfl) hf
theorem blX12_draws_302 {st : Nat → Nat} {p : Program} {l : Launch} {e : Env} {s : State} {m : MethodId} {args : Array Value} {below : List Frame} {meth : Method} {c : Code} {D : va_G} {A : Nat → Prop} {ad : Nat → Nat} {cy : Nat → ClassId} (hC : zC p m c cX12_draws 5 s args wzX12_draws RX12 meth none)  {res : zSt} : ∀ (n : Nat) (H : Heap) (locs : List Loc) (σ : zSt) (ls : Array Slot) (x1 : Int32) (x3 : Int32), zI st D (tM cy) (wM ad cy σ) A s H locs → lv_has ls 5 [(0, .ref (ad 0)), (1, .int x1), (3, .int x3)] → fX12_draws_302  n σ x1 x3 = some res → W p l e rmX12_draws s m args below meth c H locs 0 0 (zQu below args s D (tM cy) (wM ad cy) A res) (F0 m 302 ls []) := by
  intro n
  induction n with
  | zero => intro H locs σ ls x1 x3 hI hl hf; cases hf
  | succ n ih => intro H locs σ ls x1 x3 hI hl hf; exact bX12_draws_302_body hC ih hI hl hf
set_option maxRecDepth 20000 in
set_option maxHeartbeats 4000000 in
theorem bX12_draws_300 {st : Nat → Nat} {p : Program} {l : Launch} {e : Env} {s : State} {m : MethodId} {args : Array Value} {below : List Frame} {meth : Method} {c : Code} {D : va_G} {A : Nat → Prop} {ad : Nat → Nat} {cy : Nat → ClassId} (hC : zC p m c cX12_draws 5 s args wzX12_draws RX12 meth none)  {res : zSt} {H : Heap} {locs : List Loc} {σ : zSt} {ls : Array Slot} {x1 : Int32} (hI : zI st D (tM cy) (wM ad cy σ) A s H locs) (hl : lv_has ls 5 [(0, .ref (ad 0)), (1, .int x1)]) (hf : fX12_draws_300  σ x1 = some res) : W p l e rmX12_draws s m args below meth c H locs 0 0 (zQu below args s D (tM cy) (wM ad cy) A res) (F0 m 300 ls []) := by
  have hx := hC.1
  have hb := hC.2.1
  unfold fX12_draws_300 at hf
  refine lv_iconst (v := 0) hx hb dX12_draws_300 (by decide) ?_
  refine lv_istore_n (lv' := [(3, .int 0), (0, .ref (ad 0)), (1, .int x1)]) hx hb dX12_draws_301 rfl hl (by decide) rfl (fun ls hl => ?_)
  exact blX12_draws_302 hC  zfuel _ _ _ _ _ _ hI (lv_sub hl [1, 2, 0] rfl) hf
set_option maxRecDepth 20000 in
set_option maxHeartbeats 4000000 in
theorem bX12_draws_244 {st : Nat → Nat} {p : Program} {l : Launch} {e : Env} {s : State} {m : MethodId} {args : Array Value} {below : List Frame} {meth : Method} {c : Code} {D : va_G} {A : Nat → Prop} {ad : Nat → Nat} {cy : Nat → ClassId} (hC : zC p m c cX12_draws 5 s args wzX12_draws RX12 meth none) {k213 : zSt → Int32 → Int32 → Int32 → Option (zSt)} {res : zSt} (hk213 : ∀ (H : Heap) (locs : List Loc) (σ : zSt) (ls : Array Slot) (x1 : Int32) (x2 : Int32) (x3 : Int32), zI st D (tM cy) (wM ad cy σ) A s H locs → lv_has ls 5 [(0, .ref (ad 0)), (1, .int x1), (2, .int x2), (3, .int x3)] → k213 σ x1 x2 x3 = some res → W p l e rmX12_draws s m args below meth c H locs 0 0 (zQu below args s D (tM cy) (wM ad cy) A res) (F0 m 213 ls [])) {H : Heap} {locs : List Loc} {σ : zSt} {ls : Array Slot} {x1 : Int32} {x2 : Int32} {x3 : Int32} {s0 : Int32} {s1 : Int32} (hI : zI st D (tM cy) (wM ad cy σ) A s H locs) (hl : lv_has ls 5 [(0, .ref (ad 0)), (1, .int x1), (2, .int x2), (3, .int x3)]) (hf : fX12_draws_244 k213 σ x1 x2 x3 s0 s1 = some res) : W p l e rmX12_draws s m args below meth c H locs 0 0 (zQu below args s D (tM cy) (wM ad cy) A res) (F0 m 244 ls [.int s0, .int s1, .ref (ad 22)]) := by
  have hx := hC.1
  have hb := hC.2.1
  unfold fX12_draws_244 at hf
  obtain ⟨q, hf⟩ := zck_use hf
  obtain ⟨σ5, eσ5⟩ : ∃ z, z = zsi σ 22 (s1.toNatClampNeg) s0 := ⟨_, rfl⟩
  replace hf := zbv_use eσ5 hf
  refine z_iast hC hI 22 21 (wM_e22 ad cy σ) (tM_t22 cy) q ((wM_s22 ad cy σ _ _).trans (congrArg (wM ad cy) eσ5.symm)) dX12_draws_244 (fun H locs hI => ?_)
  obtain ⟨v6, ev6⟩ : ∃ z : Int32, z = x3 + 1 := ⟨_, rfl⟩
  replace hf := zbv_use ev6 hf
  refine lv_iinc (v := v6) (lv' := [(3, .int v6), (0, .ref (ad 0)), (1, .int x1), (2, .int x2)]) hx hb dX12_draws_245 hl (k := 3) rfl (by rw [ev6]; rfl) (by decide) rfl (fun ls hl => ?_)
  refine lv_goto (tgt := 213) hx hb dX12_draws_248 (by decide) ?_
  exact hk213 _ _ _ _ _ _ _ hI (lv_sub hl [1, 2, 3, 0] rfl) hf
set_option maxRecDepth 20000 in
set_option maxHeartbeats 4000000 in
theorem bX12_draws_294 {st : Nat → Nat} {p : Program} {l : Launch} {e : Env} {s : State} {m : MethodId} {args : Array Value} {below : List Frame} {meth : Method} {c : Code} {D : va_G} {A : Nat → Prop} {ad : Nat → Nat} {cy : Nat → ClassId} (hC : zC p m c cX12_draws 5 s args wzX12_draws RX12 meth none) {k266 : zSt → Int32 → Int32 → Option (zSt)} {res : zSt} (hk266 : ∀ (H : Heap) (locs : List Loc) (σ : zSt) (ls : Array Slot) (x1 : Int32) (x3 : Int32), zI st D (tM cy) (wM ad cy σ) A s H locs → lv_has ls 5 [(0, .ref (ad 0)), (1, .int x1), (3, .int x3)] → k266 σ x1 x3 = some res → W p l e rmX12_draws s m args below meth c H locs 0 0 (zQu below args s D (tM cy) (wM ad cy) A res) (F0 m 266 ls [])) {H : Heap} {locs : List Loc} {σ : zSt} {ls : Array Slot} {x1 : Int32} {x3 : Int32} (hI : zI st D (tM cy) (wM ad cy σ) A s H locs) (hl : lv_has ls 5 [(0, .ref (ad 0)), (1, .int x1), (3, .int x3)]) (hf : fX12_draws_294 k266 σ x1 x3 = some res) : W p l e rmX12_draws s m args below meth c H locs 0 0 (zQu below args s D (tM cy) (wM ad cy) A res) (F0 m 294 ls []) := by
  have hx := hC.1
  have hb := hC.2.1
  unfold fX12_draws_294 at hf
  obtain ⟨v7, ev7⟩ : ∃ z : Int32, z = x3 + 1 := ⟨_, rfl⟩
  replace hf := zbv_use ev7 hf
  refine lv_iinc (v := v7) (lv' := [(3, .int v7), (0, .ref (ad 0)), (1, .int x1)]) hx hb dX12_draws_294 hl (k := 2) rfl (by rw [ev7]; rfl) (by decide) rfl (fun ls hl => ?_)
  refine lv_goto (tgt := 266) hx hb dX12_draws_297 (by decide) ?_
  exact hk266 _ _ _ _ _ _ hI (lv_sub hl [1, 2, 0] rfl) hf
set_option maxRecDepth 20000 in
set_option maxHeartbeats 4000000 in
theorem bX12_draws_266_body {st : Nat → Nat} {p : Program} {l : Launch} {e : Env} {s : State} {m : MethodId} {args : Array Value} {below : List Frame} {meth : Method} {c : Code} {D : va_G} {A : Nat → Prop} {ad : Nat → Nat} {cy : Nat → ClassId} (hC : zC p m c cX12_draws 5 s args wzX12_draws RX12 meth none) {k266 : zSt → Int32 → Int32 → Option (zSt)} {res : zSt} (hk266 : ∀ (H : Heap) (locs : List Loc) (σ : zSt) (ls : Array Slot) (x1 : Int32) (x3 : Int32), zI st D (tM cy) (wM ad cy σ) A s H locs → lv_has ls 5 [(0, .ref (ad 0)), (1, .int x1), (3, .int x3)] → k266 σ x1 x3 = some res → W p l e rmX12_draws s m args below meth c H locs 0 0 (zQu below args s D (tM cy) (wM ad cy) A res) (F0 m 266 ls [])) {H : Heap} {locs : List Loc} {σ : zSt} {ls : Array Slot} {x1 : Int32} {x3 : Int32} (hI : zI st D (tM cy) (wM ad cy σ) A s H locs) (hl : lv_has ls 5 [(0, .ref (ad 0)), (1, .int x1), (3, .int x3)]) (hf : fX12_draws_266_body k266 σ x1 x3 = some res) : W p l e rmX12_draws s m args below meth c H locs 0 0 (zQu below args s D (tM cy) (wM ad cy) A res) (F0 m 266 ls []) := by
  have hx := hC.1
  have hb := hC.2.1
  unfold fX12_draws_266_body at hf
  refine lv_iload_n hx hb dX12_draws_266 rfl (lv_at hl 2 rfl) ?_
  refine lv_sipush (v := 256) hx hb dX12_draws_267 (by decide) ?_
  refine lv_icmp_ge (tgt := 300) hx hb dX12_draws_270 (by decide) (fun q => ?_) (fun q => ?_)
  · replace hf := zif_t q hf
    exact bX12_draws_300 hC  hI (lv_sub hl [0, 1] rfl) hf
  replace hf := zif_f q hf
  refine lv_aload_n hx hb dX12_draws_273 rfl (lv_at hl 0 rfl) ?_
  refine z_get hC hI hinX12_draws_X120 0 (wM_e0 ad cy σ) rfl 36 (by decide) (List.mem_cons_of_mem _ zw10_7) rfl dX12_draws_274 ?_
  refine lv_iload_n hx hb dX12_draws_277 rfl (lv_at hl 2 rfl) ?_
  obtain ⟨q, hf⟩ := zck_use hf
  refine z_iald hC hI 24 23 (wM_e24 ad cy σ) (tM_t24 cy) q dX12_draws_278 ?_
  refine lv_if_le (tgt := 294) hx hb dX12_draws_279 (by decide) (fun q => ?_) (fun q => ?_)
  · replace hf := zif_t q hf
    exact bX12_draws_294 hC hk266 hI hl hf
  replace hf := zif_f q hf
  refine lv_aload_n hx hb dX12_draws_282 rfl (lv_at hl 0 rfl) ?_
  refine z_get hC hI hinX12_draws_X120 0 (wM_e0 ad cy σ) rfl 34 (by decide) (List.mem_cons_of_mem _ zw10_4) rfl dX12_draws_283 ?_
  refine lv_iload_n hx hb dX12_draws_286 rfl (lv_at hl 2 rfl) ?_
  refine lv_aload_n hx hb dX12_draws_287 rfl (lv_at hl 0 rfl) ?_
  refine z_get hC hI hinX12_draws_X120 0 (wM_e0 ad cy σ) rfl 36 (by decide) (List.mem_cons_of_mem _ zw10_7) rfl dX12_draws_288 ?_
  refine lv_iload_n hx hb dX12_draws_291 rfl (lv_at hl 2 rfl) ?_
  obtain ⟨q, hf⟩ := zck_use hf
  refine z_iald hC hI 24 23 (wM_e24 ad cy σ) (tM_t24 cy) q dX12_draws_292 ?_
  obtain ⟨q, hf⟩ := zck_use hf
  obtain ⟨σ8, eσ8⟩ : ∃ z, z = zsi σ 22 (x3.toNatClampNeg) (zgi σ 24 x3.toNatClampNeg) := ⟨_, rfl⟩
  replace hf := zbv_use eσ8 hf
  refine z_iast hC hI 22 21 (wM_e22 ad cy σ) (tM_t22 cy) q ((wM_s22 ad cy σ _ _).trans (congrArg (wM ad cy) eσ8.symm)) dX12_draws_293 (fun H locs hI => ?_)
  exact bX12_draws_294 hC hk266 hI hl hf
theorem blX12_draws_266 {st : Nat → Nat} {p : Program} {l : Launch} {e : Env} {s : State} {m : MethodId} {args : Array Value} {below : List Frame} {meth : Method} {c : Code} {D : va_G} {A : Nat → Prop} {ad : Nat → Nat} {cy : Nat → ClassId} (hC : zC p m c cX12_draws 5 s args wzX12_draws RX12 meth none)  {res : zSt} : ∀ (n : Nat) (H : Heap) (locs : List Loc) (σ : zSt) (ls : Array Slot) (x1 : Int32) (x3 : Int32), zI st D (tM cy) (wM ad cy σ) A s H locs → lv_has ls 5 [(0, .ref (ad 0)), (1, .int x1), (3, .int x3)] → fX12_draws_266  n σ x1 x3 = some res → W p l e rmX12_draws s m args below meth c H locs 0 0 (zQu below args s D (tM cy) (wM ad cy) A res) (F0 m 266 ls []) := by
  intro n
  induction n with
  | zero => intro H locs σ ls x1 x3 hI hl hf; cases hf
  | succ n ih => intro H locs σ ls x1 x3 hI hl hf; exact bX12_draws_266_body hC ih hI hl hf
set_option maxRecDepth 20000 in
set_option maxHeartbeats 4000000 in
theorem bX12_draws_264 {st : Nat → Nat} {p : Program} {l : Launch} {e : Env} {s : State} {m : MethodId} {args : Array Value} {below : List Frame} {meth : Method} {c : Code} {D : va_G} {A : Nat → Prop} {ad : Nat → Nat} {cy : Nat → ClassId} (hC : zC p m c cX12_draws 5 s args wzX12_draws RX12 meth none)  {res : zSt} {H : Heap} {locs : List Loc} {σ : zSt} {ls : Array Slot} {x1 : Int32} (hI : zI st D (tM cy) (wM ad cy σ) A s H locs) (hl : lv_has ls 5 [(0, .ref (ad 0)), (1, .int x1)]) (hf : fX12_draws_264  σ x1 = some res) : W p l e rmX12_draws s m args below meth c H locs 0 0 (zQu below args s D (tM cy) (wM ad cy) A res) (F0 m 264 ls []) := by
  have hx := hC.1
  have hb := hC.2.1
  unfold fX12_draws_264 at hf
  refine lv_iconst (v := 0) hx hb dX12_draws_264 (by decide) ?_
  refine lv_istore_n (lv' := [(3, .int 0), (0, .ref (ad 0)), (1, .int x1)]) hx hb dX12_draws_265 rfl hl (by decide) rfl (fun ls hl => ?_)
  exact blX12_draws_266 hC  zfuel _ _ _ _ _ _ hI (lv_sub hl [1, 2, 0] rfl) hf
set_option maxRecDepth 20000 in
set_option maxHeartbeats 4000000 in
theorem bX12_draws_213_body {st : Nat → Nat} {p : Program} {l : Launch} {e : Env} {s : State} {m : MethodId} {args : Array Value} {below : List Frame} {meth : Method} {c : Code} {D : va_G} {A : Nat → Prop} {ad : Nat → Nat} {cy : Nat → ClassId} (hC : zC p m c cX12_draws 5 s args wzX12_draws RX12 meth none) {k213 : zSt → Int32 → Int32 → Int32 → Option (zSt)} {res : zSt} (hk213 : ∀ (H : Heap) (locs : List Loc) (σ : zSt) (ls : Array Slot) (x1 : Int32) (x2 : Int32) (x3 : Int32), zI st D (tM cy) (wM ad cy σ) A s H locs → lv_has ls 5 [(0, .ref (ad 0)), (1, .int x1), (2, .int x2), (3, .int x3)] → k213 σ x1 x2 x3 = some res → W p l e rmX12_draws s m args below meth c H locs 0 0 (zQu below args s D (tM cy) (wM ad cy) A res) (F0 m 213 ls [])) {H : Heap} {locs : List Loc} {σ : zSt} {ls : Array Slot} {x1 : Int32} {x2 : Int32} {x3 : Int32} (hI : zI st D (tM cy) (wM ad cy σ) A s H locs) (hl : lv_has ls 5 [(0, .ref (ad 0)), (1, .int x1), (2, .int x2), (3, .int x3)]) (hf : fX12_draws_213_body k213 σ x1 x2 x3 = some res) : W p l e rmX12_draws s m args below meth c H locs 0 0 (zQu below args s D (tM cy) (wM ad cy) A res) (F0 m 213 ls []) := by
  have hx := hC.1
  have hb := hC.2.1
  unfold fX12_draws_213_body at hf
  refine lv_iload_n hx hb dX12_draws_213 rfl (lv_at hl 3 rfl) ?_
  refine lv_sipush (v := 256) hx hb dX12_draws_214 (by decide) ?_
  refine lv_icmp_ge (tgt := 251) hx hb dX12_draws_217 (by decide) (fun q => ?_) (fun q => ?_)
  · replace hf := zif_t q hf
    refine lv_aload_n hx hb dX12_draws_251 rfl (lv_at hl 0 rfl) ?_
    obtain ⟨σ9, v10, g9, hf⟩ := zbi_use hf
    refine z_callVi (As := []) (rest := []) hC hI (cX12_mode_met st l D ad cy σ  _ g9) (zgV zw57_6 zw57_7 zw57_8 zw1_5 zw57_9) rfl ⟨rfl, rfl⟩ 0 hdX12_mode ⟨Nat.le_of_ble_eq_true rfl, Nat.le_of_ble_eq_true rfl⟩ rfl rfl (wM_e0 ad cy σ) rfl hl rfl (Nat.le_of_ble_eq_true rfl) dX12_draws_252 ⟨Nat.zero_le _, Nat.zero_le _⟩ (fun H locs hI => ?_)
    refine lv_iconst (v := 1) hx hb dX12_draws_255 (by decide) ?_
    refine lv_icmp_eq (tgt := 264) hx hb dX12_draws_256 (by decide) (fun q => ?_) (fun q => ?_)
    · replace hf := zif_t q hf
      exact bX12_draws_264 hC  hI (lv_sub hl [0, 1] rfl) hf
    replace hf := zif_f q hf
    refine lv_aload_n hx hb dX12_draws_259 rfl (lv_at hl 0 rfl) ?_
    refine lv_iload_n hx hb dX12_draws_260 rfl (lv_at hl 1 rfl) ?_
    obtain ⟨σ11, g11, hf⟩ := zbu_use hf
    refine z_callVu (As := [.int x1]) (rest := []) hC hI (cX12_oldSprites_met st l D ad cy σ9 x1 _ g11) (zgV zw60_2 zw60_3 zw60_4 zw1_5 zw60_5) rfl ⟨rfl, rfl⟩ 1 hdX12_oldSprites ⟨Nat.le_of_ble_eq_true rfl, Nat.le_of_ble_eq_true rfl⟩ rfl rfl (wM_e0 ad cy σ9) rfl hl rfl (Nat.le_of_ble_eq_true rfl) dX12_draws_261 ⟨Nat.zero_le _, Nat.zero_le _⟩ (fun H locs hI => ?_)
    exact bX12_draws_264 hC  hI (lv_sub hl [0, 1] rfl) hf
  replace hf := zif_f q hf
  refine lv_aload_n hx hb dX12_draws_220 rfl (lv_at hl 0 rfl) ?_
  refine lv_iload_n hx hb dX12_draws_221 rfl (lv_at hl 1 rfl) ?_
  refine lv_iload_n hx hb dX12_draws_222 rfl (lv_at hl 3 rfl) ?_
  obtain ⟨σ12, v13, g12, hf⟩ := zbi_use hf
  refine z_callVi (As := [.int x1, .int x3]) (rest := []) hC hI (cX12_old_met st l D ad cy σ x1 x3 _ g12) (zgV zw59_22 zw59_23 zw60_0 zw1_5 zw60_1) rfl ⟨rfl, rfl⟩ 2 hdX12_old ⟨Nat.le_of_ble_eq_true rfl, Nat.le_of_ble_eq_true rfl⟩ rfl rfl (wM_e0 ad cy σ) rfl hl rfl (Nat.le_of_ble_eq_true rfl) dX12_draws_223 ⟨Nat.zero_le _, Nat.zero_le _⟩ (fun H locs hI => ?_)
  refine lv_istore (lv' := [(4, .int v13), (0, .ref (ad 0)), (1, .int x1), (2, .int x2), (3, .int x3)]) hx hb dX12_draws_226 hl (by decide) rfl (fun ls hl => ?_)
  refine lv_aload_n hx hb dX12_draws_228 rfl (lv_at hl 1 rfl) ?_
  refine z_get hC hI hinX12_draws_X120 0 (wM_e0 ad cy σ12) rfl 34 (by decide) (List.mem_cons_of_mem _ zw10_4) rfl dX12_draws_229 ?_
  refine lv_iload_n hx hb dX12_draws_232 rfl (lv_at hl 4 rfl) ?_
  refine lv_iload hx hb dX12_draws_233 (lv_at hl 0 rfl) ?_
  refine lv_if_ne (tgt := 242) hx hb dX12_draws_235 (by decide) (fun q => ?_) (fun q => ?_)
  · replace hf := zif_f q hf
    refine lv_iload hx hb dX12_draws_242 (lv_at hl 0 rfl) ?_
    exact bX12_draws_244 hC hk213 hI (lv_sub hl [1, 2, 3, 4] rfl) hf
  replace hf := zif_t q hf
  refine lv_iload_n hx hb dX12_draws_238 rfl (lv_at hl 3 rfl) ?_
  refine lv_goto (tgt := 244) hx hb dX12_draws_239 (by decide) ?_
  exact bX12_draws_244 hC hk213 hI (lv_sub hl [1, 2, 3, 4] rfl) hf
theorem blX12_draws_213 {st : Nat → Nat} {p : Program} {l : Launch} {e : Env} {s : State} {m : MethodId} {args : Array Value} {below : List Frame} {meth : Method} {c : Code} {D : va_G} {A : Nat → Prop} {ad : Nat → Nat} {cy : Nat → ClassId} (hC : zC p m c cX12_draws 5 s args wzX12_draws RX12 meth none)  {res : zSt} : ∀ (n : Nat) (H : Heap) (locs : List Loc) (σ : zSt) (ls : Array Slot) (x1 : Int32) (x2 : Int32) (x3 : Int32), zI st D (tM cy) (wM ad cy σ) A s H locs → lv_has ls 5 [(0, .ref (ad 0)), (1, .int x1), (2, .int x2), (3, .int x3)] → fX12_draws_213  n σ x1 x2 x3 = some res → W p l e rmX12_draws s m args below meth c H locs 0 0 (zQu below args s D (tM cy) (wM ad cy) A res) (F0 m 213 ls []) := by
  intro n
  induction n with
  | zero => intro H locs σ ls x1 x2 x3 hI hl hf; cases hf
  | succ n ih => intro H locs σ ls x1 x2 x3 hI hl hf; exact bX12_draws_213_body hC ih hI hl hf
set_option maxRecDepth 20000 in
set_option maxHeartbeats 4000000 in
theorem bX12_draws_200 {st : Nat → Nat} {p : Program} {l : Launch} {e : Env} {s : State} {m : MethodId} {args : Array Value} {below : List Frame} {meth : Method} {c : Code} {D : va_G} {A : Nat → Prop} {ad : Nat → Nat} {cy : Nat → ClassId} (hC : zC p m c cX12_draws 5 s args wzX12_draws RX12 meth none)  {res : zSt} {H : Heap} {locs : List Loc} {σ : zSt} {ls : Array Slot} {x1 : Int32} {x2 : Int32} (hI : zI st D (tM cy) (wM ad cy σ) A s H locs) (hl : lv_has ls 5 [(0, .ref (ad 0)), (1, .int x1), (2, .int x2)]) (hf : fX12_draws_200  σ x1 x2 = some res) : W p l e rmX12_draws s m args below meth c H locs 0 0 (zQu below args s D (tM cy) (wM ad cy) A res) (F0 m 200 ls []) := by
  have hx := hC.1
  have hb := hC.2.1
  unfold fX12_draws_200 at hf
  refine lv_aload_n hx hb dX12_draws_200 rfl (lv_at hl 0 rfl) ?_
  refine lv_iconst (v := 1) hx hb dX12_draws_201 (by decide) ?_
  refine lv_bipush (v := 6) hx hb dX12_draws_202 (by decide) ?_
  obtain ⟨σ14, v15, g14, hf⟩ := zbi_use hf
  refine z_callVi (As := [.int 1, .int 6]) (rest := []) hC hI (cX12_bit_met st l D ad cy σ 1 6 _ g14) (zgV zw49_0 zw49_1 zw49_2 zw1_5 zw49_3) rfl ⟨rfl, rfl⟩ 2 hdX12_bit ⟨Nat.le_of_ble_eq_true rfl, Nat.le_of_ble_eq_true rfl⟩ rfl rfl (wM_e0 ad cy σ) rfl hl rfl (Nat.le_of_ble_eq_true rfl) dX12_draws_204 ⟨Nat.zero_le _, Nat.zero_le _⟩ (fun H locs hI => ?_)
  refine lv_iconst (v := 1) hx hb dX12_draws_207 (by decide) ?_
  refine lv_icmp_ne (tgt := 300) hx hb dX12_draws_208 (by decide) (fun q => ?_) (fun q => ?_)
  · replace hf := zif_f q hf
    exact bX12_draws_300 hC  hI (lv_sub hl [0, 1] rfl) hf
  replace hf := zif_t q hf
  refine lv_iconst (v := 0) hx hb dX12_draws_211 (by decide) ?_
  refine lv_istore_n (lv' := [(3, .int 0), (0, .ref (ad 0)), (1, .int x1), (2, .int x2)]) hx hb dX12_draws_212 rfl hl (by decide) rfl (fun ls hl => ?_)
  exact blX12_draws_213 hC  zfuel _ _ _ _ _ _ _ hI (lv_sub hl [1, 2, 3, 0] rfl) hf
set_option maxRecDepth 20000 in
set_option maxHeartbeats 4000000 in
theorem bX12_draws_160 {st : Nat → Nat} {p : Program} {l : Launch} {e : Env} {s : State} {m : MethodId} {args : Array Value} {below : List Frame} {meth : Method} {c : Code} {D : va_G} {A : Nat → Prop} {ad : Nat → Nat} {cy : Nat → ClassId} (hC : zC p m c cX12_draws 5 s args wzX12_draws RX12 meth none) {k123 : zSt → Int32 → Int32 → Int32 → Option (zSt)} {res : zSt} (hk123 : ∀ (H : Heap) (locs : List Loc) (σ : zSt) (ls : Array Slot) (x1 : Int32) (x2 : Int32) (x3 : Int32), zI st D (tM cy) (wM ad cy σ) A s H locs → lv_has ls 5 [(0, .ref (ad 0)), (1, .int x1), (2, .int x2), (3, .int x3)] → k123 σ x1 x2 x3 = some res → W p l e rmX12_draws s m args below meth c H locs 0 0 (zQu below args s D (tM cy) (wM ad cy) A res) (F0 m 123 ls [])) {H : Heap} {locs : List Loc} {σ : zSt} {ls : Array Slot} {x1 : Int32} {x2 : Int32} {x3 : Int32} (hI : zI st D (tM cy) (wM ad cy σ) A s H locs) (hl : lv_has ls 5 [(0, .ref (ad 0)), (1, .int x1), (2, .int x2), (3, .int x3)]) (hf : fX12_draws_160 k123 σ x1 x2 x3 = some res) : W p l e rmX12_draws s m args below meth c H locs 0 0 (zQu below args s D (tM cy) (wM ad cy) A res) (F0 m 160 ls []) := by
  have hx := hC.1
  have hb := hC.2.1
  unfold fX12_draws_160 at hf
  obtain ⟨v16, ev16⟩ : ∃ z : Int32, z = x3 + 1 := ⟨_, rfl⟩
  replace hf := zbv_use ev16 hf
  refine lv_iinc (v := v16) (lv' := [(3, .int v16), (0, .ref (ad 0)), (1, .int x1), (2, .int x2)]) hx hb dX12_draws_160 hl (k := 3) rfl (by rw [ev16]; rfl) (by decide) rfl (fun ls hl => ?_)
  refine lv_goto (tgt := 123) hx hb dX12_draws_163 (by decide) ?_
  exact hk123 _ _ _ _ _ _ _ hI (lv_sub hl [1, 2, 3, 0] rfl) hf
set_option maxRecDepth 20000 in
set_option maxHeartbeats 4000000 in
theorem bX12_draws_197 {st : Nat → Nat} {p : Program} {l : Launch} {e : Env} {s : State} {m : MethodId} {args : Array Value} {below : List Frame} {meth : Method} {c : Code} {D : va_G} {A : Nat → Prop} {ad : Nat → Nat} {cy : Nat → ClassId} (hC : zC p m c cX12_draws 5 s args wzX12_draws RX12 meth none)  {res : zSt} {H : Heap} {locs : List Loc} {σ : zSt} {ls : Array Slot} {x1 : Int32} (hI : zI st D (tM cy) (wM ad cy σ) A s H locs) (hl : lv_has ls 5 [(0, .ref (ad 0)), (1, .int x1)]) (hf : fX12_draws_197  σ x1 = some res) : W p l e rmX12_draws s m args below meth c H locs 0 0 (zQu below args s D (tM cy) (wM ad cy) A res) (F0 m 197 ls []) := by
  have hx := hC.1
  have hb := hC.2.1
  unfold fX12_draws_197 at hf
  refine lv_goto (tgt := 300) hx hb dX12_draws_197 (by decide) ?_
  exact bX12_draws_300 hC  hI hl hf
set_option maxRecDepth 20000 in
set_option maxHeartbeats 4000000 in
theorem bX12_draws_168_body {st : Nat → Nat} {p : Program} {l : Launch} {e : Env} {s : State} {m : MethodId} {args : Array Value} {below : List Frame} {meth : Method} {c : Code} {D : va_G} {A : Nat → Prop} {ad : Nat → Nat} {cy : Nat → ClassId} (hC : zC p m c cX12_draws 5 s args wzX12_draws RX12 meth none) {k168 : zSt → Int32 → Int32 → Int32 → Option (zSt)} {res : zSt} (hk168 : ∀ (H : Heap) (locs : List Loc) (σ : zSt) (ls : Array Slot) (x1 : Int32) (x2 : Int32) (x3 : Int32), zI st D (tM cy) (wM ad cy σ) A s H locs → lv_has ls 5 [(0, .ref (ad 0)), (1, .int x1), (2, .int x2), (3, .int x3)] → k168 σ x1 x2 x3 = some res → W p l e rmX12_draws s m args below meth c H locs 0 0 (zQu below args s D (tM cy) (wM ad cy) A res) (F0 m 168 ls [])) {H : Heap} {locs : List Loc} {σ : zSt} {ls : Array Slot} {x1 : Int32} {x2 : Int32} {x3 : Int32} (hI : zI st D (tM cy) (wM ad cy σ) A s H locs) (hl : lv_has ls 5 [(0, .ref (ad 0)), (1, .int x1), (2, .int x2), (3, .int x3)]) (hf : fX12_draws_168_body k168 σ x1 x2 x3 = some res) : W p l e rmX12_draws s m args below meth c H locs 0 0 (zQu below args s D (tM cy) (wM ad cy) A res) (F0 m 168 ls []) := by
  have hx := hC.1
  have hb := hC.2.1
  unfold fX12_draws_168_body at hf
  refine lv_iload_n hx hb dX12_draws_168 rfl (lv_at hl 3 rfl) ?_
  refine lv_bipush (v := 8) hx hb dX12_draws_169 (by decide) ?_
  refine lv_icmp_ge (tgt := 197) hx hb dX12_draws_171 (by decide) (fun q => ?_) (fun q => ?_)
  · replace hf := zif_t q hf
    exact bX12_draws_197 hC  hI (lv_sub hl [0, 1] rfl) hf
  replace hf := zif_f q hf
  refine lv_aload_n hx hb dX12_draws_174 rfl (lv_at hl 0 rfl) ?_
  refine lv_iconst (v := 0) hx hb dX12_draws_175 (by decide) ?_
  refine lv_iconst (v := 5) hx hb dX12_draws_176 (by decide) ?_
  obtain ⟨σ17, v18, g17, hf⟩ := zbi_use hf
  refine z_callVi (As := [.int 0, .int 5]) (rest := []) hC hI (cX12_bit_met st l D ad cy σ 0 5 _ g17) (zgV zw49_0 zw49_1 zw49_2 zw1_5 zw49_3) rfl ⟨rfl, rfl⟩ 2 hdX12_bit ⟨Nat.le_of_ble_eq_true rfl, Nat.le_of_ble_eq_true rfl⟩ rfl rfl (wM_e0 ad cy σ) rfl hl rfl (Nat.le_of_ble_eq_true rfl) dX12_draws_177 ⟨Nat.zero_le _, Nat.zero_le _⟩ (fun H locs hI => ?_)
  refine lv_iconst (v := 1) hx hb dX12_draws_180 (by decide) ?_
  refine lv_icmp_ne (tgt := 197) hx hb dX12_draws_181 (by decide) (fun q => ?_) (fun q => ?_)
  · replace hf := zif_f q hf
    exact bX12_draws_197 hC  hI (lv_sub hl [0, 1] rfl) hf
  replace hf := zif_t q hf
  refine lv_aload_n hx hb dX12_draws_184 rfl (lv_at hl 0 rfl) ?_
  refine z_get hC hI hinX12_draws_X120 0 (wM_e0 ad cy σ17) rfl 34 (by decide) (List.mem_cons_of_mem _ zw10_4) rfl dX12_draws_185 ?_
  refine lv_iload_n hx hb dX12_draws_188 rfl (lv_at hl 3 rfl) ?_
  refine lv_iload_n hx hb dX12_draws_189 rfl (lv_at hl 2 rfl) ?_
  obtain ⟨q, hf⟩ := zck_use hf
  obtain ⟨σ19, eσ19⟩ : ∃ z, z = zsi σ17 22 (x3.toNatClampNeg) x2 := ⟨_, rfl⟩
  replace hf := zbv_use eσ19 hf
  refine z_iast hC hI 22 21 (wM_e22 ad cy σ17) (tM_t22 cy) q ((wM_s22 ad cy σ17 _ _).trans (congrArg (wM ad cy) eσ19.symm)) dX12_draws_190 (fun H locs hI => ?_)
  obtain ⟨v20, ev20⟩ : ∃ z : Int32, z = x3 + 1 := ⟨_, rfl⟩
  replace hf := zbv_use ev20 hf
  refine lv_iinc (v := v20) (lv' := [(3, .int v20), (0, .ref (ad 0)), (1, .int x1), (2, .int x2)]) hx hb dX12_draws_191 hl (k := 3) rfl (by rw [ev20]; rfl) (by decide) rfl (fun ls hl => ?_)
  refine lv_goto (tgt := 168) hx hb dX12_draws_194 (by decide) ?_
  exact hk168 _ _ _ _ _ _ _ hI (lv_sub hl [1, 2, 3, 0] rfl) hf
theorem blX12_draws_168 {st : Nat → Nat} {p : Program} {l : Launch} {e : Env} {s : State} {m : MethodId} {args : Array Value} {below : List Frame} {meth : Method} {c : Code} {D : va_G} {A : Nat → Prop} {ad : Nat → Nat} {cy : Nat → ClassId} (hC : zC p m c cX12_draws 5 s args wzX12_draws RX12 meth none)  {res : zSt} : ∀ (n : Nat) (H : Heap) (locs : List Loc) (σ : zSt) (ls : Array Slot) (x1 : Int32) (x2 : Int32) (x3 : Int32), zI st D (tM cy) (wM ad cy σ) A s H locs → lv_has ls 5 [(0, .ref (ad 0)), (1, .int x1), (2, .int x2), (3, .int x3)] → fX12_draws_168  n σ x1 x2 x3 = some res → W p l e rmX12_draws s m args below meth c H locs 0 0 (zQu below args s D (tM cy) (wM ad cy) A res) (F0 m 168 ls []) := by
  intro n
  induction n with
  | zero => intro H locs σ ls x1 x2 x3 hI hl hf; cases hf
  | succ n ih => intro H locs σ ls x1 x2 x3 hI hl hf; exact bX12_draws_168_body hC ih hI hl hf
set_option maxRecDepth 20000 in
set_option maxHeartbeats 4000000 in
theorem bX12_draws_123_body {st : Nat → Nat} {p : Program} {l : Launch} {e : Env} {s : State} {m : MethodId} {args : Array Value} {below : List Frame} {meth : Method} {c : Code} {D : va_G} {A : Nat → Prop} {ad : Nat → Nat} {cy : Nat → ClassId} (hC : zC p m c cX12_draws 5 s args wzX12_draws RX12 meth none) {k123 : zSt → Int32 → Int32 → Int32 → Option (zSt)} {res : zSt} (hk123 : ∀ (H : Heap) (locs : List Loc) (σ : zSt) (ls : Array Slot) (x1 : Int32) (x2 : Int32) (x3 : Int32), zI st D (tM cy) (wM ad cy σ) A s H locs → lv_has ls 5 [(0, .ref (ad 0)), (1, .int x1), (2, .int x2), (3, .int x3)] → k123 σ x1 x2 x3 = some res → W p l e rmX12_draws s m args below meth c H locs 0 0 (zQu below args s D (tM cy) (wM ad cy) A res) (F0 m 123 ls [])) {H : Heap} {locs : List Loc} {σ : zSt} {ls : Array Slot} {x1 : Int32} {x2 : Int32} {x3 : Int32} (hI : zI st D (tM cy) (wM ad cy σ) A s H locs) (hl : lv_has ls 5 [(0, .ref (ad 0)), (1, .int x1), (2, .int x2), (3, .int x3)]) (hf : fX12_draws_123_body k123 σ x1 x2 x3 = some res) : W p l e rmX12_draws s m args below meth c H locs 0 0 (zQu below args s D (tM cy) (wM ad cy) A res) (F0 m 123 ls []) := by
  have hx := hC.1
  have hb := hC.2.1
  unfold fX12_draws_123_body at hf
  refine lv_iload_n hx hb dX12_draws_123 rfl (lv_at hl 3 rfl) ?_
  refine lv_sipush (v := 256) hx hb dX12_draws_124 (by decide) ?_
  refine lv_icmp_ge (tgt := 166) hx hb dX12_draws_127 (by decide) (fun q => ?_) (fun q => ?_)
  · replace hf := zif_t q hf
    refine lv_iconst (v := 0) hx hb dX12_draws_166 (by decide) ?_
    refine lv_istore_n (lv' := [(3, .int 0), (0, .ref (ad 0)), (1, .int x1), (2, .int x2)]) hx hb dX12_draws_167 rfl hl (by decide) rfl (fun ls hl => ?_)
    exact blX12_draws_168 hC  zfuel _ _ _ _ _ _ _ hI (lv_sub hl [1, 2, 3, 0] rfl) hf
  replace hf := zif_f q hf
  refine lv_aload_n hx hb dX12_draws_130 rfl (lv_at hl 0 rfl) ?_
  refine z_get hC hI hinX12_draws_X120 0 (wM_e0 ad cy σ) rfl 36 (by decide) (List.mem_cons_of_mem _ zw10_7) rfl dX12_draws_131 ?_
  refine lv_iload_n hx hb dX12_draws_134 rfl (lv_at hl 3 rfl) ?_
  obtain ⟨q, hf⟩ := zck_use hf
  refine z_iald hC hI 24 23 (wM_e24 ad cy σ) (tM_t24 cy) q dX12_draws_135 ?_
  refine lv_if_le (tgt := 160) hx hb dX12_draws_136 (by decide) (fun q => ?_) (fun q => ?_)
  · replace hf := zif_t q hf
    exact bX12_draws_160 hC hk123 hI hl hf
  replace hf := zif_f q hf
  refine lv_aload_n hx hb dX12_draws_139 rfl (lv_at hl 0 rfl) ?_
  refine z_get hC hI hinX12_draws_X120 0 (wM_e0 ad cy σ) rfl 35 (by decide) (List.mem_cons_of_mem _ zw10_6) rfl dX12_draws_140 ?_
  refine lv_iload_n hx hb dX12_draws_143 rfl (lv_at hl 3 rfl) ?_
  obtain ⟨q, hf⟩ := zck_use hf
  refine z_zald hC hI 23 22 (wM_e23 ad cy σ) (tM_t23 cy) q dX12_draws_144 ?_
  refine lv_if_ne (tgt := 160) hx hb dX12_draws_145 (by decide) (fun q => ?_) (fun q => ?_)
  · replace hf := zif_f q hf
    exact bX12_draws_160 hC hk123 hI hl hf
  replace hf := zif_t q hf
  refine lv_aload_n hx hb dX12_draws_148 rfl (lv_at hl 0 rfl) ?_
  refine z_get hC hI hinX12_draws_X120 0 (wM_e0 ad cy σ) rfl 34 (by decide) (List.mem_cons_of_mem _ zw10_4) rfl dX12_draws_149 ?_
  refine lv_iload_n hx hb dX12_draws_152 rfl (lv_at hl 3 rfl) ?_
  refine lv_aload_n hx hb dX12_draws_153 rfl (lv_at hl 0 rfl) ?_
  refine z_get hC hI hinX12_draws_X120 0 (wM_e0 ad cy σ) rfl 36 (by decide) (List.mem_cons_of_mem _ zw10_7) rfl dX12_draws_154 ?_
  refine lv_iload_n hx hb dX12_draws_157 rfl (lv_at hl 3 rfl) ?_
  obtain ⟨q, hf⟩ := zck_use hf
  refine z_iald hC hI 24 23 (wM_e24 ad cy σ) (tM_t24 cy) q dX12_draws_158 ?_
  obtain ⟨q, hf⟩ := zck_use hf
  obtain ⟨σ21, eσ21⟩ : ∃ z, z = zsi σ 22 (x3.toNatClampNeg) (zgi σ 24 x3.toNatClampNeg) := ⟨_, rfl⟩
  replace hf := zbv_use eσ21 hf
  refine z_iast hC hI 22 21 (wM_e22 ad cy σ) (tM_t22 cy) q ((wM_s22 ad cy σ _ _).trans (congrArg (wM ad cy) eσ21.symm)) dX12_draws_159 (fun H locs hI => ?_)
  exact bX12_draws_160 hC hk123 hI hl hf
theorem blX12_draws_123 {st : Nat → Nat} {p : Program} {l : Launch} {e : Env} {s : State} {m : MethodId} {args : Array Value} {below : List Frame} {meth : Method} {c : Code} {D : va_G} {A : Nat → Prop} {ad : Nat → Nat} {cy : Nat → ClassId} (hC : zC p m c cX12_draws 5 s args wzX12_draws RX12 meth none)  {res : zSt} : ∀ (n : Nat) (H : Heap) (locs : List Loc) (σ : zSt) (ls : Array Slot) (x1 : Int32) (x2 : Int32) (x3 : Int32), zI st D (tM cy) (wM ad cy σ) A s H locs → lv_has ls 5 [(0, .ref (ad 0)), (1, .int x1), (2, .int x2), (3, .int x3)] → fX12_draws_123  n σ x1 x2 x3 = some res → W p l e rmX12_draws s m args below meth c H locs 0 0 (zQu below args s D (tM cy) (wM ad cy) A res) (F0 m 123 ls []) := by
  intro n
  induction n with
  | zero => intro H locs σ ls x1 x2 x3 hI hl hf; cases hf
  | succ n ih => intro H locs σ ls x1 x2 x3 hI hl hf; exact bX12_draws_123_body hC ih hI hl hf
set_option maxRecDepth 20000 in
set_option maxHeartbeats 4000000 in
theorem bX12_draws_97_body {st : Nat → Nat} {p : Program} {l : Launch} {e : Env} {s : State} {m : MethodId} {args : Array Value} {below : List Frame} {meth : Method} {c : Code} {D : va_G} {A : Nat → Prop} {ad : Nat → Nat} {cy : Nat → ClassId} (hC : zC p m c cX12_draws 5 s args wzX12_draws RX12 meth none) {k97 : zSt → Int32 → Int32 → Int32 → Option (zSt)} {res : zSt} (hk97 : ∀ (H : Heap) (locs : List Loc) (σ : zSt) (ls : Array Slot) (x1 : Int32) (x2 : Int32) (x3 : Int32), zI st D (tM cy) (wM ad cy σ) A s H locs → lv_has ls 5 [(0, .ref (ad 0)), (1, .int x1), (2, .int x2), (3, .int x3)] → k97 σ x1 x2 x3 = some res → W p l e rmX12_draws s m args below meth c H locs 0 0 (zQu below args s D (tM cy) (wM ad cy) A res) (F0 m 97 ls [])) {H : Heap} {locs : List Loc} {σ : zSt} {ls : Array Slot} {x1 : Int32} {x2 : Int32} {x3 : Int32} (hI : zI st D (tM cy) (wM ad cy σ) A s H locs) (hl : lv_has ls 5 [(0, .ref (ad 0)), (1, .int x1), (2, .int x2), (3, .int x3)]) (hf : fX12_draws_97_body k97 σ x1 x2 x3 = some res) : W p l e rmX12_draws s m args below meth c H locs 0 0 (zQu below args s D (tM cy) (wM ad cy) A res) (F0 m 97 ls []) := by
  have hx := hC.1
  have hb := hC.2.1
  unfold fX12_draws_97_body at hf
  refine lv_iload_n hx hb dX12_draws_97 rfl (lv_at hl 3 rfl) ?_
  refine lv_sipush (v := 256) hx hb dX12_draws_98 (by decide) ?_
  refine lv_icmp_ge (tgt := 116) hx hb dX12_draws_101 (by decide) (fun q => ?_) (fun q => ?_)
  · replace hf := zif_t q hf
    refine lv_aload_n hx hb dX12_draws_116 rfl (lv_at hl 0 rfl) ?_
    refine lv_iload_n hx hb dX12_draws_117 rfl (lv_at hl 1 rfl) ?_
    obtain ⟨σ22, g22, hf⟩ := zbu_use hf
    refine z_callVu (As := [.int x1]) (rest := []) hC hI (cX12_sprites_met st l D ad cy σ x1 _ g22) (zgV zw59_18 zw59_19 zw59_20 zw1_5 zw59_21) rfl ⟨rfl, rfl⟩ 1 hdX12_sprites ⟨Nat.le_of_ble_eq_true rfl, Nat.le_of_ble_eq_true rfl⟩ rfl rfl (wM_e0 ad cy σ) rfl hl rfl (Nat.le_of_ble_eq_true rfl) dX12_draws_118 ⟨Nat.zero_le _, Nat.zero_le _⟩ (fun H locs hI => ?_)
    refine lv_iconst (v := 0) hx hb dX12_draws_121 (by decide) ?_
    refine lv_istore_n (lv' := [(3, .int 0), (0, .ref (ad 0)), (1, .int x1), (2, .int x2)]) hx hb dX12_draws_122 rfl hl (by decide) rfl (fun ls hl => ?_)
    exact blX12_draws_123 hC  zfuel _ _ _ _ _ _ _ hI (lv_sub hl [1, 2, 3, 0] rfl) hf
  replace hf := zif_f q hf
  refine lv_aload_n hx hb dX12_draws_104 rfl (lv_at hl 0 rfl) ?_
  refine lv_iload_n hx hb dX12_draws_105 rfl (lv_at hl 1 rfl) ?_
  refine lv_iload_n hx hb dX12_draws_106 rfl (lv_at hl 3 rfl) ?_
  obtain ⟨σ23, g23, hf⟩ := zbu_use hf
  refine z_callVu (As := [.int x1, .int x3]) (rest := []) hC hI (cX12_tile_met st l D ad cy σ x1 x3 _ g23) (zgV zw59_10 zw59_11 zw59_12 zw1_5 zw59_13) rfl ⟨rfl, rfl⟩ 2 hdX12_tile ⟨Nat.le_of_ble_eq_true rfl, Nat.le_of_ble_eq_true rfl⟩ rfl rfl (wM_e0 ad cy σ) rfl hl rfl (Nat.le_of_ble_eq_true rfl) dX12_draws_107 ⟨Nat.zero_le _, Nat.zero_le _⟩ (fun H locs hI => ?_)
  obtain ⟨v24, ev24⟩ : ∃ z : Int32, z = x3 + 1 := ⟨_, rfl⟩
  replace hf := zbv_use ev24 hf
  refine lv_iinc (v := v24) (lv' := [(3, .int v24), (0, .ref (ad 0)), (1, .int x1), (2, .int x2)]) hx hb dX12_draws_110 hl (k := 3) rfl (by rw [ev24]; rfl) (by decide) rfl (fun ls hl => ?_)
  refine lv_goto (tgt := 97) hx hb dX12_draws_113 (by decide) ?_
  exact hk97 _ _ _ _ _ _ _ hI (lv_sub hl [1, 2, 3, 0] rfl) hf
theorem blX12_draws_97 {st : Nat → Nat} {p : Program} {l : Launch} {e : Env} {s : State} {m : MethodId} {args : Array Value} {below : List Frame} {meth : Method} {c : Code} {D : va_G} {A : Nat → Prop} {ad : Nat → Nat} {cy : Nat → ClassId} (hC : zC p m c cX12_draws 5 s args wzX12_draws RX12 meth none)  {res : zSt} : ∀ (n : Nat) (H : Heap) (locs : List Loc) (σ : zSt) (ls : Array Slot) (x1 : Int32) (x2 : Int32) (x3 : Int32), zI st D (tM cy) (wM ad cy σ) A s H locs → lv_has ls 5 [(0, .ref (ad 0)), (1, .int x1), (2, .int x2), (3, .int x3)] → fX12_draws_97  n σ x1 x2 x3 = some res → W p l e rmX12_draws s m args below meth c H locs 0 0 (zQu below args s D (tM cy) (wM ad cy) A res) (F0 m 97 ls []) := by
  intro n
  induction n with
  | zero => intro H locs σ ls x1 x2 x3 hI hl hf; cases hf
  | succ n ih => intro H locs σ ls x1 x2 x3 hI hl hf; exact bX12_draws_97_body hC ih hI hl hf
set_option maxRecDepth 20000 in
set_option maxHeartbeats 4000000 in
theorem bX12_draws_35_body {st : Nat → Nat} {p : Program} {l : Launch} {e : Env} {s : State} {m : MethodId} {args : Array Value} {below : List Frame} {meth : Method} {c : Code} {D : va_G} {A : Nat → Prop} {ad : Nat → Nat} {cy : Nat → ClassId} (hC : zC p m c cX12_draws 5 s args wzX12_draws RX12 meth none) {k35 : zSt → Int32 → Int32 → Int32 → Option (zSt)} {res : zSt} (hk35 : ∀ (H : Heap) (locs : List Loc) (σ : zSt) (ls : Array Slot) (x1 : Int32) (x2 : Int32) (x3 : Int32), zI st D (tM cy) (wM ad cy σ) A s H locs → lv_has ls 5 [(0, .ref (ad 0)), (1, .int x1), (2, .int x2), (3, .int x3)] → k35 σ x1 x2 x3 = some res → W p l e rmX12_draws s m args below meth c H locs 0 0 (zQu below args s D (tM cy) (wM ad cy) A res) (F0 m 35 ls [])) {H : Heap} {locs : List Loc} {σ : zSt} {ls : Array Slot} {x1 : Int32} {x2 : Int32} {x3 : Int32} (hI : zI st D (tM cy) (wM ad cy σ) A s H locs) (hl : lv_has ls 5 [(0, .ref (ad 0)), (1, .int x1), (2, .int x2), (3, .int x3)]) (hf : fX12_draws_35_body k35 σ x1 x2 x3 = some res) : W p l e rmX12_draws s m args below meth c H locs 0 0 (zQu below args s D (tM cy) (wM ad cy) A res) (F0 m 35 ls []) := by
  have hx := hC.1
  have hb := hC.2.1
  unfold fX12_draws_35_body at hf
  refine lv_iload_n hx hb dX12_draws_35 rfl (lv_at hl 3 rfl) ?_
  refine lv_sipush (v := 256) hx hb dX12_draws_36 (by decide) ?_
  refine lv_icmp_ge (tgt := 76) hx hb dX12_draws_39 (by decide) (fun q => ?_) (fun q => ?_)
  · replace hf := zif_t q hf
    refine lv_aload_n hx hb dX12_draws_76 rfl (lv_at hl 0 rfl) ?_
    refine lv_iconst (v := 1) hx hb dX12_draws_77 (by decide) ?_
    refine lv_bipush (v := 6) hx hb dX12_draws_78 (by decide) ?_
    obtain ⟨σ25, v26, g25, hf⟩ := zbi_use hf
    refine z_callVi (As := [.int 1, .int 6]) (rest := []) hC hI (cX12_bit_met st l D ad cy σ 1 6 _ g25) (zgV zw49_0 zw49_1 zw49_2 zw1_5 zw49_3) rfl ⟨rfl, rfl⟩ 2 hdX12_bit ⟨Nat.le_of_ble_eq_true rfl, Nat.le_of_ble_eq_true rfl⟩ rfl rfl (wM_e0 ad cy σ) rfl hl rfl (Nat.le_of_ble_eq_true rfl) dX12_draws_80 ⟨Nat.zero_le _, Nat.zero_le _⟩ (fun H locs hI => ?_)
    refine lv_iconst (v := 1) hx hb dX12_draws_83 (by decide) ?_
    refine lv_icmp_ne (tgt := 200) hx hb dX12_draws_84 (by decide) (fun q => ?_) (fun q => ?_)
    · replace hf := zif_f q hf
      exact bX12_draws_200 hC  hI (lv_sub hl [0, 1, 2] rfl) hf
    replace hf := zif_t q hf
    refine lv_aload_n hx hb dX12_draws_87 rfl (lv_at hl 0 rfl) ?_
    obtain ⟨σ27, v28, g27, hf⟩ := zbi_use hf
    refine z_callVi (As := []) (rest := []) hC hI (cX12_mode_met st l D ad cy σ25  _ g27) (zgV zw57_6 zw57_7 zw57_8 zw1_5 zw57_9) rfl ⟨rfl, rfl⟩ 0 hdX12_mode ⟨Nat.le_of_ble_eq_true rfl, Nat.le_of_ble_eq_true rfl⟩ rfl rfl (wM_e0 ad cy σ25) rfl hl rfl (Nat.le_of_ble_eq_true rfl) dX12_draws_88 ⟨Nat.zero_le _, Nat.zero_le _⟩ (fun H locs hI => ?_)
    refine lv_iconst (v := 4) hx hb dX12_draws_91 (by decide) ?_
    refine lv_icmp_ne (tgt := 200) hx hb dX12_draws_92 (by decide) (fun q => ?_) (fun q => ?_)
    · replace hf := zif_f q hf
      exact bX12_draws_200 hC  hI (lv_sub hl [0, 1, 2] rfl) hf
    replace hf := zif_t q hf
    refine lv_iconst (v := 0) hx hb dX12_draws_95 (by decide) ?_
    refine lv_istore_n (lv' := [(3, .int 0), (0, .ref (ad 0)), (1, .int x1), (2, .int x2)]) hx hb dX12_draws_96 rfl hl (by decide) rfl (fun ls hl => ?_)
    exact blX12_draws_97 hC  zfuel _ _ _ _ _ _ _ hI (lv_sub hl [1, 2, 3, 0] rfl) hf
  replace hf := zif_f q hf
  refine lv_aload_n hx hb dX12_draws_42 rfl (lv_at hl 0 rfl) ?_
  refine z_get hC hI hinX12_draws_X120 0 (wM_e0 ad cy σ) rfl 34 (by decide) (List.mem_cons_of_mem _ zw10_4) rfl dX12_draws_43 ?_
  refine lv_iload_n hx hb dX12_draws_46 rfl (lv_at hl 3 rfl) ?_
  refine lv_iload_n hx hb dX12_draws_47 rfl (lv_at hl 2 rfl) ?_
  obtain ⟨q, hf⟩ := zck_use hf
  obtain ⟨σ29, eσ29⟩ : ∃ z, z = zsi σ 22 (x3.toNatClampNeg) x2 := ⟨_, rfl⟩
  replace hf := zbv_use eσ29 hf
  refine z_iast hC hI 22 21 (wM_e22 ad cy σ) (tM_t22 cy) q ((wM_s22 ad cy σ _ _).trans (congrArg (wM ad cy) eσ29.symm)) dX12_draws_48 (fun H locs hI => ?_)
  refine lv_aload_n hx hb dX12_draws_49 rfl (lv_at hl 0 rfl) ?_
  refine z_get hC hI hinX12_draws_X120 0 (wM_e0 ad cy σ29) rfl 35 (by decide) (List.mem_cons_of_mem _ zw10_6) rfl dX12_draws_50 ?_
  refine lv_iload_n hx hb dX12_draws_53 rfl (lv_at hl 3 rfl) ?_
  refine lv_iconst (v := 0) hx hb dX12_draws_54 (by decide) ?_
  obtain ⟨q, hf⟩ := zck_use hf
  obtain ⟨σ30, eσ30⟩ : ∃ z, z = zsi σ29 23 (x3.toNatClampNeg) (vp_nar .boolean 0) := ⟨_, rfl⟩
  replace hf := zbv_use eσ30 hf
  refine z_zast hC hI 23 22 (wM_e23 ad cy σ29) (tM_t23 cy) q ((wM_s23 ad cy σ29 _ _).trans (congrArg (wM ad cy) eσ30.symm)) dX12_draws_55 (fun H locs hI => ?_)
  refine lv_aload_n hx hb dX12_draws_56 rfl (lv_at hl 0 rfl) ?_
  refine z_get hC hI hinX12_draws_X120 0 (wM_e0 ad cy σ30) rfl 36 (by decide) (List.mem_cons_of_mem _ zw10_7) rfl dX12_draws_57 ?_
  refine lv_iload_n hx hb dX12_draws_60 rfl (lv_at hl 3 rfl) ?_
  refine lv_iconst (v := 0) hx hb dX12_draws_61 (by decide) ?_
  obtain ⟨q, hf⟩ := zck_use hf
  obtain ⟨σ31, eσ31⟩ : ∃ z, z = zsi σ30 24 (x3.toNatClampNeg) 0 := ⟨_, rfl⟩
  replace hf := zbv_use eσ31 hf
  refine z_iast hC hI 24 23 (wM_e24 ad cy σ30) (tM_t24 cy) q ((wM_s24 ad cy σ30 _ _).trans (congrArg (wM ad cy) eσ31.symm)) dX12_draws_62 (fun H locs hI => ?_)
  refine lv_aload_n hx hb dX12_draws_63 rfl (lv_at hl 0 rfl) ?_
  refine z_get hC hI hinX12_draws_X120 0 (wM_e0 ad cy σ31) rfl 37 (by decide) (List.mem_cons_of_mem _ zw10_8) rfl dX12_draws_64 ?_
  refine lv_iload_n hx hb dX12_draws_67 rfl (lv_at hl 3 rfl) ?_
  refine lv_iconst (v := 0) hx hb dX12_draws_68 (by decide) ?_
  obtain ⟨q, hf⟩ := zck_use hf
  obtain ⟨σ32, eσ32⟩ : ∃ z, z = zsi σ31 25 (x3.toNatClampNeg) (vp_nar .boolean 0) := ⟨_, rfl⟩
  replace hf := zbv_use eσ32 hf
  refine z_zast hC hI 25 24 (wM_e25 ad cy σ31) (tM_t25 cy) q ((wM_s25 ad cy σ31 _ _).trans (congrArg (wM ad cy) eσ32.symm)) dX12_draws_69 (fun H locs hI => ?_)
  obtain ⟨v33, ev33⟩ : ∃ z : Int32, z = x3 + 1 := ⟨_, rfl⟩
  replace hf := zbv_use ev33 hf
  refine lv_iinc (v := v33) (lv' := [(3, .int v33), (0, .ref (ad 0)), (1, .int x1), (2, .int x2)]) hx hb dX12_draws_70 hl (k := 3) rfl (by rw [ev33]; rfl) (by decide) rfl (fun ls hl => ?_)
  refine lv_goto (tgt := 35) hx hb dX12_draws_73 (by decide) ?_
  exact hk35 _ _ _ _ _ _ _ hI (lv_sub hl [1, 2, 3, 0] rfl) hf
theorem blX12_draws_35 {st : Nat → Nat} {p : Program} {l : Launch} {e : Env} {s : State} {m : MethodId} {args : Array Value} {below : List Frame} {meth : Method} {c : Code} {D : va_G} {A : Nat → Prop} {ad : Nat → Nat} {cy : Nat → ClassId} (hC : zC p m c cX12_draws 5 s args wzX12_draws RX12 meth none)  {res : zSt} : ∀ (n : Nat) (H : Heap) (locs : List Loc) (σ : zSt) (ls : Array Slot) (x1 : Int32) (x2 : Int32) (x3 : Int32), zI st D (tM cy) (wM ad cy σ) A s H locs → lv_has ls 5 [(0, .ref (ad 0)), (1, .int x1), (2, .int x2), (3, .int x3)] → fX12_draws_35  n σ x1 x2 x3 = some res → W p l e rmX12_draws s m args below meth c H locs 0 0 (zQu below args s D (tM cy) (wM ad cy) A res) (F0 m 35 ls []) := by
  intro n
  induction n with
  | zero => intro H locs σ ls x1 x2 x3 hI hl hf; cases hf
  | succ n ih => intro H locs σ ls x1 x2 x3 hI hl hf; exact bX12_draws_35_body hC ih hI hl hf
set_option maxRecDepth 20000 in
set_option maxHeartbeats 4000000 in
theorem bX12_draws_32 {st : Nat → Nat} {p : Program} {l : Launch} {e : Env} {s : State} {m : MethodId} {args : Array Value} {below : List Frame} {meth : Method} {c : Code} {D : va_G} {A : Nat → Prop} {ad : Nat → Nat} {cy : Nat → ClassId} (hC : zC p m c cX12_draws 5 s args wzX12_draws RX12 meth none)  {res : zSt} {H : Heap} {locs : List Loc} {σ : zSt} {ls : Array Slot} {x1 : Int32} {s0 : Int32} (hI : zI st D (tM cy) (wM ad cy σ) A s H locs) (hl : lv_has ls 5 [(0, .ref (ad 0)), (1, .int x1)]) (hf : fX12_draws_32  σ x1 s0 = some res) : W p l e rmX12_draws s m args below meth c H locs 0 0 (zQu below args s D (tM cy) (wM ad cy) A res) (F0 m 32 ls [.int s0]) := by
  have hx := hC.1
  have hb := hC.2.1
  unfold fX12_draws_32 at hf
  refine lv_istore_n (lv' := [(2, .int s0), (0, .ref (ad 0)), (1, .int x1)]) hx hb dX12_draws_32 rfl hl (by decide) rfl (fun ls hl => ?_)
  refine lv_iconst (v := 0) hx hb dX12_draws_33 (by decide) ?_
  refine lv_istore_n (lv' := [(3, .int 0), (2, .int s0), (0, .ref (ad 0)), (1, .int x1)]) hx hb dX12_draws_34 rfl hl (by decide) rfl (fun ls hl => ?_)
  exact blX12_draws_35 hC  zfuel _ _ _ _ _ _ _ hI (lv_sub hl [2, 3, 1, 0] rfl) hf
set_option maxRecDepth 20000 in
set_option maxHeartbeats 4000000 in
theorem bX12_draws {st : Nat → Nat} {p : Program} {l : Launch} {e : Env} {s : State} {m : MethodId} {args : Array Value} {below : List Frame} {meth : Method} {c : Code} {D : va_G} {A : Nat → Prop} {ad : Nat → Nat} {cy : Nat → ClassId} (hC : zC p m c cX12_draws 5 s args wzX12_draws RX12 meth none)  {res : zSt} {H : Heap} {locs : List Loc} {σ : zSt} {ls : Array Slot} {x1 : Int32} (hI : zI st D (tM cy) (wM ad cy σ) A s H locs) (hl : lv_has ls 5 [(0, .ref (ad 0)), (1, .int x1)]) (hf : fX12_draws  σ x1 = some res) : W p l e rmX12_draws s m args below meth c H locs 0 0 (zQu below args s D (tM cy) (wM ad cy) A res) (F0 m 0 ls []) := by
  have hx := hC.1
  have hb := hC.2.1
  unfold fX12_draws at hf
  refine lv_aload_n hx hb dX12_draws_0 rfl (lv_at hl 0 rfl) ?_
  obtain ⟨σ34, v35, g34, hf⟩ := zbi_use hf
  refine z_callVi (As := []) (rest := []) hC hI (cX12_mode_met st l D ad cy σ  _ g34) (zgV zw57_6 zw57_7 zw57_8 zw1_5 zw57_9) rfl ⟨rfl, rfl⟩ 0 hdX12_mode ⟨Nat.le_of_ble_eq_true rfl, Nat.le_of_ble_eq_true rfl⟩ rfl rfl (wM_e0 ad cy σ) rfl hl rfl (Nat.le_of_ble_eq_true rfl) dX12_draws_1 ⟨Nat.zero_le _, Nat.zero_le _⟩ (fun H locs hI => ?_)
  refine lv_iconst (v := 4) hx hb dX12_draws_4 (by decide) ?_
  refine lv_icmp_ne (tgt := 23) hx hb dX12_draws_5 (by decide) (fun q => ?_) (fun q => ?_)
  · replace hf := zif_f q hf
    refine lv_aload_n hx hb dX12_draws_23 rfl (lv_at hl 0 rfl) ?_
    refine lv_bipush (v := 7) hx hb dX12_draws_24 (by decide) ?_
    obtain ⟨σ36, v37, g36, hf⟩ := zbi_use hf
    refine z_callVi (As := [.int 7]) (rest := []) hC hI (cX12_reg_met st l D ad cy σ34 7 _ g36) (zgV zw59_6 zw59_7 zw59_8 zw1_5 zw59_9) rfl ⟨rfl, rfl⟩ 1 hdX12_reg ⟨Nat.le_of_ble_eq_true rfl, Nat.le_of_ble_eq_true rfl⟩ rfl rfl (wM_e0 ad cy σ34) rfl hl rfl (Nat.le_of_ble_eq_true rfl) dX12_draws_26 ⟨Nat.zero_le _, Nat.zero_le _⟩ (fun H locs hI => ?_)
    refine lv_bipush (v := 16) hx hb dX12_draws_29 (by decide) ?_
    obtain ⟨q, hf⟩ := zck_use hf
    refine z_irem hx hb dX12_draws_31 (of_decide_eq_true q) ?_
    exact bX12_draws_32 hC  hI hl hf
  replace hf := zif_t q hf
  refine lv_bipush (v := 16) hx hb dX12_draws_8 (by decide) ?_
  refine lv_aload_n hx hb dX12_draws_10 rfl (lv_at hl 0 rfl) ?_
  refine lv_bipush (v := 7) hx hb dX12_draws_11 (by decide) ?_
  obtain ⟨σ38, v39, g38, hf⟩ := zbi_use hf
  refine z_callVi (As := [.int 7]) (rest := [.int 16]) hC hI (cX12_reg_met st l D ad cy σ34 7 _ g38) (zgV zw59_6 zw59_7 zw59_8 zw1_5 zw59_9) rfl ⟨rfl, rfl⟩ 1 hdX12_reg ⟨Nat.le_of_ble_eq_true rfl, Nat.le_of_ble_eq_true rfl⟩ rfl rfl (wM_e0 ad cy σ34) rfl hl rfl (Nat.le_of_ble_eq_true rfl) dX12_draws_13 ⟨Nat.zero_le _, Nat.zero_le _⟩ (fun H locs hI => ?_)
  refine lv_bipush (v := 16) hx hb dX12_draws_16 (by decide) ?_
  obtain ⟨q, hf⟩ := zck_use hf
  refine z_irem hx hb dX12_draws_18 (of_decide_eq_true q) ?_
  refine lv_iadd hx hb dX12_draws_19 ?_
  refine lv_goto (tgt := 32) hx hb dX12_draws_20 (by decide) ?_
  exact bX12_draws_32 hC  hI hl hf
set_option maxRecDepth 20000 in
theorem cX12_draws_met (st : Nat → Nat) (l : Launch) (D : va_G) (ad : Nat → Nat) (cy : Nat → ClassId) (σ : zSt) (x1 : Int32) (res : zSt) (hf : fX12_draws σ x1 = some res) (sz : Nat) : zMu st l yX12_draws wzX12_draws rmX12_draws [.ref (ad 0), .int x1] D (tM cy) (wM ad cy) sz σ res :=
  zMu.of (cc := cX12_draws) (maxL := 5) (ret := none) (by decide) rfl (Nat.le_of_ble_eq_true rfl) (fun p e s m args below meth c hC A hI ls hl => bX12_draws hC hI hl hf)
theorem hdX12_draws : yX12_draws.cls = RX12 ∧ yX12_draws.cls ≠ "java/lang/invoke/MethodHandle" ∧ yX12_draws.cls ≠ "java/lang/invoke/VarHandle" ∧ (parseMethodDescriptor yX12_draws.desc).map (fun d => d.parameters.length) = some 1 := by decide +kernel
noncomputable def rmX12_planned : Room := { frames := 0, cells := 0, slots := 0, locals := 0 }
noncomputable def wzX12_planned : List Cond := .code yX12_planned cX12_planned 2 none :: wsL_law
theorem hinX12_planned_X120 : ∀ w ∈ wsX120, w ∈ wzX12_planned := fun w h => List.mem_cons_of_mem _ (inlX12 w h)
noncomputable def fX12_planned_113  (σ : zSt)  : Option (zSt) :=
  some σ
noncomputable def fX12_planned_68_body (k0 : zSt → Option (zSt)) (k68 : zSt → Int32 → Option (zSt)) (σ : zSt) (x1 : Int32) : Option (zSt) :=
  zck (zin 171 1048) (
  if (3 * (zgi σ 3 (171 : Int32).toNatClampNeg)) ≤ x1 then k0 σ  else
  zck (zin ((280 + x1) + 3) 1048) (
  zck (zin (280 + x1) 1048) (zbv (zsi σ 3 ((280 + x1).toNatClampNeg) (zgi σ 3 ((280 + x1) + 3).toNatClampNeg)) (fun σ1 =>
  zbv (x1 + 1) (fun v2 =>
  k68 σ1 v2)))))
noncomputable def fX12_planned_68 (k0 : zSt → Option (zSt)) : Nat → zSt → Int32 → Option (zSt)
  | 0, _, _ => none
  | n + 1, σ, x1 => fX12_planned_68_body k0 (fX12_planned_68 k0 n) σ x1
noncomputable def fX12_planned_0_body (k0 : zSt → Option (zSt)) (σ : zSt)  : Option (zSt) :=
  zck (zin 171 1048) (
  if (zgi σ 3 (171 : Int32).toNatClampNeg) ≤ 0 then fX12_planned_113 σ else
  zck (zin 280 1048) (
  zck (zin 2 5) (
  if 0 < (lg_cmp ((zgi σ 3 (280 : Int32).toNatClampNeg).toInt64) (zgl σ 4 (2 : Int32).toNatClampNeg)) then fX12_planned_113 σ else
  zck (zin 281 1048) (
  zck (zin 282 1048) (
  zck (zin (42 + (zgi σ 3 (281 : Int32).toNatClampNeg)) 1048) (zbv (zsi σ 3 ((42 + (zgi σ 3 (281 : Int32).toNatClampNeg)).toNatClampNeg) (zgi σ 3 (282 : Int32).toNatClampNeg)) (fun σ3 =>
  zck (zin 171 1048) (
  zck (zin 171 1048) (zbv (zsi σ3 3 ((171 : Int32).toNatClampNeg) ((zgi σ3 3 (171 : Int32).toNatClampNeg) - 1)) (fun σ4 =>
  fX12_planned_68 k0 zfuel σ4 0))))))))))
noncomputable def fX12_planned_0  : Nat → zSt → Option (zSt)
  | 0, _ => none
  | n + 1, σ => fX12_planned_0_body (fX12_planned_0  n) σ 
noncomputable def fX12_planned (σ : zSt)  : Option (zSt) := fX12_planned_0 zfuel σ
set_option maxRecDepth 20000 in
set_option maxHeartbeats 4000000 in
theorem bX12_planned_113 {st : Nat → Nat} {p : Program} {l : Launch} {e : Env} {s : State} {m : MethodId} {args : Array Value} {below : List Frame} {meth : Method} {c : Code} {D : va_G} {A : Nat → Prop} {ad : Nat → Nat} {cy : Nat → ClassId} (hC : zC p m c cX12_planned 2 s args wzX12_planned RX12 meth none)  {res : zSt} {H : Heap} {locs : List Loc} {σ : zSt} {ls : Array Slot}  (hI : zI st D (tM cy) (wM ad cy σ) A s H locs) (hl : lv_has ls 2 []) (hf : fX12_planned_113  σ  = some res) : W p l e rmX12_planned s m args below meth c H locs 0 0 (zQu below args s D (tM cy) (wM ad cy) A res) (F0 m 113 ls []) := by
  have hx := hC.1
  have hb := hC.2.1
  unfold fX12_planned_113 at hf
  exact z_return hC hI hf dX12_planned_113
set_option maxRecDepth 20000 in
set_option maxHeartbeats 4000000 in
theorem bX12_planned_68_body {st : Nat → Nat} {p : Program} {l : Launch} {e : Env} {s : State} {m : MethodId} {args : Array Value} {below : List Frame} {meth : Method} {c : Code} {D : va_G} {A : Nat → Prop} {ad : Nat → Nat} {cy : Nat → ClassId} (hC : zC p m c cX12_planned 2 s args wzX12_planned RX12 meth none) {k0 : zSt → Option (zSt)} {k68 : zSt → Int32 → Option (zSt)} {res : zSt} (hk0 : ∀ (H : Heap) (locs : List Loc) (σ : zSt) (ls : Array Slot) , zI st D (tM cy) (wM ad cy σ) A s H locs → lv_has ls 2 [(0, .ref (ad 0))] → k0 σ  = some res → W p l e rmX12_planned s m args below meth c H locs 0 0 (zQu below args s D (tM cy) (wM ad cy) A res) (F0 m 0 ls [])) (hk68 : ∀ (H : Heap) (locs : List Loc) (σ : zSt) (ls : Array Slot) (x1 : Int32), zI st D (tM cy) (wM ad cy σ) A s H locs → lv_has ls 2 [(0, .ref (ad 0)), (1, .int x1)] → k68 σ x1 = some res → W p l e rmX12_planned s m args below meth c H locs 0 0 (zQu below args s D (tM cy) (wM ad cy) A res) (F0 m 68 ls [])) {H : Heap} {locs : List Loc} {σ : zSt} {ls : Array Slot} {x1 : Int32} (hI : zI st D (tM cy) (wM ad cy σ) A s H locs) (hl : lv_has ls 2 [(0, .ref (ad 0)), (1, .int x1)]) (hf : fX12_planned_68_body k0 k68 σ x1 = some res) : W p l e rmX12_planned s m args below meth c H locs 0 0 (zQu below args s D (tM cy) (wM ad cy) A res) (F0 m 68 ls []) := by
  have hx := hC.1
  have hb := hC.2.1
  unfold fX12_planned_68_body at hf
  refine lv_iload_n hx hb dX12_planned_68 rfl (lv_at hl 1 rfl) ?_
  refine lv_iconst (v := 3) hx hb dX12_planned_69 (by decide) ?_
  refine lv_aload_n hx hb dX12_planned_70 rfl (lv_at hl 0 rfl) ?_
  refine z_get hC hI hinX12_planned_X120 0 (wM_e0 ad cy σ) rfl 10 (by decide) (List.mem_cons_of_mem _ zw9_7) rfl dX12_planned_71 ?_
  refine lv_sipush (v := 171) hx hb dX12_planned_74 (by decide) ?_
  obtain ⟨q, hf⟩ := zck_use hf
  refine z_iald hC hI 3 2 (wM_e3 ad cy σ) (tM_t3 cy) q dX12_planned_77 ?_
  refine lv_imul hx hb dX12_planned_78 ?_
  refine lv_icmp_ge (tgt := 110) hx hb dX12_planned_79 (by decide) (fun q => ?_) (fun q => ?_)
  · replace hf := zif_t q hf
    refine lv_goto (tgt := 0) hx hb dX12_planned_110 (by decide) ?_
    exact hk0 _ _ _ _  hI (lv_sub hl [0] rfl) hf
  replace hf := zif_f q hf
  refine lv_aload_n hx hb dX12_planned_82 rfl (lv_at hl 0 rfl) ?_
  refine z_get hC hI hinX12_planned_X120 0 (wM_e0 ad cy σ) rfl 10 (by decide) (List.mem_cons_of_mem _ zw9_7) rfl dX12_planned_83 ?_
  refine lv_sipush (v := 280) hx hb dX12_planned_86 (by decide) ?_
  refine lv_iload_n hx hb dX12_planned_89 rfl (lv_at hl 1 rfl) ?_
  refine lv_iadd hx hb dX12_planned_90 ?_
  refine lv_aload_n hx hb dX12_planned_91 rfl (lv_at hl 0 rfl) ?_
  refine z_get hC hI hinX12_planned_X120 0 (wM_e0 ad cy σ) rfl 10 (by decide) (List.mem_cons_of_mem _ zw9_7) rfl dX12_planned_92 ?_
  refine lv_sipush (v := 280) hx hb dX12_planned_95 (by decide) ?_
  refine lv_iload_n hx hb dX12_planned_98 rfl (lv_at hl 1 rfl) ?_
  refine lv_iadd hx hb dX12_planned_99 ?_
  refine lv_iconst (v := 3) hx hb dX12_planned_100 (by decide) ?_
  refine lv_iadd hx hb dX12_planned_101 ?_
  obtain ⟨q, hf⟩ := zck_use hf
  refine z_iald hC hI 3 2 (wM_e3 ad cy σ) (tM_t3 cy) q dX12_planned_102 ?_
  obtain ⟨q, hf⟩ := zck_use hf
  obtain ⟨σ1, eσ1⟩ : ∃ z, z = zsi σ 3 ((280 + x1).toNatClampNeg) (zgi σ 3 ((280 + x1) + 3).toNatClampNeg) := ⟨_, rfl⟩
  replace hf := zbv_use eσ1 hf
  refine z_iast hC hI 3 2 (wM_e3 ad cy σ) (tM_t3 cy) q ((wM_s3 ad cy σ _ _).trans (congrArg (wM ad cy) eσ1.symm)) dX12_planned_103 (fun H locs hI => ?_)
  obtain ⟨v2, ev2⟩ : ∃ z : Int32, z = x1 + 1 := ⟨_, rfl⟩
  replace hf := zbv_use ev2 hf
  refine lv_iinc (v := v2) (lv' := [(1, .int v2), (0, .ref (ad 0))]) hx hb dX12_planned_104 hl (k := 1) rfl (by rw [ev2]; rfl) (by decide) rfl (fun ls hl => ?_)
  refine lv_goto (tgt := 68) hx hb dX12_planned_107 (by decide) ?_
  exact hk68 _ _ _ _ _ hI (lv_sub hl [1, 0] rfl) hf
theorem blX12_planned_68 {st : Nat → Nat} {p : Program} {l : Launch} {e : Env} {s : State} {m : MethodId} {args : Array Value} {below : List Frame} {meth : Method} {c : Code} {D : va_G} {A : Nat → Prop} {ad : Nat → Nat} {cy : Nat → ClassId} (hC : zC p m c cX12_planned 2 s args wzX12_planned RX12 meth none) {k0 : zSt → Option (zSt)} {res : zSt} (hk0 : ∀ (H : Heap) (locs : List Loc) (σ : zSt) (ls : Array Slot) , zI st D (tM cy) (wM ad cy σ) A s H locs → lv_has ls 2 [(0, .ref (ad 0))] → k0 σ  = some res → W p l e rmX12_planned s m args below meth c H locs 0 0 (zQu below args s D (tM cy) (wM ad cy) A res) (F0 m 0 ls [])) : ∀ (n : Nat) (H : Heap) (locs : List Loc) (σ : zSt) (ls : Array Slot) (x1 : Int32), zI st D (tM cy) (wM ad cy σ) A s H locs → lv_has ls 2 [(0, .ref (ad 0)), (1, .int x1)] → fX12_planned_68 k0 n σ x1 = some res → W p l e rmX12_planned s m args below meth c H locs 0 0 (zQu below args s D (tM cy) (wM ad cy) A res) (F0 m 68 ls []) := by
  intro n
  induction n with
  | zero => intro H locs σ ls x1 hI hl hf; cases hf
  | succ n ih => intro H locs σ ls x1 hI hl hf; exact bX12_planned_68_body hC hk0 ih hI hl hf
set_option maxRecDepth 20000 in
set_option maxHeartbeats 4000000 in
theorem bX12_planned_0_body {st : Nat → Nat} {p : Program} {l : Launch} {e : Env} {s : State} {m : MethodId} {args : Array Value} {below : List Frame} {meth : Method} {c : Code} {D : va_G} {A : Nat → Prop} {ad : Nat → Nat} {cy : Nat → ClassId} (hC : zC p m c cX12_planned 2 s args wzX12_planned RX12 meth none) {k0 : zSt → Option (zSt)} {res : zSt} (hk0 : ∀ (H : Heap) (locs : List Loc) (σ : zSt) (ls : Array Slot) , zI st D (tM cy) (wM ad cy σ) A s H locs → lv_has ls 2 [(0, .ref (ad 0))] → k0 σ  = some res → W p l e rmX12_planned s m args below meth c H locs 0 0 (zQu below args s D (tM cy) (wM ad cy) A res) (F0 m 0 ls [])) {H : Heap} {locs : List Loc} {σ : zSt} {ls : Array Slot}  (hI : zI st D (tM cy) (wM ad cy σ) A s H locs) (hl : lv_has ls 2 [(0, .ref (ad 0))]) (hf : fX12_planned_0_body k0 σ  = some res) : W p l e rmX12_planned s m args below meth c H locs 0 0 (zQu below args s D (tM cy) (wM ad cy) A res) (F0 m 0 ls []) := by
  have hx := hC.1
  have hb := hC.2.1
  unfold fX12_planned_0_body at hf
  refine lv_aload_n hx hb dX12_planned_0 rfl (lv_at hl 0 rfl) ?_
  refine z_get hC hI hinX12_planned_X120 0 (wM_e0 ad cy σ) rfl 10 (by decide) (List.mem_cons_of_mem _ zw9_7) rfl dX12_planned_1 ?_
  refine lv_sipush (v := 171) hx hb dX12_planned_4 (by decide) ?_
  obtain ⟨q, hf⟩ := zck_use hf
  refine z_iald hC hI 3 2 (wM_e3 ad cy σ) (tM_t3 cy) q dX12_planned_7 ?_
  refine lv_if_le (tgt := 113) hx hb dX12_planned_8 (by decide) (fun q => ?_) (fun q => ?_)
  · replace hf := zif_t q hf
    exact bX12_planned_113 hC  hI (lv_sub hl [] rfl) hf
  replace hf := zif_f q hf
  refine lv_aload_n hx hb dX12_planned_11 rfl (lv_at hl 0 rfl) ?_
  refine z_get hC hI hinX12_planned_X120 0 (wM_e0 ad cy σ) rfl 10 (by decide) (List.mem_cons_of_mem _ zw9_7) rfl dX12_planned_12 ?_
  refine lv_sipush (v := 280) hx hb dX12_planned_15 (by decide) ?_
  obtain ⟨q, hf⟩ := zck_use hf
  refine z_iald hC hI 3 2 (wM_e3 ad cy σ) (tM_t3 cy) q dX12_planned_18 ?_
  refine lv_i2l (v := (zgi σ 3 (280 : Int32).toNatClampNeg).toInt64) hx hb dX12_planned_19 rfl ?_
  refine lv_aload_n hx hb dX12_planned_20 rfl (lv_at hl 0 rfl) ?_
  refine z_get hC hI hinX12_planned_X120 0 (wM_e0 ad cy σ) rfl 11 (by decide) (List.mem_cons_of_mem _ zw9_8) rfl dX12_planned_21 ?_
  refine lv_iconst (v := 2) hx hb dX12_planned_24 (by decide) ?_
  obtain ⟨q, hf⟩ := zck_use hf
  refine z_lald hC hI 4 3 (wM_e4 ad cy σ) (tM_t4 cy) q dX12_planned_25 ?_
  refine W.lcmp hx hb dX12_planned_26 ?_
  refine lv_if_gt (tgt := 113) hx hb dX12_planned_27 (by decide) (fun q => ?_) (fun q => ?_)
  · replace hf := zif_t q hf
    exact bX12_planned_113 hC  hI (lv_sub hl [] rfl) hf
  replace hf := zif_f q hf
  refine lv_aload_n hx hb dX12_planned_30 rfl (lv_at hl 0 rfl) ?_
  refine z_get hC hI hinX12_planned_X120 0 (wM_e0 ad cy σ) rfl 10 (by decide) (List.mem_cons_of_mem _ zw9_7) rfl dX12_planned_31 ?_
  refine lv_bipush (v := 42) hx hb dX12_planned_34 (by decide) ?_
  refine lv_aload_n hx hb dX12_planned_36 rfl (lv_at hl 0 rfl) ?_
  refine z_get hC hI hinX12_planned_X120 0 (wM_e0 ad cy σ) rfl 10 (by decide) (List.mem_cons_of_mem _ zw9_7) rfl dX12_planned_37 ?_
  refine lv_sipush (v := 281) hx hb dX12_planned_40 (by decide) ?_
  obtain ⟨q, hf⟩ := zck_use hf
  refine z_iald hC hI 3 2 (wM_e3 ad cy σ) (tM_t3 cy) q dX12_planned_43 ?_
  refine lv_iadd hx hb dX12_planned_44 ?_
  refine lv_aload_n hx hb dX12_planned_45 rfl (lv_at hl 0 rfl) ?_
  refine z_get hC hI hinX12_planned_X120 0 (wM_e0 ad cy σ) rfl 10 (by decide) (List.mem_cons_of_mem _ zw9_7) rfl dX12_planned_46 ?_
  refine lv_sipush (v := 282) hx hb dX12_planned_49 (by decide) ?_
  obtain ⟨q, hf⟩ := zck_use hf
  refine z_iald hC hI 3 2 (wM_e3 ad cy σ) (tM_t3 cy) q dX12_planned_52 ?_
  obtain ⟨q, hf⟩ := zck_use hf
  obtain ⟨σ3, eσ3⟩ : ∃ z, z = zsi σ 3 ((42 + (zgi σ 3 (281 : Int32).toNatClampNeg)).toNatClampNeg) (zgi σ 3 (282 : Int32).toNatClampNeg) := ⟨_, rfl⟩
  replace hf := zbv_use eσ3 hf
  refine z_iast hC hI 3 2 (wM_e3 ad cy σ) (tM_t3 cy) q ((wM_s3 ad cy σ _ _).trans (congrArg (wM ad cy) eσ3.symm)) dX12_planned_53 (fun H locs hI => ?_)
  refine lv_aload_n hx hb dX12_planned_54 rfl (lv_at hl 0 rfl) ?_
  refine z_get hC hI hinX12_planned_X120 0 (wM_e0 ad cy σ3) rfl 10 (by decide) (List.mem_cons_of_mem _ zw9_7) rfl dX12_planned_55 ?_
  refine lv_sipush (v := 171) hx hb dX12_planned_58 (by decide) ?_
  refine lv_dup2_11 hx hb dX12_planned_61 rfl rfl ?_
  obtain ⟨q, hf⟩ := zck_use hf
  refine z_iald hC hI 3 2 (wM_e3 ad cy σ3) (tM_t3 cy) q dX12_planned_62 ?_
  refine lv_iconst (v := 1) hx hb dX12_planned_63 (by decide) ?_
  refine lv_isub hx hb dX12_planned_64 ?_
  obtain ⟨q, hf⟩ := zck_use hf
  obtain ⟨σ4, eσ4⟩ : ∃ z, z = zsi σ3 3 ((171 : Int32).toNatClampNeg) ((zgi σ3 3 (171 : Int32).toNatClampNeg) - 1) := ⟨_, rfl⟩
  replace hf := zbv_use eσ4 hf
  refine z_iast hC hI 3 2 (wM_e3 ad cy σ3) (tM_t3 cy) q ((wM_s3 ad cy σ3 _ _).trans (congrArg (wM ad cy) eσ4.symm)) dX12_planned_65 (fun H locs hI => ?_)
  refine lv_iconst (v := 0) hx hb dX12_planned_66 (by decide) ?_
  refine lv_istore_n (lv' := [(1, .int 0), (0, .ref (ad 0))]) hx hb dX12_planned_67 rfl hl (by decide) rfl (fun ls hl => ?_)
  exact blX12_planned_68 hC hk0 zfuel _ _ _ _ _ hI (lv_sub hl [1, 0] rfl) hf
theorem blX12_planned_0 {st : Nat → Nat} {p : Program} {l : Launch} {e : Env} {s : State} {m : MethodId} {args : Array Value} {below : List Frame} {meth : Method} {c : Code} {D : va_G} {A : Nat → Prop} {ad : Nat → Nat} {cy : Nat → ClassId} (hC : zC p m c cX12_planned 2 s args wzX12_planned RX12 meth none)  {res : zSt} : ∀ (n : Nat) (H : Heap) (locs : List Loc) (σ : zSt) (ls : Array Slot) , zI st D (tM cy) (wM ad cy σ) A s H locs → lv_has ls 2 [(0, .ref (ad 0))] → fX12_planned_0  n σ  = some res → W p l e rmX12_planned s m args below meth c H locs 0 0 (zQu below args s D (tM cy) (wM ad cy) A res) (F0 m 0 ls []) := by
  intro n
  induction n with
  | zero => intro H locs σ ls  hI hl hf; cases hf
  | succ n ih => intro H locs σ ls  hI hl hf; exact bX12_planned_0_body hC ih hI hl hf
set_option maxRecDepth 20000 in
theorem cX12_planned_met (st : Nat → Nat) (l : Launch) (D : va_G) (ad : Nat → Nat) (cy : Nat → ClassId) (σ : zSt)  (res : zSt) (hf : fX12_planned σ  = some res) (sz : Nat) : zMu st l yX12_planned wzX12_planned rmX12_planned [.ref (ad 0)] D (tM cy) (wM ad cy) sz σ res :=
  zMu.of (cc := cX12_planned) (maxL := 2) (ret := none) (by decide) rfl (Nat.le_of_ble_eq_true rfl) (fun p e s m args below meth c hC A hI ls hl => blX12_planned_0 hC zfuel _ _ _ _  hI (lv_sub hl [0] rfl) hf)
theorem hdX12_planned : yX12_planned.cls = RX12 ∧ yX12_planned.cls ≠ "java/lang/invoke/MethodHandle" ∧ yX12_planned.cls ≠ "java/lang/invoke/VarHandle" ∧ (parseMethodDescriptor yX12_planned.desc).map (fun d => d.parameters.length) = some 0 := by decide +kernel
noncomputable def rmX12_ends : Room := { frames := 5, cells := 0, slots := 0, locals := 120 }
noncomputable def wzX12_ends : List Cond := .code yX12_ends cX12_ends 2 none :: wsL_law
theorem hinX12_ends_X120 : ∀ w ∈ wsX120, w ∈ wzX12_ends := fun w h => List.mem_cons_of_mem _ (inlX12 w h)
noncomputable def fX12_ends_195  (σ : zSt)  : Option (zSt) :=
  some σ
noncomputable def fX12_ends_169  (σ : zSt) (x1 : Int32) : Option (zSt) :=
  zck (zin 66 1048) (
  if (zgi σ 3 (66 : Int32).toNatClampNeg) = (x1 + 1) then zck (zin 62 1048) (
  zck (zin 62 1048) (zbv (zsi σ 3 ((62 : Int32).toNatClampNeg) ((zgi σ 3 (62 : Int32).toNatClampNeg) ||| 128)) (fun σ1 =>
  fX12_ends_195 σ1))) else
  fX12_ends_195 σ)
noncomputable def fX12_ends_131  (σ : zSt) (x1 : Int32) (s0 : Int32) (s1 : Int32) : Option (zSt) :=
  if s1 = s0 then zck (zin 66 1048) (zbv (zsi σ 3 ((66 : Int32).toNatClampNeg) 0) (fun σ2 =>
  zbi (fX12_reg σ2 9) (fun σ3 v4 =>
  zck (zin 65 1048) (zbv (zsi σ3 3 ((65 : Int32).toNatClampNeg) v4) (fun σ5 =>
  zck (zin 2 5) (
  zck (zin 2 5) (zbv (zsl σ5 4 ((2 : Int32).toNatClampNeg) ((zgl σ5 4 (2 : Int32).toNatClampNeg) + 1)) (fun σ6 =>
  zbu (fX12_planned σ6 ) (fun σ7 =>
  fX12_ends_169 σ7 x1))))))))) else
  fX12_ends_169 σ x1
noncomputable def fX12_ends_96  (σ : zSt) (x1 : Int32) : Option (zSt) :=
  zck (zin 66 1048) (
  zck (zin 66 1048) (zbv (zsi σ 3 ((66 : Int32).toNatClampNeg) ((zgi σ 3 (66 : Int32).toNatClampNeg) + 1)) (fun σ8 =>
  zck (zin 66 1048) (
  if (zgi σ8 0 3) = 1 then fX12_ends_131 σ8 x1 313 (zgi σ8 3 (66 : Int32).toNatClampNeg) else
  fX12_ends_131 σ8 x1 262 (zgi σ8 3 (66 : Int32).toNatClampNeg)))))
noncomputable def fX12_ends_27  (σ : zSt) (x1 : Int32) : Option (zSt) :=
  zck (zin 66 1048) (
  if x1 < (zgi σ 3 (66 : Int32).toNatClampNeg) then zbi (fX12_reg σ 10) (fun σ9 v10 =>
  zck (zin 64 1048) (zbv (zsi σ9 3 ((64 : Int32).toNatClampNeg) v10) (fun σ11 =>
  fX12_ends_96 σ11 x1))) else
  zck (zin 64 1048) (
  zck (zin 64 1048) (zbv (zsi σ 3 ((64 : Int32).toNatClampNeg) ((zgi σ 3 (64 : Int32).toNatClampNeg) - 1)) (fun σ12 =>
  zck (zin 64 1048) (
  if 0 ≤ (zgi σ12 3 (64 : Int32).toNatClampNeg) then fX12_ends_96 σ12 x1 else
  zbi (fX12_reg σ12 10) (fun σ13 v14 =>
  zck (zin 64 1048) (zbv (zsi σ13 3 ((64 : Int32).toNatClampNeg) v14) (fun σ15 =>
  zck (zin 63 1048) (zbv (zsi σ15 3 ((63 : Int32).toNatClampNeg) 1) (fun σ16 =>
  fX12_ends_96 σ16 x1))))))))))
noncomputable def fX12_ends  (σ : zSt)  : Option (zSt) :=
  zbi (fX12_height σ ) (fun σ17 v18 =>
  zck (zin 66 1048) (
  if v18 ≤ (zgi σ17 3 (66 : Int32).toNatClampNeg) then fX12_ends_27 σ17 v18 else
  zck (zin 66 1048) (
  zbu (fX12_draws σ17 (zgi σ17 3 (66 : Int32).toNatClampNeg)) (fun σ19 =>
  fX12_ends_27 σ19 v18))))
set_option maxRecDepth 20000 in
set_option maxHeartbeats 4000000 in
theorem bX12_ends_195 {st : Nat → Nat} {p : Program} {l : Launch} {e : Env} {s : State} {m : MethodId} {args : Array Value} {below : List Frame} {meth : Method} {c : Code} {D : va_G} {A : Nat → Prop} {ad : Nat → Nat} {cy : Nat → ClassId} (hC : zC p m c cX12_ends 2 s args wzX12_ends RX12 meth none)  {res : zSt} {H : Heap} {locs : List Loc} {σ : zSt} {ls : Array Slot}  (hI : zI st D (tM cy) (wM ad cy σ) A s H locs) (hl : lv_has ls 2 []) (hf : fX12_ends_195  σ  = some res) : W p l e rmX12_ends s m args below meth c H locs 0 0 (zQu below args s D (tM cy) (wM ad cy) A res) (F0 m 195 ls []) := by
  have hx := hC.1
  have hb := hC.2.1
  unfold fX12_ends_195 at hf
  exact z_return hC hI hf dX12_ends_195
set_option maxRecDepth 20000 in
set_option maxHeartbeats 4000000 in
theorem bX12_ends_169 {st : Nat → Nat} {p : Program} {l : Launch} {e : Env} {s : State} {m : MethodId} {args : Array Value} {below : List Frame} {meth : Method} {c : Code} {D : va_G} {A : Nat → Prop} {ad : Nat → Nat} {cy : Nat → ClassId} (hC : zC p m c cX12_ends 2 s args wzX12_ends RX12 meth none)  {res : zSt} {H : Heap} {locs : List Loc} {σ : zSt} {ls : Array Slot} {x1 : Int32} (hI : zI st D (tM cy) (wM ad cy σ) A s H locs) (hl : lv_has ls 2 [(0, .ref (ad 0)), (1, .int x1)]) (hf : fX12_ends_169  σ x1 = some res) : W p l e rmX12_ends s m args below meth c H locs 0 0 (zQu below args s D (tM cy) (wM ad cy) A res) (F0 m 169 ls []) := by
  have hx := hC.1
  have hb := hC.2.1
  unfold fX12_ends_169 at hf
  refine lv_aload_n hx hb dX12_ends_169 rfl (lv_at hl 0 rfl) ?_
  refine z_get hC hI hinX12_ends_X120 0 (wM_e0 ad cy σ) rfl 10 (by decide) (List.mem_cons_of_mem _ zw9_7) rfl dX12_ends_170 ?_
  refine lv_bipush (v := 66) hx hb dX12_ends_173 (by decide) ?_
  obtain ⟨q, hf⟩ := zck_use hf
  refine z_iald hC hI 3 2 (wM_e3 ad cy σ) (tM_t3 cy) q dX12_ends_175 ?_
  refine lv_iload_n hx hb dX12_ends_176 rfl (lv_at hl 1 rfl) ?_
  refine lv_iconst (v := 1) hx hb dX12_ends_177 (by decide) ?_
  refine lv_iadd hx hb dX12_ends_178 ?_
  refine lv_icmp_ne (tgt := 195) hx hb dX12_ends_179 (by decide) (fun q => ?_) (fun q => ?_)
  · replace hf := zif_f q hf
    exact bX12_ends_195 hC  hI (lv_sub hl [] rfl) hf
  replace hf := zif_t q hf
  refine lv_aload_n hx hb dX12_ends_182 rfl (lv_at hl 0 rfl) ?_
  refine z_get hC hI hinX12_ends_X120 0 (wM_e0 ad cy σ) rfl 10 (by decide) (List.mem_cons_of_mem _ zw9_7) rfl dX12_ends_183 ?_
  refine lv_bipush (v := 62) hx hb dX12_ends_186 (by decide) ?_
  refine lv_dup2_11 hx hb dX12_ends_188 rfl rfl ?_
  obtain ⟨q, hf⟩ := zck_use hf
  refine z_iald hC hI 3 2 (wM_e3 ad cy σ) (tM_t3 cy) q dX12_ends_189 ?_
  refine lv_sipush (v := 128) hx hb dX12_ends_190 (by decide) ?_
  refine lv_ior hx hb dX12_ends_193 ?_
  obtain ⟨q, hf⟩ := zck_use hf
  obtain ⟨σ1, eσ1⟩ : ∃ z, z = zsi σ 3 ((62 : Int32).toNatClampNeg) ((zgi σ 3 (62 : Int32).toNatClampNeg) ||| 128) := ⟨_, rfl⟩
  replace hf := zbv_use eσ1 hf
  refine z_iast hC hI 3 2 (wM_e3 ad cy σ) (tM_t3 cy) q ((wM_s3 ad cy σ _ _).trans (congrArg (wM ad cy) eσ1.symm)) dX12_ends_194 (fun H locs hI => ?_)
  exact bX12_ends_195 hC  hI (lv_sub hl [] rfl) hf
set_option maxRecDepth 20000 in
set_option maxHeartbeats 4000000 in
theorem bX12_ends_131 {st : Nat → Nat} {p : Program} {l : Launch} {e : Env} {s : State} {m : MethodId} {args : Array Value} {below : List Frame} {meth : Method} {c : Code} {D : va_G} {A : Nat → Prop} {ad : Nat → Nat} {cy : Nat → ClassId} (hC : zC p m c cX12_ends 2 s args wzX12_ends RX12 meth none)  {res : zSt} {H : Heap} {locs : List Loc} {σ : zSt} {ls : Array Slot} {x1 : Int32} {s0 : Int32} {s1 : Int32} (hI : zI st D (tM cy) (wM ad cy σ) A s H locs) (hl : lv_has ls 2 [(0, .ref (ad 0)), (1, .int x1)]) (hf : fX12_ends_131  σ x1 s0 s1 = some res) : W p l e rmX12_ends s m args below meth c H locs 0 0 (zQu below args s D (tM cy) (wM ad cy) A res) (F0 m 131 ls [.int s0, .int s1]) := by
  have hx := hC.1
  have hb := hC.2.1
  unfold fX12_ends_131 at hf
  refine lv_icmp_ne (tgt := 169) hx hb dX12_ends_131 (by decide) (fun q => ?_) (fun q => ?_)
  · replace hf := zif_f q hf
    exact bX12_ends_169 hC  hI hl hf
  replace hf := zif_t q hf
  refine lv_aload_n hx hb dX12_ends_134 rfl (lv_at hl 0 rfl) ?_
  refine z_get hC hI hinX12_ends_X120 0 (wM_e0 ad cy σ) rfl 10 (by decide) (List.mem_cons_of_mem _ zw9_7) rfl dX12_ends_135 ?_
  refine lv_bipush (v := 66) hx hb dX12_ends_138 (by decide) ?_
  refine lv_iconst (v := 0) hx hb dX12_ends_140 (by decide) ?_
  obtain ⟨q, hf⟩ := zck_use hf
  obtain ⟨σ2, eσ2⟩ : ∃ z, z = zsi σ 3 ((66 : Int32).toNatClampNeg) 0 := ⟨_, rfl⟩
  replace hf := zbv_use eσ2 hf
  refine z_iast hC hI 3 2 (wM_e3 ad cy σ) (tM_t3 cy) q ((wM_s3 ad cy σ _ _).trans (congrArg (wM ad cy) eσ2.symm)) dX12_ends_141 (fun H locs hI => ?_)
  refine lv_aload_n hx hb dX12_ends_142 rfl (lv_at hl 0 rfl) ?_
  refine z_get hC hI hinX12_ends_X120 0 (wM_e0 ad cy σ2) rfl 10 (by decide) (List.mem_cons_of_mem _ zw9_7) rfl dX12_ends_143 ?_
  refine lv_bipush (v := 65) hx hb dX12_ends_146 (by decide) ?_
  refine lv_aload_n hx hb dX12_ends_148 rfl (lv_at hl 0 rfl) ?_
  refine lv_bipush (v := 9) hx hb dX12_ends_149 (by decide) ?_
  obtain ⟨σ3, v4, g3, hf⟩ := zbi_use hf
  refine z_callVi (As := [.int 9]) (rest := [.int 65, .ref (ad 3)]) hC hI (cX12_reg_met st l D ad cy σ2 9 _ g3) (zgV zw59_6 zw59_7 zw59_8 zw1_5 zw59_9) rfl ⟨rfl, rfl⟩ 1 hdX12_reg ⟨Nat.le_of_ble_eq_true rfl, Nat.le_of_ble_eq_true rfl⟩ rfl rfl (wM_e0 ad cy σ2) rfl hl rfl (Nat.le_of_ble_eq_true rfl) dX12_ends_151 ⟨Nat.zero_le _, Nat.zero_le _⟩ (fun H locs hI => ?_)
  obtain ⟨q, hf⟩ := zck_use hf
  obtain ⟨σ5, eσ5⟩ : ∃ z, z = zsi σ3 3 ((65 : Int32).toNatClampNeg) v4 := ⟨_, rfl⟩
  replace hf := zbv_use eσ5 hf
  refine z_iast hC hI 3 2 (wM_e3 ad cy σ3) (tM_t3 cy) q ((wM_s3 ad cy σ3 _ _).trans (congrArg (wM ad cy) eσ5.symm)) dX12_ends_154 (fun H locs hI => ?_)
  refine lv_aload_n hx hb dX12_ends_155 rfl (lv_at hl 0 rfl) ?_
  refine z_get hC hI hinX12_ends_X120 0 (wM_e0 ad cy σ5) rfl 11 (by decide) (List.mem_cons_of_mem _ zw9_8) rfl dX12_ends_156 ?_
  refine lv_iconst (v := 2) hx hb dX12_ends_159 (by decide) ?_
  refine lv_dup2_11 hx hb dX12_ends_160 rfl rfl ?_
  obtain ⟨q, hf⟩ := zck_use hf
  refine z_lald hC hI 4 3 (wM_e4 ad cy σ5) (tM_t4 cy) q dX12_ends_161 ?_
  refine lv_lconst (v := 1) hx hb dX12_ends_162 (by decide) ?_
  refine lv_ladd hx hb dX12_ends_163 ?_
  obtain ⟨q, hf⟩ := zck_use hf
  obtain ⟨σ6, eσ6⟩ : ∃ z, z = zsl σ5 4 ((2 : Int32).toNatClampNeg) ((zgl σ5 4 (2 : Int32).toNatClampNeg) + 1) := ⟨_, rfl⟩
  replace hf := zbv_use eσ6 hf
  refine z_last hC hI 4 3 (wM_e4 ad cy σ5) (tM_t4 cy) q ((wM_s4 ad cy σ5 _ _).trans (congrArg (wM ad cy) eσ6.symm)) dX12_ends_164 (fun H locs hI => ?_)
  refine lv_aload_n hx hb dX12_ends_165 rfl (lv_at hl 0 rfl) ?_
  obtain ⟨σ7, g7, hf⟩ := zbu_use hf
  refine z_callVu (As := []) (rest := []) hC hI (cX12_planned_met st l D ad cy σ6  _ g7) (zgV zw60_10 zw60_11 zw60_12 zw1_5 zw60_13) rfl ⟨rfl, rfl⟩ 0 hdX12_planned ⟨Nat.le_of_ble_eq_true rfl, Nat.le_of_ble_eq_true rfl⟩ rfl rfl (wM_e0 ad cy σ6) rfl hl rfl (Nat.le_of_ble_eq_true rfl) dX12_ends_166 ⟨Nat.zero_le _, Nat.zero_le _⟩ (fun H locs hI => ?_)
  exact bX12_ends_169 hC  hI hl hf
set_option maxRecDepth 20000 in
set_option maxHeartbeats 4000000 in
theorem bX12_ends_96 {st : Nat → Nat} {p : Program} {l : Launch} {e : Env} {s : State} {m : MethodId} {args : Array Value} {below : List Frame} {meth : Method} {c : Code} {D : va_G} {A : Nat → Prop} {ad : Nat → Nat} {cy : Nat → ClassId} (hC : zC p m c cX12_ends 2 s args wzX12_ends RX12 meth none)  {res : zSt} {H : Heap} {locs : List Loc} {σ : zSt} {ls : Array Slot} {x1 : Int32} (hI : zI st D (tM cy) (wM ad cy σ) A s H locs) (hl : lv_has ls 2 [(0, .ref (ad 0)), (1, .int x1)]) (hf : fX12_ends_96  σ x1 = some res) : W p l e rmX12_ends s m args below meth c H locs 0 0 (zQu below args s D (tM cy) (wM ad cy) A res) (F0 m 96 ls []) := by
  have hx := hC.1
  have hb := hC.2.1
  unfold fX12_ends_96 at hf
  refine lv_aload_n hx hb dX12_ends_96 rfl (lv_at hl 0 rfl) ?_
  refine z_get hC hI hinX12_ends_X120 0 (wM_e0 ad cy σ) rfl 10 (by decide) (List.mem_cons_of_mem _ zw9_7) rfl dX12_ends_97 ?_
  refine lv_bipush (v := 66) hx hb dX12_ends_100 (by decide) ?_
  refine lv_dup2_11 hx hb dX12_ends_102 rfl rfl ?_
  obtain ⟨q, hf⟩ := zck_use hf
  refine z_iald hC hI 3 2 (wM_e3 ad cy σ) (tM_t3 cy) q dX12_ends_103 ?_
  refine lv_iconst (v := 1) hx hb dX12_ends_104 (by decide) ?_
  refine lv_iadd hx hb dX12_ends_105 ?_
  obtain ⟨q, hf⟩ := zck_use hf
  obtain ⟨σ8, eσ8⟩ : ∃ z, z = zsi σ 3 ((66 : Int32).toNatClampNeg) ((zgi σ 3 (66 : Int32).toNatClampNeg) + 1) := ⟨_, rfl⟩
  replace hf := zbv_use eσ8 hf
  refine z_iast hC hI 3 2 (wM_e3 ad cy σ) (tM_t3 cy) q ((wM_s3 ad cy σ _ _).trans (congrArg (wM ad cy) eσ8.symm)) dX12_ends_106 (fun H locs hI => ?_)
  refine lv_aload_n hx hb dX12_ends_107 rfl (lv_at hl 0 rfl) ?_
  refine z_get hC hI hinX12_ends_X120 0 (wM_e0 ad cy σ8) rfl 10 (by decide) (List.mem_cons_of_mem _ zw9_7) rfl dX12_ends_108 ?_
  refine lv_bipush (v := 66) hx hb dX12_ends_111 (by decide) ?_
  obtain ⟨q, hf⟩ := zck_use hf
  refine z_iald hC hI 3 2 (wM_e3 ad cy σ8) (tM_t3 cy) q dX12_ends_113 ?_
  refine lv_aload_n hx hb dX12_ends_114 rfl (lv_at hl 0 rfl) ?_
  refine z_get hC hI hinX12_ends_X120 0 (wM_e0 ad cy σ8) rfl 3 (by decide) (List.mem_cons_of_mem _ zw10_10) rfl dX12_ends_115 ?_
  refine lv_iconst (v := 1) hx hb dX12_ends_118 (by decide) ?_
  refine lv_icmp_ne (tgt := 128) hx hb dX12_ends_119 (by decide) (fun q => ?_) (fun q => ?_)
  · replace hf := zif_f q hf
    refine lv_sipush (v := 262) hx hb dX12_ends_128 (by decide) ?_
    exact bX12_ends_131 hC  hI hl hf
  replace hf := zif_t q hf
  refine lv_sipush (v := 313) hx hb dX12_ends_122 (by decide) ?_
  refine lv_goto (tgt := 131) hx hb dX12_ends_125 (by decide) ?_
  exact bX12_ends_131 hC  hI hl hf
set_option maxRecDepth 20000 in
set_option maxHeartbeats 4000000 in
theorem bX12_ends_27 {st : Nat → Nat} {p : Program} {l : Launch} {e : Env} {s : State} {m : MethodId} {args : Array Value} {below : List Frame} {meth : Method} {c : Code} {D : va_G} {A : Nat → Prop} {ad : Nat → Nat} {cy : Nat → ClassId} (hC : zC p m c cX12_ends 2 s args wzX12_ends RX12 meth none)  {res : zSt} {H : Heap} {locs : List Loc} {σ : zSt} {ls : Array Slot} {x1 : Int32} (hI : zI st D (tM cy) (wM ad cy σ) A s H locs) (hl : lv_has ls 2 [(0, .ref (ad 0)), (1, .int x1)]) (hf : fX12_ends_27  σ x1 = some res) : W p l e rmX12_ends s m args below meth c H locs 0 0 (zQu below args s D (tM cy) (wM ad cy) A res) (F0 m 27 ls []) := by
  have hx := hC.1
  have hb := hC.2.1
  unfold fX12_ends_27 at hf
  refine lv_aload_n hx hb dX12_ends_27 rfl (lv_at hl 0 rfl) ?_
  refine z_get hC hI hinX12_ends_X120 0 (wM_e0 ad cy σ) rfl 10 (by decide) (List.mem_cons_of_mem _ zw9_7) rfl dX12_ends_28 ?_
  refine lv_bipush (v := 66) hx hb dX12_ends_31 (by decide) ?_
  obtain ⟨q, hf⟩ := zck_use hf
  refine z_iald hC hI 3 2 (wM_e3 ad cy σ) (tM_t3 cy) q dX12_ends_33 ?_
  refine lv_iload_n hx hb dX12_ends_34 rfl (lv_at hl 1 rfl) ?_
  refine lv_icmp_gt (tgt := 83) hx hb dX12_ends_35 (by decide) (fun q => ?_) (fun q => ?_)
  · replace hf := zif_t q hf
    refine lv_aload_n hx hb dX12_ends_83 rfl (lv_at hl 0 rfl) ?_
    refine z_get hC hI hinX12_ends_X120 0 (wM_e0 ad cy σ) rfl 10 (by decide) (List.mem_cons_of_mem _ zw9_7) rfl dX12_ends_84 ?_
    refine lv_bipush (v := 64) hx hb dX12_ends_87 (by decide) ?_
    refine lv_aload_n hx hb dX12_ends_89 rfl (lv_at hl 0 rfl) ?_
    refine lv_bipush (v := 10) hx hb dX12_ends_90 (by decide) ?_
    obtain ⟨σ9, v10, g9, hf⟩ := zbi_use hf
    refine z_callVi (As := [.int 10]) (rest := [.int 64, .ref (ad 3)]) hC hI (cX12_reg_met st l D ad cy σ 10 _ g9) (zgV zw59_6 zw59_7 zw59_8 zw1_5 zw59_9) rfl ⟨rfl, rfl⟩ 1 hdX12_reg ⟨Nat.le_of_ble_eq_true rfl, Nat.le_of_ble_eq_true rfl⟩ rfl rfl (wM_e0 ad cy σ) rfl hl rfl (Nat.le_of_ble_eq_true rfl) dX12_ends_92 ⟨Nat.zero_le _, Nat.zero_le _⟩ (fun H locs hI => ?_)
    obtain ⟨q, hf⟩ := zck_use hf
    obtain ⟨σ11, eσ11⟩ : ∃ z, z = zsi σ9 3 ((64 : Int32).toNatClampNeg) v10 := ⟨_, rfl⟩
    replace hf := zbv_use eσ11 hf
    refine z_iast hC hI 3 2 (wM_e3 ad cy σ9) (tM_t3 cy) q ((wM_s3 ad cy σ9 _ _).trans (congrArg (wM ad cy) eσ11.symm)) dX12_ends_95 (fun H locs hI => ?_)
    exact bX12_ends_96 hC  hI hl hf
  replace hf := zif_f q hf
  refine lv_aload_n hx hb dX12_ends_38 rfl (lv_at hl 0 rfl) ?_
  refine z_get hC hI hinX12_ends_X120 0 (wM_e0 ad cy σ) rfl 10 (by decide) (List.mem_cons_of_mem _ zw9_7) rfl dX12_ends_39 ?_
  refine lv_bipush (v := 64) hx hb dX12_ends_42 (by decide) ?_
  refine lv_dup2_11 hx hb dX12_ends_44 rfl rfl ?_
  obtain ⟨q, hf⟩ := zck_use hf
  refine z_iald hC hI 3 2 (wM_e3 ad cy σ) (tM_t3 cy) q dX12_ends_45 ?_
  refine lv_iconst (v := 1) hx hb dX12_ends_46 (by decide) ?_
  refine lv_isub hx hb dX12_ends_47 ?_
  obtain ⟨q, hf⟩ := zck_use hf
  obtain ⟨σ12, eσ12⟩ : ∃ z, z = zsi σ 3 ((64 : Int32).toNatClampNeg) ((zgi σ 3 (64 : Int32).toNatClampNeg) - 1) := ⟨_, rfl⟩
  replace hf := zbv_use eσ12 hf
  refine z_iast hC hI 3 2 (wM_e3 ad cy σ) (tM_t3 cy) q ((wM_s3 ad cy σ _ _).trans (congrArg (wM ad cy) eσ12.symm)) dX12_ends_48 (fun H locs hI => ?_)
  refine lv_aload_n hx hb dX12_ends_49 rfl (lv_at hl 0 rfl) ?_
  refine z_get hC hI hinX12_ends_X120 0 (wM_e0 ad cy σ12) rfl 10 (by decide) (List.mem_cons_of_mem _ zw9_7) rfl dX12_ends_50 ?_
  refine lv_bipush (v := 64) hx hb dX12_ends_53 (by decide) ?_
  obtain ⟨q, hf⟩ := zck_use hf
  refine z_iald hC hI 3 2 (wM_e3 ad cy σ12) (tM_t3 cy) q dX12_ends_55 ?_
  refine lv_if_ge (tgt := 96) hx hb dX12_ends_56 (by decide) (fun q => ?_) (fun q => ?_)
  · replace hf := zif_t q hf
    exact bX12_ends_96 hC  hI hl hf
  replace hf := zif_f q hf
  refine lv_aload_n hx hb dX12_ends_59 rfl (lv_at hl 0 rfl) ?_
  refine z_get hC hI hinX12_ends_X120 0 (wM_e0 ad cy σ12) rfl 10 (by decide) (List.mem_cons_of_mem _ zw9_7) rfl dX12_ends_60 ?_
  refine lv_bipush (v := 64) hx hb dX12_ends_63 (by decide) ?_
  refine lv_aload_n hx hb dX12_ends_65 rfl (lv_at hl 0 rfl) ?_
  refine lv_bipush (v := 10) hx hb dX12_ends_66 (by decide) ?_
  obtain ⟨σ13, v14, g13, hf⟩ := zbi_use hf
  refine z_callVi (As := [.int 10]) (rest := [.int 64, .ref (ad 3)]) hC hI (cX12_reg_met st l D ad cy σ12 10 _ g13) (zgV zw59_6 zw59_7 zw59_8 zw1_5 zw59_9) rfl ⟨rfl, rfl⟩ 1 hdX12_reg ⟨Nat.le_of_ble_eq_true rfl, Nat.le_of_ble_eq_true rfl⟩ rfl rfl (wM_e0 ad cy σ12) rfl hl rfl (Nat.le_of_ble_eq_true rfl) dX12_ends_68 ⟨Nat.zero_le _, Nat.zero_le _⟩ (fun H locs hI => ?_)
  obtain ⟨q, hf⟩ := zck_use hf
  obtain ⟨σ15, eσ15⟩ : ∃ z, z = zsi σ13 3 ((64 : Int32).toNatClampNeg) v14 := ⟨_, rfl⟩
  replace hf := zbv_use eσ15 hf
  refine z_iast hC hI 3 2 (wM_e3 ad cy σ13) (tM_t3 cy) q ((wM_s3 ad cy σ13 _ _).trans (congrArg (wM ad cy) eσ15.symm)) dX12_ends_71 (fun H locs hI => ?_)
  refine lv_aload_n hx hb dX12_ends_72 rfl (lv_at hl 0 rfl) ?_
  refine z_get hC hI hinX12_ends_X120 0 (wM_e0 ad cy σ15) rfl 10 (by decide) (List.mem_cons_of_mem _ zw9_7) rfl dX12_ends_73 ?_
  refine lv_bipush (v := 63) hx hb dX12_ends_76 (by decide) ?_
  refine lv_iconst (v := 1) hx hb dX12_ends_78 (by decide) ?_
  obtain ⟨q, hf⟩ := zck_use hf
  obtain ⟨σ16, eσ16⟩ : ∃ z, z = zsi σ15 3 ((63 : Int32).toNatClampNeg) 1 := ⟨_, rfl⟩
  replace hf := zbv_use eσ16 hf
  refine z_iast hC hI 3 2 (wM_e3 ad cy σ15) (tM_t3 cy) q ((wM_s3 ad cy σ15 _ _).trans (congrArg (wM ad cy) eσ16.symm)) dX12_ends_79 (fun H locs hI => ?_)
  refine lv_goto (tgt := 96) hx hb dX12_ends_80 (by decide) ?_
  exact bX12_ends_96 hC  hI hl hf
set_option maxRecDepth 20000 in
set_option maxHeartbeats 4000000 in
theorem bX12_ends {st : Nat → Nat} {p : Program} {l : Launch} {e : Env} {s : State} {m : MethodId} {args : Array Value} {below : List Frame} {meth : Method} {c : Code} {D : va_G} {A : Nat → Prop} {ad : Nat → Nat} {cy : Nat → ClassId} (hC : zC p m c cX12_ends 2 s args wzX12_ends RX12 meth none)  {res : zSt} {H : Heap} {locs : List Loc} {σ : zSt} {ls : Array Slot}  (hI : zI st D (tM cy) (wM ad cy σ) A s H locs) (hl : lv_has ls 2 [(0, .ref (ad 0))]) (hf : fX12_ends  σ  = some res) : W p l e rmX12_ends s m args below meth c H locs 0 0 (zQu below args s D (tM cy) (wM ad cy) A res) (F0 m 0 ls []) := by
  have hx := hC.1
  have hb := hC.2.1
  unfold fX12_ends at hf
  refine lv_aload_n hx hb dX12_ends_0 rfl (lv_at hl 0 rfl) ?_
  obtain ⟨σ17, v18, g17, hf⟩ := zbi_use hf
  refine z_callVi (As := []) (rest := []) hC hI (cX12_height_met st l D ad cy σ  _ g17) (zgV zw57_2 zw57_3 zw57_4 zw1_5 zw57_5) rfl ⟨rfl, rfl⟩ 0 hdX12_height ⟨Nat.le_of_ble_eq_true rfl, Nat.le_of_ble_eq_true rfl⟩ rfl rfl (wM_e0 ad cy σ) rfl hl rfl (Nat.le_of_ble_eq_true rfl) dX12_ends_1 ⟨Nat.zero_le _, Nat.zero_le _⟩ (fun H locs hI => ?_)
  refine lv_istore_n (lv' := [(1, .int v18), (0, .ref (ad 0))]) hx hb dX12_ends_4 rfl hl (by decide) rfl (fun ls hl => ?_)
  refine lv_aload_n hx hb dX12_ends_5 rfl (lv_at hl 1 rfl) ?_
  refine z_get hC hI hinX12_ends_X120 0 (wM_e0 ad cy σ17) rfl 10 (by decide) (List.mem_cons_of_mem _ zw9_7) rfl dX12_ends_6 ?_
  refine lv_bipush (v := 66) hx hb dX12_ends_9 (by decide) ?_
  obtain ⟨q, hf⟩ := zck_use hf
  refine z_iald hC hI 3 2 (wM_e3 ad cy σ17) (tM_t3 cy) q dX12_ends_11 ?_
  refine lv_iload_n hx hb dX12_ends_12 rfl (lv_at hl 0 rfl) ?_
  refine lv_icmp_ge (tgt := 27) hx hb dX12_ends_13 (by decide) (fun q => ?_) (fun q => ?_)
  · replace hf := zif_t q hf
    exact bX12_ends_27 hC  hI (lv_sub hl [1, 0] rfl) hf
  replace hf := zif_f q hf
  refine lv_aload_n hx hb dX12_ends_16 rfl (lv_at hl 1 rfl) ?_
  refine lv_aload_n hx hb dX12_ends_17 rfl (lv_at hl 1 rfl) ?_
  refine z_get hC hI hinX12_ends_X120 0 (wM_e0 ad cy σ17) rfl 10 (by decide) (List.mem_cons_of_mem _ zw9_7) rfl dX12_ends_18 ?_
  refine lv_bipush (v := 66) hx hb dX12_ends_21 (by decide) ?_
  obtain ⟨q, hf⟩ := zck_use hf
  refine z_iald hC hI 3 2 (wM_e3 ad cy σ17) (tM_t3 cy) q dX12_ends_23 ?_
  obtain ⟨σ19, g19, hf⟩ := zbu_use hf
  refine z_callVu (As := [.int (zgi σ17 3 (66 : Int32).toNatClampNeg)]) (rest := []) hC hI (cX12_draws_met st l D ad cy σ17 (zgi σ17 3 (66 : Int32).toNatClampNeg) _ g19) (zgV zw59_2 zw59_3 zw59_4 zw1_5 zw59_5) rfl ⟨rfl, rfl⟩ 1 hdX12_draws ⟨Nat.le_of_ble_eq_true rfl, Nat.le_of_ble_eq_true rfl⟩ rfl rfl (wM_e0 ad cy σ17) rfl hl rfl (Nat.le_of_ble_eq_true rfl) dX12_ends_24 ⟨Nat.zero_le _, Nat.zero_le _⟩ (fun H locs hI => ?_)
  exact bX12_ends_27 hC  hI (lv_sub hl [1, 0] rfl) hf
set_option maxRecDepth 20000 in
theorem cX12_ends_met (st : Nat → Nat) (l : Launch) (D : va_G) (ad : Nat → Nat) (cy : Nat → ClassId) (σ : zSt)  (res : zSt) (hf : fX12_ends σ  = some res) (sz : Nat) : zMu st l yX12_ends wzX12_ends rmX12_ends [.ref (ad 0)] D (tM cy) (wM ad cy) sz σ res :=
  zMu.of (cc := cX12_ends) (maxL := 2) (ret := none) (by decide) rfl (Nat.le_of_ble_eq_true rfl) (fun p e s m args below meth c hC A hI ls hl => bX12_ends hC hI hl hf)
theorem hdX12_ends : yX12_ends.cls = RX12 ∧ yX12_ends.cls ≠ "java/lang/invoke/MethodHandle" ∧ yX12_ends.cls ≠ "java/lang/invoke/VarHandle" ∧ (parseMethodDescriptor yX12_ends.desc).map (fun d => d.parameters.length) = some 0 := by decide +kernel
noncomputable def rmX12_loudness : Room := { frames := 0, cells := 0, slots := 0, locals := 0 }
noncomputable def wzX12_loudness : List Cond := .code yX12_loudness cX12_loudness 1 (some .int) :: wsL_law
noncomputable def fX12_loudness  (σ : zSt) (x0 : Int32) : Option (zSt × Int32) :=
  if x0 = 0 then some (σ, 8191) else
  if x0 = 1 then some (σ, 6506) else
  if x0 = 2 then some (σ, 5168) else
  if x0 = 3 then some (σ, 4105) else
  if x0 = 4 then some (σ, 3261) else
  if x0 = 5 then some (σ, 2590) else
  if x0 = 6 then some (σ, 2057) else
  if x0 = 7 then some (σ, 1634) else
  if x0 = 8 then some (σ, 1298) else
  if x0 = 9 then some (σ, 1031) else
  if x0 = 10 then some (σ, 819) else
  if x0 = 11 then some (σ, 650) else
  if x0 = 12 then some (σ, 517) else
  if x0 = 13 then some (σ, 410) else
  if x0 = 14 then some (σ, 326) else
  some (σ, 0)
set_option maxRecDepth 20000 in
set_option maxHeartbeats 4000000 in
theorem bX12_loudness {st : Nat → Nat} {p : Program} {l : Launch} {e : Env} {s : State} {m : MethodId} {args : Array Value} {below : List Frame} {meth : Method} {c : Code} {D : va_G} {A : Nat → Prop} {ad : Nat → Nat} {cy : Nat → ClassId} (hC : zC p m c cX12_loudness 1 s args wzX12_loudness RX12 meth (some .int))  {res : zSt × Int32} {H : Heap} {locs : List Loc} {σ : zSt} {ls : Array Slot} {x0 : Int32} (hI : zI st D (tM cy) (wM ad cy σ) A s H locs) (hl : lv_has ls 1 [(0, .int x0)]) (hf : fX12_loudness  σ x0 = some res) : W p l e rmX12_loudness s m args below meth c H locs 0 0 (zQi below args s D (tM cy) (wM ad cy) A res) (F0 m 0 ls []) := by
  have hx := hC.1
  have hb := hC.2.1
  unfold fX12_loudness at hf
  refine lv_iload_n hx hb dX12_loudness_0 rfl (lv_at hl 0 rfl) ?_
  by_cases q0 : x0 = 0
  · replace hf := zif_t q0 hf
    refine lv_tableIn (tgt := 76) hx hb dX12_loudness_1 (by rw [q0]; decide) (by rw [q0]; decide) (by rw [q0]; rfl) (by decide) ?_
    refine lv_sipush (v := 8191) hx hb dX12_loudness_76 (by decide) ?_
    exact z_ireturn hC hI hf dX12_loudness_79
  replace hf := zif_f q0 hf
  by_cases q1 : x0 = 1
  · replace hf := zif_t q1 hf
    refine lv_tableIn (tgt := 80) hx hb dX12_loudness_1 (by rw [q1]; decide) (by rw [q1]; decide) (by rw [q1]; rfl) (by decide) ?_
    refine lv_sipush (v := 6506) hx hb dX12_loudness_80 (by decide) ?_
    exact z_ireturn hC hI hf dX12_loudness_83
  replace hf := zif_f q1 hf
  by_cases q2 : x0 = 2
  · replace hf := zif_t q2 hf
    refine lv_tableIn (tgt := 84) hx hb dX12_loudness_1 (by rw [q2]; decide) (by rw [q2]; decide) (by rw [q2]; rfl) (by decide) ?_
    refine lv_sipush (v := 5168) hx hb dX12_loudness_84 (by decide) ?_
    exact z_ireturn hC hI hf dX12_loudness_87
  replace hf := zif_f q2 hf
  by_cases q3 : x0 = 3
  · replace hf := zif_t q3 hf
    refine lv_tableIn (tgt := 88) hx hb dX12_loudness_1 (by rw [q3]; decide) (by rw [q3]; decide) (by rw [q3]; rfl) (by decide) ?_
    refine lv_sipush (v := 4105) hx hb dX12_loudness_88 (by decide) ?_
    exact z_ireturn hC hI hf dX12_loudness_91
  replace hf := zif_f q3 hf
  by_cases q4 : x0 = 4
  · replace hf := zif_t q4 hf
    refine lv_tableIn (tgt := 92) hx hb dX12_loudness_1 (by rw [q4]; decide) (by rw [q4]; decide) (by rw [q4]; rfl) (by decide) ?_
    refine lv_sipush (v := 3261) hx hb dX12_loudness_92 (by decide) ?_
    exact z_ireturn hC hI hf dX12_loudness_95
  replace hf := zif_f q4 hf
  by_cases q5 : x0 = 5
  · replace hf := zif_t q5 hf
    refine lv_tableIn (tgt := 96) hx hb dX12_loudness_1 (by rw [q5]; decide) (by rw [q5]; decide) (by rw [q5]; rfl) (by decide) ?_
    refine lv_sipush (v := 2590) hx hb dX12_loudness_96 (by decide) ?_
    exact z_ireturn hC hI hf dX12_loudness_99
  replace hf := zif_f q5 hf
  by_cases q6 : x0 = 6
  · replace hf := zif_t q6 hf
    refine lv_tableIn (tgt := 100) hx hb dX12_loudness_1 (by rw [q6]; decide) (by rw [q6]; decide) (by rw [q6]; rfl) (by decide) ?_
    refine lv_sipush (v := 2057) hx hb dX12_loudness_100 (by decide) ?_
    exact z_ireturn hC hI hf dX12_loudness_103
  replace hf := zif_f q6 hf
  by_cases q7 : x0 = 7
  · replace hf := zif_t q7 hf
    refine lv_tableIn (tgt := 104) hx hb dX12_loudness_1 (by rw [q7]; decide) (by rw [q7]; decide) (by rw [q7]; rfl) (by decide) ?_
    refine lv_sipush (v := 1634) hx hb dX12_loudness_104 (by decide) ?_
    exact z_ireturn hC hI hf dX12_loudness_107
  replace hf := zif_f q7 hf
  by_cases q8 : x0 = 8
  · replace hf := zif_t q8 hf
    refine lv_tableIn (tgt := 108) hx hb dX12_loudness_1 (by rw [q8]; decide) (by rw [q8]; decide) (by rw [q8]; rfl) (by decide) ?_
    refine lv_sipush (v := 1298) hx hb dX12_loudness_108 (by decide) ?_
    exact z_ireturn hC hI hf dX12_loudness_111
  replace hf := zif_f q8 hf
  by_cases q9 : x0 = 9
  · replace hf := zif_t q9 hf
    refine lv_tableIn (tgt := 112) hx hb dX12_loudness_1 (by rw [q9]; decide) (by rw [q9]; decide) (by rw [q9]; rfl) (by decide) ?_
    refine lv_sipush (v := 1031) hx hb dX12_loudness_112 (by decide) ?_
    exact z_ireturn hC hI hf dX12_loudness_115
  replace hf := zif_f q9 hf
  by_cases q10 : x0 = 10
  · replace hf := zif_t q10 hf
    refine lv_tableIn (tgt := 116) hx hb dX12_loudness_1 (by rw [q10]; decide) (by rw [q10]; decide) (by rw [q10]; rfl) (by decide) ?_
    refine lv_sipush (v := 819) hx hb dX12_loudness_116 (by decide) ?_
    exact z_ireturn hC hI hf dX12_loudness_119
  replace hf := zif_f q10 hf
  by_cases q11 : x0 = 11
  · replace hf := zif_t q11 hf
    refine lv_tableIn (tgt := 120) hx hb dX12_loudness_1 (by rw [q11]; decide) (by rw [q11]; decide) (by rw [q11]; rfl) (by decide) ?_
    refine lv_sipush (v := 650) hx hb dX12_loudness_120 (by decide) ?_
    exact z_ireturn hC hI hf dX12_loudness_123
  replace hf := zif_f q11 hf
  by_cases q12 : x0 = 12
  · replace hf := zif_t q12 hf
    refine lv_tableIn (tgt := 124) hx hb dX12_loudness_1 (by rw [q12]; decide) (by rw [q12]; decide) (by rw [q12]; rfl) (by decide) ?_
    refine lv_sipush (v := 517) hx hb dX12_loudness_124 (by decide) ?_
    exact z_ireturn hC hI hf dX12_loudness_127
  replace hf := zif_f q12 hf
  by_cases q13 : x0 = 13
  · replace hf := zif_t q13 hf
    refine lv_tableIn (tgt := 128) hx hb dX12_loudness_1 (by rw [q13]; decide) (by rw [q13]; decide) (by rw [q13]; rfl) (by decide) ?_
    refine lv_sipush (v := 410) hx hb dX12_loudness_128 (by decide) ?_
    exact z_ireturn hC hI hf dX12_loudness_131
  replace hf := zif_f q13 hf
  by_cases q14 : x0 = 14
  · replace hf := zif_t q14 hf
    refine lv_tableIn (tgt := 132) hx hb dX12_loudness_1 (by rw [q14]; decide) (by rw [q14]; decide) (by rw [q14]; rfl) (by decide) ?_
    refine lv_sipush (v := 326) hx hb dX12_loudness_132 (by decide) ?_
    exact z_ireturn hC hI hf dX12_loudness_135
  replace hf := zif_f q14 hf
  refine lv_tableOut (tgt := 136) hx hb dX12_loudness_1 (zsw (fun k h1 h2 => by rcases (show k = 0 ∨ k = 1 ∨ k = 2 ∨ k = 3 ∨ k = 4 ∨ k = 5 ∨ k = 6 ∨ k = 7 ∨ k = 8 ∨ k = 9 ∨ k = 10 ∨ k = 11 ∨ k = 12 ∨ k = 13 ∨ k = 14 by omega) with rfl | rfl | rfl | rfl | rfl | rfl | rfl | rfl | rfl | rfl | rfl | rfl | rfl | rfl | rfl <;> assumption)) (by decide) ?_
  refine lv_iconst (v := 0) hx hb dX12_loudness_136 (by decide) ?_
  exact z_ireturn hC hI hf dX12_loudness_137
set_option maxRecDepth 20000 in
theorem cX12_loudness_met (st : Nat → Nat) (l : Launch) (D : va_G) (ad : Nat → Nat) (cy : Nat → ClassId) (σ : zSt) (x0 : Int32) (res : zSt × Int32) (hf : fX12_loudness σ x0 = some res) (sz : Nat) : zMi st l yX12_loudness wzX12_loudness rmX12_loudness [.int x0] D (tM cy) (wM ad cy) sz σ res :=
  zMi.of (cc := cX12_loudness) (maxL := 1) (ret := (some .int)) (by decide) rfl (Nat.le_of_ble_eq_true rfl) (fun p e s m args below meth c hC A hI ls hl => bX12_loudness hC hI hl hf)
theorem hdX12_loudness : yX12_loudness.cls ≠ "java/lang/invoke/MethodHandle" ∧ yX12_loudness.cls ≠ "java/lang/invoke/VarHandle" ∧ (parseMethodDescriptor yX12_loudness.desc).map (fun d => d.parameters.length) = some 1 := by decide +kernel
end ZJN1
