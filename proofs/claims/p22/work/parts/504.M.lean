def kn_cX12_instruction : Nat := 0xacdc00b6d900b62a2abf00b5032aae00b5032a
theorem zk_cX12_instruction : zkd cX12_instruction.data.toList kn_cX12_instruction = true := by decide +kernel
theorem zn_cX12_instruction : cX12_instruction.data.toList.length = 19 := by decide +kernel
theorem dX12_instruction_0 : decode cX12_instruction 0 = .ok (.aload_n 0, 1) := zo_42 (zkb zk_cX12_instruction zn_cX12_instruction (by decide +kernel))
theorem dX12_instruction_1 : decode cX12_instruction 1 = .ok (.iconst 0, 1) := zo_3 (zkb zk_cX12_instruction zn_cX12_instruction (by decide +kernel))
theorem dX12_instruction_2 : decode cX12_instruction 2 = .ok (.putfield 174, 3) := zo_181 (b1 := 0) (b2 := 174) (zkb3 zk_cX12_instruction zn_cX12_instruction (by decide +kernel)) rfl
theorem dX12_instruction_5 : decode cX12_instruction 5 = .ok (.aload_n 0, 1) := zo_42 (zkb zk_cX12_instruction zn_cX12_instruction (by decide +kernel))
theorem dX12_instruction_6 : decode cX12_instruction 6 = .ok (.iconst 0, 1) := zo_3 (zkb zk_cX12_instruction zn_cX12_instruction (by decide +kernel))
theorem dX12_instruction_7 : decode cX12_instruction 7 = .ok (.putfield 191, 3) := zo_181 (b1 := 0) (b2 := 191) (zkb3 zk_cX12_instruction zn_cX12_instruction (by decide +kernel)) rfl
theorem dX12_instruction_10 : decode cX12_instruction 10 = .ok (.aload_n 0, 1) := zo_42 (zkb zk_cX12_instruction zn_cX12_instruction (by decide +kernel))
theorem dX12_instruction_11 : decode cX12_instruction 11 = .ok (.aload_n 0, 1) := zo_42 (zkb zk_cX12_instruction zn_cX12_instruction (by decide +kernel))
theorem dX12_instruction_12 : decode cX12_instruction 12 = .ok (.invokevirtual 217, 3) := zo_182 (b1 := 0) (b2 := 217) (zkb3 zk_cX12_instruction zn_cX12_instruction (by decide +kernel)) rfl
theorem dX12_instruction_15 : decode cX12_instruction 15 = .ok (.invokevirtual 220, 3) := zo_182 (b1 := 0) (b2 := 220) (zkb3 zk_cX12_instruction zn_cX12_instruction (by decide +kernel)) rfl
theorem dX12_instruction_18 : decode cX12_instruction 18 = .ok (.ireturn, 1) := zo_172 (zkb zk_cX12_instruction zn_cX12_instruction (by decide +kernel))
def kn_cX12_plain : Nat := 0xacf100b61d1c2a0900a7ee00b61d1c2a0c00a2071dac070400a707100800a006101deb00b6e500b61d2a1c2aac070400a707100800a006101d09009f06101c14009f76101be800b6e500b61d2a1c2a0d00a74f041a101600b42a0e00a076101bace200b61d1c2a0900a7df00b61d1c2a0c00a2071d65000000310000001c00000002000000000000007c000000000000aa7a06101b3e7e07101b3d7e07107a061b
theorem zk_cX12_plain : zkd cX12_plain.data.toList kn_cX12_plain = true := by decide +kernel
theorem zn_cX12_plain : cX12_plain.data.toList.length = 161 := by decide +kernel
theorem dX12_plain_0 : decode cX12_plain 0 = .ok (.iload_n 1, 1) := zo_27 (zkb zk_cX12_plain zn_cX12_plain (by decide +kernel))
theorem dX12_plain_1 : decode cX12_plain 1 = .ok (.iconst 3, 1) := zo_6 (zkb zk_cX12_plain zn_cX12_plain (by decide +kernel))
theorem dX12_plain_2 : decode cX12_plain 2 = .ok (.ishr, 1) := zo_122 (zkb zk_cX12_plain zn_cX12_plain (by decide +kernel))
theorem dX12_plain_3 : decode cX12_plain 3 = .ok (.bipush 7, 2) := zo_16 (b1 := 7) (zkb2 zk_cX12_plain zn_cX12_plain (by decide +kernel)) rfl
theorem dX12_plain_5 : decode cX12_plain 5 = .ok (.iand, 1) := zo_126 (zkb zk_cX12_plain zn_cX12_plain (by decide +kernel))
theorem dX12_plain_6 : decode cX12_plain 6 = .ok (.istore_n 2, 1) := zo_61 (zkb zk_cX12_plain zn_cX12_plain (by decide +kernel))
theorem dX12_plain_7 : decode cX12_plain 7 = .ok (.iload_n 1, 1) := zo_27 (zkb zk_cX12_plain zn_cX12_plain (by decide +kernel))
theorem dX12_plain_8 : decode cX12_plain 8 = .ok (.bipush 7, 2) := zo_16 (b1 := 7) (zkb2 zk_cX12_plain zn_cX12_plain (by decide +kernel)) rfl
theorem dX12_plain_10 : decode cX12_plain 10 = .ok (.iand, 1) := zo_126 (zkb zk_cX12_plain zn_cX12_plain (by decide +kernel))
theorem dX12_plain_11 : decode cX12_plain 11 = .ok (.istore_n 3, 1) := zo_62 (zkb zk_cX12_plain zn_cX12_plain (by decide +kernel))
theorem dX12_plain_12 : decode cX12_plain 12 = .ok (.iload_n 1, 1) := zo_27 (zkb zk_cX12_plain zn_cX12_plain (by decide +kernel))
theorem dX12_plain_13 : decode cX12_plain 13 = .ok (.bipush 6, 2) := zo_16 (b1 := 6) (zkb2 zk_cX12_plain zn_cX12_plain (by decide +kernel)) rfl
theorem dX12_plain_15 : decode cX12_plain 15 = .ok (.ishr, 1) := zo_122 (zkb zk_cX12_plain zn_cX12_plain (by decide +kernel))
theorem dX12_plain_16 : decode cX12_plain 16 = .ok (.tableswitch 124 0 2 #[28, 49, 101], 28) := by decide +kernel
theorem dX12_plain_44 : decode cX12_plain 44 = .ok (.iload_n 3, 1) := zo_29 (zkb zk_cX12_plain zn_cX12_plain (by decide +kernel))
theorem dX12_plain_45 : decode cX12_plain 45 = .ok (.iconst 4, 1) := zo_7 (zkb zk_cX12_plain zn_cX12_plain (by decide +kernel))
theorem dX12_plain_46 : decode cX12_plain 46 = .ok (.if_icmp .ge 12, 3) := zo_162 (b1 := 0) (b2 := 12) (zkb3 zk_cX12_plain zn_cX12_plain (by decide +kernel)) rfl
theorem dX12_plain_49 : decode cX12_plain 49 = .ok (.aload_n 0, 1) := zo_42 (zkb zk_cX12_plain zn_cX12_plain (by decide +kernel))
theorem dX12_plain_50 : decode cX12_plain 50 = .ok (.iload_n 2, 1) := zo_28 (zkb zk_cX12_plain zn_cX12_plain (by decide +kernel))
theorem dX12_plain_51 : decode cX12_plain 51 = .ok (.iload_n 3, 1) := zo_29 (zkb zk_cX12_plain zn_cX12_plain (by decide +kernel))
theorem dX12_plain_52 : decode cX12_plain 52 = .ok (.invokevirtual 223, 3) := zo_182 (b1 := 0) (b2 := 223) (zkb3 zk_cX12_plain zn_cX12_plain (by decide +kernel)) rfl
theorem dX12_plain_55 : decode cX12_plain 55 = .ok (.goto 9, 3) := zo_167 (b1 := 0) (b2 := 9) (zkb3 zk_cX12_plain zn_cX12_plain (by decide +kernel)) rfl
theorem dX12_plain_58 : decode cX12_plain 58 = .ok (.aload_n 0, 1) := zo_42 (zkb zk_cX12_plain zn_cX12_plain (by decide +kernel))
theorem dX12_plain_59 : decode cX12_plain 59 = .ok (.iload_n 2, 1) := zo_28 (zkb zk_cX12_plain zn_cX12_plain (by decide +kernel))
theorem dX12_plain_60 : decode cX12_plain 60 = .ok (.iload_n 3, 1) := zo_29 (zkb zk_cX12_plain zn_cX12_plain (by decide +kernel))
theorem dX12_plain_61 : decode cX12_plain 61 = .ok (.invokevirtual 226, 3) := zo_182 (b1 := 0) (b2 := 226) (zkb3 zk_cX12_plain zn_cX12_plain (by decide +kernel)) rfl
theorem dX12_plain_64 : decode cX12_plain 64 = .ok (.ireturn, 1) := zo_172 (zkb zk_cX12_plain zn_cX12_plain (by decide +kernel))
theorem dX12_plain_65 : decode cX12_plain 65 = .ok (.iload_n 1, 1) := zo_27 (zkb zk_cX12_plain zn_cX12_plain (by decide +kernel))
theorem dX12_plain_66 : decode cX12_plain 66 = .ok (.bipush 118, 2) := zo_16 (b1 := 118) (zkb2 zk_cX12_plain zn_cX12_plain (by decide +kernel)) rfl
theorem dX12_plain_68 : decode cX12_plain 68 = .ok (.if_icmp .ne 14, 3) := zo_160 (b1 := 0) (b2 := 14) (zkb3 zk_cX12_plain zn_cX12_plain (by decide +kernel)) rfl
theorem dX12_plain_71 : decode cX12_plain 71 = .ok (.aload_n 0, 1) := zo_42 (zkb zk_cX12_plain zn_cX12_plain (by decide +kernel))
theorem dX12_plain_72 : decode cX12_plain 72 = .ok (.getfield 22, 3) := zo_180 (b1 := 0) (b2 := 22) (zkb3 zk_cX12_plain zn_cX12_plain (by decide +kernel)) rfl
theorem dX12_plain_75 : decode cX12_plain 75 = .ok (.bipush 26, 2) := zo_16 (b1 := 26) (zkb2 zk_cX12_plain zn_cX12_plain (by decide +kernel)) rfl
theorem dX12_plain_77 : decode cX12_plain 77 = .ok (.iconst 1, 1) := zo_4 (zkb zk_cX12_plain zn_cX12_plain (by decide +kernel))
theorem dX12_plain_78 : decode cX12_plain 78 = .ok (.iastore, 1) := zo_79 (zkb zk_cX12_plain zn_cX12_plain (by decide +kernel))
theorem dX12_plain_79 : decode cX12_plain 79 = .ok (.goto 13, 3) := zo_167 (b1 := 0) (b2 := 13) (zkb3 zk_cX12_plain zn_cX12_plain (by decide +kernel)) rfl
theorem dX12_plain_82 : decode cX12_plain 82 = .ok (.aload_n 0, 1) := zo_42 (zkb zk_cX12_plain zn_cX12_plain (by decide +kernel))
theorem dX12_plain_83 : decode cX12_plain 83 = .ok (.iload_n 2, 1) := zo_28 (zkb zk_cX12_plain zn_cX12_plain (by decide +kernel))
theorem dX12_plain_84 : decode cX12_plain 84 = .ok (.aload_n 0, 1) := zo_42 (zkb zk_cX12_plain zn_cX12_plain (by decide +kernel))
theorem dX12_plain_85 : decode cX12_plain 85 = .ok (.iload_n 3, 1) := zo_29 (zkb zk_cX12_plain zn_cX12_plain (by decide +kernel))
theorem dX12_plain_86 : decode cX12_plain 86 = .ok (.invokevirtual 229, 3) := zo_182 (b1 := 0) (b2 := 229) (zkb3 zk_cX12_plain zn_cX12_plain (by decide +kernel)) rfl
theorem dX12_plain_89 : decode cX12_plain 89 = .ok (.invokevirtual 232, 3) := zo_182 (b1 := 0) (b2 := 232) (zkb3 zk_cX12_plain zn_cX12_plain (by decide +kernel)) rfl
theorem dX12_plain_92 : decode cX12_plain 92 = .ok (.iload_n 1, 1) := zo_27 (zkb zk_cX12_plain zn_cX12_plain (by decide +kernel))
theorem dX12_plain_93 : decode cX12_plain 93 = .ok (.bipush 118, 2) := zo_16 (b1 := 118) (zkb2 zk_cX12_plain zn_cX12_plain (by decide +kernel)) rfl
theorem dX12_plain_95 : decode cX12_plain 95 = .ok (.if_icmp .eq 20, 3) := zo_159 (b1 := 0) (b2 := 20) (zkb3 zk_cX12_plain zn_cX12_plain (by decide +kernel)) rfl
theorem dX12_plain_98 : decode cX12_plain 98 = .ok (.iload_n 2, 1) := zo_28 (zkb zk_cX12_plain zn_cX12_plain (by decide +kernel))
theorem dX12_plain_99 : decode cX12_plain 99 = .ok (.bipush 6, 2) := zo_16 (b1 := 6) (zkb2 zk_cX12_plain zn_cX12_plain (by decide +kernel)) rfl
theorem dX12_plain_101 : decode cX12_plain 101 = .ok (.if_icmp .eq 9, 3) := zo_159 (b1 := 0) (b2 := 9) (zkb3 zk_cX12_plain zn_cX12_plain (by decide +kernel)) rfl
theorem dX12_plain_104 : decode cX12_plain 104 = .ok (.iload_n 3, 1) := zo_29 (zkb zk_cX12_plain zn_cX12_plain (by decide +kernel))
theorem dX12_plain_105 : decode cX12_plain 105 = .ok (.bipush 6, 2) := zo_16 (b1 := 6) (zkb2 zk_cX12_plain zn_cX12_plain (by decide +kernel)) rfl
theorem dX12_plain_107 : decode cX12_plain 107 = .ok (.if_icmp .ne 8, 3) := zo_160 (b1 := 0) (b2 := 8) (zkb3 zk_cX12_plain zn_cX12_plain (by decide +kernel)) rfl
theorem dX12_plain_110 : decode cX12_plain 110 = .ok (.bipush 7, 2) := zo_16 (b1 := 7) (zkb2 zk_cX12_plain zn_cX12_plain (by decide +kernel)) rfl
theorem dX12_plain_112 : decode cX12_plain 112 = .ok (.goto 4, 3) := zo_167 (b1 := 0) (b2 := 4) (zkb3 zk_cX12_plain zn_cX12_plain (by decide +kernel)) rfl
theorem dX12_plain_115 : decode cX12_plain 115 = .ok (.iconst 4, 1) := zo_7 (zkb zk_cX12_plain zn_cX12_plain (by decide +kernel))
theorem dX12_plain_116 : decode cX12_plain 116 = .ok (.ireturn, 1) := zo_172 (zkb zk_cX12_plain zn_cX12_plain (by decide +kernel))
theorem dX12_plain_117 : decode cX12_plain 117 = .ok (.aload_n 0, 1) := zo_42 (zkb zk_cX12_plain zn_cX12_plain (by decide +kernel))
theorem dX12_plain_118 : decode cX12_plain 118 = .ok (.iload_n 2, 1) := zo_28 (zkb zk_cX12_plain zn_cX12_plain (by decide +kernel))
theorem dX12_plain_119 : decode cX12_plain 119 = .ok (.aload_n 0, 1) := zo_42 (zkb zk_cX12_plain zn_cX12_plain (by decide +kernel))
theorem dX12_plain_120 : decode cX12_plain 120 = .ok (.iload_n 3, 1) := zo_29 (zkb zk_cX12_plain zn_cX12_plain (by decide +kernel))
theorem dX12_plain_121 : decode cX12_plain 121 = .ok (.invokevirtual 229, 3) := zo_182 (b1 := 0) (b2 := 229) (zkb3 zk_cX12_plain zn_cX12_plain (by decide +kernel)) rfl
theorem dX12_plain_124 : decode cX12_plain 124 = .ok (.invokevirtual 235, 3) := zo_182 (b1 := 0) (b2 := 235) (zkb3 zk_cX12_plain zn_cX12_plain (by decide +kernel)) rfl
theorem dX12_plain_127 : decode cX12_plain 127 = .ok (.iload_n 3, 1) := zo_29 (zkb zk_cX12_plain zn_cX12_plain (by decide +kernel))
theorem dX12_plain_128 : decode cX12_plain 128 = .ok (.bipush 6, 2) := zo_16 (b1 := 6) (zkb2 zk_cX12_plain zn_cX12_plain (by decide +kernel)) rfl
theorem dX12_plain_130 : decode cX12_plain 130 = .ok (.if_icmp .ne 8, 3) := zo_160 (b1 := 0) (b2 := 8) (zkb3 zk_cX12_plain zn_cX12_plain (by decide +kernel)) rfl
theorem dX12_plain_133 : decode cX12_plain 133 = .ok (.bipush 7, 2) := zo_16 (b1 := 7) (zkb2 zk_cX12_plain zn_cX12_plain (by decide +kernel)) rfl
theorem dX12_plain_135 : decode cX12_plain 135 = .ok (.goto 4, 3) := zo_167 (b1 := 0) (b2 := 4) (zkb3 zk_cX12_plain zn_cX12_plain (by decide +kernel)) rfl
theorem dX12_plain_138 : decode cX12_plain 138 = .ok (.iconst 4, 1) := zo_7 (zkb zk_cX12_plain zn_cX12_plain (by decide +kernel))
theorem dX12_plain_139 : decode cX12_plain 139 = .ok (.ireturn, 1) := zo_172 (zkb zk_cX12_plain zn_cX12_plain (by decide +kernel))
theorem dX12_plain_140 : decode cX12_plain 140 = .ok (.iload_n 3, 1) := zo_29 (zkb zk_cX12_plain zn_cX12_plain (by decide +kernel))
theorem dX12_plain_141 : decode cX12_plain 141 = .ok (.iconst 4, 1) := zo_7 (zkb zk_cX12_plain zn_cX12_plain (by decide +kernel))
theorem dX12_plain_142 : decode cX12_plain 142 = .ok (.if_icmp .ge 12, 3) := zo_162 (b1 := 0) (b2 := 12) (zkb3 zk_cX12_plain zn_cX12_plain (by decide +kernel)) rfl
theorem dX12_plain_145 : decode cX12_plain 145 = .ok (.aload_n 0, 1) := zo_42 (zkb zk_cX12_plain zn_cX12_plain (by decide +kernel))
theorem dX12_plain_146 : decode cX12_plain 146 = .ok (.iload_n 2, 1) := zo_28 (zkb zk_cX12_plain zn_cX12_plain (by decide +kernel))
theorem dX12_plain_147 : decode cX12_plain 147 = .ok (.iload_n 3, 1) := zo_29 (zkb zk_cX12_plain zn_cX12_plain (by decide +kernel))
theorem dX12_plain_148 : decode cX12_plain 148 = .ok (.invokevirtual 238, 3) := zo_182 (b1 := 0) (b2 := 238) (zkb3 zk_cX12_plain zn_cX12_plain (by decide +kernel)) rfl
theorem dX12_plain_151 : decode cX12_plain 151 = .ok (.goto 9, 3) := zo_167 (b1 := 0) (b2 := 9) (zkb3 zk_cX12_plain zn_cX12_plain (by decide +kernel)) rfl
theorem dX12_plain_154 : decode cX12_plain 154 = .ok (.aload_n 0, 1) := zo_42 (zkb zk_cX12_plain zn_cX12_plain (by decide +kernel))
theorem dX12_plain_155 : decode cX12_plain 155 = .ok (.iload_n 2, 1) := zo_28 (zkb zk_cX12_plain zn_cX12_plain (by decide +kernel))
theorem dX12_plain_156 : decode cX12_plain 156 = .ok (.iload_n 3, 1) := zo_29 (zkb zk_cX12_plain zn_cX12_plain (by decide +kernel))
theorem dX12_plain_157 : decode cX12_plain 157 = .ok (.invokevirtual 241, 3) := zo_182 (b1 := 0) (b2 := 241) (zkb3 zk_cX12_plain zn_cX12_plain (by decide +kernel)) rfl
theorem dX12_plain_160 : decode cX12_plain 160 = .ok (.ireturn, 1) := zo_172 (zkb zk_cX12_plain zn_cX12_plain (by decide +kernel))
def kn_cX12_singles : Nat := 0xac07ca00b62e031600b42a2ac600b603042ac600b6030400a70407009acd00b6032a0b009f06101b032ac600b6030400a7040700a004cd00b6032a1000a007101b072a4400a7ca00b62e031600b42a2ac600b604042ac600b604072a4f82ff00112e5c031600b42a2800a0081b6e00a71901b62a0a00a0071b7a00a7c600b603042ac600b603072aca00b62e031600b42a2a4f1601b62e031600b42a1b2a031600b42a2d00a2071bac070400a70b100800a006101bc600b6030400a7040700a0081c042ac600b6030400a7040700a07f100500a78000110900a0071c1d052ac600b6030400a7040700a00f100500a7030700a0071c7e0f101d072a1301b61d2ae800b61d1b2a3e7eff001160020400a7040700a0071ce500b61b2a7600a206101cac07100500a70a100800a006101be800b6d000b62a1b2a1a00a006101c
theorem zk_cX12_singles : zkd cX12_singles.data.toList kn_cX12_singles = true := by decide +kernel
theorem zn_cX12_singles : cX12_singles.data.toList.length = 318 := by decide +kernel
theorem dX12_singles_0 : decode cX12_singles 0 = .ok (.iload_n 2, 1) := zo_28 (zkb zk_cX12_singles zn_cX12_singles (by decide +kernel))
theorem dX12_singles_1 : decode cX12_singles 1 = .ok (.bipush 6, 2) := zo_16 (b1 := 6) (zkb2 zk_cX12_singles zn_cX12_singles (by decide +kernel)) rfl
theorem dX12_singles_3 : decode cX12_singles 3 = .ok (.if_icmp .ne 26, 3) := zo_160 (b1 := 0) (b2 := 26) (zkb3 zk_cX12_singles zn_cX12_singles (by decide +kernel)) rfl
theorem dX12_singles_6 : decode cX12_singles 6 = .ok (.aload_n 0, 1) := zo_42 (zkb zk_cX12_singles zn_cX12_singles (by decide +kernel))
theorem dX12_singles_7 : decode cX12_singles 7 = .ok (.iload_n 1, 1) := zo_27 (zkb zk_cX12_singles zn_cX12_singles (by decide +kernel))
theorem dX12_singles_8 : decode cX12_singles 8 = .ok (.aload_n 0, 1) := zo_42 (zkb zk_cX12_singles zn_cX12_singles (by decide +kernel))
theorem dX12_singles_9 : decode cX12_singles 9 = .ok (.invokevirtual 208, 3) := zo_182 (b1 := 0) (b2 := 208) (zkb3 zk_cX12_singles zn_cX12_singles (by decide +kernel)) rfl
theorem dX12_singles_12 : decode cX12_singles 12 = .ok (.invokevirtual 232, 3) := zo_182 (b1 := 0) (b2 := 232) (zkb3 zk_cX12_singles zn_cX12_singles (by decide +kernel)) rfl
theorem dX12_singles_15 : decode cX12_singles 15 = .ok (.iload_n 1, 1) := zo_27 (zkb zk_cX12_singles zn_cX12_singles (by decide +kernel))
theorem dX12_singles_16 : decode cX12_singles 16 = .ok (.bipush 6, 2) := zo_16 (b1 := 6) (zkb2 zk_cX12_singles zn_cX12_singles (by decide +kernel)) rfl
theorem dX12_singles_18 : decode cX12_singles 18 = .ok (.if_icmp .ne 8, 3) := zo_160 (b1 := 0) (b2 := 8) (zkb3 zk_cX12_singles zn_cX12_singles (by decide +kernel)) rfl
theorem dX12_singles_21 : decode cX12_singles 21 = .ok (.bipush 10, 2) := zo_16 (b1 := 10) (zkb2 zk_cX12_singles zn_cX12_singles (by decide +kernel)) rfl
theorem dX12_singles_23 : decode cX12_singles 23 = .ok (.goto 5, 3) := zo_167 (b1 := 0) (b2 := 5) (zkb3 zk_cX12_singles zn_cX12_singles (by decide +kernel)) rfl
theorem dX12_singles_26 : decode cX12_singles 26 = .ok (.bipush 7, 2) := zo_16 (b1 := 7) (zkb2 zk_cX12_singles zn_cX12_singles (by decide +kernel)) rfl
theorem dX12_singles_28 : decode cX12_singles 28 = .ok (.ireturn, 1) := zo_172 (zkb zk_cX12_singles zn_cX12_singles (by decide +kernel))
theorem dX12_singles_29 : decode cX12_singles 29 = .ok (.iload_n 2, 1) := zo_28 (zkb zk_cX12_singles zn_cX12_singles (by decide +kernel))
theorem dX12_singles_30 : decode cX12_singles 30 = .ok (.bipush 6, 2) := zo_16 (b1 := 6) (zkb2 zk_cX12_singles zn_cX12_singles (by decide +kernel)) rfl
theorem dX12_singles_32 : decode cX12_singles 32 = .ok (.if_icmp .ge 118, 3) := zo_162 (b1 := 0) (b2 := 118) (zkb3 zk_cX12_singles zn_cX12_singles (by decide +kernel)) rfl
theorem dX12_singles_35 : decode cX12_singles 35 = .ok (.aload_n 0, 1) := zo_42 (zkb zk_cX12_singles zn_cX12_singles (by decide +kernel))
theorem dX12_singles_36 : decode cX12_singles 36 = .ok (.iload_n 1, 1) := zo_27 (zkb zk_cX12_singles zn_cX12_singles (by decide +kernel))
theorem dX12_singles_37 : decode cX12_singles 37 = .ok (.invokevirtual 229, 3) := zo_182 (b1 := 0) (b2 := 229) (zkb3 zk_cX12_singles zn_cX12_singles (by decide +kernel)) rfl
theorem dX12_singles_40 : decode cX12_singles 40 = .ok (.iload_n 2, 1) := zo_28 (zkb zk_cX12_singles zn_cX12_singles (by decide +kernel))
theorem dX12_singles_41 : decode cX12_singles 41 = .ok (.iconst 4, 1) := zo_7 (zkb zk_cX12_singles zn_cX12_singles (by decide +kernel))
theorem dX12_singles_42 : decode cX12_singles 42 = .ok (.if_icmp .ne 7, 3) := zo_160 (b1 := 0) (b2 := 7) (zkb3 zk_cX12_singles zn_cX12_singles (by decide +kernel)) rfl
theorem dX12_singles_45 : decode cX12_singles 45 = .ok (.iconst 1, 1) := zo_4 (zkb zk_cX12_singles zn_cX12_singles (by decide +kernel))
theorem dX12_singles_46 : decode cX12_singles 46 = .ok (.goto 4, 3) := zo_167 (b1 := 0) (b2 := 4) (zkb3 zk_cX12_singles zn_cX12_singles (by decide +kernel)) rfl
theorem dX12_singles_49 : decode cX12_singles 49 = .ok (.iconst (-1), 1) := zo_2 (zkb zk_cX12_singles zn_cX12_singles (by decide +kernel))
theorem dX12_singles_50 : decode cX12_singles 50 = .ok (.iadd, 1) := zo_96 (zkb zk_cX12_singles zn_cX12_singles (by decide +kernel))
theorem dX12_singles_51 : decode cX12_singles 51 = .ok (.sipush 255, 3) := zo_17 (b1 := 0) (b2 := 255) (zkb3 zk_cX12_singles zn_cX12_singles (by decide +kernel)) rfl
theorem dX12_singles_54 : decode cX12_singles 54 = .ok (.iand, 1) := zo_126 (zkb zk_cX12_singles zn_cX12_singles (by decide +kernel))
theorem dX12_singles_55 : decode cX12_singles 55 = .ok (.istore_n 3, 1) := zo_62 (zkb zk_cX12_singles zn_cX12_singles (by decide +kernel))
theorem dX12_singles_56 : decode cX12_singles 56 = .ok (.aload_n 0, 1) := zo_42 (zkb zk_cX12_singles zn_cX12_singles (by decide +kernel))
theorem dX12_singles_57 : decode cX12_singles 57 = .ok (.iload_n 1, 1) := zo_27 (zkb zk_cX12_singles zn_cX12_singles (by decide +kernel))
theorem dX12_singles_58 : decode cX12_singles 58 = .ok (.iload_n 3, 1) := zo_29 (zkb zk_cX12_singles zn_cX12_singles (by decide +kernel))
theorem dX12_singles_59 : decode cX12_singles 59 = .ok (.invokevirtual 232, 3) := zo_182 (b1 := 0) (b2 := 232) (zkb3 zk_cX12_singles zn_cX12_singles (by decide +kernel)) rfl
theorem dX12_singles_62 : decode cX12_singles 62 = .ok (.aload_n 0, 1) := zo_42 (zkb zk_cX12_singles zn_cX12_singles (by decide +kernel))
theorem dX12_singles_63 : decode cX12_singles 63 = .ok (.iload_n 3, 1) := zo_29 (zkb zk_cX12_singles zn_cX12_singles (by decide +kernel))
theorem dX12_singles_64 : decode cX12_singles 64 = .ok (.invokevirtual 275, 3) := zo_182 (b1 := 1) (b2 := 19) (zkb3 zk_cX12_singles zn_cX12_singles (by decide +kernel)) rfl
theorem dX12_singles_67 : decode cX12_singles 67 = .ok (.aload_n 0, 1) := zo_42 (zkb zk_cX12_singles zn_cX12_singles (by decide +kernel))
theorem dX12_singles_68 : decode cX12_singles 68 = .ok (.iconst 4, 1) := zo_7 (zkb zk_cX12_singles zn_cX12_singles (by decide +kernel))
theorem dX12_singles_69 : decode cX12_singles 69 = .ok (.iload_n 3, 1) := zo_29 (zkb zk_cX12_singles zn_cX12_singles (by decide +kernel))
theorem dX12_singles_70 : decode cX12_singles 70 = .ok (.bipush 15, 2) := zo_16 (b1 := 15) (zkb2 zk_cX12_singles zn_cX12_singles (by decide +kernel)) rfl
theorem dX12_singles_72 : decode cX12_singles 72 = .ok (.iand, 1) := zo_126 (zkb zk_cX12_singles zn_cX12_singles (by decide +kernel))
theorem dX12_singles_73 : decode cX12_singles 73 = .ok (.iload_n 2, 1) := zo_28 (zkb zk_cX12_singles zn_cX12_singles (by decide +kernel))
theorem dX12_singles_74 : decode cX12_singles 74 = .ok (.iconst 4, 1) := zo_7 (zkb zk_cX12_singles zn_cX12_singles (by decide +kernel))
theorem dX12_singles_75 : decode cX12_singles 75 = .ok (.if_icmp .ne 7, 3) := zo_160 (b1 := 0) (b2 := 7) (zkb3 zk_cX12_singles zn_cX12_singles (by decide +kernel)) rfl
theorem dX12_singles_78 : decode cX12_singles 78 = .ok (.iconst 0, 1) := zo_3 (zkb zk_cX12_singles zn_cX12_singles (by decide +kernel))
theorem dX12_singles_79 : decode cX12_singles 79 = .ok (.goto 5, 3) := zo_167 (b1 := 0) (b2 := 5) (zkb3 zk_cX12_singles zn_cX12_singles (by decide +kernel)) rfl
theorem dX12_singles_82 : decode cX12_singles 82 = .ok (.bipush 15, 2) := zo_16 (b1 := 15) (zkb2 zk_cX12_singles zn_cX12_singles (by decide +kernel)) rfl
theorem dX12_singles_84 : decode cX12_singles 84 = .ok (.if_icmp .ne 7, 3) := zo_160 (b1 := 0) (b2 := 7) (zkb3 zk_cX12_singles zn_cX12_singles (by decide +kernel)) rfl
theorem dX12_singles_87 : decode cX12_singles 87 = .ok (.iconst 1, 1) := zo_4 (zkb zk_cX12_singles zn_cX12_singles (by decide +kernel))
theorem dX12_singles_88 : decode cX12_singles 88 = .ok (.goto 4, 3) := zo_167 (b1 := 0) (b2 := 4) (zkb3 zk_cX12_singles zn_cX12_singles (by decide +kernel)) rfl
theorem dX12_singles_91 : decode cX12_singles 91 = .ok (.iconst 0, 1) := zo_3 (zkb zk_cX12_singles zn_cX12_singles (by decide +kernel))
theorem dX12_singles_92 : decode cX12_singles 92 = .ok (.invokevirtual 198, 3) := zo_182 (b1 := 0) (b2 := 198) (zkb3 zk_cX12_singles zn_cX12_singles (by decide +kernel)) rfl
theorem dX12_singles_95 : decode cX12_singles 95 = .ok (.aload_n 0, 1) := zo_42 (zkb zk_cX12_singles zn_cX12_singles (by decide +kernel))
theorem dX12_singles_96 : decode cX12_singles 96 = .ok (.iconst 2, 1) := zo_5 (zkb zk_cX12_singles zn_cX12_singles (by decide +kernel))
theorem dX12_singles_97 : decode cX12_singles 97 = .ok (.iload_n 3, 1) := zo_29 (zkb zk_cX12_singles zn_cX12_singles (by decide +kernel))
theorem dX12_singles_98 : decode cX12_singles 98 = .ok (.iload_n 2, 1) := zo_28 (zkb zk_cX12_singles zn_cX12_singles (by decide +kernel))
theorem dX12_singles_99 : decode cX12_singles 99 = .ok (.iconst 4, 1) := zo_7 (zkb zk_cX12_singles zn_cX12_singles (by decide +kernel))
theorem dX12_singles_100 : decode cX12_singles 100 = .ok (.if_icmp .ne 9, 3) := zo_160 (b1 := 0) (b2 := 9) (zkb3 zk_cX12_singles zn_cX12_singles (by decide +kernel)) rfl
theorem dX12_singles_103 : decode cX12_singles 103 = .ok (.sipush 128, 3) := zo_17 (b1 := 0) (b2 := 128) (zkb3 zk_cX12_singles zn_cX12_singles (by decide +kernel)) rfl
theorem dX12_singles_106 : decode cX12_singles 106 = .ok (.goto 5, 3) := zo_167 (b1 := 0) (b2 := 5) (zkb3 zk_cX12_singles zn_cX12_singles (by decide +kernel)) rfl
theorem dX12_singles_109 : decode cX12_singles 109 = .ok (.bipush 127, 2) := zo_16 (b1 := 127) (zkb2 zk_cX12_singles zn_cX12_singles (by decide +kernel)) rfl
theorem dX12_singles_111 : decode cX12_singles 111 = .ok (.if_icmp .ne 7, 3) := zo_160 (b1 := 0) (b2 := 7) (zkb3 zk_cX12_singles zn_cX12_singles (by decide +kernel)) rfl
theorem dX12_singles_114 : decode cX12_singles 114 = .ok (.iconst 1, 1) := zo_4 (zkb zk_cX12_singles zn_cX12_singles (by decide +kernel))
theorem dX12_singles_115 : decode cX12_singles 115 = .ok (.goto 4, 3) := zo_167 (b1 := 0) (b2 := 4) (zkb3 zk_cX12_singles zn_cX12_singles (by decide +kernel)) rfl
theorem dX12_singles_118 : decode cX12_singles 118 = .ok (.iconst 0, 1) := zo_3 (zkb zk_cX12_singles zn_cX12_singles (by decide +kernel))
theorem dX12_singles_119 : decode cX12_singles 119 = .ok (.invokevirtual 198, 3) := zo_182 (b1 := 0) (b2 := 198) (zkb3 zk_cX12_singles zn_cX12_singles (by decide +kernel)) rfl
theorem dX12_singles_122 : decode cX12_singles 122 = .ok (.aload_n 0, 1) := zo_42 (zkb zk_cX12_singles zn_cX12_singles (by decide +kernel))
theorem dX12_singles_123 : decode cX12_singles 123 = .ok (.iconst 1, 1) := zo_4 (zkb zk_cX12_singles zn_cX12_singles (by decide +kernel))
theorem dX12_singles_124 : decode cX12_singles 124 = .ok (.iload_n 2, 1) := zo_28 (zkb zk_cX12_singles zn_cX12_singles (by decide +kernel))
theorem dX12_singles_125 : decode cX12_singles 125 = .ok (.iconst 5, 1) := zo_8 (zkb zk_cX12_singles zn_cX12_singles (by decide +kernel))
theorem dX12_singles_126 : decode cX12_singles 126 = .ok (.if_icmp .ne 7, 3) := zo_160 (b1 := 0) (b2 := 7) (zkb3 zk_cX12_singles zn_cX12_singles (by decide +kernel)) rfl
theorem dX12_singles_129 : decode cX12_singles 129 = .ok (.iconst 1, 1) := zo_4 (zkb zk_cX12_singles zn_cX12_singles (by decide +kernel))
theorem dX12_singles_130 : decode cX12_singles 130 = .ok (.goto 4, 3) := zo_167 (b1 := 0) (b2 := 4) (zkb3 zk_cX12_singles zn_cX12_singles (by decide +kernel)) rfl
theorem dX12_singles_133 : decode cX12_singles 133 = .ok (.iconst 0, 1) := zo_3 (zkb zk_cX12_singles zn_cX12_singles (by decide +kernel))
theorem dX12_singles_134 : decode cX12_singles 134 = .ok (.invokevirtual 198, 3) := zo_182 (b1 := 0) (b2 := 198) (zkb3 zk_cX12_singles zn_cX12_singles (by decide +kernel)) rfl
theorem dX12_singles_137 : decode cX12_singles 137 = .ok (.iload_n 1, 1) := zo_27 (zkb zk_cX12_singles zn_cX12_singles (by decide +kernel))
theorem dX12_singles_138 : decode cX12_singles 138 = .ok (.bipush 6, 2) := zo_16 (b1 := 6) (zkb2 zk_cX12_singles zn_cX12_singles (by decide +kernel)) rfl
theorem dX12_singles_140 : decode cX12_singles 140 = .ok (.if_icmp .ne 8, 3) := zo_160 (b1 := 0) (b2 := 8) (zkb3 zk_cX12_singles zn_cX12_singles (by decide +kernel)) rfl
theorem dX12_singles_143 : decode cX12_singles 143 = .ok (.bipush 11, 2) := zo_16 (b1 := 11) (zkb2 zk_cX12_singles zn_cX12_singles (by decide +kernel)) rfl
theorem dX12_singles_145 : decode cX12_singles 145 = .ok (.goto 4, 3) := zo_167 (b1 := 0) (b2 := 4) (zkb3 zk_cX12_singles zn_cX12_singles (by decide +kernel)) rfl
theorem dX12_singles_148 : decode cX12_singles 148 = .ok (.iconst 4, 1) := zo_7 (zkb zk_cX12_singles zn_cX12_singles (by decide +kernel))
theorem dX12_singles_149 : decode cX12_singles 149 = .ok (.ireturn, 1) := zo_172 (zkb zk_cX12_singles zn_cX12_singles (by decide +kernel))
theorem dX12_singles_150 : decode cX12_singles 150 = .ok (.iload_n 1, 1) := zo_27 (zkb zk_cX12_singles zn_cX12_singles (by decide +kernel))
theorem dX12_singles_151 : decode cX12_singles 151 = .ok (.iconst 4, 1) := zo_7 (zkb zk_cX12_singles zn_cX12_singles (by decide +kernel))
theorem dX12_singles_152 : decode cX12_singles 152 = .ok (.if_icmp .ge 45, 3) := zo_162 (b1 := 0) (b2 := 45) (zkb3 zk_cX12_singles zn_cX12_singles (by decide +kernel)) rfl
theorem dX12_singles_155 : decode cX12_singles 155 = .ok (.aload_n 0, 1) := zo_42 (zkb zk_cX12_singles zn_cX12_singles (by decide +kernel))
theorem dX12_singles_156 : decode cX12_singles 156 = .ok (.getfield 22, 3) := zo_180 (b1 := 0) (b2 := 22) (zkb3 zk_cX12_singles zn_cX12_singles (by decide +kernel)) rfl
theorem dX12_singles_159 : decode cX12_singles 159 = .ok (.iconst 0, 1) := zo_3 (zkb zk_cX12_singles zn_cX12_singles (by decide +kernel))
theorem dX12_singles_160 : decode cX12_singles 160 = .ok (.aload_n 0, 1) := zo_42 (zkb zk_cX12_singles zn_cX12_singles (by decide +kernel))
theorem dX12_singles_161 : decode cX12_singles 161 = .ok (.iload_n 1, 1) := zo_27 (zkb zk_cX12_singles zn_cX12_singles (by decide +kernel))
theorem dX12_singles_162 : decode cX12_singles 162 = .ok (.aload_n 0, 1) := zo_42 (zkb zk_cX12_singles zn_cX12_singles (by decide +kernel))
theorem dX12_singles_163 : decode cX12_singles 163 = .ok (.getfield 22, 3) := zo_180 (b1 := 0) (b2 := 22) (zkb3 zk_cX12_singles zn_cX12_singles (by decide +kernel)) rfl
theorem dX12_singles_166 : decode cX12_singles 166 = .ok (.iconst 0, 1) := zo_3 (zkb zk_cX12_singles zn_cX12_singles (by decide +kernel))
theorem dX12_singles_167 : decode cX12_singles 167 = .ok (.iaload, 1) := zo_46 (zkb zk_cX12_singles zn_cX12_singles (by decide +kernel))
theorem dX12_singles_168 : decode cX12_singles 168 = .ok (.invokevirtual 278, 3) := zo_182 (b1 := 1) (b2 := 22) (zkb3 zk_cX12_singles zn_cX12_singles (by decide +kernel)) rfl
theorem dX12_singles_171 : decode cX12_singles 171 = .ok (.iastore, 1) := zo_79 (zkb zk_cX12_singles zn_cX12_singles (by decide +kernel))
theorem dX12_singles_172 : decode cX12_singles 172 = .ok (.aload_n 0, 1) := zo_42 (zkb zk_cX12_singles zn_cX12_singles (by decide +kernel))
theorem dX12_singles_173 : decode cX12_singles 173 = .ok (.aload_n 0, 1) := zo_42 (zkb zk_cX12_singles zn_cX12_singles (by decide +kernel))
theorem dX12_singles_174 : decode cX12_singles 174 = .ok (.getfield 22, 3) := zo_180 (b1 := 0) (b2 := 22) (zkb3 zk_cX12_singles zn_cX12_singles (by decide +kernel)) rfl
theorem dX12_singles_177 : decode cX12_singles 177 = .ok (.iconst 0, 1) := zo_3 (zkb zk_cX12_singles zn_cX12_singles (by decide +kernel))
theorem dX12_singles_178 : decode cX12_singles 178 = .ok (.iaload, 1) := zo_46 (zkb zk_cX12_singles zn_cX12_singles (by decide +kernel))
theorem dX12_singles_179 : decode cX12_singles 179 = .ok (.invokevirtual 202, 3) := zo_182 (b1 := 0) (b2 := 202) (zkb3 zk_cX12_singles zn_cX12_singles (by decide +kernel)) rfl
theorem dX12_singles_182 : decode cX12_singles 182 = .ok (.aload_n 0, 1) := zo_42 (zkb zk_cX12_singles zn_cX12_singles (by decide +kernel))
theorem dX12_singles_183 : decode cX12_singles 183 = .ok (.iconst 4, 1) := zo_7 (zkb zk_cX12_singles zn_cX12_singles (by decide +kernel))
theorem dX12_singles_184 : decode cX12_singles 184 = .ok (.iconst 0, 1) := zo_3 (zkb zk_cX12_singles zn_cX12_singles (by decide +kernel))
theorem dX12_singles_185 : decode cX12_singles 185 = .ok (.invokevirtual 198, 3) := zo_182 (b1 := 0) (b2 := 198) (zkb3 zk_cX12_singles zn_cX12_singles (by decide +kernel)) rfl
theorem dX12_singles_188 : decode cX12_singles 188 = .ok (.aload_n 0, 1) := zo_42 (zkb zk_cX12_singles zn_cX12_singles (by decide +kernel))
theorem dX12_singles_189 : decode cX12_singles 189 = .ok (.iconst 1, 1) := zo_4 (zkb zk_cX12_singles zn_cX12_singles (by decide +kernel))
theorem dX12_singles_190 : decode cX12_singles 190 = .ok (.iconst 0, 1) := zo_3 (zkb zk_cX12_singles zn_cX12_singles (by decide +kernel))
theorem dX12_singles_191 : decode cX12_singles 191 = .ok (.invokevirtual 198, 3) := zo_182 (b1 := 0) (b2 := 198) (zkb3 zk_cX12_singles zn_cX12_singles (by decide +kernel)) rfl
theorem dX12_singles_194 : decode cX12_singles 194 = .ok (.goto 122, 3) := zo_167 (b1 := 0) (b2 := 122) (zkb3 zk_cX12_singles zn_cX12_singles (by decide +kernel)) rfl
theorem dX12_singles_197 : decode cX12_singles 197 = .ok (.iload_n 1, 1) := zo_27 (zkb zk_cX12_singles zn_cX12_singles (by decide +kernel))
theorem dX12_singles_198 : decode cX12_singles 198 = .ok (.iconst 4, 1) := zo_7 (zkb zk_cX12_singles zn_cX12_singles (by decide +kernel))
theorem dX12_singles_199 : decode cX12_singles 199 = .ok (.if_icmp .ne 10, 3) := zo_160 (b1 := 0) (b2 := 10) (zkb3 zk_cX12_singles zn_cX12_singles (by decide +kernel)) rfl
theorem dX12_singles_202 : decode cX12_singles 202 = .ok (.aload_n 0, 1) := zo_42 (zkb zk_cX12_singles zn_cX12_singles (by decide +kernel))
theorem dX12_singles_203 : decode cX12_singles 203 = .ok (.invokevirtual 281, 3) := zo_182 (b1 := 1) (b2 := 25) (zkb3 zk_cX12_singles zn_cX12_singles (by decide +kernel)) rfl
theorem dX12_singles_206 : decode cX12_singles 206 = .ok (.goto 110, 3) := zo_167 (b1 := 0) (b2 := 110) (zkb3 zk_cX12_singles zn_cX12_singles (by decide +kernel)) rfl
theorem dX12_singles_209 : decode cX12_singles 209 = .ok (.iload_n 1, 1) := zo_27 (zkb zk_cX12_singles zn_cX12_singles (by decide +kernel))
theorem dX12_singles_210 : decode cX12_singles 210 = .ok (.iconst 5, 1) := zo_8 (zkb zk_cX12_singles zn_cX12_singles (by decide +kernel))
theorem dX12_singles_211 : decode cX12_singles 211 = .ok (.if_icmp .ne 40, 3) := zo_160 (b1 := 0) (b2 := 40) (zkb3 zk_cX12_singles zn_cX12_singles (by decide +kernel)) rfl
theorem dX12_singles_214 : decode cX12_singles 214 = .ok (.aload_n 0, 1) := zo_42 (zkb zk_cX12_singles zn_cX12_singles (by decide +kernel))
theorem dX12_singles_215 : decode cX12_singles 215 = .ok (.getfield 22, 3) := zo_180 (b1 := 0) (b2 := 22) (zkb3 zk_cX12_singles zn_cX12_singles (by decide +kernel)) rfl
theorem dX12_singles_218 : decode cX12_singles 218 = .ok (.iconst 0, 1) := zo_3 (zkb zk_cX12_singles zn_cX12_singles (by decide +kernel))
theorem dX12_singles_219 : decode cX12_singles 219 = .ok (.dup2, 1) := zo_92 (zkb zk_cX12_singles zn_cX12_singles (by decide +kernel))
theorem dX12_singles_220 : decode cX12_singles 220 = .ok (.iaload, 1) := zo_46 (zkb zk_cX12_singles zn_cX12_singles (by decide +kernel))
theorem dX12_singles_221 : decode cX12_singles 221 = .ok (.sipush 255, 3) := zo_17 (b1 := 0) (b2 := 255) (zkb3 zk_cX12_singles zn_cX12_singles (by decide +kernel)) rfl
theorem dX12_singles_224 : decode cX12_singles 224 = .ok (.ixor, 1) := zo_130 (zkb zk_cX12_singles zn_cX12_singles (by decide +kernel))
theorem dX12_singles_225 : decode cX12_singles 225 = .ok (.iastore, 1) := zo_79 (zkb zk_cX12_singles zn_cX12_singles (by decide +kernel))
theorem dX12_singles_226 : decode cX12_singles 226 = .ok (.aload_n 0, 1) := zo_42 (zkb zk_cX12_singles zn_cX12_singles (by decide +kernel))
theorem dX12_singles_227 : decode cX12_singles 227 = .ok (.iconst 4, 1) := zo_7 (zkb zk_cX12_singles zn_cX12_singles (by decide +kernel))
theorem dX12_singles_228 : decode cX12_singles 228 = .ok (.iconst 1, 1) := zo_4 (zkb zk_cX12_singles zn_cX12_singles (by decide +kernel))
theorem dX12_singles_229 : decode cX12_singles 229 = .ok (.invokevirtual 198, 3) := zo_182 (b1 := 0) (b2 := 198) (zkb3 zk_cX12_singles zn_cX12_singles (by decide +kernel)) rfl
theorem dX12_singles_232 : decode cX12_singles 232 = .ok (.aload_n 0, 1) := zo_42 (zkb zk_cX12_singles zn_cX12_singles (by decide +kernel))
theorem dX12_singles_233 : decode cX12_singles 233 = .ok (.iconst 1, 1) := zo_4 (zkb zk_cX12_singles zn_cX12_singles (by decide +kernel))
theorem dX12_singles_234 : decode cX12_singles 234 = .ok (.iconst 1, 1) := zo_4 (zkb zk_cX12_singles zn_cX12_singles (by decide +kernel))
theorem dX12_singles_235 : decode cX12_singles 235 = .ok (.invokevirtual 198, 3) := zo_182 (b1 := 0) (b2 := 198) (zkb3 zk_cX12_singles zn_cX12_singles (by decide +kernel)) rfl
theorem dX12_singles_238 : decode cX12_singles 238 = .ok (.aload_n 0, 1) := zo_42 (zkb zk_cX12_singles zn_cX12_singles (by decide +kernel))
theorem dX12_singles_239 : decode cX12_singles 239 = .ok (.aload_n 0, 1) := zo_42 (zkb zk_cX12_singles zn_cX12_singles (by decide +kernel))
theorem dX12_singles_240 : decode cX12_singles 240 = .ok (.getfield 22, 3) := zo_180 (b1 := 0) (b2 := 22) (zkb3 zk_cX12_singles zn_cX12_singles (by decide +kernel)) rfl
theorem dX12_singles_243 : decode cX12_singles 243 = .ok (.iconst 0, 1) := zo_3 (zkb zk_cX12_singles zn_cX12_singles (by decide +kernel))
theorem dX12_singles_244 : decode cX12_singles 244 = .ok (.iaload, 1) := zo_46 (zkb zk_cX12_singles zn_cX12_singles (by decide +kernel))
theorem dX12_singles_245 : decode cX12_singles 245 = .ok (.invokevirtual 202, 3) := zo_182 (b1 := 0) (b2 := 202) (zkb3 zk_cX12_singles zn_cX12_singles (by decide +kernel)) rfl
theorem dX12_singles_248 : decode cX12_singles 248 = .ok (.goto 68, 3) := zo_167 (b1 := 0) (b2 := 68) (zkb3 zk_cX12_singles zn_cX12_singles (by decide +kernel)) rfl
theorem dX12_singles_251 : decode cX12_singles 251 = .ok (.aload_n 0, 1) := zo_42 (zkb zk_cX12_singles zn_cX12_singles (by decide +kernel))
theorem dX12_singles_252 : decode cX12_singles 252 = .ok (.iconst 4, 1) := zo_7 (zkb zk_cX12_singles zn_cX12_singles (by decide +kernel))
theorem dX12_singles_253 : decode cX12_singles 253 = .ok (.iload_n 1, 1) := zo_27 (zkb zk_cX12_singles zn_cX12_singles (by decide +kernel))
theorem dX12_singles_254 : decode cX12_singles 254 = .ok (.bipush 7, 2) := zo_16 (b1 := 7) (zkb2 zk_cX12_singles zn_cX12_singles (by decide +kernel)) rfl
theorem dX12_singles_256 : decode cX12_singles 256 = .ok (.if_icmp .ne 16, 3) := zo_160 (b1 := 0) (b2 := 16) (zkb3 zk_cX12_singles zn_cX12_singles (by decide +kernel)) rfl
theorem dX12_singles_259 : decode cX12_singles 259 = .ok (.aload_n 0, 1) := zo_42 (zkb zk_cX12_singles zn_cX12_singles (by decide +kernel))
theorem dX12_singles_260 : decode cX12_singles 260 = .ok (.iconst 0, 1) := zo_3 (zkb zk_cX12_singles zn_cX12_singles (by decide +kernel))
theorem dX12_singles_261 : decode cX12_singles 261 = .ok (.invokevirtual 205, 3) := zo_182 (b1 := 0) (b2 := 205) (zkb3 zk_cX12_singles zn_cX12_singles (by decide +kernel)) rfl
theorem dX12_singles_264 : decode cX12_singles 264 = .ok (.iconst 1, 1) := zo_4 (zkb zk_cX12_singles zn_cX12_singles (by decide +kernel))
theorem dX12_singles_265 : decode cX12_singles 265 = .ok (.if_icmp .ne 7, 3) := zo_160 (b1 := 0) (b2 := 7) (zkb3 zk_cX12_singles zn_cX12_singles (by decide +kernel)) rfl
theorem dX12_singles_268 : decode cX12_singles 268 = .ok (.iconst 1, 1) := zo_4 (zkb zk_cX12_singles zn_cX12_singles (by decide +kernel))
theorem dX12_singles_269 : decode cX12_singles 269 = .ok (.goto 4, 3) := zo_167 (b1 := 0) (b2 := 4) (zkb3 zk_cX12_singles zn_cX12_singles (by decide +kernel)) rfl
theorem dX12_singles_272 : decode cX12_singles 272 = .ok (.iconst 0, 1) := zo_3 (zkb zk_cX12_singles zn_cX12_singles (by decide +kernel))
theorem dX12_singles_273 : decode cX12_singles 273 = .ok (.invokevirtual 198, 3) := zo_182 (b1 := 0) (b2 := 198) (zkb3 zk_cX12_singles zn_cX12_singles (by decide +kernel)) rfl
theorem dX12_singles_276 : decode cX12_singles 276 = .ok (.aload_n 0, 1) := zo_42 (zkb zk_cX12_singles zn_cX12_singles (by decide +kernel))
theorem dX12_singles_277 : decode cX12_singles 277 = .ok (.iconst 0, 1) := zo_3 (zkb zk_cX12_singles zn_cX12_singles (by decide +kernel))
theorem dX12_singles_278 : decode cX12_singles 278 = .ok (.iload_n 1, 1) := zo_27 (zkb zk_cX12_singles zn_cX12_singles (by decide +kernel))
theorem dX12_singles_279 : decode cX12_singles 279 = .ok (.bipush 6, 2) := zo_16 (b1 := 6) (zkb2 zk_cX12_singles zn_cX12_singles (by decide +kernel)) rfl
theorem dX12_singles_281 : decode cX12_singles 281 = .ok (.if_icmp .eq 11, 3) := zo_159 (b1 := 0) (b2 := 11) (zkb3 zk_cX12_singles zn_cX12_singles (by decide +kernel)) rfl
theorem dX12_singles_284 : decode cX12_singles 284 = .ok (.aload_n 0, 1) := zo_42 (zkb zk_cX12_singles zn_cX12_singles (by decide +kernel))
theorem dX12_singles_285 : decode cX12_singles 285 = .ok (.iconst 0, 1) := zo_3 (zkb zk_cX12_singles zn_cX12_singles (by decide +kernel))
theorem dX12_singles_286 : decode cX12_singles 286 = .ok (.invokevirtual 205, 3) := zo_182 (b1 := 0) (b2 := 205) (zkb3 zk_cX12_singles zn_cX12_singles (by decide +kernel)) rfl
theorem dX12_singles_289 : decode cX12_singles 289 = .ok (.ifCond .ne 7, 3) := zo_154 (b1 := 0) (b2 := 7) (zkb3 zk_cX12_singles zn_cX12_singles (by decide +kernel)) rfl
theorem dX12_singles_292 : decode cX12_singles 292 = .ok (.iconst 1, 1) := zo_4 (zkb zk_cX12_singles zn_cX12_singles (by decide +kernel))
theorem dX12_singles_293 : decode cX12_singles 293 = .ok (.goto 4, 3) := zo_167 (b1 := 0) (b2 := 4) (zkb3 zk_cX12_singles zn_cX12_singles (by decide +kernel)) rfl
theorem dX12_singles_296 : decode cX12_singles 296 = .ok (.iconst 0, 1) := zo_3 (zkb zk_cX12_singles zn_cX12_singles (by decide +kernel))
theorem dX12_singles_297 : decode cX12_singles 297 = .ok (.invokevirtual 198, 3) := zo_182 (b1 := 0) (b2 := 198) (zkb3 zk_cX12_singles zn_cX12_singles (by decide +kernel)) rfl
theorem dX12_singles_300 : decode cX12_singles 300 = .ok (.aload_n 0, 1) := zo_42 (zkb zk_cX12_singles zn_cX12_singles (by decide +kernel))
theorem dX12_singles_301 : decode cX12_singles 301 = .ok (.iconst 1, 1) := zo_4 (zkb zk_cX12_singles zn_cX12_singles (by decide +kernel))
theorem dX12_singles_302 : decode cX12_singles 302 = .ok (.iconst 0, 1) := zo_3 (zkb zk_cX12_singles zn_cX12_singles (by decide +kernel))
theorem dX12_singles_303 : decode cX12_singles 303 = .ok (.invokevirtual 198, 3) := zo_182 (b1 := 0) (b2 := 198) (zkb3 zk_cX12_singles zn_cX12_singles (by decide +kernel)) rfl
theorem dX12_singles_306 : decode cX12_singles 306 = .ok (.aload_n 0, 1) := zo_42 (zkb zk_cX12_singles zn_cX12_singles (by decide +kernel))
theorem dX12_singles_307 : decode cX12_singles 307 = .ok (.aload_n 0, 1) := zo_42 (zkb zk_cX12_singles zn_cX12_singles (by decide +kernel))
theorem dX12_singles_308 : decode cX12_singles 308 = .ok (.getfield 22, 3) := zo_180 (b1 := 0) (b2 := 22) (zkb3 zk_cX12_singles zn_cX12_singles (by decide +kernel)) rfl
theorem dX12_singles_311 : decode cX12_singles 311 = .ok (.iconst 0, 1) := zo_3 (zkb zk_cX12_singles zn_cX12_singles (by decide +kernel))
theorem dX12_singles_312 : decode cX12_singles 312 = .ok (.iaload, 1) := zo_46 (zkb zk_cX12_singles zn_cX12_singles (by decide +kernel))
theorem dX12_singles_313 : decode cX12_singles 313 = .ok (.invokevirtual 202, 3) := zo_182 (b1 := 0) (b2 := 202) (zkb3 zk_cX12_singles zn_cX12_singles (by decide +kernel)) rfl
theorem dX12_singles_316 : decode cX12_singles 316 = .ok (.iconst 4, 1) := zo_7 (zkb zk_cX12_singles zn_cX12_singles (by decide +kernel))
theorem dX12_singles_317 : decode cX12_singles 317 = .ok (.ireturn, 1) := zo_172 (zkb zk_cX12_singles zn_cX12_singles (by decide +kernel))
def kn_cX12_adjusts : Nat := 0xb1c600b61c01b82e031600b42a052a1301b62e031600b42a2a4f7eff0011641c1b0600a7601c1b09009acd00b6042a031600b42ac600b6030400a7040700a206107e0f101b1000a004cd00b6072a1a00a7031e00a7040700a409107e0f101b14009acd00b6042a072ac600b604032a6002840c00a004cd00b6032a0c00a39900111b0602840600a004cd00b6072a0c00a309107e0f101b3d033c2e031600b42a
theorem zk_cX12_adjusts : zkd cX12_adjusts.data.toList kn_cX12_adjusts = true := by decide +kernel
theorem zn_cX12_adjusts : cX12_adjusts.data.toList.length = 160 := by decide +kernel
theorem dX12_adjusts_0 : decode cX12_adjusts 0 = .ok (.aload_n 0, 1) := zo_42 (zkb zk_cX12_adjusts zn_cX12_adjusts (by decide +kernel))
theorem dX12_adjusts_1 : decode cX12_adjusts 1 = .ok (.getfield 22, 3) := zo_180 (b1 := 0) (b2 := 22) (zkb3 zk_cX12_adjusts zn_cX12_adjusts (by decide +kernel)) rfl
theorem dX12_adjusts_4 : decode cX12_adjusts 4 = .ok (.iconst 0, 1) := zo_3 (zkb zk_cX12_adjusts zn_cX12_adjusts (by decide +kernel))
theorem dX12_adjusts_5 : decode cX12_adjusts 5 = .ok (.iaload, 1) := zo_46 (zkb zk_cX12_adjusts zn_cX12_adjusts (by decide +kernel))
theorem dX12_adjusts_6 : decode cX12_adjusts 6 = .ok (.istore_n 1, 1) := zo_60 (zkb zk_cX12_adjusts zn_cX12_adjusts (by decide +kernel))
theorem dX12_adjusts_7 : decode cX12_adjusts 7 = .ok (.iconst 0, 1) := zo_3 (zkb zk_cX12_adjusts zn_cX12_adjusts (by decide +kernel))
theorem dX12_adjusts_8 : decode cX12_adjusts 8 = .ok (.istore_n 2, 1) := zo_61 (zkb zk_cX12_adjusts zn_cX12_adjusts (by decide +kernel))
theorem dX12_adjusts_9 : decode cX12_adjusts 9 = .ok (.iload_n 1, 1) := zo_27 (zkb zk_cX12_adjusts zn_cX12_adjusts (by decide +kernel))
theorem dX12_adjusts_10 : decode cX12_adjusts 10 = .ok (.bipush 15, 2) := zo_16 (b1 := 15) (zkb2 zk_cX12_adjusts zn_cX12_adjusts (by decide +kernel)) rfl
theorem dX12_adjusts_12 : decode cX12_adjusts 12 = .ok (.iand, 1) := zo_126 (zkb zk_cX12_adjusts zn_cX12_adjusts (by decide +kernel))
theorem dX12_adjusts_13 : decode cX12_adjusts 13 = .ok (.bipush 9, 2) := zo_16 (b1 := 9) (zkb2 zk_cX12_adjusts zn_cX12_adjusts (by decide +kernel)) rfl
theorem dX12_adjusts_15 : decode cX12_adjusts 15 = .ok (.if_icmp .gt 12, 3) := zo_163 (b1 := 0) (b2 := 12) (zkb3 zk_cX12_adjusts zn_cX12_adjusts (by decide +kernel)) rfl
theorem dX12_adjusts_18 : decode cX12_adjusts 18 = .ok (.aload_n 0, 1) := zo_42 (zkb zk_cX12_adjusts zn_cX12_adjusts (by decide +kernel))
theorem dX12_adjusts_19 : decode cX12_adjusts 19 = .ok (.iconst 4, 1) := zo_7 (zkb zk_cX12_adjusts zn_cX12_adjusts (by decide +kernel))
theorem dX12_adjusts_20 : decode cX12_adjusts 20 = .ok (.invokevirtual 205, 3) := zo_182 (b1 := 0) (b2 := 205) (zkb3 zk_cX12_adjusts zn_cX12_adjusts (by decide +kernel)) rfl
theorem dX12_adjusts_23 : decode cX12_adjusts 23 = .ok (.iconst 1, 1) := zo_4 (zkb zk_cX12_adjusts zn_cX12_adjusts (by decide +kernel))
theorem dX12_adjusts_24 : decode cX12_adjusts 24 = .ok (.if_icmp .ne 6, 3) := zo_160 (b1 := 0) (b2 := 6) (zkb3 zk_cX12_adjusts zn_cX12_adjusts (by decide +kernel)) rfl
theorem dX12_adjusts_27 : decode cX12_adjusts 27 = .ok (.iinc 2 6, 3) := zo_132 (b1 := 2) (b2 := 6) (zkb3 zk_cX12_adjusts zn_cX12_adjusts (by decide +kernel)) rfl
theorem dX12_adjusts_30 : decode cX12_adjusts 30 = .ok (.iload_n 1, 1) := zo_27 (zkb zk_cX12_adjusts zn_cX12_adjusts (by decide +kernel))
theorem dX12_adjusts_31 : decode cX12_adjusts 31 = .ok (.sipush 153, 3) := zo_17 (b1 := 0) (b2 := 153) (zkb3 zk_cX12_adjusts zn_cX12_adjusts (by decide +kernel)) rfl
theorem dX12_adjusts_34 : decode cX12_adjusts 34 = .ok (.if_icmp .gt 12, 3) := zo_163 (b1 := 0) (b2 := 12) (zkb3 zk_cX12_adjusts zn_cX12_adjusts (by decide +kernel)) rfl
theorem dX12_adjusts_37 : decode cX12_adjusts 37 = .ok (.aload_n 0, 1) := zo_42 (zkb zk_cX12_adjusts zn_cX12_adjusts (by decide +kernel))
theorem dX12_adjusts_38 : decode cX12_adjusts 38 = .ok (.iconst 0, 1) := zo_3 (zkb zk_cX12_adjusts zn_cX12_adjusts (by decide +kernel))
theorem dX12_adjusts_39 : decode cX12_adjusts 39 = .ok (.invokevirtual 205, 3) := zo_182 (b1 := 0) (b2 := 205) (zkb3 zk_cX12_adjusts zn_cX12_adjusts (by decide +kernel)) rfl
theorem dX12_adjusts_42 : decode cX12_adjusts 42 = .ok (.iconst 1, 1) := zo_4 (zkb zk_cX12_adjusts zn_cX12_adjusts (by decide +kernel))
theorem dX12_adjusts_43 : decode cX12_adjusts 43 = .ok (.if_icmp .ne 12, 3) := zo_160 (b1 := 0) (b2 := 12) (zkb3 zk_cX12_adjusts zn_cX12_adjusts (by decide +kernel)) rfl
theorem dX12_adjusts_46 : decode cX12_adjusts 46 = .ok (.iinc 2 96, 3) := zo_132 (b1 := 2) (b2 := 96) (zkb3 zk_cX12_adjusts zn_cX12_adjusts (by decide +kernel)) rfl
theorem dX12_adjusts_49 : decode cX12_adjusts 49 = .ok (.aload_n 0, 1) := zo_42 (zkb zk_cX12_adjusts zn_cX12_adjusts (by decide +kernel))
theorem dX12_adjusts_50 : decode cX12_adjusts 50 = .ok (.iconst 0, 1) := zo_3 (zkb zk_cX12_adjusts zn_cX12_adjusts (by decide +kernel))
theorem dX12_adjusts_51 : decode cX12_adjusts 51 = .ok (.iconst 1, 1) := zo_4 (zkb zk_cX12_adjusts zn_cX12_adjusts (by decide +kernel))
theorem dX12_adjusts_52 : decode cX12_adjusts 52 = .ok (.invokevirtual 198, 3) := zo_182 (b1 := 0) (b2 := 198) (zkb3 zk_cX12_adjusts zn_cX12_adjusts (by decide +kernel)) rfl
theorem dX12_adjusts_55 : decode cX12_adjusts 55 = .ok (.aload_n 0, 1) := zo_42 (zkb zk_cX12_adjusts zn_cX12_adjusts (by decide +kernel))
theorem dX12_adjusts_56 : decode cX12_adjusts 56 = .ok (.iconst 4, 1) := zo_7 (zkb zk_cX12_adjusts zn_cX12_adjusts (by decide +kernel))
theorem dX12_adjusts_57 : decode cX12_adjusts 57 = .ok (.aload_n 0, 1) := zo_42 (zkb zk_cX12_adjusts zn_cX12_adjusts (by decide +kernel))
theorem dX12_adjusts_58 : decode cX12_adjusts 58 = .ok (.iconst 1, 1) := zo_4 (zkb zk_cX12_adjusts zn_cX12_adjusts (by decide +kernel))
theorem dX12_adjusts_59 : decode cX12_adjusts 59 = .ok (.invokevirtual 205, 3) := zo_182 (b1 := 0) (b2 := 205) (zkb3 zk_cX12_adjusts zn_cX12_adjusts (by decide +kernel)) rfl
theorem dX12_adjusts_62 : decode cX12_adjusts 62 = .ok (.ifCond .ne 20, 3) := zo_154 (b1 := 0) (b2 := 20) (zkb3 zk_cX12_adjusts zn_cX12_adjusts (by decide +kernel)) rfl
theorem dX12_adjusts_65 : decode cX12_adjusts 65 = .ok (.iload_n 1, 1) := zo_27 (zkb zk_cX12_adjusts zn_cX12_adjusts (by decide +kernel))
theorem dX12_adjusts_66 : decode cX12_adjusts 66 = .ok (.bipush 15, 2) := zo_16 (b1 := 15) (zkb2 zk_cX12_adjusts zn_cX12_adjusts (by decide +kernel)) rfl
theorem dX12_adjusts_68 : decode cX12_adjusts 68 = .ok (.iand, 1) := zo_126 (zkb zk_cX12_adjusts zn_cX12_adjusts (by decide +kernel))
theorem dX12_adjusts_69 : decode cX12_adjusts 69 = .ok (.bipush 9, 2) := zo_16 (b1 := 9) (zkb2 zk_cX12_adjusts zn_cX12_adjusts (by decide +kernel)) rfl
theorem dX12_adjusts_71 : decode cX12_adjusts 71 = .ok (.if_icmp .le 7, 3) := zo_164 (b1 := 0) (b2 := 7) (zkb3 zk_cX12_adjusts zn_cX12_adjusts (by decide +kernel)) rfl
theorem dX12_adjusts_74 : decode cX12_adjusts 74 = .ok (.iconst 1, 1) := zo_4 (zkb zk_cX12_adjusts zn_cX12_adjusts (by decide +kernel))
theorem dX12_adjusts_75 : decode cX12_adjusts 75 = .ok (.goto 30, 3) := zo_167 (b1 := 0) (b2 := 30) (zkb3 zk_cX12_adjusts zn_cX12_adjusts (by decide +kernel)) rfl
theorem dX12_adjusts_78 : decode cX12_adjusts 78 = .ok (.iconst 0, 1) := zo_3 (zkb zk_cX12_adjusts zn_cX12_adjusts (by decide +kernel))
theorem dX12_adjusts_79 : decode cX12_adjusts 79 = .ok (.goto 26, 3) := zo_167 (b1 := 0) (b2 := 26) (zkb3 zk_cX12_adjusts zn_cX12_adjusts (by decide +kernel)) rfl
theorem dX12_adjusts_82 : decode cX12_adjusts 82 = .ok (.aload_n 0, 1) := zo_42 (zkb zk_cX12_adjusts zn_cX12_adjusts (by decide +kernel))
theorem dX12_adjusts_83 : decode cX12_adjusts 83 = .ok (.iconst 4, 1) := zo_7 (zkb zk_cX12_adjusts zn_cX12_adjusts (by decide +kernel))
theorem dX12_adjusts_84 : decode cX12_adjusts 84 = .ok (.invokevirtual 205, 3) := zo_182 (b1 := 0) (b2 := 205) (zkb3 zk_cX12_adjusts zn_cX12_adjusts (by decide +kernel)) rfl
theorem dX12_adjusts_87 : decode cX12_adjusts 87 = .ok (.iconst 1, 1) := zo_4 (zkb zk_cX12_adjusts zn_cX12_adjusts (by decide +kernel))
theorem dX12_adjusts_88 : decode cX12_adjusts 88 = .ok (.if_icmp .ne 16, 3) := zo_160 (b1 := 0) (b2 := 16) (zkb3 zk_cX12_adjusts zn_cX12_adjusts (by decide +kernel)) rfl
theorem dX12_adjusts_91 : decode cX12_adjusts 91 = .ok (.iload_n 1, 1) := zo_27 (zkb zk_cX12_adjusts zn_cX12_adjusts (by decide +kernel))
theorem dX12_adjusts_92 : decode cX12_adjusts 92 = .ok (.bipush 15, 2) := zo_16 (b1 := 15) (zkb2 zk_cX12_adjusts zn_cX12_adjusts (by decide +kernel)) rfl
theorem dX12_adjusts_94 : decode cX12_adjusts 94 = .ok (.iand, 1) := zo_126 (zkb zk_cX12_adjusts zn_cX12_adjusts (by decide +kernel))
theorem dX12_adjusts_95 : decode cX12_adjusts 95 = .ok (.bipush 6, 2) := zo_16 (b1 := 6) (zkb2 zk_cX12_adjusts zn_cX12_adjusts (by decide +kernel)) rfl
theorem dX12_adjusts_97 : decode cX12_adjusts 97 = .ok (.if_icmp .ge 7, 3) := zo_162 (b1 := 0) (b2 := 7) (zkb3 zk_cX12_adjusts zn_cX12_adjusts (by decide +kernel)) rfl
theorem dX12_adjusts_100 : decode cX12_adjusts 100 = .ok (.iconst 1, 1) := zo_4 (zkb zk_cX12_adjusts zn_cX12_adjusts (by decide +kernel))
theorem dX12_adjusts_101 : decode cX12_adjusts 101 = .ok (.goto 4, 3) := zo_167 (b1 := 0) (b2 := 4) (zkb3 zk_cX12_adjusts zn_cX12_adjusts (by decide +kernel)) rfl
theorem dX12_adjusts_104 : decode cX12_adjusts 104 = .ok (.iconst 0, 1) := zo_3 (zkb zk_cX12_adjusts zn_cX12_adjusts (by decide +kernel))
theorem dX12_adjusts_105 : decode cX12_adjusts 105 = .ok (.invokevirtual 198, 3) := zo_182 (b1 := 0) (b2 := 198) (zkb3 zk_cX12_adjusts zn_cX12_adjusts (by decide +kernel)) rfl
theorem dX12_adjusts_108 : decode cX12_adjusts 108 = .ok (.aload_n 0, 1) := zo_42 (zkb zk_cX12_adjusts zn_cX12_adjusts (by decide +kernel))
theorem dX12_adjusts_109 : decode cX12_adjusts 109 = .ok (.getfield 22, 3) := zo_180 (b1 := 0) (b2 := 22) (zkb3 zk_cX12_adjusts zn_cX12_adjusts (by decide +kernel)) rfl
theorem dX12_adjusts_112 : decode cX12_adjusts 112 = .ok (.iconst 0, 1) := zo_3 (zkb zk_cX12_adjusts zn_cX12_adjusts (by decide +kernel))
theorem dX12_adjusts_113 : decode cX12_adjusts 113 = .ok (.aload_n 0, 1) := zo_42 (zkb zk_cX12_adjusts zn_cX12_adjusts (by decide +kernel))
theorem dX12_adjusts_114 : decode cX12_adjusts 114 = .ok (.iconst 1, 1) := zo_4 (zkb zk_cX12_adjusts zn_cX12_adjusts (by decide +kernel))
theorem dX12_adjusts_115 : decode cX12_adjusts 115 = .ok (.invokevirtual 205, 3) := zo_182 (b1 := 0) (b2 := 205) (zkb3 zk_cX12_adjusts zn_cX12_adjusts (by decide +kernel)) rfl
theorem dX12_adjusts_118 : decode cX12_adjusts 118 = .ok (.ifCond .ne 9, 3) := zo_154 (b1 := 0) (b2 := 9) (zkb3 zk_cX12_adjusts zn_cX12_adjusts (by decide +kernel)) rfl
theorem dX12_adjusts_121 : decode cX12_adjusts 121 = .ok (.iload_n 1, 1) := zo_27 (zkb zk_cX12_adjusts zn_cX12_adjusts (by decide +kernel))
theorem dX12_adjusts_122 : decode cX12_adjusts 122 = .ok (.iload_n 2, 1) := zo_28 (zkb zk_cX12_adjusts zn_cX12_adjusts (by decide +kernel))
theorem dX12_adjusts_123 : decode cX12_adjusts 123 = .ok (.iadd, 1) := zo_96 (zkb zk_cX12_adjusts zn_cX12_adjusts (by decide +kernel))
theorem dX12_adjusts_124 : decode cX12_adjusts 124 = .ok (.goto 6, 3) := zo_167 (b1 := 0) (b2 := 6) (zkb3 zk_cX12_adjusts zn_cX12_adjusts (by decide +kernel)) rfl
theorem dX12_adjusts_127 : decode cX12_adjusts 127 = .ok (.iload_n 1, 1) := zo_27 (zkb zk_cX12_adjusts zn_cX12_adjusts (by decide +kernel))
theorem dX12_adjusts_128 : decode cX12_adjusts 128 = .ok (.iload_n 2, 1) := zo_28 (zkb zk_cX12_adjusts zn_cX12_adjusts (by decide +kernel))
theorem dX12_adjusts_129 : decode cX12_adjusts 129 = .ok (.isub, 1) := zo_100 (zkb zk_cX12_adjusts zn_cX12_adjusts (by decide +kernel))
theorem dX12_adjusts_130 : decode cX12_adjusts 130 = .ok (.sipush 255, 3) := zo_17 (b1 := 0) (b2 := 255) (zkb3 zk_cX12_adjusts zn_cX12_adjusts (by decide +kernel)) rfl
theorem dX12_adjusts_133 : decode cX12_adjusts 133 = .ok (.iand, 1) := zo_126 (zkb zk_cX12_adjusts zn_cX12_adjusts (by decide +kernel))
theorem dX12_adjusts_134 : decode cX12_adjusts 134 = .ok (.iastore, 1) := zo_79 (zkb zk_cX12_adjusts zn_cX12_adjusts (by decide +kernel))
theorem dX12_adjusts_135 : decode cX12_adjusts 135 = .ok (.aload_n 0, 1) := zo_42 (zkb zk_cX12_adjusts zn_cX12_adjusts (by decide +kernel))
theorem dX12_adjusts_136 : decode cX12_adjusts 136 = .ok (.aload_n 0, 1) := zo_42 (zkb zk_cX12_adjusts zn_cX12_adjusts (by decide +kernel))
theorem dX12_adjusts_137 : decode cX12_adjusts 137 = .ok (.getfield 22, 3) := zo_180 (b1 := 0) (b2 := 22) (zkb3 zk_cX12_adjusts zn_cX12_adjusts (by decide +kernel)) rfl
theorem dX12_adjusts_140 : decode cX12_adjusts 140 = .ok (.iconst 0, 1) := zo_3 (zkb zk_cX12_adjusts zn_cX12_adjusts (by decide +kernel))
theorem dX12_adjusts_141 : decode cX12_adjusts 141 = .ok (.iaload, 1) := zo_46 (zkb zk_cX12_adjusts zn_cX12_adjusts (by decide +kernel))
theorem dX12_adjusts_142 : decode cX12_adjusts 142 = .ok (.invokevirtual 275, 3) := zo_182 (b1 := 1) (b2 := 19) (zkb3 zk_cX12_adjusts zn_cX12_adjusts (by decide +kernel)) rfl
theorem dX12_adjusts_145 : decode cX12_adjusts 145 = .ok (.aload_n 0, 1) := zo_42 (zkb zk_cX12_adjusts zn_cX12_adjusts (by decide +kernel))
theorem dX12_adjusts_146 : decode cX12_adjusts 146 = .ok (.iconst 2, 1) := zo_5 (zkb zk_cX12_adjusts zn_cX12_adjusts (by decide +kernel))
theorem dX12_adjusts_147 : decode cX12_adjusts 147 = .ok (.aload_n 0, 1) := zo_42 (zkb zk_cX12_adjusts zn_cX12_adjusts (by decide +kernel))
theorem dX12_adjusts_148 : decode cX12_adjusts 148 = .ok (.getfield 22, 3) := zo_180 (b1 := 0) (b2 := 22) (zkb3 zk_cX12_adjusts zn_cX12_adjusts (by decide +kernel)) rfl
theorem dX12_adjusts_151 : decode cX12_adjusts 151 = .ok (.iconst 0, 1) := zo_3 (zkb zk_cX12_adjusts zn_cX12_adjusts (by decide +kernel))
theorem dX12_adjusts_152 : decode cX12_adjusts 152 = .ok (.iaload, 1) := zo_46 (zkb zk_cX12_adjusts zn_cX12_adjusts (by decide +kernel))
theorem dX12_adjusts_153 : decode cX12_adjusts 153 = .ok (.invokestatic 284, 3) := zo_184 (b1 := 1) (b2 := 28) (zkb3 zk_cX12_adjusts zn_cX12_adjusts (by decide +kernel)) rfl
theorem dX12_adjusts_156 : decode cX12_adjusts 156 = .ok (.invokevirtual 198, 3) := zo_182 (b1 := 0) (b2 := 198) (zkb3 zk_cX12_adjusts zn_cX12_adjusts (by decide +kernel)) rfl
theorem dX12_adjusts_159 : decode cX12_adjusts 159 = .ok (.return_, 1) := zo_177 (zkb zk_cX12_adjusts zn_cX12_adjusts (by decide +kernel))
def kn_cX12_answers : Nat := 0xb14f031a101600b42ad300b62a
theorem zk_cX12_answers : zkd cX12_answers.data.toList kn_cX12_answers = true := by decide +kernel
theorem zn_cX12_answers : cX12_answers.data.toList.length = 13 := by decide +kernel
theorem dX12_answers_0 : decode cX12_answers 0 = .ok (.aload_n 0, 1) := zo_42 (zkb zk_cX12_answers zn_cX12_answers (by decide +kernel))
theorem dX12_answers_1 : decode cX12_answers 1 = .ok (.invokevirtual 211, 3) := zo_182 (b1 := 0) (b2 := 211) (zkb3 zk_cX12_answers zn_cX12_answers (by decide +kernel)) rfl
theorem dX12_answers_4 : decode cX12_answers 4 = .ok (.aload_n 0, 1) := zo_42 (zkb zk_cX12_answers zn_cX12_answers (by decide +kernel))
theorem dX12_answers_5 : decode cX12_answers 5 = .ok (.getfield 22, 3) := zo_180 (b1 := 0) (b2 := 22) (zkb3 zk_cX12_answers zn_cX12_answers (by decide +kernel)) rfl
theorem dX12_answers_8 : decode cX12_answers 8 = .ok (.bipush 26, 2) := zo_16 (b1 := 26) (zkb2 zk_cX12_answers zn_cX12_answers (by decide +kernel)) rfl
theorem dX12_answers_10 : decode cX12_answers 10 = .ok (.iconst 0, 1) := zo_3 (zkb zk_cX12_answers zn_cX12_answers (by decide +kernel))
theorem dX12_answers_11 : decode cX12_answers 11 = .ok (.iastore, 1) := zo_79 (zkb zk_cX12_answers zn_cX12_answers (by decide +kernel))
theorem dX12_answers_12 : decode cX12_answers 12 = .ok (.return_, 1) := zo_177 (zkb zk_cX12_answers zn_cX12_answers (by decide +kernel))
def kn_cX12_reg : Nat := 0xac2e601b2f101600b42a
theorem zk_cX12_reg : zkd cX12_reg.data.toList kn_cX12_reg = true := by decide +kernel
theorem zn_cX12_reg : cX12_reg.data.toList.length = 10 := by decide +kernel
theorem dX12_reg_0 : decode cX12_reg 0 = .ok (.aload_n 0, 1) := zo_42 (zkb zk_cX12_reg zn_cX12_reg (by decide +kernel))
theorem dX12_reg_1 : decode cX12_reg 1 = .ok (.getfield 22, 3) := zo_180 (b1 := 0) (b2 := 22) (zkb3 zk_cX12_reg zn_cX12_reg (by decide +kernel)) rfl
theorem dX12_reg_4 : decode cX12_reg 4 = .ok (.bipush 47, 2) := zo_16 (b1 := 47) (zkb2 zk_cX12_reg zn_cX12_reg (by decide +kernel)) rfl
theorem dX12_reg_6 : decode cX12_reg 6 = .ok (.iload_n 1, 1) := zo_27 (zkb zk_cX12_reg zn_cX12_reg (by decide +kernel))
theorem dX12_reg_7 : decode cX12_reg 7 = .ok (.iadd, 1) := zo_96 (zkb zk_cX12_reg zn_cX12_reg (by decide +kernel))
theorem dX12_reg_8 : decode cX12_reg 8 = .ok (.iaload, 1) := zo_46 (zkb zk_cX12_reg zn_cX12_reg (by decide +kernel))
theorem dX12_reg_9 : decode cX12_reg 9 = .ok (.ireturn, 1) := zo_172 (zkb zk_cX12_reg zn_cX12_reg (by decide +kernel))
def kn_cX12_tileDot : Nat := 0xac0415d9ffa70105840436807805157e047a641c07109101b660051560681d07681b20102a04152700a2070515053603043603
theorem zk_cX12_tileDot : zkd cX12_tileDot.data.toList kn_cX12_tileDot = true := by decide +kernel
theorem zn_cX12_tileDot : cX12_tileDot.data.toList.length = 51 := by decide +kernel
theorem dX12_tileDot_0 : decode cX12_tileDot 0 = .ok (.iconst 0, 1) := zo_3 (zkb zk_cX12_tileDot zn_cX12_tileDot (by decide +kernel))
theorem dX12_tileDot_1 : decode cX12_tileDot 1 = .ok (.istore 4, 2) := zo_54 (b1 := 4) (zkb2 zk_cX12_tileDot zn_cX12_tileDot (by decide +kernel))
theorem dX12_tileDot_3 : decode cX12_tileDot 3 = .ok (.iconst 0, 1) := zo_3 (zkb zk_cX12_tileDot zn_cX12_tileDot (by decide +kernel))
theorem dX12_tileDot_4 : decode cX12_tileDot 4 = .ok (.istore 5, 2) := zo_54 (b1 := 5) (zkb2 zk_cX12_tileDot zn_cX12_tileDot (by decide +kernel))
theorem dX12_tileDot_6 : decode cX12_tileDot 6 = .ok (.iload 5, 2) := zo_21 (b1 := 5) (zkb2 zk_cX12_tileDot zn_cX12_tileDot (by decide +kernel))
theorem dX12_tileDot_8 : decode cX12_tileDot 8 = .ok (.iconst 4, 1) := zo_7 (zkb zk_cX12_tileDot zn_cX12_tileDot (by decide +kernel))
theorem dX12_tileDot_9 : decode cX12_tileDot 9 = .ok (.if_icmp .ge 39, 3) := zo_162 (b1 := 0) (b2 := 39) (zkb3 zk_cX12_tileDot zn_cX12_tileDot (by decide +kernel)) rfl
theorem dX12_tileDot_12 : decode cX12_tileDot 12 = .ok (.iload 4, 2) := zo_21 (b1 := 4) (zkb2 zk_cX12_tileDot zn_cX12_tileDot (by decide +kernel))
theorem dX12_tileDot_14 : decode cX12_tileDot 14 = .ok (.aload_n 0, 1) := zo_42 (zkb zk_cX12_tileDot zn_cX12_tileDot (by decide +kernel))
theorem dX12_tileDot_15 : decode cX12_tileDot 15 = .ok (.bipush 32, 2) := zo_16 (b1 := 32) (zkb2 zk_cX12_tileDot zn_cX12_tileDot (by decide +kernel)) rfl
theorem dX12_tileDot_17 : decode cX12_tileDot 17 = .ok (.iload_n 1, 1) := zo_27 (zkb zk_cX12_tileDot zn_cX12_tileDot (by decide +kernel))
theorem dX12_tileDot_18 : decode cX12_tileDot 18 = .ok (.imul, 1) := zo_104 (zkb zk_cX12_tileDot zn_cX12_tileDot (by decide +kernel))
theorem dX12_tileDot_19 : decode cX12_tileDot 19 = .ok (.iconst 4, 1) := zo_7 (zkb zk_cX12_tileDot zn_cX12_tileDot (by decide +kernel))
theorem dX12_tileDot_20 : decode cX12_tileDot 20 = .ok (.iload_n 3, 1) := zo_29 (zkb zk_cX12_tileDot zn_cX12_tileDot (by decide +kernel))
theorem dX12_tileDot_21 : decode cX12_tileDot 21 = .ok (.imul, 1) := zo_104 (zkb zk_cX12_tileDot zn_cX12_tileDot (by decide +kernel))
theorem dX12_tileDot_22 : decode cX12_tileDot 22 = .ok (.iadd, 1) := zo_96 (zkb zk_cX12_tileDot zn_cX12_tileDot (by decide +kernel))
theorem dX12_tileDot_23 : decode cX12_tileDot 23 = .ok (.iload 5, 2) := zo_21 (b1 := 5) (zkb2 zk_cX12_tileDot zn_cX12_tileDot (by decide +kernel))
theorem dX12_tileDot_25 : decode cX12_tileDot 25 = .ok (.iadd, 1) := zo_96 (zkb zk_cX12_tileDot zn_cX12_tileDot (by decide +kernel))
theorem dX12_tileDot_26 : decode cX12_tileDot 26 = .ok (.invokevirtual 401, 3) := zo_182 (b1 := 1) (b2 := 145) (zkb3 zk_cX12_tileDot zn_cX12_tileDot (by decide +kernel)) rfl
theorem dX12_tileDot_29 : decode cX12_tileDot 29 = .ok (.bipush 7, 2) := zo_16 (b1 := 7) (zkb2 zk_cX12_tileDot zn_cX12_tileDot (by decide +kernel)) rfl
theorem dX12_tileDot_31 : decode cX12_tileDot 31 = .ok (.iload_n 2, 1) := zo_28 (zkb zk_cX12_tileDot zn_cX12_tileDot (by decide +kernel))
theorem dX12_tileDot_32 : decode cX12_tileDot 32 = .ok (.isub, 1) := zo_100 (zkb zk_cX12_tileDot zn_cX12_tileDot (by decide +kernel))
theorem dX12_tileDot_33 : decode cX12_tileDot 33 = .ok (.ishr, 1) := zo_122 (zkb zk_cX12_tileDot zn_cX12_tileDot (by decide +kernel))
theorem dX12_tileDot_34 : decode cX12_tileDot 34 = .ok (.iconst 1, 1) := zo_4 (zkb zk_cX12_tileDot zn_cX12_tileDot (by decide +kernel))
theorem dX12_tileDot_35 : decode cX12_tileDot 35 = .ok (.iand, 1) := zo_126 (zkb zk_cX12_tileDot zn_cX12_tileDot (by decide +kernel))
theorem dX12_tileDot_36 : decode cX12_tileDot 36 = .ok (.iload 5, 2) := zo_21 (b1 := 5) (zkb2 zk_cX12_tileDot zn_cX12_tileDot (by decide +kernel))
theorem dX12_tileDot_38 : decode cX12_tileDot 38 = .ok (.ishl, 1) := zo_120 (zkb zk_cX12_tileDot zn_cX12_tileDot (by decide +kernel))
theorem dX12_tileDot_39 : decode cX12_tileDot 39 = .ok (.ior, 1) := zo_128 (zkb zk_cX12_tileDot zn_cX12_tileDot (by decide +kernel))
theorem dX12_tileDot_40 : decode cX12_tileDot 40 = .ok (.istore 4, 2) := zo_54 (b1 := 4) (zkb2 zk_cX12_tileDot zn_cX12_tileDot (by decide +kernel))
theorem dX12_tileDot_42 : decode cX12_tileDot 42 = .ok (.iinc 5 1, 3) := zo_132 (b1 := 5) (b2 := 1) (zkb3 zk_cX12_tileDot zn_cX12_tileDot (by decide +kernel)) rfl
theorem dX12_tileDot_45 : decode cX12_tileDot 45 = .ok (.goto (-39), 3) := zo_167 (b1 := 255) (b2 := 217) (zkb3 zk_cX12_tileDot zn_cX12_tileDot (by decide +kernel)) rfl
theorem dX12_tileDot_48 : decode cX12_tileDot 48 = .ok (.iload 4, 2) := zo_21 (b1 := 4) (zkb2 zk_cX12_tileDot zn_cX12_tileDot (by decide +kernel))
theorem dX12_tileDot_50 : decode cX12_tileDot 50 = .ok (.ireturn, 1) := zo_172 (zkb zk_cX12_tileDot zn_cX12_tileDot (by decide +kernel))
def kn_cX12_tile : Nat := 0xb154030400a7040700997e001011091510009e0c151c5600b42a4f60030400a710100800997e00081109150c151c5300b42a0c36b201b60b150a157eff011109152a0b3670081007150800a764700810071507100e00997e00041109150a3670081006150800a764700810061507100e00997e00021109150936807808109101b6600408152a9101b608152a083660686c081006150560686c08100715401004150736700001110600a7e000110900991d602e41101600b42a1b1a00a71b0700a0048b01b60710032a1200a4bf00111c06367eff00116405151c05369d01b608102a0900a7030700a0048b01b60610032a1200a210101b0436600007116870076c079d01b6052a0010111400a7687e0e107010109d01b6052a0004111500991d3e030400a7040700a0c000119701b62a
theorem zk_cX12_tile : zkd cX12_tile.data.toList kn_cX12_tile = true := by decide +kernel
theorem zn_cX12_tile : cX12_tile.data.toList.length = 304 := by decide +kernel
theorem dX12_tile_0 : decode cX12_tile 0 = .ok (.aload_n 0, 1) := zo_42 (zkb zk_cX12_tile zn_cX12_tile (by decide +kernel))
theorem dX12_tile_1 : decode cX12_tile 1 = .ok (.invokevirtual 407, 3) := zo_182 (b1 := 1) (b2 := 151) (zkb3 zk_cX12_tile zn_cX12_tile (by decide +kernel)) rfl
theorem dX12_tile_4 : decode cX12_tile 4 = .ok (.sipush 192, 3) := zo_17 (b1 := 0) (b2 := 192) (zkb3 zk_cX12_tile zn_cX12_tile (by decide +kernel)) rfl
theorem dX12_tile_7 : decode cX12_tile 7 = .ok (.if_icmp .ne 7, 3) := zo_160 (b1 := 0) (b2 := 7) (zkb3 zk_cX12_tile zn_cX12_tile (by decide +kernel)) rfl
theorem dX12_tile_10 : decode cX12_tile 10 = .ok (.iconst 1, 1) := zo_4 (zkb zk_cX12_tile zn_cX12_tile (by decide +kernel))
theorem dX12_tile_11 : decode cX12_tile 11 = .ok (.goto 4, 3) := zo_167 (b1 := 0) (b2 := 4) (zkb3 zk_cX12_tile zn_cX12_tile (by decide +kernel)) rfl
theorem dX12_tile_14 : decode cX12_tile 14 = .ok (.iconst 0, 1) := zo_3 (zkb zk_cX12_tile zn_cX12_tile (by decide +kernel))
theorem dX12_tile_15 : decode cX12_tile 15 = .ok (.istore_n 3, 1) := zo_62 (zkb zk_cX12_tile zn_cX12_tile (by decide +kernel))
theorem dX12_tile_16 : decode cX12_tile 16 = .ok (.iload_n 3, 1) := zo_29 (zkb zk_cX12_tile zn_cX12_tile (by decide +kernel))
theorem dX12_tile_17 : decode cX12_tile 17 = .ok (.ifCond .eq 21, 3) := zo_153 (b1 := 0) (b2 := 21) (zkb3 zk_cX12_tile zn_cX12_tile (by decide +kernel)) rfl
theorem dX12_tile_20 : decode cX12_tile 20 = .ok (.sipush 1024, 3) := zo_17 (b1 := 4) (b2 := 0) (zkb3 zk_cX12_tile zn_cX12_tile (by decide +kernel)) rfl
theorem dX12_tile_23 : decode cX12_tile 23 = .ok (.aload_n 0, 1) := zo_42 (zkb zk_cX12_tile zn_cX12_tile (by decide +kernel))
theorem dX12_tile_24 : decode cX12_tile 24 = .ok (.iconst 2, 1) := zo_5 (zkb zk_cX12_tile zn_cX12_tile (by decide +kernel))
theorem dX12_tile_25 : decode cX12_tile 25 = .ok (.invokevirtual 413, 3) := zo_182 (b1 := 1) (b2 := 157) (zkb3 zk_cX12_tile zn_cX12_tile (by decide +kernel)) rfl
theorem dX12_tile_28 : decode cX12_tile 28 = .ok (.bipush 16, 2) := zo_16 (b1 := 16) (zkb2 zk_cX12_tile zn_cX12_tile (by decide +kernel)) rfl
theorem dX12_tile_30 : decode cX12_tile 30 = .ok (.irem, 1) := zo_112 (zkb zk_cX12_tile zn_cX12_tile (by decide +kernel))
theorem dX12_tile_31 : decode cX12_tile 31 = .ok (.bipush 14, 2) := zo_16 (b1 := 14) (zkb2 zk_cX12_tile zn_cX12_tile (by decide +kernel)) rfl
theorem dX12_tile_33 : decode cX12_tile 33 = .ok (.iand, 1) := zo_126 (zkb zk_cX12_tile zn_cX12_tile (by decide +kernel))
theorem dX12_tile_34 : decode cX12_tile 34 = .ok (.imul, 1) := zo_104 (zkb zk_cX12_tile zn_cX12_tile (by decide +kernel))
theorem dX12_tile_35 : decode cX12_tile 35 = .ok (.goto 20, 3) := zo_167 (b1 := 0) (b2 := 20) (zkb3 zk_cX12_tile zn_cX12_tile (by decide +kernel)) rfl
theorem dX12_tile_38 : decode cX12_tile 38 = .ok (.sipush 4096, 3) := zo_17 (b1 := 16) (b2 := 0) (zkb3 zk_cX12_tile zn_cX12_tile (by decide +kernel)) rfl
theorem dX12_tile_41 : decode cX12_tile 41 = .ok (.aload_n 0, 1) := zo_42 (zkb zk_cX12_tile zn_cX12_tile (by decide +kernel))
theorem dX12_tile_42 : decode cX12_tile 42 = .ok (.iconst 2, 1) := zo_5 (zkb zk_cX12_tile zn_cX12_tile (by decide +kernel))
theorem dX12_tile_43 : decode cX12_tile 43 = .ok (.invokevirtual 413, 3) := zo_182 (b1 := 1) (b2 := 157) (zkb3 zk_cX12_tile zn_cX12_tile (by decide +kernel)) rfl
theorem dX12_tile_46 : decode cX12_tile 46 = .ok (.iconst 4, 1) := zo_7 (zkb zk_cX12_tile zn_cX12_tile (by decide +kernel))
theorem dX12_tile_47 : decode cX12_tile 47 = .ok (.idiv, 1) := zo_108 (zkb zk_cX12_tile zn_cX12_tile (by decide +kernel))
theorem dX12_tile_48 : decode cX12_tile 48 = .ok (.iconst 4, 1) := zo_7 (zkb zk_cX12_tile zn_cX12_tile (by decide +kernel))
theorem dX12_tile_49 : decode cX12_tile 49 = .ok (.irem, 1) := zo_112 (zkb zk_cX12_tile zn_cX12_tile (by decide +kernel))
theorem dX12_tile_50 : decode cX12_tile 50 = .ok (.imul, 1) := zo_104 (zkb zk_cX12_tile zn_cX12_tile (by decide +kernel))
theorem dX12_tile_51 : decode cX12_tile 51 = .ok (.sipush 1792, 3) := zo_17 (b1 := 7) (b2 := 0) (zkb3 zk_cX12_tile zn_cX12_tile (by decide +kernel)) rfl
theorem dX12_tile_54 : decode cX12_tile 54 = .ok (.iadd, 1) := zo_96 (zkb zk_cX12_tile zn_cX12_tile (by decide +kernel))
theorem dX12_tile_55 : decode cX12_tile 55 = .ok (.istore 4, 2) := zo_54 (b1 := 4) (zkb2 zk_cX12_tile zn_cX12_tile (by decide +kernel))
theorem dX12_tile_57 : decode cX12_tile 57 = .ok (.iload_n 1, 1) := zo_27 (zkb zk_cX12_tile zn_cX12_tile (by decide +kernel))
theorem dX12_tile_58 : decode cX12_tile 58 = .ok (.bipush 16, 2) := zo_16 (b1 := 16) (zkb2 zk_cX12_tile zn_cX12_tile (by decide +kernel)) rfl
theorem dX12_tile_60 : decode cX12_tile 60 = .ok (.if_icmp .ge 18, 3) := zo_162 (b1 := 0) (b2 := 18) (zkb3 zk_cX12_tile zn_cX12_tile (by decide +kernel)) rfl
theorem dX12_tile_63 : decode cX12_tile 63 = .ok (.aload_n 0, 1) := zo_42 (zkb zk_cX12_tile zn_cX12_tile (by decide +kernel))
theorem dX12_tile_64 : decode cX12_tile 64 = .ok (.iconst 0, 1) := zo_3 (zkb zk_cX12_tile zn_cX12_tile (by decide +kernel))
theorem dX12_tile_65 : decode cX12_tile 65 = .ok (.bipush 6, 2) := zo_16 (b1 := 6) (zkb2 zk_cX12_tile zn_cX12_tile (by decide +kernel)) rfl
theorem dX12_tile_67 : decode cX12_tile 67 = .ok (.invokevirtual 395, 3) := zo_182 (b1 := 1) (b2 := 139) (zkb3 zk_cX12_tile zn_cX12_tile (by decide +kernel)) rfl
theorem dX12_tile_70 : decode cX12_tile 70 = .ok (.iconst 1, 1) := zo_4 (zkb zk_cX12_tile zn_cX12_tile (by decide +kernel))
theorem dX12_tile_71 : decode cX12_tile 71 = .ok (.if_icmp .ne 7, 3) := zo_160 (b1 := 0) (b2 := 7) (zkb3 zk_cX12_tile zn_cX12_tile (by decide +kernel)) rfl
theorem dX12_tile_74 : decode cX12_tile 74 = .ok (.iconst 0, 1) := zo_3 (zkb zk_cX12_tile zn_cX12_tile (by decide +kernel))
theorem dX12_tile_75 : decode cX12_tile 75 = .ok (.goto 9, 3) := zo_167 (b1 := 0) (b2 := 9) (zkb3 zk_cX12_tile zn_cX12_tile (by decide +kernel)) rfl
theorem dX12_tile_78 : decode cX12_tile 78 = .ok (.aload_n 0, 1) := zo_42 (zkb zk_cX12_tile zn_cX12_tile (by decide +kernel))
theorem dX12_tile_79 : decode cX12_tile 79 = .ok (.bipush 8, 2) := zo_16 (b1 := 8) (zkb2 zk_cX12_tile zn_cX12_tile (by decide +kernel)) rfl
theorem dX12_tile_81 : decode cX12_tile 81 = .ok (.invokevirtual 413, 3) := zo_182 (b1 := 1) (b2 := 157) (zkb3 zk_cX12_tile zn_cX12_tile (by decide +kernel)) rfl
theorem dX12_tile_84 : decode cX12_tile 84 = .ok (.istore 5, 2) := zo_54 (b1 := 5) (zkb2 zk_cX12_tile zn_cX12_tile (by decide +kernel))
theorem dX12_tile_86 : decode cX12_tile 86 = .ok (.iload_n 2, 1) := zo_28 (zkb zk_cX12_tile zn_cX12_tile (by decide +kernel))
theorem dX12_tile_87 : decode cX12_tile 87 = .ok (.iload 5, 2) := zo_21 (b1 := 5) (zkb2 zk_cX12_tile zn_cX12_tile (by decide +kernel))
theorem dX12_tile_89 : decode cX12_tile 89 = .ok (.isub, 1) := zo_100 (zkb zk_cX12_tile zn_cX12_tile (by decide +kernel))
theorem dX12_tile_90 : decode cX12_tile 90 = .ok (.sipush 255, 3) := zo_17 (b1 := 0) (b2 := 255) (zkb3 zk_cX12_tile zn_cX12_tile (by decide +kernel)) rfl
theorem dX12_tile_93 : decode cX12_tile 93 = .ok (.iand, 1) := zo_126 (zkb zk_cX12_tile zn_cX12_tile (by decide +kernel))
theorem dX12_tile_94 : decode cX12_tile 94 = .ok (.istore 6, 2) := zo_54 (b1 := 6) (zkb2 zk_cX12_tile zn_cX12_tile (by decide +kernel))
theorem dX12_tile_96 : decode cX12_tile 96 = .ok (.iload_n 2, 1) := zo_28 (zkb zk_cX12_tile zn_cX12_tile (by decide +kernel))
theorem dX12_tile_97 : decode cX12_tile 97 = .ok (.sipush 191, 3) := zo_17 (b1 := 0) (b2 := 191) (zkb3 zk_cX12_tile zn_cX12_tile (by decide +kernel)) rfl
theorem dX12_tile_100 : decode cX12_tile 100 = .ok (.if_icmp .le 18, 3) := zo_164 (b1 := 0) (b2 := 18) (zkb3 zk_cX12_tile zn_cX12_tile (by decide +kernel)) rfl
theorem dX12_tile_103 : decode cX12_tile 103 = .ok (.aload_n 0, 1) := zo_42 (zkb zk_cX12_tile zn_cX12_tile (by decide +kernel))
theorem dX12_tile_104 : decode cX12_tile 104 = .ok (.iconst 0, 1) := zo_3 (zkb zk_cX12_tile zn_cX12_tile (by decide +kernel))
theorem dX12_tile_105 : decode cX12_tile 105 = .ok (.bipush 7, 2) := zo_16 (b1 := 7) (zkb2 zk_cX12_tile zn_cX12_tile (by decide +kernel)) rfl
theorem dX12_tile_107 : decode cX12_tile 107 = .ok (.invokevirtual 395, 3) := zo_182 (b1 := 1) (b2 := 139) (zkb3 zk_cX12_tile zn_cX12_tile (by decide +kernel)) rfl
theorem dX12_tile_110 : decode cX12_tile 110 = .ok (.iconst 1, 1) := zo_4 (zkb zk_cX12_tile zn_cX12_tile (by decide +kernel))
theorem dX12_tile_111 : decode cX12_tile 111 = .ok (.if_icmp .ne 7, 3) := zo_160 (b1 := 0) (b2 := 7) (zkb3 zk_cX12_tile zn_cX12_tile (by decide +kernel)) rfl
theorem dX12_tile_114 : decode cX12_tile 114 = .ok (.iload_n 1, 1) := zo_27 (zkb zk_cX12_tile zn_cX12_tile (by decide +kernel))
theorem dX12_tile_115 : decode cX12_tile 115 = .ok (.goto 26, 3) := zo_167 (b1 := 0) (b2 := 26) (zkb3 zk_cX12_tile zn_cX12_tile (by decide +kernel)) rfl
theorem dX12_tile_118 : decode cX12_tile 118 = .ok (.iload_n 1, 1) := zo_27 (zkb zk_cX12_tile zn_cX12_tile (by decide +kernel))
theorem dX12_tile_119 : decode cX12_tile 119 = .ok (.aload_n 0, 1) := zo_42 (zkb zk_cX12_tile zn_cX12_tile (by decide +kernel))
theorem dX12_tile_120 : decode cX12_tile 120 = .ok (.getfield 22, 3) := zo_180 (b1 := 0) (b2 := 22) (zkb3 zk_cX12_tile zn_cX12_tile (by decide +kernel)) rfl
theorem dX12_tile_123 : decode cX12_tile 123 = .ok (.bipush 65, 2) := zo_16 (b1 := 65) (zkb2 zk_cX12_tile zn_cX12_tile (by decide +kernel)) rfl
theorem dX12_tile_125 : decode cX12_tile 125 = .ok (.iaload, 1) := zo_46 (zkb zk_cX12_tile zn_cX12_tile (by decide +kernel))
theorem dX12_tile_126 : decode cX12_tile 126 = .ok (.iadd, 1) := zo_96 (zkb zk_cX12_tile zn_cX12_tile (by decide +kernel))
theorem dX12_tile_127 : decode cX12_tile 127 = .ok (.iload_n 3, 1) := zo_29 (zkb zk_cX12_tile zn_cX12_tile (by decide +kernel))
theorem dX12_tile_128 : decode cX12_tile 128 = .ok (.ifCond .eq 9, 3) := zo_153 (b1 := 0) (b2 := 9) (zkb3 zk_cX12_tile zn_cX12_tile (by decide +kernel)) rfl
theorem dX12_tile_131 : decode cX12_tile 131 = .ok (.sipush 224, 3) := zo_17 (b1 := 0) (b2 := 224) (zkb3 zk_cX12_tile zn_cX12_tile (by decide +kernel)) rfl
theorem dX12_tile_134 : decode cX12_tile 134 = .ok (.goto 6, 3) := zo_167 (b1 := 0) (b2 := 6) (zkb3 zk_cX12_tile zn_cX12_tile (by decide +kernel)) rfl
theorem dX12_tile_137 : decode cX12_tile 137 = .ok (.sipush 256, 3) := zo_17 (b1 := 1) (b2 := 0) (zkb3 zk_cX12_tile zn_cX12_tile (by decide +kernel)) rfl
theorem dX12_tile_140 : decode cX12_tile 140 = .ok (.irem, 1) := zo_112 (zkb zk_cX12_tile zn_cX12_tile (by decide +kernel))
theorem dX12_tile_141 : decode cX12_tile 141 = .ok (.istore 7, 2) := zo_54 (b1 := 7) (zkb2 zk_cX12_tile zn_cX12_tile (by decide +kernel))
theorem dX12_tile_143 : decode cX12_tile 143 = .ok (.iload 4, 2) := zo_21 (b1 := 4) (zkb2 zk_cX12_tile zn_cX12_tile (by decide +kernel))
theorem dX12_tile_145 : decode cX12_tile 145 = .ok (.bipush 64, 2) := zo_16 (b1 := 64) (zkb2 zk_cX12_tile zn_cX12_tile (by decide +kernel)) rfl
theorem dX12_tile_147 : decode cX12_tile 147 = .ok (.iload 7, 2) := zo_21 (b1 := 7) (zkb2 zk_cX12_tile zn_cX12_tile (by decide +kernel))
theorem dX12_tile_149 : decode cX12_tile 149 = .ok (.bipush 8, 2) := zo_16 (b1 := 8) (zkb2 zk_cX12_tile zn_cX12_tile (by decide +kernel)) rfl
theorem dX12_tile_151 : decode cX12_tile 151 = .ok (.idiv, 1) := zo_108 (zkb zk_cX12_tile zn_cX12_tile (by decide +kernel))
theorem dX12_tile_152 : decode cX12_tile 152 = .ok (.imul, 1) := zo_104 (zkb zk_cX12_tile zn_cX12_tile (by decide +kernel))
theorem dX12_tile_153 : decode cX12_tile 153 = .ok (.iadd, 1) := zo_96 (zkb zk_cX12_tile zn_cX12_tile (by decide +kernel))
theorem dX12_tile_154 : decode cX12_tile 154 = .ok (.iconst 2, 1) := zo_5 (zkb zk_cX12_tile zn_cX12_tile (by decide +kernel))
theorem dX12_tile_155 : decode cX12_tile 155 = .ok (.iload 6, 2) := zo_21 (b1 := 6) (zkb2 zk_cX12_tile zn_cX12_tile (by decide +kernel))
theorem dX12_tile_157 : decode cX12_tile 157 = .ok (.bipush 8, 2) := zo_16 (b1 := 8) (zkb2 zk_cX12_tile zn_cX12_tile (by decide +kernel)) rfl
theorem dX12_tile_159 : decode cX12_tile 159 = .ok (.idiv, 1) := zo_108 (zkb zk_cX12_tile zn_cX12_tile (by decide +kernel))
theorem dX12_tile_160 : decode cX12_tile 160 = .ok (.imul, 1) := zo_104 (zkb zk_cX12_tile zn_cX12_tile (by decide +kernel))
theorem dX12_tile_161 : decode cX12_tile 161 = .ok (.iadd, 1) := zo_96 (zkb zk_cX12_tile zn_cX12_tile (by decide +kernel))
theorem dX12_tile_162 : decode cX12_tile 162 = .ok (.istore 8, 2) := zo_54 (b1 := 8) (zkb2 zk_cX12_tile zn_cX12_tile (by decide +kernel))
theorem dX12_tile_164 : decode cX12_tile 164 = .ok (.aload_n 0, 1) := zo_42 (zkb zk_cX12_tile zn_cX12_tile (by decide +kernel))
theorem dX12_tile_165 : decode cX12_tile 165 = .ok (.iload 8, 2) := zo_21 (b1 := 8) (zkb2 zk_cX12_tile zn_cX12_tile (by decide +kernel))
theorem dX12_tile_167 : decode cX12_tile 167 = .ok (.invokevirtual 401, 3) := zo_182 (b1 := 1) (b2 := 145) (zkb3 zk_cX12_tile zn_cX12_tile (by decide +kernel)) rfl
theorem dX12_tile_170 : decode cX12_tile 170 = .ok (.aload_n 0, 1) := zo_42 (zkb zk_cX12_tile zn_cX12_tile (by decide +kernel))
theorem dX12_tile_171 : decode cX12_tile 171 = .ok (.iload 8, 2) := zo_21 (b1 := 8) (zkb2 zk_cX12_tile zn_cX12_tile (by decide +kernel))
theorem dX12_tile_173 : decode cX12_tile 173 = .ok (.iconst 1, 1) := zo_4 (zkb zk_cX12_tile zn_cX12_tile (by decide +kernel))
theorem dX12_tile_174 : decode cX12_tile 174 = .ok (.iadd, 1) := zo_96 (zkb zk_cX12_tile zn_cX12_tile (by decide +kernel))
theorem dX12_tile_175 : decode cX12_tile 175 = .ok (.invokevirtual 401, 3) := zo_182 (b1 := 1) (b2 := 145) (zkb3 zk_cX12_tile zn_cX12_tile (by decide +kernel)) rfl
theorem dX12_tile_178 : decode cX12_tile 178 = .ok (.bipush 8, 2) := zo_16 (b1 := 8) (zkb2 zk_cX12_tile zn_cX12_tile (by decide +kernel)) rfl
theorem dX12_tile_180 : decode cX12_tile 180 = .ok (.ishl, 1) := zo_120 (zkb zk_cX12_tile zn_cX12_tile (by decide +kernel))
theorem dX12_tile_181 : decode cX12_tile 181 = .ok (.ior, 1) := zo_128 (zkb zk_cX12_tile zn_cX12_tile (by decide +kernel))
theorem dX12_tile_182 : decode cX12_tile 182 = .ok (.istore 9, 2) := zo_54 (b1 := 9) (zkb2 zk_cX12_tile zn_cX12_tile (by decide +kernel))
theorem dX12_tile_184 : decode cX12_tile 184 = .ok (.iload 9, 2) := zo_21 (b1 := 9) (zkb2 zk_cX12_tile zn_cX12_tile (by decide +kernel))
theorem dX12_tile_186 : decode cX12_tile 186 = .ok (.sipush 512, 3) := zo_17 (b1 := 2) (b2 := 0) (zkb3 zk_cX12_tile zn_cX12_tile (by decide +kernel)) rfl
theorem dX12_tile_189 : decode cX12_tile 189 = .ok (.iand, 1) := zo_126 (zkb zk_cX12_tile zn_cX12_tile (by decide +kernel))
theorem dX12_tile_190 : decode cX12_tile 190 = .ok (.ifCond .eq 14, 3) := zo_153 (b1 := 0) (b2 := 14) (zkb3 zk_cX12_tile zn_cX12_tile (by decide +kernel)) rfl
theorem dX12_tile_193 : decode cX12_tile 193 = .ok (.bipush 7, 2) := zo_16 (b1 := 7) (zkb2 zk_cX12_tile zn_cX12_tile (by decide +kernel)) rfl
theorem dX12_tile_195 : decode cX12_tile 195 = .ok (.iload 6, 2) := zo_21 (b1 := 6) (zkb2 zk_cX12_tile zn_cX12_tile (by decide +kernel))
theorem dX12_tile_197 : decode cX12_tile 197 = .ok (.bipush 8, 2) := zo_16 (b1 := 8) (zkb2 zk_cX12_tile zn_cX12_tile (by decide +kernel)) rfl
theorem dX12_tile_199 : decode cX12_tile 199 = .ok (.irem, 1) := zo_112 (zkb zk_cX12_tile zn_cX12_tile (by decide +kernel))
theorem dX12_tile_200 : decode cX12_tile 200 = .ok (.isub, 1) := zo_100 (zkb zk_cX12_tile zn_cX12_tile (by decide +kernel))
theorem dX12_tile_201 : decode cX12_tile 201 = .ok (.goto 8, 3) := zo_167 (b1 := 0) (b2 := 8) (zkb3 zk_cX12_tile zn_cX12_tile (by decide +kernel)) rfl
theorem dX12_tile_204 : decode cX12_tile 204 = .ok (.iload 6, 2) := zo_21 (b1 := 6) (zkb2 zk_cX12_tile zn_cX12_tile (by decide +kernel))
theorem dX12_tile_206 : decode cX12_tile 206 = .ok (.bipush 8, 2) := zo_16 (b1 := 8) (zkb2 zk_cX12_tile zn_cX12_tile (by decide +kernel)) rfl
theorem dX12_tile_208 : decode cX12_tile 208 = .ok (.irem, 1) := zo_112 (zkb zk_cX12_tile zn_cX12_tile (by decide +kernel))
theorem dX12_tile_209 : decode cX12_tile 209 = .ok (.istore 10, 2) := zo_54 (b1 := 10) (zkb2 zk_cX12_tile zn_cX12_tile (by decide +kernel))
theorem dX12_tile_211 : decode cX12_tile 211 = .ok (.iload 9, 2) := zo_21 (b1 := 9) (zkb2 zk_cX12_tile zn_cX12_tile (by decide +kernel))
theorem dX12_tile_213 : decode cX12_tile 213 = .ok (.sipush 1024, 3) := zo_17 (b1 := 4) (b2 := 0) (zkb3 zk_cX12_tile zn_cX12_tile (by decide +kernel)) rfl
theorem dX12_tile_216 : decode cX12_tile 216 = .ok (.iand, 1) := zo_126 (zkb zk_cX12_tile zn_cX12_tile (by decide +kernel))
theorem dX12_tile_217 : decode cX12_tile 217 = .ok (.ifCond .eq 14, 3) := zo_153 (b1 := 0) (b2 := 14) (zkb3 zk_cX12_tile zn_cX12_tile (by decide +kernel)) rfl
theorem dX12_tile_220 : decode cX12_tile 220 = .ok (.bipush 7, 2) := zo_16 (b1 := 7) (zkb2 zk_cX12_tile zn_cX12_tile (by decide +kernel)) rfl
theorem dX12_tile_222 : decode cX12_tile 222 = .ok (.iload 7, 2) := zo_21 (b1 := 7) (zkb2 zk_cX12_tile zn_cX12_tile (by decide +kernel))
theorem dX12_tile_224 : decode cX12_tile 224 = .ok (.bipush 8, 2) := zo_16 (b1 := 8) (zkb2 zk_cX12_tile zn_cX12_tile (by decide +kernel)) rfl
theorem dX12_tile_226 : decode cX12_tile 226 = .ok (.irem, 1) := zo_112 (zkb zk_cX12_tile zn_cX12_tile (by decide +kernel))
theorem dX12_tile_227 : decode cX12_tile 227 = .ok (.isub, 1) := zo_100 (zkb zk_cX12_tile zn_cX12_tile (by decide +kernel))
theorem dX12_tile_228 : decode cX12_tile 228 = .ok (.goto 8, 3) := zo_167 (b1 := 0) (b2 := 8) (zkb3 zk_cX12_tile zn_cX12_tile (by decide +kernel)) rfl
theorem dX12_tile_231 : decode cX12_tile 231 = .ok (.iload 7, 2) := zo_21 (b1 := 7) (zkb2 zk_cX12_tile zn_cX12_tile (by decide +kernel))
theorem dX12_tile_233 : decode cX12_tile 233 = .ok (.bipush 8, 2) := zo_16 (b1 := 8) (zkb2 zk_cX12_tile zn_cX12_tile (by decide +kernel)) rfl
theorem dX12_tile_235 : decode cX12_tile 235 = .ok (.irem, 1) := zo_112 (zkb zk_cX12_tile zn_cX12_tile (by decide +kernel))
theorem dX12_tile_236 : decode cX12_tile 236 = .ok (.istore 11, 2) := zo_54 (b1 := 11) (zkb2 zk_cX12_tile zn_cX12_tile (by decide +kernel))
theorem dX12_tile_238 : decode cX12_tile 238 = .ok (.aload_n 0, 1) := zo_42 (zkb zk_cX12_tile zn_cX12_tile (by decide +kernel))
theorem dX12_tile_239 : decode cX12_tile 239 = .ok (.iload 9, 2) := zo_21 (b1 := 9) (zkb2 zk_cX12_tile zn_cX12_tile (by decide +kernel))
theorem dX12_tile_241 : decode cX12_tile 241 = .ok (.sipush 511, 3) := zo_17 (b1 := 1) (b2 := 255) (zkb3 zk_cX12_tile zn_cX12_tile (by decide +kernel)) rfl
theorem dX12_tile_244 : decode cX12_tile 244 = .ok (.iand, 1) := zo_126 (zkb zk_cX12_tile zn_cX12_tile (by decide +kernel))
theorem dX12_tile_245 : decode cX12_tile 245 = .ok (.iload 10, 2) := zo_21 (b1 := 10) (zkb2 zk_cX12_tile zn_cX12_tile (by decide +kernel))
theorem dX12_tile_247 : decode cX12_tile 247 = .ok (.iload 11, 2) := zo_21 (b1 := 11) (zkb2 zk_cX12_tile zn_cX12_tile (by decide +kernel))
theorem dX12_tile_249 : decode cX12_tile 249 = .ok (.invokevirtual 434, 3) := zo_182 (b1 := 1) (b2 := 178) (zkb3 zk_cX12_tile zn_cX12_tile (by decide +kernel)) rfl
theorem dX12_tile_252 : decode cX12_tile 252 = .ok (.istore 12, 2) := zo_54 (b1 := 12) (zkb2 zk_cX12_tile zn_cX12_tile (by decide +kernel))
theorem dX12_tile_254 : decode cX12_tile 254 = .ok (.aload_n 0, 1) := zo_42 (zkb zk_cX12_tile zn_cX12_tile (by decide +kernel))
theorem dX12_tile_255 : decode cX12_tile 255 = .ok (.getfield 83, 3) := zo_180 (b1 := 0) (b2 := 83) (zkb3 zk_cX12_tile zn_cX12_tile (by decide +kernel)) rfl
theorem dX12_tile_258 : decode cX12_tile 258 = .ok (.iload_n 2, 1) := zo_28 (zkb zk_cX12_tile zn_cX12_tile (by decide +kernel))
theorem dX12_tile_259 : decode cX12_tile 259 = .ok (.iload 12, 2) := zo_21 (b1 := 12) (zkb2 zk_cX12_tile zn_cX12_tile (by decide +kernel))
theorem dX12_tile_261 : decode cX12_tile 261 = .ok (.iload 9, 2) := zo_21 (b1 := 9) (zkb2 zk_cX12_tile zn_cX12_tile (by decide +kernel))
theorem dX12_tile_263 : decode cX12_tile 263 = .ok (.sipush 2048, 3) := zo_17 (b1 := 8) (b2 := 0) (zkb3 zk_cX12_tile zn_cX12_tile (by decide +kernel)) rfl
theorem dX12_tile_266 : decode cX12_tile 266 = .ok (.iand, 1) := zo_126 (zkb zk_cX12_tile zn_cX12_tile (by decide +kernel))
theorem dX12_tile_267 : decode cX12_tile 267 = .ok (.ifCond .eq 8, 3) := zo_153 (b1 := 0) (b2 := 8) (zkb3 zk_cX12_tile zn_cX12_tile (by decide +kernel)) rfl
theorem dX12_tile_270 : decode cX12_tile 270 = .ok (.bipush 16, 2) := zo_16 (b1 := 16) (zkb2 zk_cX12_tile zn_cX12_tile (by decide +kernel)) rfl
theorem dX12_tile_272 : decode cX12_tile 272 = .ok (.goto 4, 3) := zo_167 (b1 := 0) (b2 := 4) (zkb3 zk_cX12_tile zn_cX12_tile (by decide +kernel)) rfl
theorem dX12_tile_275 : decode cX12_tile 275 = .ok (.iconst 0, 1) := zo_3 (zkb zk_cX12_tile zn_cX12_tile (by decide +kernel))
theorem dX12_tile_276 : decode cX12_tile 276 = .ok (.iadd, 1) := zo_96 (zkb zk_cX12_tile zn_cX12_tile (by decide +kernel))
theorem dX12_tile_277 : decode cX12_tile 277 = .ok (.iastore, 1) := zo_79 (zkb zk_cX12_tile zn_cX12_tile (by decide +kernel))
theorem dX12_tile_278 : decode cX12_tile 278 = .ok (.aload_n 0, 1) := zo_42 (zkb zk_cX12_tile zn_cX12_tile (by decide +kernel))
theorem dX12_tile_279 : decode cX12_tile 279 = .ok (.getfield 86, 3) := zo_180 (b1 := 0) (b2 := 86) (zkb3 zk_cX12_tile zn_cX12_tile (by decide +kernel)) rfl
theorem dX12_tile_282 : decode cX12_tile 282 = .ok (.iload_n 2, 1) := zo_28 (zkb zk_cX12_tile zn_cX12_tile (by decide +kernel))
theorem dX12_tile_283 : decode cX12_tile 283 = .ok (.iload 12, 2) := zo_21 (b1 := 12) (zkb2 zk_cX12_tile zn_cX12_tile (by decide +kernel))
theorem dX12_tile_285 : decode cX12_tile 285 = .ok (.ifCond .le 16, 3) := zo_158 (b1 := 0) (b2 := 16) (zkb3 zk_cX12_tile zn_cX12_tile (by decide +kernel)) rfl
theorem dX12_tile_288 : decode cX12_tile 288 = .ok (.iload 9, 2) := zo_21 (b1 := 9) (zkb2 zk_cX12_tile zn_cX12_tile (by decide +kernel))
theorem dX12_tile_290 : decode cX12_tile 290 = .ok (.sipush 4096, 3) := zo_17 (b1 := 16) (b2 := 0) (zkb3 zk_cX12_tile zn_cX12_tile (by decide +kernel)) rfl
theorem dX12_tile_293 : decode cX12_tile 293 = .ok (.iand, 1) := zo_126 (zkb zk_cX12_tile zn_cX12_tile (by decide +kernel))
theorem dX12_tile_294 : decode cX12_tile 294 = .ok (.ifCond .eq 7, 3) := zo_153 (b1 := 0) (b2 := 7) (zkb3 zk_cX12_tile zn_cX12_tile (by decide +kernel)) rfl
theorem dX12_tile_297 : decode cX12_tile 297 = .ok (.iconst 1, 1) := zo_4 (zkb zk_cX12_tile zn_cX12_tile (by decide +kernel))
theorem dX12_tile_298 : decode cX12_tile 298 = .ok (.goto 4, 3) := zo_167 (b1 := 0) (b2 := 4) (zkb3 zk_cX12_tile zn_cX12_tile (by decide +kernel)) rfl
theorem dX12_tile_301 : decode cX12_tile 301 = .ok (.iconst 0, 1) := zo_3 (zkb zk_cX12_tile zn_cX12_tile (by decide +kernel))
theorem dX12_tile_302 : decode cX12_tile 302 = .ok (.bastore, 1) := zo_84 (zkb zk_cX12_tile zn_cX12_tile (by decide +kernel))
theorem dX12_tile_303 : decode cX12_tile 303 = .ok (.return_, 1) := zo_177 (zkb zk_cX12_tile zn_cX12_tile (by decide +kernel))
def kn_cX12_sprites : Nat := 0xb1e9fea7010784a0ffa7010c844f600d1510100e155a00b42a0f00a74f8020102e5c3e101600b42a12009e2e0e155a00b42a2800a70600a4ff00110e1533009b0e153800990d150e36600c150b150d36b201b67008106c1d09156c1d0c150a152a5d00a2681d08100c150c36030b3664030400a708100800a0048b01b606032a9101b66068071505608000111c2a0a360a150500a7606c08106c1d09157efe01110a151400a0101004150a3660030400a70001110900a0048b01b60506102a9101b66068071505608100111c2a010584b14f8040102e5c3e101600b42a1000a008100515e000a70600a1681d0415091509367eff001164046408151bb10400a0d0001108150c0099061508369101b66007151c2a1601a2401007150736030636030400a7040700a0c000119701b62a053603043608100500a710100800a0048b01b604042a3e040400a7050700a0048b01b603042a3d687040106c059d01b6082a000111
theorem zk_cX12_sprites : zkd cX12_sprites.data.toList kn_cX12_sprites = true := by decide +kernel
theorem zn_cX12_sprites : cX12_sprites.data.toList.length = 356 := by decide +kernel
theorem dX12_sprites_0 : decode cX12_sprites 0 = .ok (.sipush 256, 3) := zo_17 (b1 := 1) (b2 := 0) (zkb3 zk_cX12_sprites zn_cX12_sprites (by decide +kernel)) rfl
theorem dX12_sprites_3 : decode cX12_sprites 3 = .ok (.aload_n 0, 1) := zo_42 (zkb zk_cX12_sprites zn_cX12_sprites (by decide +kernel))
theorem dX12_sprites_4 : decode cX12_sprites 4 = .ok (.iconst 5, 1) := zo_8 (zkb zk_cX12_sprites zn_cX12_sprites (by decide +kernel))
theorem dX12_sprites_5 : decode cX12_sprites 5 = .ok (.invokevirtual 413, 3) := zo_182 (b1 := 1) (b2 := 157) (zkb3 zk_cX12_sprites zn_cX12_sprites (by decide +kernel)) rfl
theorem dX12_sprites_8 : decode cX12_sprites 8 = .ok (.iconst 2, 1) := zo_5 (zkb zk_cX12_sprites zn_cX12_sprites (by decide +kernel))
theorem dX12_sprites_9 : decode cX12_sprites 9 = .ok (.idiv, 1) := zo_108 (zkb zk_cX12_sprites zn_cX12_sprites (by decide +kernel))
theorem dX12_sprites_10 : decode cX12_sprites 10 = .ok (.bipush 64, 2) := zo_16 (b1 := 64) (zkb2 zk_cX12_sprites zn_cX12_sprites (by decide +kernel)) rfl
theorem dX12_sprites_12 : decode cX12_sprites 12 = .ok (.irem, 1) := zo_112 (zkb zk_cX12_sprites zn_cX12_sprites (by decide +kernel))
theorem dX12_sprites_13 : decode cX12_sprites 13 = .ok (.imul, 1) := zo_104 (zkb zk_cX12_sprites zn_cX12_sprites (by decide +kernel))
theorem dX12_sprites_14 : decode cX12_sprites 14 = .ok (.istore_n 2, 1) := zo_61 (zkb zk_cX12_sprites zn_cX12_sprites (by decide +kernel))
theorem dX12_sprites_15 : decode cX12_sprites 15 = .ok (.aload_n 0, 1) := zo_42 (zkb zk_cX12_sprites zn_cX12_sprites (by decide +kernel))
theorem dX12_sprites_16 : decode cX12_sprites 16 = .ok (.iconst 1, 1) := zo_4 (zkb zk_cX12_sprites zn_cX12_sprites (by decide +kernel))
theorem dX12_sprites_17 : decode cX12_sprites 17 = .ok (.iconst 0, 1) := zo_3 (zkb zk_cX12_sprites zn_cX12_sprites (by decide +kernel))
theorem dX12_sprites_18 : decode cX12_sprites 18 = .ok (.invokevirtual 395, 3) := zo_182 (b1 := 1) (b2 := 139) (zkb3 zk_cX12_sprites zn_cX12_sprites (by decide +kernel)) rfl
theorem dX12_sprites_21 : decode cX12_sprites 21 = .ok (.iconst 1, 1) := zo_4 (zkb zk_cX12_sprites zn_cX12_sprites (by decide +kernel))
theorem dX12_sprites_22 : decode cX12_sprites 22 = .ok (.if_icmp .ne 7, 3) := zo_160 (b1 := 0) (b2 := 7) (zkb3 zk_cX12_sprites zn_cX12_sprites (by decide +kernel)) rfl
theorem dX12_sprites_25 : decode cX12_sprites 25 = .ok (.iconst 2, 1) := zo_5 (zkb zk_cX12_sprites zn_cX12_sprites (by decide +kernel))
theorem dX12_sprites_26 : decode cX12_sprites 26 = .ok (.goto 4, 3) := zo_167 (b1 := 0) (b2 := 4) (zkb3 zk_cX12_sprites zn_cX12_sprites (by decide +kernel)) rfl
theorem dX12_sprites_29 : decode cX12_sprites 29 = .ok (.iconst 1, 1) := zo_4 (zkb zk_cX12_sprites zn_cX12_sprites (by decide +kernel))
theorem dX12_sprites_30 : decode cX12_sprites 30 = .ok (.istore_n 3, 1) := zo_62 (zkb zk_cX12_sprites zn_cX12_sprites (by decide +kernel))
theorem dX12_sprites_31 : decode cX12_sprites 31 = .ok (.aload_n 0, 1) := zo_42 (zkb zk_cX12_sprites zn_cX12_sprites (by decide +kernel))
theorem dX12_sprites_32 : decode cX12_sprites 32 = .ok (.iconst 1, 1) := zo_4 (zkb zk_cX12_sprites zn_cX12_sprites (by decide +kernel))
theorem dX12_sprites_33 : decode cX12_sprites 33 = .ok (.iconst 1, 1) := zo_4 (zkb zk_cX12_sprites zn_cX12_sprites (by decide +kernel))
theorem dX12_sprites_34 : decode cX12_sprites 34 = .ok (.invokevirtual 395, 3) := zo_182 (b1 := 1) (b2 := 139) (zkb3 zk_cX12_sprites zn_cX12_sprites (by decide +kernel)) rfl
theorem dX12_sprites_37 : decode cX12_sprites 37 = .ok (.iconst 1, 1) := zo_4 (zkb zk_cX12_sprites zn_cX12_sprites (by decide +kernel))
theorem dX12_sprites_38 : decode cX12_sprites 38 = .ok (.if_icmp .ne 8, 3) := zo_160 (b1 := 0) (b2 := 8) (zkb3 zk_cX12_sprites zn_cX12_sprites (by decide +kernel)) rfl
theorem dX12_sprites_41 : decode cX12_sprites 41 = .ok (.bipush 16, 2) := zo_16 (b1 := 16) (zkb2 zk_cX12_sprites zn_cX12_sprites (by decide +kernel)) rfl
theorem dX12_sprites_43 : decode cX12_sprites 43 = .ok (.goto 5, 3) := zo_167 (b1 := 0) (b2 := 5) (zkb3 zk_cX12_sprites zn_cX12_sprites (by decide +kernel)) rfl
theorem dX12_sprites_46 : decode cX12_sprites 46 = .ok (.bipush 8, 2) := zo_16 (b1 := 8) (zkb2 zk_cX12_sprites zn_cX12_sprites (by decide +kernel)) rfl
theorem dX12_sprites_48 : decode cX12_sprites 48 = .ok (.istore 4, 2) := zo_54 (b1 := 4) (zkb2 zk_cX12_sprites zn_cX12_sprites (by decide +kernel))
theorem dX12_sprites_50 : decode cX12_sprites 50 = .ok (.iconst 0, 1) := zo_3 (zkb zk_cX12_sprites zn_cX12_sprites (by decide +kernel))
theorem dX12_sprites_51 : decode cX12_sprites 51 = .ok (.istore 5, 2) := zo_54 (b1 := 5) (zkb2 zk_cX12_sprites zn_cX12_sprites (by decide +kernel))
theorem dX12_sprites_53 : decode cX12_sprites 53 = .ok (.aload_n 0, 1) := zo_42 (zkb zk_cX12_sprites zn_cX12_sprites (by decide +kernel))
theorem dX12_sprites_54 : decode cX12_sprites 54 = .ok (.invokevirtual 407, 3) := zo_182 (b1 := 1) (b2 := 151) (zkb3 zk_cX12_sprites zn_cX12_sprites (by decide +kernel)) rfl
theorem dX12_sprites_57 : decode cX12_sprites 57 = .ok (.sipush 192, 3) := zo_17 (b1 := 0) (b2 := 192) (zkb3 zk_cX12_sprites zn_cX12_sprites (by decide +kernel)) rfl
theorem dX12_sprites_60 : decode cX12_sprites 60 = .ok (.if_icmp .ne 7, 3) := zo_160 (b1 := 0) (b2 := 7) (zkb3 zk_cX12_sprites zn_cX12_sprites (by decide +kernel)) rfl
theorem dX12_sprites_63 : decode cX12_sprites 63 = .ok (.iconst 1, 1) := zo_4 (zkb zk_cX12_sprites zn_cX12_sprites (by decide +kernel))
theorem dX12_sprites_64 : decode cX12_sprites 64 = .ok (.goto 4, 3) := zo_167 (b1 := 0) (b2 := 4) (zkb3 zk_cX12_sprites zn_cX12_sprites (by decide +kernel)) rfl
theorem dX12_sprites_67 : decode cX12_sprites 67 = .ok (.iconst 0, 1) := zo_3 (zkb zk_cX12_sprites zn_cX12_sprites (by decide +kernel))
theorem dX12_sprites_68 : decode cX12_sprites 68 = .ok (.istore 6, 2) := zo_54 (b1 := 6) (zkb2 zk_cX12_sprites zn_cX12_sprites (by decide +kernel))
theorem dX12_sprites_70 : decode cX12_sprites 70 = .ok (.iconst 0, 1) := zo_3 (zkb zk_cX12_sprites zn_cX12_sprites (by decide +kernel))
theorem dX12_sprites_71 : decode cX12_sprites 71 = .ok (.istore 7, 2) := zo_54 (b1 := 7) (zkb2 zk_cX12_sprites zn_cX12_sprites (by decide +kernel))
theorem dX12_sprites_73 : decode cX12_sprites 73 = .ok (.iload 7, 2) := zo_21 (b1 := 7) (zkb2 zk_cX12_sprites zn_cX12_sprites (by decide +kernel))
theorem dX12_sprites_75 : decode cX12_sprites 75 = .ok (.bipush 64, 2) := zo_16 (b1 := 64) (zkb2 zk_cX12_sprites zn_cX12_sprites (by decide +kernel)) rfl
theorem dX12_sprites_77 : decode cX12_sprites 77 = .ok (.if_icmp .ge 278, 3) := zo_162 (b1 := 1) (b2 := 22) (zkb3 zk_cX12_sprites zn_cX12_sprites (by decide +kernel)) rfl
theorem dX12_sprites_80 : decode cX12_sprites 80 = .ok (.aload_n 0, 1) := zo_42 (zkb zk_cX12_sprites zn_cX12_sprites (by decide +kernel))
theorem dX12_sprites_81 : decode cX12_sprites 81 = .ok (.iload_n 2, 1) := zo_28 (zkb zk_cX12_sprites zn_cX12_sprites (by decide +kernel))
theorem dX12_sprites_82 : decode cX12_sprites 82 = .ok (.iload 7, 2) := zo_21 (b1 := 7) (zkb2 zk_cX12_sprites zn_cX12_sprites (by decide +kernel))
theorem dX12_sprites_84 : decode cX12_sprites 84 = .ok (.iadd, 1) := zo_96 (zkb zk_cX12_sprites zn_cX12_sprites (by decide +kernel))
theorem dX12_sprites_85 : decode cX12_sprites 85 = .ok (.invokevirtual 401, 3) := zo_182 (b1 := 1) (b2 := 145) (zkb3 zk_cX12_sprites zn_cX12_sprites (by decide +kernel)) rfl
theorem dX12_sprites_88 : decode cX12_sprites 88 = .ok (.istore 8, 2) := zo_54 (b1 := 8) (zkb2 zk_cX12_sprites zn_cX12_sprites (by decide +kernel))
theorem dX12_sprites_90 : decode cX12_sprites 90 = .ok (.iload 6, 2) := zo_21 (b1 := 6) (zkb2 zk_cX12_sprites zn_cX12_sprites (by decide +kernel))
theorem dX12_sprites_92 : decode cX12_sprites 92 = .ok (.ifCond .eq 12, 3) := zo_153 (b1 := 0) (b2 := 12) (zkb3 zk_cX12_sprites zn_cX12_sprites (by decide +kernel)) rfl
theorem dX12_sprites_95 : decode cX12_sprites 95 = .ok (.iload 8, 2) := zo_21 (b1 := 8) (zkb2 zk_cX12_sprites zn_cX12_sprites (by decide +kernel))
theorem dX12_sprites_97 : decode cX12_sprites 97 = .ok (.sipush 208, 3) := zo_17 (b1 := 0) (b2 := 208) (zkb3 zk_cX12_sprites zn_cX12_sprites (by decide +kernel)) rfl
theorem dX12_sprites_100 : decode cX12_sprites 100 = .ok (.if_icmp .ne 4, 3) := zo_160 (b1 := 0) (b2 := 4) (zkb3 zk_cX12_sprites zn_cX12_sprites (by decide +kernel)) rfl
theorem dX12_sprites_103 : decode cX12_sprites 103 = .ok (.return_, 1) := zo_177 (zkb zk_cX12_sprites zn_cX12_sprites (by decide +kernel))
theorem dX12_sprites_104 : decode cX12_sprites 104 = .ok (.iload_n 1, 1) := zo_27 (zkb zk_cX12_sprites zn_cX12_sprites (by decide +kernel))
theorem dX12_sprites_105 : decode cX12_sprites 105 = .ok (.iload 8, 2) := zo_21 (b1 := 8) (zkb2 zk_cX12_sprites zn_cX12_sprites (by decide +kernel))
theorem dX12_sprites_107 : decode cX12_sprites 107 = .ok (.isub, 1) := zo_100 (zkb zk_cX12_sprites zn_cX12_sprites (by decide +kernel))
theorem dX12_sprites_108 : decode cX12_sprites 108 = .ok (.iconst 1, 1) := zo_4 (zkb zk_cX12_sprites zn_cX12_sprites (by decide +kernel))
theorem dX12_sprites_109 : decode cX12_sprites 109 = .ok (.isub, 1) := zo_100 (zkb zk_cX12_sprites zn_cX12_sprites (by decide +kernel))
theorem dX12_sprites_110 : decode cX12_sprites 110 = .ok (.sipush 255, 3) := zo_17 (b1 := 0) (b2 := 255) (zkb3 zk_cX12_sprites zn_cX12_sprites (by decide +kernel)) rfl
theorem dX12_sprites_113 : decode cX12_sprites 113 = .ok (.iand, 1) := zo_126 (zkb zk_cX12_sprites zn_cX12_sprites (by decide +kernel))
theorem dX12_sprites_114 : decode cX12_sprites 114 = .ok (.istore 9, 2) := zo_54 (b1 := 9) (zkb2 zk_cX12_sprites zn_cX12_sprites (by decide +kernel))
theorem dX12_sprites_116 : decode cX12_sprites 116 = .ok (.iload 9, 2) := zo_21 (b1 := 9) (zkb2 zk_cX12_sprites zn_cX12_sprites (by decide +kernel))
theorem dX12_sprites_118 : decode cX12_sprites 118 = .ok (.iload 4, 2) := zo_21 (b1 := 4) (zkb2 zk_cX12_sprites zn_cX12_sprites (by decide +kernel))
theorem dX12_sprites_120 : decode cX12_sprites 120 = .ok (.iload_n 3, 1) := zo_29 (zkb zk_cX12_sprites zn_cX12_sprites (by decide +kernel))
theorem dX12_sprites_121 : decode cX12_sprites 121 = .ok (.imul, 1) := zo_104 (zkb zk_cX12_sprites zn_cX12_sprites (by decide +kernel))
theorem dX12_sprites_122 : decode cX12_sprites 122 = .ok (.if_icmp .lt 6, 3) := zo_161 (b1 := 0) (b2 := 6) (zkb3 zk_cX12_sprites zn_cX12_sprites (by decide +kernel)) rfl
theorem dX12_sprites_125 : decode cX12_sprites 125 = .ok (.goto 224, 3) := zo_167 (b1 := 0) (b2 := 224) (zkb3 zk_cX12_sprites zn_cX12_sprites (by decide +kernel)) rfl
theorem dX12_sprites_128 : decode cX12_sprites 128 = .ok (.iload 5, 2) := zo_21 (b1 := 5) (zkb2 zk_cX12_sprites zn_cX12_sprites (by decide +kernel))
theorem dX12_sprites_130 : decode cX12_sprites 130 = .ok (.bipush 8, 2) := zo_16 (b1 := 8) (zkb2 zk_cX12_sprites zn_cX12_sprites (by decide +kernel)) rfl
theorem dX12_sprites_132 : decode cX12_sprites 132 = .ok (.if_icmp .ne 16, 3) := zo_160 (b1 := 0) (b2 := 16) (zkb3 zk_cX12_sprites zn_cX12_sprites (by decide +kernel)) rfl
theorem dX12_sprites_135 : decode cX12_sprites 135 = .ok (.aload_n 0, 1) := zo_42 (zkb zk_cX12_sprites zn_cX12_sprites (by decide +kernel))
theorem dX12_sprites_136 : decode cX12_sprites 136 = .ok (.getfield 22, 3) := zo_180 (b1 := 0) (b2 := 22) (zkb3 zk_cX12_sprites zn_cX12_sprites (by decide +kernel)) rfl
theorem dX12_sprites_139 : decode cX12_sprites 139 = .ok (.bipush 62, 2) := zo_16 (b1 := 62) (zkb2 zk_cX12_sprites zn_cX12_sprites (by decide +kernel)) rfl
theorem dX12_sprites_141 : decode cX12_sprites 141 = .ok (.dup2, 1) := zo_92 (zkb zk_cX12_sprites zn_cX12_sprites (by decide +kernel))
theorem dX12_sprites_142 : decode cX12_sprites 142 = .ok (.iaload, 1) := zo_46 (zkb zk_cX12_sprites zn_cX12_sprites (by decide +kernel))
theorem dX12_sprites_143 : decode cX12_sprites 143 = .ok (.bipush 64, 2) := zo_16 (b1 := 64) (zkb2 zk_cX12_sprites zn_cX12_sprites (by decide +kernel)) rfl
theorem dX12_sprites_145 : decode cX12_sprites 145 = .ok (.ior, 1) := zo_128 (zkb zk_cX12_sprites zn_cX12_sprites (by decide +kernel))
theorem dX12_sprites_146 : decode cX12_sprites 146 = .ok (.iastore, 1) := zo_79 (zkb zk_cX12_sprites zn_cX12_sprites (by decide +kernel))
theorem dX12_sprites_147 : decode cX12_sprites 147 = .ok (.return_, 1) := zo_177 (zkb zk_cX12_sprites zn_cX12_sprites (by decide +kernel))
theorem dX12_sprites_148 : decode cX12_sprites 148 = .ok (.iinc 5 1, 3) := zo_132 (b1 := 5) (b2 := 1) (zkb3 zk_cX12_sprites zn_cX12_sprites (by decide +kernel)) rfl
theorem dX12_sprites_151 : decode cX12_sprites 151 = .ok (.aload_n 0, 1) := zo_42 (zkb zk_cX12_sprites zn_cX12_sprites (by decide +kernel))
theorem dX12_sprites_152 : decode cX12_sprites 152 = .ok (.iload_n 2, 1) := zo_28 (zkb zk_cX12_sprites zn_cX12_sprites (by decide +kernel))
theorem dX12_sprites_153 : decode cX12_sprites 153 = .ok (.sipush 129, 3) := zo_17 (b1 := 0) (b2 := 129) (zkb3 zk_cX12_sprites zn_cX12_sprites (by decide +kernel)) rfl
theorem dX12_sprites_156 : decode cX12_sprites 156 = .ok (.iadd, 1) := zo_96 (zkb zk_cX12_sprites zn_cX12_sprites (by decide +kernel))
theorem dX12_sprites_157 : decode cX12_sprites 157 = .ok (.iconst 2, 1) := zo_5 (zkb zk_cX12_sprites zn_cX12_sprites (by decide +kernel))
theorem dX12_sprites_158 : decode cX12_sprites 158 = .ok (.iload 7, 2) := zo_21 (b1 := 7) (zkb2 zk_cX12_sprites zn_cX12_sprites (by decide +kernel))
theorem dX12_sprites_160 : decode cX12_sprites 160 = .ok (.imul, 1) := zo_104 (zkb zk_cX12_sprites zn_cX12_sprites (by decide +kernel))
theorem dX12_sprites_161 : decode cX12_sprites 161 = .ok (.iadd, 1) := zo_96 (zkb zk_cX12_sprites zn_cX12_sprites (by decide +kernel))
theorem dX12_sprites_162 : decode cX12_sprites 162 = .ok (.invokevirtual 401, 3) := zo_182 (b1 := 1) (b2 := 145) (zkb3 zk_cX12_sprites zn_cX12_sprites (by decide +kernel)) rfl
theorem dX12_sprites_165 : decode cX12_sprites 165 = .ok (.aload_n 0, 1) := zo_42 (zkb zk_cX12_sprites zn_cX12_sprites (by decide +kernel))
theorem dX12_sprites_166 : decode cX12_sprites 166 = .ok (.bipush 6, 2) := zo_16 (b1 := 6) (zkb2 zk_cX12_sprites zn_cX12_sprites (by decide +kernel)) rfl
theorem dX12_sprites_168 : decode cX12_sprites 168 = .ok (.iconst 2, 1) := zo_5 (zkb zk_cX12_sprites zn_cX12_sprites (by decide +kernel))
theorem dX12_sprites_169 : decode cX12_sprites 169 = .ok (.invokevirtual 395, 3) := zo_182 (b1 := 1) (b2 := 139) (zkb3 zk_cX12_sprites zn_cX12_sprites (by decide +kernel)) rfl
theorem dX12_sprites_172 : decode cX12_sprites 172 = .ok (.iconst 1, 1) := zo_4 (zkb zk_cX12_sprites zn_cX12_sprites (by decide +kernel))
theorem dX12_sprites_173 : decode cX12_sprites 173 = .ok (.if_icmp .ne 9, 3) := zo_160 (b1 := 0) (b2 := 9) (zkb3 zk_cX12_sprites zn_cX12_sprites (by decide +kernel)) rfl
theorem dX12_sprites_176 : decode cX12_sprites 176 = .ok (.sipush 256, 3) := zo_17 (b1 := 1) (b2 := 0) (zkb3 zk_cX12_sprites zn_cX12_sprites (by decide +kernel)) rfl
theorem dX12_sprites_179 : decode cX12_sprites 179 = .ok (.goto 4, 3) := zo_167 (b1 := 0) (b2 := 4) (zkb3 zk_cX12_sprites zn_cX12_sprites (by decide +kernel)) rfl
theorem dX12_sprites_182 : decode cX12_sprites 182 = .ok (.iconst 0, 1) := zo_3 (zkb zk_cX12_sprites zn_cX12_sprites (by decide +kernel))
theorem dX12_sprites_183 : decode cX12_sprites 183 = .ok (.iadd, 1) := zo_96 (zkb zk_cX12_sprites zn_cX12_sprites (by decide +kernel))
theorem dX12_sprites_184 : decode cX12_sprites 184 = .ok (.istore 10, 2) := zo_54 (b1 := 10) (zkb2 zk_cX12_sprites zn_cX12_sprites (by decide +kernel))
theorem dX12_sprites_186 : decode cX12_sprites 186 = .ok (.iload 4, 2) := zo_21 (b1 := 4) (zkb2 zk_cX12_sprites zn_cX12_sprites (by decide +kernel))
theorem dX12_sprites_188 : decode cX12_sprites 188 = .ok (.bipush 16, 2) := zo_16 (b1 := 16) (zkb2 zk_cX12_sprites zn_cX12_sprites (by decide +kernel)) rfl
theorem dX12_sprites_190 : decode cX12_sprites 190 = .ok (.if_icmp .ne 20, 3) := zo_160 (b1 := 0) (b2 := 20) (zkb3 zk_cX12_sprites zn_cX12_sprites (by decide +kernel)) rfl
theorem dX12_sprites_193 : decode cX12_sprites 193 = .ok (.iload 10, 2) := zo_21 (b1 := 10) (zkb2 zk_cX12_sprites zn_cX12_sprites (by decide +kernel))
theorem dX12_sprites_195 : decode cX12_sprites 195 = .ok (.sipush 510, 3) := zo_17 (b1 := 1) (b2 := 254) (zkb3 zk_cX12_sprites zn_cX12_sprites (by decide +kernel)) rfl
theorem dX12_sprites_198 : decode cX12_sprites 198 = .ok (.iand, 1) := zo_126 (zkb zk_cX12_sprites zn_cX12_sprites (by decide +kernel))
theorem dX12_sprites_199 : decode cX12_sprites 199 = .ok (.iload 9, 2) := zo_21 (b1 := 9) (zkb2 zk_cX12_sprites zn_cX12_sprites (by decide +kernel))
theorem dX12_sprites_201 : decode cX12_sprites 201 = .ok (.iload_n 3, 1) := zo_29 (zkb zk_cX12_sprites zn_cX12_sprites (by decide +kernel))
theorem dX12_sprites_202 : decode cX12_sprites 202 = .ok (.idiv, 1) := zo_108 (zkb zk_cX12_sprites zn_cX12_sprites (by decide +kernel))
theorem dX12_sprites_203 : decode cX12_sprites 203 = .ok (.bipush 8, 2) := zo_16 (b1 := 8) (zkb2 zk_cX12_sprites zn_cX12_sprites (by decide +kernel)) rfl
theorem dX12_sprites_205 : decode cX12_sprites 205 = .ok (.idiv, 1) := zo_108 (zkb zk_cX12_sprites zn_cX12_sprites (by decide +kernel))
theorem dX12_sprites_206 : decode cX12_sprites 206 = .ok (.iadd, 1) := zo_96 (zkb zk_cX12_sprites zn_cX12_sprites (by decide +kernel))
theorem dX12_sprites_207 : decode cX12_sprites 207 = .ok (.goto 5, 3) := zo_167 (b1 := 0) (b2 := 5) (zkb3 zk_cX12_sprites zn_cX12_sprites (by decide +kernel)) rfl
theorem dX12_sprites_210 : decode cX12_sprites 210 = .ok (.iload 10, 2) := zo_21 (b1 := 10) (zkb2 zk_cX12_sprites zn_cX12_sprites (by decide +kernel))
theorem dX12_sprites_212 : decode cX12_sprites 212 = .ok (.istore 10, 2) := zo_54 (b1 := 10) (zkb2 zk_cX12_sprites zn_cX12_sprites (by decide +kernel))
theorem dX12_sprites_214 : decode cX12_sprites 214 = .ok (.aload_n 0, 1) := zo_42 (zkb zk_cX12_sprites zn_cX12_sprites (by decide +kernel))
theorem dX12_sprites_215 : decode cX12_sprites 215 = .ok (.iload_n 2, 1) := zo_28 (zkb zk_cX12_sprites zn_cX12_sprites (by decide +kernel))
theorem dX12_sprites_216 : decode cX12_sprites 216 = .ok (.sipush 128, 3) := zo_17 (b1 := 0) (b2 := 128) (zkb3 zk_cX12_sprites zn_cX12_sprites (by decide +kernel)) rfl
theorem dX12_sprites_219 : decode cX12_sprites 219 = .ok (.iadd, 1) := zo_96 (zkb zk_cX12_sprites zn_cX12_sprites (by decide +kernel))
theorem dX12_sprites_220 : decode cX12_sprites 220 = .ok (.iconst 2, 1) := zo_5 (zkb zk_cX12_sprites zn_cX12_sprites (by decide +kernel))
theorem dX12_sprites_221 : decode cX12_sprites 221 = .ok (.iload 7, 2) := zo_21 (b1 := 7) (zkb2 zk_cX12_sprites zn_cX12_sprites (by decide +kernel))
theorem dX12_sprites_223 : decode cX12_sprites 223 = .ok (.imul, 1) := zo_104 (zkb zk_cX12_sprites zn_cX12_sprites (by decide +kernel))
theorem dX12_sprites_224 : decode cX12_sprites 224 = .ok (.iadd, 1) := zo_96 (zkb zk_cX12_sprites zn_cX12_sprites (by decide +kernel))
theorem dX12_sprites_225 : decode cX12_sprites 225 = .ok (.invokevirtual 401, 3) := zo_182 (b1 := 1) (b2 := 145) (zkb3 zk_cX12_sprites zn_cX12_sprites (by decide +kernel)) rfl
theorem dX12_sprites_228 : decode cX12_sprites 228 = .ok (.aload_n 0, 1) := zo_42 (zkb zk_cX12_sprites zn_cX12_sprites (by decide +kernel))
theorem dX12_sprites_229 : decode cX12_sprites 229 = .ok (.iconst 0, 1) := zo_3 (zkb zk_cX12_sprites zn_cX12_sprites (by decide +kernel))
theorem dX12_sprites_230 : decode cX12_sprites 230 = .ok (.iconst 3, 1) := zo_6 (zkb zk_cX12_sprites zn_cX12_sprites (by decide +kernel))
theorem dX12_sprites_231 : decode cX12_sprites 231 = .ok (.invokevirtual 395, 3) := zo_182 (b1 := 1) (b2 := 139) (zkb3 zk_cX12_sprites zn_cX12_sprites (by decide +kernel)) rfl
theorem dX12_sprites_234 : decode cX12_sprites 234 = .ok (.iconst 1, 1) := zo_4 (zkb zk_cX12_sprites zn_cX12_sprites (by decide +kernel))
theorem dX12_sprites_235 : decode cX12_sprites 235 = .ok (.if_icmp .ne 8, 3) := zo_160 (b1 := 0) (b2 := 8) (zkb3 zk_cX12_sprites zn_cX12_sprites (by decide +kernel)) rfl
theorem dX12_sprites_238 : decode cX12_sprites 238 = .ok (.bipush 8, 2) := zo_16 (b1 := 8) (zkb2 zk_cX12_sprites zn_cX12_sprites (by decide +kernel)) rfl
theorem dX12_sprites_240 : decode cX12_sprites 240 = .ok (.goto 4, 3) := zo_167 (b1 := 0) (b2 := 4) (zkb3 zk_cX12_sprites zn_cX12_sprites (by decide +kernel)) rfl
theorem dX12_sprites_243 : decode cX12_sprites 243 = .ok (.iconst 0, 1) := zo_3 (zkb zk_cX12_sprites zn_cX12_sprites (by decide +kernel))
theorem dX12_sprites_244 : decode cX12_sprites 244 = .ok (.isub, 1) := zo_100 (zkb zk_cX12_sprites zn_cX12_sprites (by decide +kernel))
theorem dX12_sprites_245 : decode cX12_sprites 245 = .ok (.istore 11, 2) := zo_54 (b1 := 11) (zkb2 zk_cX12_sprites zn_cX12_sprites (by decide +kernel))
theorem dX12_sprites_247 : decode cX12_sprites 247 = .ok (.iconst 0, 1) := zo_3 (zkb zk_cX12_sprites zn_cX12_sprites (by decide +kernel))
theorem dX12_sprites_248 : decode cX12_sprites 248 = .ok (.istore 12, 2) := zo_54 (b1 := 12) (zkb2 zk_cX12_sprites zn_cX12_sprites (by decide +kernel))
theorem dX12_sprites_250 : decode cX12_sprites 250 = .ok (.iload 12, 2) := zo_21 (b1 := 12) (zkb2 zk_cX12_sprites zn_cX12_sprites (by decide +kernel))
theorem dX12_sprites_252 : decode cX12_sprites 252 = .ok (.bipush 8, 2) := zo_16 (b1 := 8) (zkb2 zk_cX12_sprites zn_cX12_sprites (by decide +kernel)) rfl
theorem dX12_sprites_254 : decode cX12_sprites 254 = .ok (.iload_n 3, 1) := zo_29 (zkb zk_cX12_sprites zn_cX12_sprites (by decide +kernel))
theorem dX12_sprites_255 : decode cX12_sprites 255 = .ok (.imul, 1) := zo_104 (zkb zk_cX12_sprites zn_cX12_sprites (by decide +kernel))
theorem dX12_sprites_256 : decode cX12_sprites 256 = .ok (.if_icmp .ge 93, 3) := zo_162 (b1 := 0) (b2 := 93) (zkb3 zk_cX12_sprites zn_cX12_sprites (by decide +kernel)) rfl
theorem dX12_sprites_259 : decode cX12_sprites 259 = .ok (.aload_n 0, 1) := zo_42 (zkb zk_cX12_sprites zn_cX12_sprites (by decide +kernel))
theorem dX12_sprites_260 : decode cX12_sprites 260 = .ok (.iload 10, 2) := zo_21 (b1 := 10) (zkb2 zk_cX12_sprites zn_cX12_sprites (by decide +kernel))
theorem dX12_sprites_262 : decode cX12_sprites 262 = .ok (.iload 12, 2) := zo_21 (b1 := 12) (zkb2 zk_cX12_sprites zn_cX12_sprites (by decide +kernel))
theorem dX12_sprites_264 : decode cX12_sprites 264 = .ok (.iload_n 3, 1) := zo_29 (zkb zk_cX12_sprites zn_cX12_sprites (by decide +kernel))
theorem dX12_sprites_265 : decode cX12_sprites 265 = .ok (.idiv, 1) := zo_108 (zkb zk_cX12_sprites zn_cX12_sprites (by decide +kernel))
theorem dX12_sprites_266 : decode cX12_sprites 266 = .ok (.iload 9, 2) := zo_21 (b1 := 9) (zkb2 zk_cX12_sprites zn_cX12_sprites (by decide +kernel))
theorem dX12_sprites_268 : decode cX12_sprites 268 = .ok (.iload_n 3, 1) := zo_29 (zkb zk_cX12_sprites zn_cX12_sprites (by decide +kernel))
theorem dX12_sprites_269 : decode cX12_sprites 269 = .ok (.idiv, 1) := zo_108 (zkb zk_cX12_sprites zn_cX12_sprites (by decide +kernel))
theorem dX12_sprites_270 : decode cX12_sprites 270 = .ok (.bipush 8, 2) := zo_16 (b1 := 8) (zkb2 zk_cX12_sprites zn_cX12_sprites (by decide +kernel)) rfl
theorem dX12_sprites_272 : decode cX12_sprites 272 = .ok (.irem, 1) := zo_112 (zkb zk_cX12_sprites zn_cX12_sprites (by decide +kernel))
theorem dX12_sprites_273 : decode cX12_sprites 273 = .ok (.invokevirtual 434, 3) := zo_182 (b1 := 1) (b2 := 178) (zkb3 zk_cX12_sprites zn_cX12_sprites (by decide +kernel)) rfl
theorem dX12_sprites_276 : decode cX12_sprites 276 = .ok (.istore 13, 2) := zo_54 (b1 := 13) (zkb2 zk_cX12_sprites zn_cX12_sprites (by decide +kernel))
theorem dX12_sprites_278 : decode cX12_sprites 278 = .ok (.iload 11, 2) := zo_21 (b1 := 11) (zkb2 zk_cX12_sprites zn_cX12_sprites (by decide +kernel))
theorem dX12_sprites_280 : decode cX12_sprites 280 = .ok (.iload 12, 2) := zo_21 (b1 := 12) (zkb2 zk_cX12_sprites zn_cX12_sprites (by decide +kernel))
theorem dX12_sprites_282 : decode cX12_sprites 282 = .ok (.iadd, 1) := zo_96 (zkb zk_cX12_sprites zn_cX12_sprites (by decide +kernel))
theorem dX12_sprites_283 : decode cX12_sprites 283 = .ok (.istore 14, 2) := zo_54 (b1 := 14) (zkb2 zk_cX12_sprites zn_cX12_sprites (by decide +kernel))
theorem dX12_sprites_285 : decode cX12_sprites 285 = .ok (.iload 13, 2) := zo_21 (b1 := 13) (zkb2 zk_cX12_sprites zn_cX12_sprites (by decide +kernel))
theorem dX12_sprites_287 : decode cX12_sprites 287 = .ok (.ifCond .eq 56, 3) := zo_153 (b1 := 0) (b2 := 56) (zkb3 zk_cX12_sprites zn_cX12_sprites (by decide +kernel)) rfl
theorem dX12_sprites_290 : decode cX12_sprites 290 = .ok (.iload 14, 2) := zo_21 (b1 := 14) (zkb2 zk_cX12_sprites zn_cX12_sprites (by decide +kernel))
theorem dX12_sprites_292 : decode cX12_sprites 292 = .ok (.ifCond .lt 51, 3) := zo_155 (b1 := 0) (b2 := 51) (zkb3 zk_cX12_sprites zn_cX12_sprites (by decide +kernel)) rfl
theorem dX12_sprites_295 : decode cX12_sprites 295 = .ok (.iload 14, 2) := zo_21 (b1 := 14) (zkb2 zk_cX12_sprites zn_cX12_sprites (by decide +kernel))
theorem dX12_sprites_297 : decode cX12_sprites 297 = .ok (.sipush 255, 3) := zo_17 (b1 := 0) (b2 := 255) (zkb3 zk_cX12_sprites zn_cX12_sprites (by decide +kernel)) rfl
theorem dX12_sprites_300 : decode cX12_sprites 300 = .ok (.if_icmp .le 6, 3) := zo_164 (b1 := 0) (b2 := 6) (zkb3 zk_cX12_sprites zn_cX12_sprites (by decide +kernel)) rfl
theorem dX12_sprites_303 : decode cX12_sprites 303 = .ok (.goto 40, 3) := zo_167 (b1 := 0) (b2 := 40) (zkb3 zk_cX12_sprites zn_cX12_sprites (by decide +kernel)) rfl
theorem dX12_sprites_306 : decode cX12_sprites 306 = .ok (.aload_n 0, 1) := zo_42 (zkb zk_cX12_sprites zn_cX12_sprites (by decide +kernel))
theorem dX12_sprites_307 : decode cX12_sprites 307 = .ok (.getfield 90, 3) := zo_180 (b1 := 0) (b2 := 90) (zkb3 zk_cX12_sprites zn_cX12_sprites (by decide +kernel)) rfl
theorem dX12_sprites_310 : decode cX12_sprites 310 = .ok (.iload 14, 2) := zo_21 (b1 := 14) (zkb2 zk_cX12_sprites zn_cX12_sprites (by decide +kernel))
theorem dX12_sprites_312 : decode cX12_sprites 312 = .ok (.iaload, 1) := zo_46 (zkb zk_cX12_sprites zn_cX12_sprites (by decide +kernel))
theorem dX12_sprites_313 : decode cX12_sprites 313 = .ok (.ifCond .le 18, 3) := zo_158 (b1 := 0) (b2 := 18) (zkb3 zk_cX12_sprites zn_cX12_sprites (by decide +kernel)) rfl
theorem dX12_sprites_316 : decode cX12_sprites 316 = .ok (.aload_n 0, 1) := zo_42 (zkb zk_cX12_sprites zn_cX12_sprites (by decide +kernel))
theorem dX12_sprites_317 : decode cX12_sprites 317 = .ok (.getfield 22, 3) := zo_180 (b1 := 0) (b2 := 22) (zkb3 zk_cX12_sprites zn_cX12_sprites (by decide +kernel)) rfl
theorem dX12_sprites_320 : decode cX12_sprites 320 = .ok (.bipush 62, 2) := zo_16 (b1 := 62) (zkb2 zk_cX12_sprites zn_cX12_sprites (by decide +kernel)) rfl
theorem dX12_sprites_322 : decode cX12_sprites 322 = .ok (.dup2, 1) := zo_92 (zkb zk_cX12_sprites zn_cX12_sprites (by decide +kernel))
theorem dX12_sprites_323 : decode cX12_sprites 323 = .ok (.iaload, 1) := zo_46 (zkb zk_cX12_sprites zn_cX12_sprites (by decide +kernel))
theorem dX12_sprites_324 : decode cX12_sprites 324 = .ok (.bipush 32, 2) := zo_16 (b1 := 32) (zkb2 zk_cX12_sprites zn_cX12_sprites (by decide +kernel)) rfl
theorem dX12_sprites_326 : decode cX12_sprites 326 = .ok (.ior, 1) := zo_128 (zkb zk_cX12_sprites zn_cX12_sprites (by decide +kernel))
theorem dX12_sprites_327 : decode cX12_sprites 327 = .ok (.iastore, 1) := zo_79 (zkb zk_cX12_sprites zn_cX12_sprites (by decide +kernel))
theorem dX12_sprites_328 : decode cX12_sprites 328 = .ok (.goto 15, 3) := zo_167 (b1 := 0) (b2 := 15) (zkb3 zk_cX12_sprites zn_cX12_sprites (by decide +kernel)) rfl
theorem dX12_sprites_331 : decode cX12_sprites 331 = .ok (.aload_n 0, 1) := zo_42 (zkb zk_cX12_sprites zn_cX12_sprites (by decide +kernel))
theorem dX12_sprites_332 : decode cX12_sprites 332 = .ok (.getfield 90, 3) := zo_180 (b1 := 0) (b2 := 90) (zkb3 zk_cX12_sprites zn_cX12_sprites (by decide +kernel)) rfl
theorem dX12_sprites_335 : decode cX12_sprites 335 = .ok (.iload 14, 2) := zo_21 (b1 := 14) (zkb2 zk_cX12_sprites zn_cX12_sprites (by decide +kernel))
theorem dX12_sprites_337 : decode cX12_sprites 337 = .ok (.bipush 16, 2) := zo_16 (b1 := 16) (zkb2 zk_cX12_sprites zn_cX12_sprites (by decide +kernel)) rfl
theorem dX12_sprites_339 : decode cX12_sprites 339 = .ok (.iload 13, 2) := zo_21 (b1 := 13) (zkb2 zk_cX12_sprites zn_cX12_sprites (by decide +kernel))
theorem dX12_sprites_341 : decode cX12_sprites 341 = .ok (.iadd, 1) := zo_96 (zkb zk_cX12_sprites zn_cX12_sprites (by decide +kernel))
theorem dX12_sprites_342 : decode cX12_sprites 342 = .ok (.iastore, 1) := zo_79 (zkb zk_cX12_sprites zn_cX12_sprites (by decide +kernel))
theorem dX12_sprites_343 : decode cX12_sprites 343 = .ok (.iinc 12 1, 3) := zo_132 (b1 := 12) (b2 := 1) (zkb3 zk_cX12_sprites zn_cX12_sprites (by decide +kernel)) rfl
theorem dX12_sprites_346 : decode cX12_sprites 346 = .ok (.goto (-96), 3) := zo_167 (b1 := 255) (b2 := 160) (zkb3 zk_cX12_sprites zn_cX12_sprites (by decide +kernel)) rfl
theorem dX12_sprites_349 : decode cX12_sprites 349 = .ok (.iinc 7 1, 3) := zo_132 (b1 := 7) (b2 := 1) (zkb3 zk_cX12_sprites zn_cX12_sprites (by decide +kernel)) rfl
theorem dX12_sprites_352 : decode cX12_sprites 352 = .ok (.goto (-279), 3) := zo_167 (b1 := 254) (b2 := 233) (zkb3 zk_cX12_sprites zn_cX12_sprites (by decide +kernel)) rfl
theorem dX12_sprites_355 : decode cX12_sprites 355 = .ok (.return_, 1) := zo_177 (zkb zk_cX12_sprites zn_cX12_sprites (by decide +kernel))
def rmX12_adjusts : Room := { frames := 3, cells := 0, slots := 0, locals := 64 }
def wzX12_adjusts : List Cond := .code yX12_adjusts cX12_adjusts 3 none :: wsL_law
theorem hinX12_adjusts_X120 : ∀ w ∈ wsX120, w ∈ wzX12_adjusts := fun w h => List.mem_cons_of_mem _ (inlX12 w h)
def fX12_adjusts_130  (σ : zSt) (s0 : Int32) (s1 : Int32) : Option (zSt) :=
  zck (zin s1 1048) (zbv (zsi σ 3 (s1.toNatClampNeg) (s0 &&& 255)) (fun σ1 =>
  zck (zin 0 1048) (
  zbu (fX12_by σ1 (zgi σ1 3 (0 : Int32).toNatClampNeg)) (fun σ2 =>
  zck (zin 0 1048) (
  zbi (fX12_isEven σ2 (zgi σ2 3 (0 : Int32).toNatClampNeg)) (fun σ3 v4 =>
  zbu (fX12_put σ3 2 v4) (fun σ5 =>
  some σ5)))))))
def fX12_adjusts_105  (σ : zSt) (x1 : Int32) (x2 : Int32) (s0 : Int32) (s1 : Int32) : Option (zSt) :=
  zbu (fX12_put σ s1 s0) (fun σ6 =>
  zbi (fX12_flag σ6 1) (fun σ7 v8 =>
  if v8 = 0 then fX12_adjusts_130 σ7 (x1 + x2) 0 else
  fX12_adjusts_130 σ7 (x1 - x2) 0))
def fX12_adjusts_104  (σ : zSt) (x1 : Int32) (x2 : Int32) (s0 : Int32) : Option (zSt) :=
  fX12_adjusts_105 σ x1 x2 0 s0
def fX12_adjusts_55  (σ : zSt) (x1 : Int32) (x2 : Int32) : Option (zSt) :=
  zbi (fX12_flag σ 1) (fun σ9 v10 =>
  if v10 = 0 then if (x1 &&& 15) ≤ 9 then fX12_adjusts_105 σ9 x1 x2 0 4 else
  fX12_adjusts_105 σ9 x1 x2 1 4 else
  zbi (fX12_flag σ9 4) (fun σ11 v12 =>
  if v12 = 1 then if 6 ≤ (x1 &&& 15) then fX12_adjusts_104 σ11 x1 x2 4 else
  fX12_adjusts_105 σ11 x1 x2 1 4 else
  fX12_adjusts_104 σ11 x1 x2 4))
def fX12_adjusts_46  (σ : zSt) (x1 : Int32) (x2 : Int32) : Option (zSt) :=
  zbv (x2 + 96) (fun v13 =>
  zbu (fX12_put σ 0 1) (fun σ14 =>
  fX12_adjusts_55 σ14 x1 v13))
def fX12_adjusts_30  (σ : zSt) (x1 : Int32) (x2 : Int32) : Option (zSt) :=
  if 153 < x1 then fX12_adjusts_46 σ x1 x2 else
  zbi (fX12_flag σ 0) (fun σ15 v16 =>
  if v16 = 1 then fX12_adjusts_46 σ15 x1 x2 else
  fX12_adjusts_55 σ15 x1 x2)
def fX12_adjusts_27  (σ : zSt) (x1 : Int32) (x2 : Int32) : Option (zSt) :=
  zbv (x2 + 6) (fun v17 =>
  fX12_adjusts_30 σ x1 v17)
def fX12_adjusts  (σ : zSt)  : Option (zSt) :=
  zck (zin 0 1048) (
  zbv (zgi σ 3 (0 : Int32).toNatClampNeg) (fun v18 =>
  if 9 < (v18 &&& 15) then fX12_adjusts_27 σ v18 0 else
  zbi (fX12_flag σ 4) (fun σ19 v20 =>
  if v20 = 1 then fX12_adjusts_27 σ19 v18 0 else
  fX12_adjusts_30 σ19 v18 0)))
set_option maxRecDepth 20000 in
set_option maxHeartbeats 4000000 in
theorem bX12_adjusts_130 {st : Nat → Nat} {p : Program} {l : Launch} {e : Env} {s : State} {m : MethodId} {args : Array Value} {below : List Frame} {meth : Method} {c : Code} {D : va_G} {A : Nat → Prop} {ad : Nat → Nat} {cy : Nat → ClassId} (hC : zC p m c cX12_adjusts 3 s args wzX12_adjusts RX12 meth none)  {res : zSt} {H : Heap} {locs : List Loc} {σ : zSt} {ls : Array Slot} {s0 : Int32} {s1 : Int32} (hI : zI st D (tM cy) (wM ad cy σ) A s H locs) (hl : lv_has ls 3 [(0, .ref (ad 0))]) (hf : fX12_adjusts_130  σ s0 s1 = some res) : W p l e rmX12_adjusts s m args below meth c H locs 0 0 (zQu below args s D (tM cy) (wM ad cy) A res) (F0 m 130 ls [.int s0, .int s1, .ref (ad 3)]) := by
  have hx := hC.1
  have hb := hC.2.1
  unfold fX12_adjusts_130 at hf
  refine lv_sipush (v := 255) hx hb dX12_adjusts_130 (by decide) ?_
  refine lv_iand hx hb dX12_adjusts_133 ?_
  obtain ⟨q, hf⟩ := zck_use hf
  obtain ⟨σ1, eσ1⟩ : ∃ z, z = zsi σ 3 (s1.toNatClampNeg) (s0 &&& 255) := ⟨_, rfl⟩
  replace hf := zbv_use eσ1 hf
  refine z_iast hC hI 3 2 (wM_e3 ad cy σ) (tM_t3 cy) q ((wM_s3 ad cy σ _ _).trans (congrArg (wM ad cy) eσ1.symm)) dX12_adjusts_134 (fun H locs hI => ?_)
  refine lv_aload_n hx hb dX12_adjusts_135 rfl (lv_at hl 0 rfl) ?_
  refine lv_aload_n hx hb dX12_adjusts_136 rfl (lv_at hl 0 rfl) ?_
  refine z_get hC hI hinX12_adjusts_X120 0 (wM_e0 ad cy σ1) rfl 10 (by decide) (List.mem_cons_of_mem _ zw9_7) rfl dX12_adjusts_137 ?_
  refine lv_iconst (v := 0) hx hb dX12_adjusts_140 (by decide) ?_
  obtain ⟨q, hf⟩ := zck_use hf
  refine z_iald hC hI 3 2 (wM_e3 ad cy σ1) (tM_t3 cy) q dX12_adjusts_141 ?_
  obtain ⟨σ2, g2, hf⟩ := zbu_use hf
  refine z_callVu (As := [.int (zgi σ1 3 (0 : Int32).toNatClampNeg)]) (rest := []) hC hI (cX12_by_met st l D ad cy σ1 (zgi σ1 3 (0 : Int32).toNatClampNeg) _ g2) (zgV zw53_22 zw53_23 zw54_0 zw1_5 zw54_1) rfl ⟨rfl, rfl⟩ 1 hdX12_by ⟨Nat.le_of_ble_eq_true rfl, Nat.le_of_ble_eq_true rfl⟩ rfl rfl (wM_e0 ad cy σ1) rfl hl rfl (Nat.le_of_ble_eq_true rfl) dX12_adjusts_142 ⟨Nat.zero_le _, Nat.zero_le _⟩ (fun H locs hI => ?_)
  refine lv_aload_n hx hb dX12_adjusts_145 rfl (lv_at hl 0 rfl) ?_
  refine lv_iconst (v := 2) hx hb dX12_adjusts_146 (by decide) ?_
  refine lv_aload_n hx hb dX12_adjusts_147 rfl (lv_at hl 0 rfl) ?_
  refine z_get hC hI hinX12_adjusts_X120 0 (wM_e0 ad cy σ2) rfl 10 (by decide) (List.mem_cons_of_mem _ zw9_7) rfl dX12_adjusts_148 ?_
  refine lv_iconst (v := 0) hx hb dX12_adjusts_151 (by decide) ?_
  obtain ⟨q, hf⟩ := zck_use hf
  refine z_iald hC hI 3 2 (wM_e3 ad cy σ2) (tM_t3 cy) q dX12_adjusts_152 ?_
  obtain ⟨σ3, v4, g3, hf⟩ := zbi_use hf
  refine z_callSi (As := [.int (zgi σ2 3 (0 : Int32).toNatClampNeg)]) (rest := [.int 2, .ref (ad 0)]) hC hI (cX12_isEven_met st l D ad cy σ2 (zgi σ2 3 (0 : Int32).toNatClampNeg) _ g3) (zgS zw54_10 zw54_11 zw1_5 zw54_12) rfl ⟨rfl, rfl⟩ 1 hdX12_isEven ⟨Nat.le_of_ble_eq_true rfl, Nat.le_of_ble_eq_true rfl⟩ rfl hl rfl (Nat.le_of_ble_eq_true rfl) dX12_adjusts_153 ⟨Nat.zero_le _, Nat.zero_le _⟩ (fun H locs hI => ?_)
  obtain ⟨σ5, g5, hf⟩ := zbu_use hf
  refine z_callVu (As := [.int 2, .int v4]) (rest := []) hC hI (cX12_put_met st l D ad cy σ3 2 v4 _ g5) (zgV zw52_13 zw52_14 zw52_15 zw1_5 zw52_16) rfl ⟨rfl, rfl⟩ 2 hdX12_put ⟨Nat.le_of_ble_eq_true rfl, Nat.le_of_ble_eq_true rfl⟩ rfl rfl (wM_e0 ad cy σ3) rfl hl rfl (Nat.le_of_ble_eq_true rfl) dX12_adjusts_156 ⟨Nat.zero_le _, Nat.zero_le _⟩ (fun H locs hI => ?_)
  exact z_return hC hI hf dX12_adjusts_159
set_option maxRecDepth 20000 in
set_option maxHeartbeats 4000000 in
theorem bX12_adjusts_105 {st : Nat → Nat} {p : Program} {l : Launch} {e : Env} {s : State} {m : MethodId} {args : Array Value} {below : List Frame} {meth : Method} {c : Code} {D : va_G} {A : Nat → Prop} {ad : Nat → Nat} {cy : Nat → ClassId} (hC : zC p m c cX12_adjusts 3 s args wzX12_adjusts RX12 meth none)  {res : zSt} {H : Heap} {locs : List Loc} {σ : zSt} {ls : Array Slot} {x1 : Int32} {x2 : Int32} {s0 : Int32} {s1 : Int32} (hI : zI st D (tM cy) (wM ad cy σ) A s H locs) (hl : lv_has ls 3 [(0, .ref (ad 0)), (1, .int x1), (2, .int x2)]) (hf : fX12_adjusts_105  σ x1 x2 s0 s1 = some res) : W p l e rmX12_adjusts s m args below meth c H locs 0 0 (zQu below args s D (tM cy) (wM ad cy) A res) (F0 m 105 ls [.int s0, .int s1, .ref (ad 0)]) := by
  have hx := hC.1
  have hb := hC.2.1
  unfold fX12_adjusts_105 at hf
  obtain ⟨σ6, g6, hf⟩ := zbu_use hf
  refine z_callVu (As := [.int s1, .int s0]) (rest := []) hC hI (cX12_put_met st l D ad cy σ s1 s0 _ g6) (zgV zw52_13 zw52_14 zw52_15 zw1_5 zw52_16) rfl ⟨rfl, rfl⟩ 2 hdX12_put ⟨Nat.le_of_ble_eq_true rfl, Nat.le_of_ble_eq_true rfl⟩ rfl rfl (wM_e0 ad cy σ) rfl hl rfl (Nat.le_of_ble_eq_true rfl) dX12_adjusts_105 ⟨Nat.zero_le _, Nat.zero_le _⟩ (fun H locs hI => ?_)
  refine lv_aload_n hx hb dX12_adjusts_108 rfl (lv_at hl 0 rfl) ?_
  refine z_get hC hI hinX12_adjusts_X120 0 (wM_e0 ad cy σ6) rfl 10 (by decide) (List.mem_cons_of_mem _ zw9_7) rfl dX12_adjusts_109 ?_
  refine lv_iconst (v := 0) hx hb dX12_adjusts_112 (by decide) ?_
  refine lv_aload_n hx hb dX12_adjusts_113 rfl (lv_at hl 0 rfl) ?_
  refine lv_iconst (v := 1) hx hb dX12_adjusts_114 (by decide) ?_
  obtain ⟨σ7, v8, g7, hf⟩ := zbi_use hf
  refine z_callVi (As := [.int 1]) (rest := [.int 0, .ref (ad 3)]) hC hI (cX12_flag_met st l D ad cy σ6 1 _ g7) (zgV zw51_1 zw51_2 zw51_3 zw1_5 zw51_4) rfl ⟨rfl, rfl⟩ 1 hdX12_flag ⟨Nat.le_of_ble_eq_true rfl, Nat.le_of_ble_eq_true rfl⟩ rfl rfl (wM_e0 ad cy σ6) rfl hl rfl (Nat.le_of_ble_eq_true rfl) dX12_adjusts_115 ⟨Nat.zero_le _, Nat.zero_le _⟩ (fun H locs hI => ?_)
  refine lv_if_ne (tgt := 127) hx hb dX12_adjusts_118 (by decide) (fun q => ?_) (fun q => ?_)
  · replace hf := zif_f q hf
    refine lv_iload_n hx hb dX12_adjusts_127 rfl (lv_at hl 1 rfl) ?_
    refine lv_iload_n hx hb dX12_adjusts_128 rfl (lv_at hl 2 rfl) ?_
    refine lv_isub hx hb dX12_adjusts_129 ?_
    exact bX12_adjusts_130 hC  hI (lv_sub hl [0] rfl) hf
  replace hf := zif_t q hf
  refine lv_iload_n hx hb dX12_adjusts_121 rfl (lv_at hl 1 rfl) ?_
  refine lv_iload_n hx hb dX12_adjusts_122 rfl (lv_at hl 2 rfl) ?_
  refine lv_iadd hx hb dX12_adjusts_123 ?_
  refine lv_goto (tgt := 130) hx hb dX12_adjusts_124 (by decide) ?_
  exact bX12_adjusts_130 hC  hI (lv_sub hl [0] rfl) hf
set_option maxRecDepth 20000 in
set_option maxHeartbeats 4000000 in
theorem bX12_adjusts_104 {st : Nat → Nat} {p : Program} {l : Launch} {e : Env} {s : State} {m : MethodId} {args : Array Value} {below : List Frame} {meth : Method} {c : Code} {D : va_G} {A : Nat → Prop} {ad : Nat → Nat} {cy : Nat → ClassId} (hC : zC p m c cX12_adjusts 3 s args wzX12_adjusts RX12 meth none)  {res : zSt} {H : Heap} {locs : List Loc} {σ : zSt} {ls : Array Slot} {x1 : Int32} {x2 : Int32} {s0 : Int32} (hI : zI st D (tM cy) (wM ad cy σ) A s H locs) (hl : lv_has ls 3 [(0, .ref (ad 0)), (1, .int x1), (2, .int x2)]) (hf : fX12_adjusts_104  σ x1 x2 s0 = some res) : W p l e rmX12_adjusts s m args below meth c H locs 0 0 (zQu below args s D (tM cy) (wM ad cy) A res) (F0 m 104 ls [.int s0, .ref (ad 0)]) := by
  have hx := hC.1
  have hb := hC.2.1
  unfold fX12_adjusts_104 at hf
  refine lv_iconst (v := 0) hx hb dX12_adjusts_104 (by decide) ?_
  exact bX12_adjusts_105 hC  hI hl hf
set_option maxRecDepth 20000 in
set_option maxHeartbeats 4000000 in
theorem bX12_adjusts_55 {st : Nat → Nat} {p : Program} {l : Launch} {e : Env} {s : State} {m : MethodId} {args : Array Value} {below : List Frame} {meth : Method} {c : Code} {D : va_G} {A : Nat → Prop} {ad : Nat → Nat} {cy : Nat → ClassId} (hC : zC p m c cX12_adjusts 3 s args wzX12_adjusts RX12 meth none)  {res : zSt} {H : Heap} {locs : List Loc} {σ : zSt} {ls : Array Slot} {x1 : Int32} {x2 : Int32} (hI : zI st D (tM cy) (wM ad cy σ) A s H locs) (hl : lv_has ls 3 [(0, .ref (ad 0)), (1, .int x1), (2, .int x2)]) (hf : fX12_adjusts_55  σ x1 x2 = some res) : W p l e rmX12_adjusts s m args below meth c H locs 0 0 (zQu below args s D (tM cy) (wM ad cy) A res) (F0 m 55 ls []) := by
  have hx := hC.1
  have hb := hC.2.1
  unfold fX12_adjusts_55 at hf
  refine lv_aload_n hx hb dX12_adjusts_55 rfl (lv_at hl 0 rfl) ?_
  refine lv_iconst (v := 4) hx hb dX12_adjusts_56 (by decide) ?_
  refine lv_aload_n hx hb dX12_adjusts_57 rfl (lv_at hl 0 rfl) ?_
  refine lv_iconst (v := 1) hx hb dX12_adjusts_58 (by decide) ?_
  obtain ⟨σ9, v10, g9, hf⟩ := zbi_use hf
  refine z_callVi (As := [.int 1]) (rest := [.int 4, .ref (ad 0)]) hC hI (cX12_flag_met st l D ad cy σ 1 _ g9) (zgV zw51_1 zw51_2 zw51_3 zw1_5 zw51_4) rfl ⟨rfl, rfl⟩ 1 hdX12_flag ⟨Nat.le_of_ble_eq_true rfl, Nat.le_of_ble_eq_true rfl⟩ rfl rfl (wM_e0 ad cy σ) rfl hl rfl (Nat.le_of_ble_eq_true rfl) dX12_adjusts_59 ⟨Nat.zero_le _, Nat.zero_le _⟩ (fun H locs hI => ?_)
  refine lv_if_ne (tgt := 82) hx hb dX12_adjusts_62 (by decide) (fun q => ?_) (fun q => ?_)
  · replace hf := zif_f q hf
    refine lv_aload_n hx hb dX12_adjusts_82 rfl (lv_at hl 0 rfl) ?_
    refine lv_iconst (v := 4) hx hb dX12_adjusts_83 (by decide) ?_
    obtain ⟨σ11, v12, g11, hf⟩ := zbi_use hf
    refine z_callVi (As := [.int 4]) (rest := [.int 4, .ref (ad 0)]) hC hI (cX12_flag_met st l D ad cy σ9 4 _ g11) (zgV zw51_1 zw51_2 zw51_3 zw1_5 zw51_4) rfl ⟨rfl, rfl⟩ 1 hdX12_flag ⟨Nat.le_of_ble_eq_true rfl, Nat.le_of_ble_eq_true rfl⟩ rfl rfl (wM_e0 ad cy σ9) rfl hl rfl (Nat.le_of_ble_eq_true rfl) dX12_adjusts_84 ⟨Nat.zero_le _, Nat.zero_le _⟩ (fun H locs hI => ?_)
    refine lv_iconst (v := 1) hx hb dX12_adjusts_87 (by decide) ?_
    refine lv_icmp_ne (tgt := 104) hx hb dX12_adjusts_88 (by decide) (fun q => ?_) (fun q => ?_)
    · replace hf := zif_f q hf
      exact bX12_adjusts_104 hC  hI hl hf
    replace hf := zif_t q hf
    refine lv_iload_n hx hb dX12_adjusts_91 rfl (lv_at hl 1 rfl) ?_
    refine lv_bipush (v := 15) hx hb dX12_adjusts_92 (by decide) ?_
    refine lv_iand hx hb dX12_adjusts_94 ?_
    refine lv_bipush (v := 6) hx hb dX12_adjusts_95 (by decide) ?_
    refine lv_icmp_ge (tgt := 104) hx hb dX12_adjusts_97 (by decide) (fun q => ?_) (fun q => ?_)
    · replace hf := zif_t q hf
      exact bX12_adjusts_104 hC  hI hl hf
    replace hf := zif_f q hf
    refine lv_iconst (v := 1) hx hb dX12_adjusts_100 (by decide) ?_
    refine lv_goto (tgt := 105) hx hb dX12_adjusts_101 (by decide) ?_
    exact bX12_adjusts_105 hC  hI hl hf
  replace hf := zif_t q hf
  refine lv_iload_n hx hb dX12_adjusts_65 rfl (lv_at hl 1 rfl) ?_
  refine lv_bipush (v := 15) hx hb dX12_adjusts_66 (by decide) ?_
  refine lv_iand hx hb dX12_adjusts_68 ?_
  refine lv_bipush (v := 9) hx hb dX12_adjusts_69 (by decide) ?_
  refine lv_icmp_le (tgt := 78) hx hb dX12_adjusts_71 (by decide) (fun q => ?_) (fun q => ?_)
  · replace hf := zif_t q hf
    refine lv_iconst (v := 0) hx hb dX12_adjusts_78 (by decide) ?_
    refine lv_goto (tgt := 105) hx hb dX12_adjusts_79 (by decide) ?_
    exact bX12_adjusts_105 hC  hI hl hf
  replace hf := zif_f q hf
  refine lv_iconst (v := 1) hx hb dX12_adjusts_74 (by decide) ?_
  refine lv_goto (tgt := 105) hx hb dX12_adjusts_75 (by decide) ?_
  exact bX12_adjusts_105 hC  hI hl hf
set_option maxRecDepth 20000 in
set_option maxHeartbeats 4000000 in
theorem bX12_adjusts_46 {st : Nat → Nat} {p : Program} {l : Launch} {e : Env} {s : State} {m : MethodId} {args : Array Value} {below : List Frame} {meth : Method} {c : Code} {D : va_G} {A : Nat → Prop} {ad : Nat → Nat} {cy : Nat → ClassId} (hC : zC p m c cX12_adjusts 3 s args wzX12_adjusts RX12 meth none)  {res : zSt} {H : Heap} {locs : List Loc} {σ : zSt} {ls : Array Slot} {x1 : Int32} {x2 : Int32} (hI : zI st D (tM cy) (wM ad cy σ) A s H locs) (hl : lv_has ls 3 [(0, .ref (ad 0)), (1, .int x1), (2, .int x2)]) (hf : fX12_adjusts_46  σ x1 x2 = some res) : W p l e rmX12_adjusts s m args below meth c H locs 0 0 (zQu below args s D (tM cy) (wM ad cy) A res) (F0 m 46 ls []) := by
  have hx := hC.1
  have hb := hC.2.1
  unfold fX12_adjusts_46 at hf
  obtain ⟨v13, ev13⟩ : ∃ z : Int32, z = x2 + 96 := ⟨_, rfl⟩
  replace hf := zbv_use ev13 hf
  refine lv_iinc (v := v13) (lv' := [(2, .int v13), (0, .ref (ad 0)), (1, .int x1)]) hx hb dX12_adjusts_46 hl (k := 2) rfl (by rw [ev13]; rfl) (by decide) rfl (fun ls hl => ?_)
  refine lv_aload_n hx hb dX12_adjusts_49 rfl (lv_at hl 1 rfl) ?_
  refine lv_iconst (v := 0) hx hb dX12_adjusts_50 (by decide) ?_
  refine lv_iconst (v := 1) hx hb dX12_adjusts_51 (by decide) ?_
  obtain ⟨σ14, g14, hf⟩ := zbu_use hf
  refine z_callVu (As := [.int 0, .int 1]) (rest := []) hC hI (cX12_put_met st l D ad cy σ 0 1 _ g14) (zgV zw52_13 zw52_14 zw52_15 zw1_5 zw52_16) rfl ⟨rfl, rfl⟩ 2 hdX12_put ⟨Nat.le_of_ble_eq_true rfl, Nat.le_of_ble_eq_true rfl⟩ rfl rfl (wM_e0 ad cy σ) rfl hl rfl (Nat.le_of_ble_eq_true rfl) dX12_adjusts_52 ⟨Nat.zero_le _, Nat.zero_le _⟩ (fun H locs hI => ?_)
  exact bX12_adjusts_55 hC  hI (lv_sub hl [1, 2, 0] rfl) hf
set_option maxRecDepth 20000 in
set_option maxHeartbeats 4000000 in
theorem bX12_adjusts_30 {st : Nat → Nat} {p : Program} {l : Launch} {e : Env} {s : State} {m : MethodId} {args : Array Value} {below : List Frame} {meth : Method} {c : Code} {D : va_G} {A : Nat → Prop} {ad : Nat → Nat} {cy : Nat → ClassId} (hC : zC p m c cX12_adjusts 3 s args wzX12_adjusts RX12 meth none)  {res : zSt} {H : Heap} {locs : List Loc} {σ : zSt} {ls : Array Slot} {x1 : Int32} {x2 : Int32} (hI : zI st D (tM cy) (wM ad cy σ) A s H locs) (hl : lv_has ls 3 [(0, .ref (ad 0)), (1, .int x1), (2, .int x2)]) (hf : fX12_adjusts_30  σ x1 x2 = some res) : W p l e rmX12_adjusts s m args below meth c H locs 0 0 (zQu below args s D (tM cy) (wM ad cy) A res) (F0 m 30 ls []) := by
  have hx := hC.1
  have hb := hC.2.1
  unfold fX12_adjusts_30 at hf
  refine lv_iload_n hx hb dX12_adjusts_30 rfl (lv_at hl 1 rfl) ?_
  refine lv_sipush (v := 153) hx hb dX12_adjusts_31 (by decide) ?_
  refine lv_icmp_gt (tgt := 46) hx hb dX12_adjusts_34 (by decide) (fun q => ?_) (fun q => ?_)
  · replace hf := zif_t q hf
    exact bX12_adjusts_46 hC  hI hl hf
  replace hf := zif_f q hf
  refine lv_aload_n hx hb dX12_adjusts_37 rfl (lv_at hl 0 rfl) ?_
  refine lv_iconst (v := 0) hx hb dX12_adjusts_38 (by decide) ?_
  obtain ⟨σ15, v16, g15, hf⟩ := zbi_use hf
  refine z_callVi (As := [.int 0]) (rest := []) hC hI (cX12_flag_met st l D ad cy σ 0 _ g15) (zgV zw51_1 zw51_2 zw51_3 zw1_5 zw51_4) rfl ⟨rfl, rfl⟩ 1 hdX12_flag ⟨Nat.le_of_ble_eq_true rfl, Nat.le_of_ble_eq_true rfl⟩ rfl rfl (wM_e0 ad cy σ) rfl hl rfl (Nat.le_of_ble_eq_true rfl) dX12_adjusts_39 ⟨Nat.zero_le _, Nat.zero_le _⟩ (fun H locs hI => ?_)
  refine lv_iconst (v := 1) hx hb dX12_adjusts_42 (by decide) ?_
  refine lv_icmp_ne (tgt := 55) hx hb dX12_adjusts_43 (by decide) (fun q => ?_) (fun q => ?_)
  · replace hf := zif_f q hf
    exact bX12_adjusts_55 hC  hI hl hf
  replace hf := zif_t q hf
  exact bX12_adjusts_46 hC  hI hl hf
set_option maxRecDepth 20000 in
set_option maxHeartbeats 4000000 in
theorem bX12_adjusts_27 {st : Nat → Nat} {p : Program} {l : Launch} {e : Env} {s : State} {m : MethodId} {args : Array Value} {below : List Frame} {meth : Method} {c : Code} {D : va_G} {A : Nat → Prop} {ad : Nat → Nat} {cy : Nat → ClassId} (hC : zC p m c cX12_adjusts 3 s args wzX12_adjusts RX12 meth none)  {res : zSt} {H : Heap} {locs : List Loc} {σ : zSt} {ls : Array Slot} {x1 : Int32} {x2 : Int32} (hI : zI st D (tM cy) (wM ad cy σ) A s H locs) (hl : lv_has ls 3 [(0, .ref (ad 0)), (1, .int x1), (2, .int x2)]) (hf : fX12_adjusts_27  σ x1 x2 = some res) : W p l e rmX12_adjusts s m args below meth c H locs 0 0 (zQu below args s D (tM cy) (wM ad cy) A res) (F0 m 27 ls []) := by
  have hx := hC.1
  have hb := hC.2.1
  unfold fX12_adjusts_27 at hf
  obtain ⟨v17, ev17⟩ : ∃ z : Int32, z = x2 + 6 := ⟨_, rfl⟩
  replace hf := zbv_use ev17 hf
  refine lv_iinc (v := v17) (lv' := [(2, .int v17), (0, .ref (ad 0)), (1, .int x1)]) hx hb dX12_adjusts_27 hl (k := 2) rfl (by rw [ev17]; rfl) (by decide) rfl (fun ls hl => ?_)
  exact bX12_adjusts_30 hC  hI (lv_sub hl [1, 2, 0] rfl) hf
set_option maxRecDepth 20000 in
set_option maxHeartbeats 4000000 in
theorem bX12_adjusts {st : Nat → Nat} {p : Program} {l : Launch} {e : Env} {s : State} {m : MethodId} {args : Array Value} {below : List Frame} {meth : Method} {c : Code} {D : va_G} {A : Nat → Prop} {ad : Nat → Nat} {cy : Nat → ClassId} (hC : zC p m c cX12_adjusts 3 s args wzX12_adjusts RX12 meth none)  {res : zSt} {H : Heap} {locs : List Loc} {σ : zSt} {ls : Array Slot}  (hI : zI st D (tM cy) (wM ad cy σ) A s H locs) (hl : lv_has ls 3 [(0, .ref (ad 0))]) (hf : fX12_adjusts  σ  = some res) : W p l e rmX12_adjusts s m args below meth c H locs 0 0 (zQu below args s D (tM cy) (wM ad cy) A res) (F0 m 0 ls []) := by
  have hx := hC.1
  have hb := hC.2.1
  unfold fX12_adjusts at hf
  refine lv_aload_n hx hb dX12_adjusts_0 rfl (lv_at hl 0 rfl) ?_
  refine z_get hC hI hinX12_adjusts_X120 0 (wM_e0 ad cy σ) rfl 10 (by decide) (List.mem_cons_of_mem _ zw9_7) rfl dX12_adjusts_1 ?_
  refine lv_iconst (v := 0) hx hb dX12_adjusts_4 (by decide) ?_
  obtain ⟨q, hf⟩ := zck_use hf
  refine z_iald hC hI 3 2 (wM_e3 ad cy σ) (tM_t3 cy) q dX12_adjusts_5 ?_
  refine lv_topi (fun v18 ev18 => ?_)
  replace hf := zbv_use ev18 hf
  refine lv_istore_n (lv' := [(1, .int v18), (0, .ref (ad 0))]) hx hb dX12_adjusts_6 rfl hl (by decide) rfl (fun ls hl => ?_)
  refine lv_iconst (v := 0) hx hb dX12_adjusts_7 (by decide) ?_
  refine lv_istore_n (lv' := [(2, .int 0), (1, .int v18), (0, .ref (ad 0))]) hx hb dX12_adjusts_8 rfl hl (by decide) rfl (fun ls hl => ?_)
  refine lv_iload_n hx hb dX12_adjusts_9 rfl (lv_at hl 1 rfl) ?_
  refine lv_bipush (v := 15) hx hb dX12_adjusts_10 (by decide) ?_
  refine lv_iand hx hb dX12_adjusts_12 ?_
  refine lv_bipush (v := 9) hx hb dX12_adjusts_13 (by decide) ?_
  refine lv_icmp_gt (tgt := 27) hx hb dX12_adjusts_15 (by decide) (fun q => ?_) (fun q => ?_)
  · replace hf := zif_t q hf
    exact bX12_adjusts_27 hC  hI (lv_sub hl [2, 1, 0] rfl) hf
  replace hf := zif_f q hf
  refine lv_aload_n hx hb dX12_adjusts_18 rfl (lv_at hl 2 rfl) ?_
  refine lv_iconst (v := 4) hx hb dX12_adjusts_19 (by decide) ?_
  obtain ⟨σ19, v20, g19, hf⟩ := zbi_use hf
  refine z_callVi (As := [.int 4]) (rest := []) hC hI (cX12_flag_met st l D ad cy σ 4 _ g19) (zgV zw51_1 zw51_2 zw51_3 zw1_5 zw51_4) rfl ⟨rfl, rfl⟩ 1 hdX12_flag ⟨Nat.le_of_ble_eq_true rfl, Nat.le_of_ble_eq_true rfl⟩ rfl rfl (wM_e0 ad cy σ) rfl hl rfl (Nat.le_of_ble_eq_true rfl) dX12_adjusts_20 ⟨Nat.zero_le _, Nat.zero_le _⟩ (fun H locs hI => ?_)
  refine lv_iconst (v := 1) hx hb dX12_adjusts_23 (by decide) ?_
  refine lv_icmp_ne (tgt := 30) hx hb dX12_adjusts_24 (by decide) (fun q => ?_) (fun q => ?_)
  · replace hf := zif_f q hf
    exact bX12_adjusts_30 hC  hI (lv_sub hl [2, 1, 0] rfl) hf
  replace hf := zif_t q hf
  exact bX12_adjusts_27 hC  hI (lv_sub hl [2, 1, 0] rfl) hf
set_option maxRecDepth 20000 in
theorem cX12_adjusts_met (st : Nat → Nat) (l : Launch) (D : va_G) (ad : Nat → Nat) (cy : Nat → ClassId) (σ : zSt)  (res : zSt) (hf : fX12_adjusts σ  = some res) (sz : Nat) : zMu st l yX12_adjusts wzX12_adjusts rmX12_adjusts [.ref (ad 0)] D (tM cy) (wM ad cy) sz σ res :=
  zMu.of (cc := cX12_adjusts) (maxL := 3) (ret := none) (by decide) rfl (Nat.le_of_ble_eq_true rfl) (fun p e s m args below meth c hC A hI ls hl => bX12_adjusts hC hI hl hf)
theorem hdX12_adjusts : yX12_adjusts.cls = RX12 ∧ yX12_adjusts.cls ≠ "java/lang/invoke/MethodHandle" ∧ yX12_adjusts.cls ≠ "java/lang/invoke/VarHandle" ∧ (parseMethodDescriptor yX12_adjusts.desc).map (fun d => d.parameters.length) = some 0 := by decide +kernel
def rmX12_singles : Room := { frames := 4, cells := 0, slots := 0, locals := 86 }
def wzX12_singles : List Cond := .code yX12_singles cX12_singles 4 (some .int) :: wsL_law
theorem hinX12_singles_X120 : ∀ w ∈ wsX120, w ∈ wzX12_singles := fun w h => List.mem_cons_of_mem _ (inlX12 w h)
def fX12_singles_28  (σ : zSt) (s0 : Int32) : Option (zSt × Int32) :=
  some (σ, s0)
def fX12_singles_149  (σ : zSt) (s0 : Int32) : Option (zSt × Int32) :=
  some (σ, s0)
def fX12_singles_134  (σ : zSt) (x1 : Int32) (s0 : Int32) (s1 : Int32) : Option (zSt × Int32) :=
  zbu (fX12_put σ s1 s0) (fun σ1 =>
  if x1 = 6 then fX12_singles_149 σ1 11 else
  fX12_singles_149 σ1 4)
def fX12_singles_119  (σ : zSt) (x1 : Int32) (x2 : Int32) (s0 : Int32) (s1 : Int32) : Option (zSt × Int32) :=
  zbu (fX12_put σ s1 s0) (fun σ2 =>
  if x2 = 5 then fX12_singles_134 σ2 x1 1 1 else
  fX12_singles_134 σ2 x1 0 1)
def fX12_singles_111  (σ : zSt) (x1 : Int32) (x2 : Int32) (s0 : Int32) (s1 : Int32) (s2 : Int32) : Option (zSt × Int32) :=
  if s1 = s0 then fX12_singles_119 σ x1 x2 1 s2 else
  fX12_singles_119 σ x1 x2 0 s2
def fX12_singles_92  (σ : zSt) (x1 : Int32) (x2 : Int32) (x3 : Int32) (s0 : Int32) (s1 : Int32) : Option (zSt × Int32) :=
  zbu (fX12_put σ s1 s0) (fun σ3 =>
  if x2 = 4 then fX12_singles_111 σ3 x1 x2 128 x3 2 else
  fX12_singles_111 σ3 x1 x2 127 x3 2)
def fX12_singles_84  (σ : zSt) (x1 : Int32) (x2 : Int32) (x3 : Int32) (s0 : Int32) (s1 : Int32) (s2 : Int32) : Option (zSt × Int32) :=
  if s1 = s0 then fX12_singles_92 σ x1 x2 x3 1 s2 else
  fX12_singles_92 σ x1 x2 x3 0 s2
def fX12_singles_50  (σ : zSt) (x1 : Int32) (x2 : Int32) (s0 : Int32) (s1 : Int32) : Option (zSt × Int32) :=
  zbv ((s1 + s0) &&& 255) (fun v4 =>
  zbu (fX12_rTo σ x1 v4) (fun σ5 =>
  zbu (fX12_by σ5 v4) (fun σ6 =>
  if x2 = 4 then fX12_singles_84 σ6 x1 x2 v4 0 (v4 &&& 15) 4 else
  fX12_singles_84 σ6 x1 x2 v4 15 (v4 &&& 15) 4)))
def fX12_singles_316  (σ : zSt)  : Option (zSt × Int32) :=
  some (σ, 4)
def fX12_singles_297  (σ : zSt) (s0 : Int32) (s1 : Int32) : Option (zSt × Int32) :=
  zbu (fX12_put σ s1 s0) (fun σ7 =>
  zbu (fX12_put σ7 1 0) (fun σ8 =>
  zck (zin 0 1048) (
  zbu (fX12_xy σ8 (zgi σ8 3 (0 : Int32).toNatClampNeg)) (fun σ9 =>
  fX12_singles_316 σ9))))
def fX12_singles_292  (σ : zSt) (s0 : Int32) : Option (zSt × Int32) :=
  fX12_singles_297 σ 1 s0
def fX12_singles_273  (σ : zSt) (x1 : Int32) (s0 : Int32) (s1 : Int32) : Option (zSt × Int32) :=
  zbu (fX12_put σ s1 s0) (fun σ10 =>
  if x1 = 6 then fX12_singles_292 σ10 0 else
  zbi (fX12_flag σ10 0) (fun σ11 v12 =>
  if v12 = 0 then fX12_singles_292 σ11 0 else
  fX12_singles_297 σ11 0 0))
def fX12_singles_272  (σ : zSt) (x1 : Int32) (s0 : Int32) : Option (zSt × Int32) :=
  fX12_singles_273 σ x1 0 s0
def fX12_singles  (σ : zSt) (x1 : Int32) (x2 : Int32) : Option (zSt × Int32) :=
  if x2 = 6 then zbi (fX12_next σ ) (fun σ28 v29 =>
  zbu (fX12_rTo σ28 x1 v29) (fun σ30 =>
  if x1 = 6 then fX12_singles_28 σ30 10 else
  fX12_singles_28 σ30 7)) else
  if 6 ≤ x2 then if 4 ≤ x1 then if x1 = 4 then zbu (fX12_adjusts σ ) (fun σ19 =>
  fX12_singles_316 σ19) else
  if x1 = 5 then zck (zin 0 1048) (
  zck (zin 0 1048) (zbv (zsi σ 3 ((0 : Int32).toNatClampNeg) ((zgi σ 3 (0 : Int32).toNatClampNeg) ^^^ 255)) (fun σ15 =>
  zbu (fX12_put σ15 4 1) (fun σ16 =>
  zbu (fX12_put σ16 1 1) (fun σ17 =>
  zck (zin 0 1048) (
  zbu (fX12_xy σ17 (zgi σ17 3 (0 : Int32).toNatClampNeg)) (fun σ18 =>
  fX12_singles_316 σ18))))))) else
  if x1 = 7 then zbi (fX12_flag σ 0) (fun σ13 v14 =>
  if v14 = 1 then fX12_singles_273 σ13 x1 1 4 else
  fX12_singles_272 σ13 x1 4) else
  fX12_singles_272 σ x1 4 else
  zck (zin 0 1048) (
  zbi (fX12_turned σ x1 (zgi σ 3 (0 : Int32).toNatClampNeg)) (fun σ20 v21 =>
  zck (zin 0 1048) (zbv (zsi σ20 3 ((0 : Int32).toNatClampNeg) v21) (fun σ22 =>
  zck (zin 0 1048) (
  zbu (fX12_xy σ22 (zgi σ22 3 (0 : Int32).toNatClampNeg)) (fun σ23 =>
  zbu (fX12_put σ23 4 0) (fun σ24 =>
  zbu (fX12_put σ24 1 0) (fun σ25 =>
  fX12_singles_316 σ25)))))))) else
  zbi (fX12_r σ x1) (fun σ26 v27 =>
  if x2 = 4 then fX12_singles_50 σ26 x1 x2 1 v27 else
  fX12_singles_50 σ26 x1 x2 (-1) v27)
set_option maxRecDepth 20000 in
set_option maxHeartbeats 4000000 in
theorem bX12_singles_28 {st : Nat → Nat} {p : Program} {l : Launch} {e : Env} {s : State} {m : MethodId} {args : Array Value} {below : List Frame} {meth : Method} {c : Code} {D : va_G} {A : Nat → Prop} {ad : Nat → Nat} {cy : Nat → ClassId} (hC : zC p m c cX12_singles 4 s args wzX12_singles RX12 meth (some .int))  {res : zSt × Int32} {H : Heap} {locs : List Loc} {σ : zSt} {ls : Array Slot} {s0 : Int32} (hI : zI st D (tM cy) (wM ad cy σ) A s H locs) (hl : lv_has ls 4 []) (hf : fX12_singles_28  σ s0 = some res) : W p l e rmX12_singles s m args below meth c H locs 0 0 (zQi below args s D (tM cy) (wM ad cy) A res) (F0 m 28 ls [.int s0]) := by
  have hx := hC.1
  have hb := hC.2.1
  unfold fX12_singles_28 at hf
  exact z_ireturn hC hI hf dX12_singles_28
set_option maxRecDepth 20000 in
set_option maxHeartbeats 4000000 in
theorem bX12_singles_149 {st : Nat → Nat} {p : Program} {l : Launch} {e : Env} {s : State} {m : MethodId} {args : Array Value} {below : List Frame} {meth : Method} {c : Code} {D : va_G} {A : Nat → Prop} {ad : Nat → Nat} {cy : Nat → ClassId} (hC : zC p m c cX12_singles 4 s args wzX12_singles RX12 meth (some .int))  {res : zSt × Int32} {H : Heap} {locs : List Loc} {σ : zSt} {ls : Array Slot} {s0 : Int32} (hI : zI st D (tM cy) (wM ad cy σ) A s H locs) (hl : lv_has ls 4 []) (hf : fX12_singles_149  σ s0 = some res) : W p l e rmX12_singles s m args below meth c H locs 0 0 (zQi below args s D (tM cy) (wM ad cy) A res) (F0 m 149 ls [.int s0]) := by
  have hx := hC.1
  have hb := hC.2.1
  unfold fX12_singles_149 at hf
  exact z_ireturn hC hI hf dX12_singles_149
set_option maxRecDepth 20000 in
set_option maxHeartbeats 4000000 in
theorem bX12_singles_134 {st : Nat → Nat} {p : Program} {l : Launch} {e : Env} {s : State} {m : MethodId} {args : Array Value} {below : List Frame} {meth : Method} {c : Code} {D : va_G} {A : Nat → Prop} {ad : Nat → Nat} {cy : Nat → ClassId} (hC : zC p m c cX12_singles 4 s args wzX12_singles RX12 meth (some .int))  {res : zSt × Int32} {H : Heap} {locs : List Loc} {σ : zSt} {ls : Array Slot} {x1 : Int32} {s0 : Int32} {s1 : Int32} (hI : zI st D (tM cy) (wM ad cy σ) A s H locs) (hl : lv_has ls 4 [(1, .int x1)]) (hf : fX12_singles_134  σ x1 s0 s1 = some res) : W p l e rmX12_singles s m args below meth c H locs 0 0 (zQi below args s D (tM cy) (wM ad cy) A res) (F0 m 134 ls [.int s0, .int s1, .ref (ad 0)]) := by
  have hx := hC.1
  have hb := hC.2.1
  unfold fX12_singles_134 at hf
  obtain ⟨σ1, g1, hf⟩ := zbu_use hf
  refine z_callVu (As := [.int s1, .int s0]) (rest := []) hC hI (cX12_put_met st l D ad cy σ s1 s0 _ g1) (zgV zw52_13 zw52_14 zw52_15 zw1_5 zw52_16) rfl ⟨rfl, rfl⟩ 2 hdX12_put ⟨Nat.le_of_ble_eq_true rfl, Nat.le_of_ble_eq_true rfl⟩ rfl rfl (wM_e0 ad cy σ) rfl hl rfl (Nat.le_of_ble_eq_true rfl) dX12_singles_134 ⟨Nat.zero_le _, Nat.zero_le _⟩ (fun H locs hI => ?_)
  refine lv_iload_n hx hb dX12_singles_137 rfl (lv_at hl 0 rfl) ?_
  refine lv_bipush (v := 6) hx hb dX12_singles_138 (by decide) ?_
  refine lv_icmp_ne (tgt := 148) hx hb dX12_singles_140 (by decide) (fun q => ?_) (fun q => ?_)
  · replace hf := zif_f q hf
    refine lv_iconst (v := 4) hx hb dX12_singles_148 (by decide) ?_
    exact bX12_singles_149 hC  hI (lv_sub hl [] rfl) hf
  replace hf := zif_t q hf
  refine lv_bipush (v := 11) hx hb dX12_singles_143 (by decide) ?_
  refine lv_goto (tgt := 149) hx hb dX12_singles_145 (by decide) ?_
  exact bX12_singles_149 hC  hI (lv_sub hl [] rfl) hf
set_option maxRecDepth 20000 in
set_option maxHeartbeats 4000000 in
theorem bX12_singles_119 {st : Nat → Nat} {p : Program} {l : Launch} {e : Env} {s : State} {m : MethodId} {args : Array Value} {below : List Frame} {meth : Method} {c : Code} {D : va_G} {A : Nat → Prop} {ad : Nat → Nat} {cy : Nat → ClassId} (hC : zC p m c cX12_singles 4 s args wzX12_singles RX12 meth (some .int))  {res : zSt × Int32} {H : Heap} {locs : List Loc} {σ : zSt} {ls : Array Slot} {x1 : Int32} {x2 : Int32} {s0 : Int32} {s1 : Int32} (hI : zI st D (tM cy) (wM ad cy σ) A s H locs) (hl : lv_has ls 4 [(0, .ref (ad 0)), (1, .int x1), (2, .int x2)]) (hf : fX12_singles_119  σ x1 x2 s0 s1 = some res) : W p l e rmX12_singles s m args below meth c H locs 0 0 (zQi below args s D (tM cy) (wM ad cy) A res) (F0 m 119 ls [.int s0, .int s1, .ref (ad 0)]) := by
  have hx := hC.1
  have hb := hC.2.1
  unfold fX12_singles_119 at hf
  obtain ⟨σ2, g2, hf⟩ := zbu_use hf
  refine z_callVu (As := [.int s1, .int s0]) (rest := []) hC hI (cX12_put_met st l D ad cy σ s1 s0 _ g2) (zgV zw52_13 zw52_14 zw52_15 zw1_5 zw52_16) rfl ⟨rfl, rfl⟩ 2 hdX12_put ⟨Nat.le_of_ble_eq_true rfl, Nat.le_of_ble_eq_true rfl⟩ rfl rfl (wM_e0 ad cy σ) rfl hl rfl (Nat.le_of_ble_eq_true rfl) dX12_singles_119 ⟨Nat.zero_le _, Nat.zero_le _⟩ (fun H locs hI => ?_)
  refine lv_aload_n hx hb dX12_singles_122 rfl (lv_at hl 0 rfl) ?_
  refine lv_iconst (v := 1) hx hb dX12_singles_123 (by decide) ?_
  refine lv_iload_n hx hb dX12_singles_124 rfl (lv_at hl 2 rfl) ?_
  refine lv_iconst (v := 5) hx hb dX12_singles_125 (by decide) ?_
  refine lv_icmp_ne (tgt := 133) hx hb dX12_singles_126 (by decide) (fun q => ?_) (fun q => ?_)
  · replace hf := zif_f q hf
    refine lv_iconst (v := 0) hx hb dX12_singles_133 (by decide) ?_
    exact bX12_singles_134 hC  hI (lv_sub hl [1] rfl) hf
  replace hf := zif_t q hf
  refine lv_iconst (v := 1) hx hb dX12_singles_129 (by decide) ?_
  refine lv_goto (tgt := 134) hx hb dX12_singles_130 (by decide) ?_
  exact bX12_singles_134 hC  hI (lv_sub hl [1] rfl) hf
set_option maxRecDepth 20000 in
set_option maxHeartbeats 4000000 in
theorem bX12_singles_111 {st : Nat → Nat} {p : Program} {l : Launch} {e : Env} {s : State} {m : MethodId} {args : Array Value} {below : List Frame} {meth : Method} {c : Code} {D : va_G} {A : Nat → Prop} {ad : Nat → Nat} {cy : Nat → ClassId} (hC : zC p m c cX12_singles 4 s args wzX12_singles RX12 meth (some .int))  {res : zSt × Int32} {H : Heap} {locs : List Loc} {σ : zSt} {ls : Array Slot} {x1 : Int32} {x2 : Int32} {s0 : Int32} {s1 : Int32} {s2 : Int32} (hI : zI st D (tM cy) (wM ad cy σ) A s H locs) (hl : lv_has ls 4 [(0, .ref (ad 0)), (1, .int x1), (2, .int x2)]) (hf : fX12_singles_111  σ x1 x2 s0 s1 s2 = some res) : W p l e rmX12_singles s m args below meth c H locs 0 0 (zQi below args s D (tM cy) (wM ad cy) A res) (F0 m 111 ls [.int s0, .int s1, .int s2, .ref (ad 0)]) := by
  have hx := hC.1
  have hb := hC.2.1
  unfold fX12_singles_111 at hf
  refine lv_icmp_ne (tgt := 118) hx hb dX12_singles_111 (by decide) (fun q => ?_) (fun q => ?_)
  · replace hf := zif_f q hf
    refine lv_iconst (v := 0) hx hb dX12_singles_118 (by decide) ?_
    exact bX12_singles_119 hC  hI hl hf
  replace hf := zif_t q hf
  refine lv_iconst (v := 1) hx hb dX12_singles_114 (by decide) ?_
  refine lv_goto (tgt := 119) hx hb dX12_singles_115 (by decide) ?_
  exact bX12_singles_119 hC  hI hl hf
set_option maxRecDepth 20000 in
set_option maxHeartbeats 4000000 in
theorem bX12_singles_92 {st : Nat → Nat} {p : Program} {l : Launch} {e : Env} {s : State} {m : MethodId} {args : Array Value} {below : List Frame} {meth : Method} {c : Code} {D : va_G} {A : Nat → Prop} {ad : Nat → Nat} {cy : Nat → ClassId} (hC : zC p m c cX12_singles 4 s args wzX12_singles RX12 meth (some .int))  {res : zSt × Int32} {H : Heap} {locs : List Loc} {σ : zSt} {ls : Array Slot} {x1 : Int32} {x2 : Int32} {x3 : Int32} {s0 : Int32} {s1 : Int32} (hI : zI st D (tM cy) (wM ad cy σ) A s H locs) (hl : lv_has ls 4 [(0, .ref (ad 0)), (1, .int x1), (2, .int x2), (3, .int x3)]) (hf : fX12_singles_92  σ x1 x2 x3 s0 s1 = some res) : W p l e rmX12_singles s m args below meth c H locs 0 0 (zQi below args s D (tM cy) (wM ad cy) A res) (F0 m 92 ls [.int s0, .int s1, .ref (ad 0)]) := by
  have hx := hC.1
  have hb := hC.2.1
  unfold fX12_singles_92 at hf
  obtain ⟨σ3, g3, hf⟩ := zbu_use hf
  refine z_callVu (As := [.int s1, .int s0]) (rest := []) hC hI (cX12_put_met st l D ad cy σ s1 s0 _ g3) (zgV zw52_13 zw52_14 zw52_15 zw1_5 zw52_16) rfl ⟨rfl, rfl⟩ 2 hdX12_put ⟨Nat.le_of_ble_eq_true rfl, Nat.le_of_ble_eq_true rfl⟩ rfl rfl (wM_e0 ad cy σ) rfl hl rfl (Nat.le_of_ble_eq_true rfl) dX12_singles_92 ⟨Nat.zero_le _, Nat.zero_le _⟩ (fun H locs hI => ?_)
  refine lv_aload_n hx hb dX12_singles_95 rfl (lv_at hl 0 rfl) ?_
  refine lv_iconst (v := 2) hx hb dX12_singles_96 (by decide) ?_
  refine lv_iload_n hx hb dX12_singles_97 rfl (lv_at hl 3 rfl) ?_
  refine lv_iload_n hx hb dX12_singles_98 rfl (lv_at hl 2 rfl) ?_
  refine lv_iconst (v := 4) hx hb dX12_singles_99 (by decide) ?_
  refine lv_icmp_ne (tgt := 109) hx hb dX12_singles_100 (by decide) (fun q => ?_) (fun q => ?_)
  · replace hf := zif_f q hf
    refine lv_bipush (v := 127) hx hb dX12_singles_109 (by decide) ?_
    exact bX12_singles_111 hC  hI (lv_sub hl [0, 1, 2] rfl) hf
  replace hf := zif_t q hf
  refine lv_sipush (v := 128) hx hb dX12_singles_103 (by decide) ?_
  refine lv_goto (tgt := 111) hx hb dX12_singles_106 (by decide) ?_
  exact bX12_singles_111 hC  hI (lv_sub hl [0, 1, 2] rfl) hf
set_option maxRecDepth 20000 in
set_option maxHeartbeats 4000000 in
theorem bX12_singles_84 {st : Nat → Nat} {p : Program} {l : Launch} {e : Env} {s : State} {m : MethodId} {args : Array Value} {below : List Frame} {meth : Method} {c : Code} {D : va_G} {A : Nat → Prop} {ad : Nat → Nat} {cy : Nat → ClassId} (hC : zC p m c cX12_singles 4 s args wzX12_singles RX12 meth (some .int))  {res : zSt × Int32} {H : Heap} {locs : List Loc} {σ : zSt} {ls : Array Slot} {x1 : Int32} {x2 : Int32} {x3 : Int32} {s0 : Int32} {s1 : Int32} {s2 : Int32} (hI : zI st D (tM cy) (wM ad cy σ) A s H locs) (hl : lv_has ls 4 [(0, .ref (ad 0)), (1, .int x1), (2, .int x2), (3, .int x3)]) (hf : fX12_singles_84  σ x1 x2 x3 s0 s1 s2 = some res) : W p l e rmX12_singles s m args below meth c H locs 0 0 (zQi below args s D (tM cy) (wM ad cy) A res) (F0 m 84 ls [.int s0, .int s1, .int s2, .ref (ad 0)]) := by
  have hx := hC.1
  have hb := hC.2.1
  unfold fX12_singles_84 at hf
  refine lv_icmp_ne (tgt := 91) hx hb dX12_singles_84 (by decide) (fun q => ?_) (fun q => ?_)
  · replace hf := zif_f q hf
    refine lv_iconst (v := 0) hx hb dX12_singles_91 (by decide) ?_
    exact bX12_singles_92 hC  hI hl hf
  replace hf := zif_t q hf
  refine lv_iconst (v := 1) hx hb dX12_singles_87 (by decide) ?_
  refine lv_goto (tgt := 92) hx hb dX12_singles_88 (by decide) ?_
  exact bX12_singles_92 hC  hI hl hf
set_option maxRecDepth 20000 in
set_option maxHeartbeats 4000000 in
theorem bX12_singles_50 {st : Nat → Nat} {p : Program} {l : Launch} {e : Env} {s : State} {m : MethodId} {args : Array Value} {below : List Frame} {meth : Method} {c : Code} {D : va_G} {A : Nat → Prop} {ad : Nat → Nat} {cy : Nat → ClassId} (hC : zC p m c cX12_singles 4 s args wzX12_singles RX12 meth (some .int))  {res : zSt × Int32} {H : Heap} {locs : List Loc} {σ : zSt} {ls : Array Slot} {x1 : Int32} {x2 : Int32} {s0 : Int32} {s1 : Int32} (hI : zI st D (tM cy) (wM ad cy σ) A s H locs) (hl : lv_has ls 4 [(0, .ref (ad 0)), (1, .int x1), (2, .int x2)]) (hf : fX12_singles_50  σ x1 x2 s0 s1 = some res) : W p l e rmX12_singles s m args below meth c H locs 0 0 (zQi below args s D (tM cy) (wM ad cy) A res) (F0 m 50 ls [.int s0, .int s1]) := by
  have hx := hC.1
  have hb := hC.2.1
  unfold fX12_singles_50 at hf
  refine lv_iadd hx hb dX12_singles_50 ?_
  refine lv_sipush (v := 255) hx hb dX12_singles_51 (by decide) ?_
  refine lv_iand hx hb dX12_singles_54 ?_
  refine lv_topi (fun v4 ev4 => ?_)
  replace hf := zbv_use ev4 hf
  refine lv_istore_n (lv' := [(3, .int v4), (0, .ref (ad 0)), (1, .int x1), (2, .int x2)]) hx hb dX12_singles_55 rfl hl (by decide) rfl (fun ls hl => ?_)
  refine lv_aload_n hx hb dX12_singles_56 rfl (lv_at hl 1 rfl) ?_
  refine lv_iload_n hx hb dX12_singles_57 rfl (lv_at hl 2 rfl) ?_
  refine lv_iload_n hx hb dX12_singles_58 rfl (lv_at hl 0 rfl) ?_
  obtain ⟨σ5, g5, hf⟩ := zbu_use hf
  refine z_callVu (As := [.int x1, .int v4]) (rest := []) hC hI (cX12_rTo_met st l D ad cy σ x1 v4 _ g5) (zgV zw53_9 zw53_10 zw53_11 zw1_5 zw53_12) rfl ⟨rfl, rfl⟩ 2 hdX12_rTo ⟨Nat.le_of_ble_eq_true rfl, Nat.le_of_ble_eq_true rfl⟩ rfl rfl (wM_e0 ad cy σ) rfl hl rfl (Nat.le_of_ble_eq_true rfl) dX12_singles_59 ⟨Nat.zero_le _, Nat.zero_le _⟩ (fun H locs hI => ?_)
  refine lv_aload_n hx hb dX12_singles_62 rfl (lv_at hl 1 rfl) ?_
  refine lv_iload_n hx hb dX12_singles_63 rfl (lv_at hl 0 rfl) ?_
  obtain ⟨σ6, g6, hf⟩ := zbu_use hf
  refine z_callVu (As := [.int v4]) (rest := []) hC hI (cX12_by_met st l D ad cy σ5 v4 _ g6) (zgV zw53_22 zw53_23 zw54_0 zw1_5 zw54_1) rfl ⟨rfl, rfl⟩ 1 hdX12_by ⟨Nat.le_of_ble_eq_true rfl, Nat.le_of_ble_eq_true rfl⟩ rfl rfl (wM_e0 ad cy σ5) rfl hl rfl (Nat.le_of_ble_eq_true rfl) dX12_singles_64 ⟨Nat.zero_le _, Nat.zero_le _⟩ (fun H locs hI => ?_)
  refine lv_aload_n hx hb dX12_singles_67 rfl (lv_at hl 1 rfl) ?_
  refine lv_iconst (v := 4) hx hb dX12_singles_68 (by decide) ?_
  refine lv_iload_n hx hb dX12_singles_69 rfl (lv_at hl 0 rfl) ?_
  refine lv_bipush (v := 15) hx hb dX12_singles_70 (by decide) ?_
  refine lv_iand hx hb dX12_singles_72 ?_
  refine lv_iload_n hx hb dX12_singles_73 rfl (lv_at hl 3 rfl) ?_
  refine lv_iconst (v := 4) hx hb dX12_singles_74 (by decide) ?_
  refine lv_icmp_ne (tgt := 82) hx hb dX12_singles_75 (by decide) (fun q => ?_) (fun q => ?_)
  · replace hf := zif_f q hf
    refine lv_bipush (v := 15) hx hb dX12_singles_82 (by decide) ?_
    exact bX12_singles_84 hC  hI (lv_sub hl [1, 2, 3, 0] rfl) hf
  replace hf := zif_t q hf
  refine lv_iconst (v := 0) hx hb dX12_singles_78 (by decide) ?_
  refine lv_goto (tgt := 84) hx hb dX12_singles_79 (by decide) ?_
  exact bX12_singles_84 hC  hI (lv_sub hl [1, 2, 3, 0] rfl) hf
set_option maxRecDepth 20000 in
set_option maxHeartbeats 4000000 in
theorem bX12_singles_316 {st : Nat → Nat} {p : Program} {l : Launch} {e : Env} {s : State} {m : MethodId} {args : Array Value} {below : List Frame} {meth : Method} {c : Code} {D : va_G} {A : Nat → Prop} {ad : Nat → Nat} {cy : Nat → ClassId} (hC : zC p m c cX12_singles 4 s args wzX12_singles RX12 meth (some .int))  {res : zSt × Int32} {H : Heap} {locs : List Loc} {σ : zSt} {ls : Array Slot}  (hI : zI st D (tM cy) (wM ad cy σ) A s H locs) (hl : lv_has ls 4 []) (hf : fX12_singles_316  σ  = some res) : W p l e rmX12_singles s m args below meth c H locs 0 0 (zQi below args s D (tM cy) (wM ad cy) A res) (F0 m 316 ls []) := by
  have hx := hC.1
  have hb := hC.2.1
  unfold fX12_singles_316 at hf
  refine lv_iconst (v := 4) hx hb dX12_singles_316 (by decide) ?_
  exact z_ireturn hC hI hf dX12_singles_317
set_option maxRecDepth 20000 in
set_option maxHeartbeats 4000000 in
theorem bX12_singles_297 {st : Nat → Nat} {p : Program} {l : Launch} {e : Env} {s : State} {m : MethodId} {args : Array Value} {below : List Frame} {meth : Method} {c : Code} {D : va_G} {A : Nat → Prop} {ad : Nat → Nat} {cy : Nat → ClassId} (hC : zC p m c cX12_singles 4 s args wzX12_singles RX12 meth (some .int))  {res : zSt × Int32} {H : Heap} {locs : List Loc} {σ : zSt} {ls : Array Slot} {s0 : Int32} {s1 : Int32} (hI : zI st D (tM cy) (wM ad cy σ) A s H locs) (hl : lv_has ls 4 [(0, .ref (ad 0))]) (hf : fX12_singles_297  σ s0 s1 = some res) : W p l e rmX12_singles s m args below meth c H locs 0 0 (zQi below args s D (tM cy) (wM ad cy) A res) (F0 m 297 ls [.int s0, .int s1, .ref (ad 0)]) := by
  have hx := hC.1
  have hb := hC.2.1
  unfold fX12_singles_297 at hf
  obtain ⟨σ7, g7, hf⟩ := zbu_use hf
  refine z_callVu (As := [.int s1, .int s0]) (rest := []) hC hI (cX12_put_met st l D ad cy σ s1 s0 _ g7) (zgV zw52_13 zw52_14 zw52_15 zw1_5 zw52_16) rfl ⟨rfl, rfl⟩ 2 hdX12_put ⟨Nat.le_of_ble_eq_true rfl, Nat.le_of_ble_eq_true rfl⟩ rfl rfl (wM_e0 ad cy σ) rfl hl rfl (Nat.le_of_ble_eq_true rfl) dX12_singles_297 ⟨Nat.zero_le _, Nat.zero_le _⟩ (fun H locs hI => ?_)
  refine lv_aload_n hx hb dX12_singles_300 rfl (lv_at hl 0 rfl) ?_
  refine lv_iconst (v := 1) hx hb dX12_singles_301 (by decide) ?_
  refine lv_iconst (v := 0) hx hb dX12_singles_302 (by decide) ?_
  obtain ⟨σ8, g8, hf⟩ := zbu_use hf
  refine z_callVu (As := [.int 1, .int 0]) (rest := []) hC hI (cX12_put_met st l D ad cy σ7 1 0 _ g8) (zgV zw52_13 zw52_14 zw52_15 zw1_5 zw52_16) rfl ⟨rfl, rfl⟩ 2 hdX12_put ⟨Nat.le_of_ble_eq_true rfl, Nat.le_of_ble_eq_true rfl⟩ rfl rfl (wM_e0 ad cy σ7) rfl hl rfl (Nat.le_of_ble_eq_true rfl) dX12_singles_303 ⟨Nat.zero_le _, Nat.zero_le _⟩ (fun H locs hI => ?_)
  refine lv_aload_n hx hb dX12_singles_306 rfl (lv_at hl 0 rfl) ?_
  refine lv_aload_n hx hb dX12_singles_307 rfl (lv_at hl 0 rfl) ?_
  refine z_get hC hI hinX12_singles_X120 0 (wM_e0 ad cy σ8) rfl 10 (by decide) (List.mem_cons_of_mem _ zw9_7) rfl dX12_singles_308 ?_
  refine lv_iconst (v := 0) hx hb dX12_singles_311 (by decide) ?_
  obtain ⟨q, hf⟩ := zck_use hf
  refine z_iald hC hI 3 2 (wM_e3 ad cy σ8) (tM_t3 cy) q dX12_singles_312 ?_
  obtain ⟨σ9, g9, hf⟩ := zbu_use hf
  refine z_callVu (As := [.int (zgi σ8 3 (0 : Int32).toNatClampNeg)]) (rest := []) hC hI (cX12_xy_met st l D ad cy σ8 (zgi σ8 3 (0 : Int32).toNatClampNeg) _ g9) (zgV zw52_17 zw52_18 zw52_19 zw1_5 zw52_20) rfl ⟨rfl, rfl⟩ 1 hdX12_xy ⟨Nat.le_of_ble_eq_true rfl, Nat.le_of_ble_eq_true rfl⟩ rfl rfl (wM_e0 ad cy σ8) rfl hl rfl (Nat.le_of_ble_eq_true rfl) dX12_singles_313 ⟨Nat.zero_le _, Nat.zero_le _⟩ (fun H locs hI => ?_)
  exact bX12_singles_316 hC  hI (lv_sub hl [] rfl) hf
set_option maxRecDepth 20000 in
set_option maxHeartbeats 4000000 in
theorem bX12_singles_292 {st : Nat → Nat} {p : Program} {l : Launch} {e : Env} {s : State} {m : MethodId} {args : Array Value} {below : List Frame} {meth : Method} {c : Code} {D : va_G} {A : Nat → Prop} {ad : Nat → Nat} {cy : Nat → ClassId} (hC : zC p m c cX12_singles 4 s args wzX12_singles RX12 meth (some .int))  {res : zSt × Int32} {H : Heap} {locs : List Loc} {σ : zSt} {ls : Array Slot} {s0 : Int32} (hI : zI st D (tM cy) (wM ad cy σ) A s H locs) (hl : lv_has ls 4 [(0, .ref (ad 0))]) (hf : fX12_singles_292  σ s0 = some res) : W p l e rmX12_singles s m args below meth c H locs 0 0 (zQi below args s D (tM cy) (wM ad cy) A res) (F0 m 292 ls [.int s0, .ref (ad 0)]) := by
  have hx := hC.1
  have hb := hC.2.1
  unfold fX12_singles_292 at hf
  refine lv_iconst (v := 1) hx hb dX12_singles_292 (by decide) ?_
  refine lv_goto (tgt := 297) hx hb dX12_singles_293 (by decide) ?_
  exact bX12_singles_297 hC  hI hl hf
set_option maxRecDepth 20000 in
set_option maxHeartbeats 4000000 in
theorem bX12_singles_273 {st : Nat → Nat} {p : Program} {l : Launch} {e : Env} {s : State} {m : MethodId} {args : Array Value} {below : List Frame} {meth : Method} {c : Code} {D : va_G} {A : Nat → Prop} {ad : Nat → Nat} {cy : Nat → ClassId} (hC : zC p m c cX12_singles 4 s args wzX12_singles RX12 meth (some .int))  {res : zSt × Int32} {H : Heap} {locs : List Loc} {σ : zSt} {ls : Array Slot} {x1 : Int32} {s0 : Int32} {s1 : Int32} (hI : zI st D (tM cy) (wM ad cy σ) A s H locs) (hl : lv_has ls 4 [(0, .ref (ad 0)), (1, .int x1)]) (hf : fX12_singles_273  σ x1 s0 s1 = some res) : W p l e rmX12_singles s m args below meth c H locs 0 0 (zQi below args s D (tM cy) (wM ad cy) A res) (F0 m 273 ls [.int s0, .int s1, .ref (ad 0)]) := by
  have hx := hC.1
  have hb := hC.2.1
  unfold fX12_singles_273 at hf
  obtain ⟨σ10, g10, hf⟩ := zbu_use hf
  refine z_callVu (As := [.int s1, .int s0]) (rest := []) hC hI (cX12_put_met st l D ad cy σ s1 s0 _ g10) (zgV zw52_13 zw52_14 zw52_15 zw1_5 zw52_16) rfl ⟨rfl, rfl⟩ 2 hdX12_put ⟨Nat.le_of_ble_eq_true rfl, Nat.le_of_ble_eq_true rfl⟩ rfl rfl (wM_e0 ad cy σ) rfl hl rfl (Nat.le_of_ble_eq_true rfl) dX12_singles_273 ⟨Nat.zero_le _, Nat.zero_le _⟩ (fun H locs hI => ?_)
  refine lv_aload_n hx hb dX12_singles_276 rfl (lv_at hl 0 rfl) ?_
  refine lv_iconst (v := 0) hx hb dX12_singles_277 (by decide) ?_
  refine lv_iload_n hx hb dX12_singles_278 rfl (lv_at hl 1 rfl) ?_
  refine lv_bipush (v := 6) hx hb dX12_singles_279 (by decide) ?_
  refine lv_icmp_eq (tgt := 292) hx hb dX12_singles_281 (by decide) (fun q => ?_) (fun q => ?_)
  · replace hf := zif_t q hf
    exact bX12_singles_292 hC  hI (lv_sub hl [0] rfl) hf
  replace hf := zif_f q hf
  refine lv_aload_n hx hb dX12_singles_284 rfl (lv_at hl 0 rfl) ?_
  refine lv_iconst (v := 0) hx hb dX12_singles_285 (by decide) ?_
  obtain ⟨σ11, v12, g11, hf⟩ := zbi_use hf
  refine z_callVi (As := [.int 0]) (rest := [.int 0, .ref (ad 0)]) hC hI (cX12_flag_met st l D ad cy σ10 0 _ g11) (zgV zw51_1 zw51_2 zw51_3 zw1_5 zw51_4) rfl ⟨rfl, rfl⟩ 1 hdX12_flag ⟨Nat.le_of_ble_eq_true rfl, Nat.le_of_ble_eq_true rfl⟩ rfl rfl (wM_e0 ad cy σ10) rfl hl rfl (Nat.le_of_ble_eq_true rfl) dX12_singles_286 ⟨Nat.zero_le _, Nat.zero_le _⟩ (fun H locs hI => ?_)
  refine lv_if_ne (tgt := 296) hx hb dX12_singles_289 (by decide) (fun q => ?_) (fun q => ?_)
  · replace hf := zif_f q hf
    refine lv_iconst (v := 0) hx hb dX12_singles_296 (by decide) ?_
    exact bX12_singles_297 hC  hI (lv_sub hl [0] rfl) hf
  replace hf := zif_t q hf
  exact bX12_singles_292 hC  hI (lv_sub hl [0] rfl) hf
set_option maxRecDepth 20000 in
set_option maxHeartbeats 4000000 in
theorem bX12_singles_272 {st : Nat → Nat} {p : Program} {l : Launch} {e : Env} {s : State} {m : MethodId} {args : Array Value} {below : List Frame} {meth : Method} {c : Code} {D : va_G} {A : Nat → Prop} {ad : Nat → Nat} {cy : Nat → ClassId} (hC : zC p m c cX12_singles 4 s args wzX12_singles RX12 meth (some .int))  {res : zSt × Int32} {H : Heap} {locs : List Loc} {σ : zSt} {ls : Array Slot} {x1 : Int32} {s0 : Int32} (hI : zI st D (tM cy) (wM ad cy σ) A s H locs) (hl : lv_has ls 4 [(0, .ref (ad 0)), (1, .int x1)]) (hf : fX12_singles_272  σ x1 s0 = some res) : W p l e rmX12_singles s m args below meth c H locs 0 0 (zQi below args s D (tM cy) (wM ad cy) A res) (F0 m 272 ls [.int s0, .ref (ad 0)]) := by
  have hx := hC.1
  have hb := hC.2.1
  unfold fX12_singles_272 at hf
  refine lv_iconst (v := 0) hx hb dX12_singles_272 (by decide) ?_
  exact bX12_singles_273 hC  hI hl hf
set_option maxRecDepth 20000 in
set_option maxHeartbeats 4000000 in
theorem bX12_singles {st : Nat → Nat} {p : Program} {l : Launch} {e : Env} {s : State} {m : MethodId} {args : Array Value} {below : List Frame} {meth : Method} {c : Code} {D : va_G} {A : Nat → Prop} {ad : Nat → Nat} {cy : Nat → ClassId} (hC : zC p m c cX12_singles 4 s args wzX12_singles RX12 meth (some .int))  {res : zSt × Int32} {H : Heap} {locs : List Loc} {σ : zSt} {ls : Array Slot} {x1 : Int32} {x2 : Int32} (hI : zI st D (tM cy) (wM ad cy σ) A s H locs) (hl : lv_has ls 4 [(0, .ref (ad 0)), (1, .int x1), (2, .int x2)]) (hf : fX12_singles  σ x1 x2 = some res) : W p l e rmX12_singles s m args below meth c H locs 0 0 (zQi below args s D (tM cy) (wM ad cy) A res) (F0 m 0 ls []) := by
  have hx := hC.1
  have hb := hC.2.1
  unfold fX12_singles at hf
  refine lv_iload_n hx hb dX12_singles_0 rfl (lv_at hl 2 rfl) ?_
  refine lv_bipush (v := 6) hx hb dX12_singles_1 (by decide) ?_
  refine lv_icmp_ne (tgt := 29) hx hb dX12_singles_3 (by decide) (fun q => ?_) (fun q => ?_)
  · replace hf := zif_f q hf
    refine lv_iload_n hx hb dX12_singles_29 rfl (lv_at hl 2 rfl) ?_
    refine lv_bipush (v := 6) hx hb dX12_singles_30 (by decide) ?_
    refine lv_icmp_ge (tgt := 150) hx hb dX12_singles_32 (by decide) (fun q => ?_) (fun q => ?_)
    · replace hf := zif_t q hf
      refine lv_iload_n hx hb dX12_singles_150 rfl (lv_at hl 1 rfl) ?_
      refine lv_iconst (v := 4) hx hb dX12_singles_151 (by decide) ?_
      refine lv_icmp_ge (tgt := 197) hx hb dX12_singles_152 (by decide) (fun q => ?_) (fun q => ?_)
      · replace hf := zif_t q hf
        refine lv_iload_n hx hb dX12_singles_197 rfl (lv_at hl 1 rfl) ?_
        refine lv_iconst (v := 4) hx hb dX12_singles_198 (by decide) ?_
        refine lv_icmp_ne (tgt := 209) hx hb dX12_singles_199 (by decide) (fun q => ?_) (fun q => ?_)
        · replace hf := zif_f q hf
          refine lv_iload_n hx hb dX12_singles_209 rfl (lv_at hl 1 rfl) ?_
          refine lv_iconst (v := 5) hx hb dX12_singles_210 (by decide) ?_
          refine lv_icmp_ne (tgt := 251) hx hb dX12_singles_211 (by decide) (fun q => ?_) (fun q => ?_)
          · replace hf := zif_f q hf
            refine lv_aload_n hx hb dX12_singles_251 rfl (lv_at hl 0 rfl) ?_
            refine lv_iconst (v := 4) hx hb dX12_singles_252 (by decide) ?_
            refine lv_iload_n hx hb dX12_singles_253 rfl (lv_at hl 1 rfl) ?_
            refine lv_bipush (v := 7) hx hb dX12_singles_254 (by decide) ?_
            refine lv_icmp_ne (tgt := 272) hx hb dX12_singles_256 (by decide) (fun q => ?_) (fun q => ?_)
            · replace hf := zif_f q hf
              exact bX12_singles_272 hC  hI (lv_sub hl [0, 1] rfl) hf
            replace hf := zif_t q hf
            refine lv_aload_n hx hb dX12_singles_259 rfl (lv_at hl 0 rfl) ?_
            refine lv_iconst (v := 0) hx hb dX12_singles_260 (by decide) ?_
            obtain ⟨σ13, v14, g13, hf⟩ := zbi_use hf
            refine z_callVi (As := [.int 0]) (rest := [.int 4, .ref (ad 0)]) hC hI (cX12_flag_met st l D ad cy σ 0 _ g13) (zgV zw51_1 zw51_2 zw51_3 zw1_5 zw51_4) rfl ⟨rfl, rfl⟩ 1 hdX12_flag ⟨Nat.le_of_ble_eq_true rfl, Nat.le_of_ble_eq_true rfl⟩ rfl rfl (wM_e0 ad cy σ) rfl hl rfl (Nat.le_of_ble_eq_true rfl) dX12_singles_261 ⟨Nat.zero_le _, Nat.zero_le _⟩ (fun H locs hI => ?_)
            refine lv_iconst (v := 1) hx hb dX12_singles_264 (by decide) ?_
            refine lv_icmp_ne (tgt := 272) hx hb dX12_singles_265 (by decide) (fun q => ?_) (fun q => ?_)
            · replace hf := zif_f q hf
              exact bX12_singles_272 hC  hI (lv_sub hl [0, 1] rfl) hf
            replace hf := zif_t q hf
            refine lv_iconst (v := 1) hx hb dX12_singles_268 (by decide) ?_
            refine lv_goto (tgt := 273) hx hb dX12_singles_269 (by decide) ?_
            exact bX12_singles_273 hC  hI (lv_sub hl [0, 1] rfl) hf
          replace hf := zif_t q hf
          refine lv_aload_n hx hb dX12_singles_214 rfl (lv_at hl 0 rfl) ?_
          refine z_get hC hI hinX12_singles_X120 0 (wM_e0 ad cy σ) rfl 10 (by decide) (List.mem_cons_of_mem _ zw9_7) rfl dX12_singles_215 ?_
          refine lv_iconst (v := 0) hx hb dX12_singles_218 (by decide) ?_
          refine lv_dup2_11 hx hb dX12_singles_219 rfl rfl ?_
          obtain ⟨q, hf⟩ := zck_use hf
          refine z_iald hC hI 3 2 (wM_e3 ad cy σ) (tM_t3 cy) q dX12_singles_220 ?_
          refine lv_sipush (v := 255) hx hb dX12_singles_221 (by decide) ?_
          refine lv_ixor hx hb dX12_singles_224 ?_
          obtain ⟨q, hf⟩ := zck_use hf
          obtain ⟨σ15, eσ15⟩ : ∃ z, z = zsi σ 3 ((0 : Int32).toNatClampNeg) ((zgi σ 3 (0 : Int32).toNatClampNeg) ^^^ 255) := ⟨_, rfl⟩
          replace hf := zbv_use eσ15 hf
          refine z_iast hC hI 3 2 (wM_e3 ad cy σ) (tM_t3 cy) q ((wM_s3 ad cy σ _ _).trans (congrArg (wM ad cy) eσ15.symm)) dX12_singles_225 (fun H locs hI => ?_)
          refine lv_aload_n hx hb dX12_singles_226 rfl (lv_at hl 0 rfl) ?_
          refine lv_iconst (v := 4) hx hb dX12_singles_227 (by decide) ?_
          refine lv_iconst (v := 1) hx hb dX12_singles_228 (by decide) ?_
          obtain ⟨σ16, g16, hf⟩ := zbu_use hf
          refine z_callVu (As := [.int 4, .int 1]) (rest := []) hC hI (cX12_put_met st l D ad cy σ15 4 1 _ g16) (zgV zw52_13 zw52_14 zw52_15 zw1_5 zw52_16) rfl ⟨rfl, rfl⟩ 2 hdX12_put ⟨Nat.le_of_ble_eq_true rfl, Nat.le_of_ble_eq_true rfl⟩ rfl rfl (wM_e0 ad cy σ15) rfl hl rfl (Nat.le_of_ble_eq_true rfl) dX12_singles_229 ⟨Nat.zero_le _, Nat.zero_le _⟩ (fun H locs hI => ?_)
          refine lv_aload_n hx hb dX12_singles_232 rfl (lv_at hl 0 rfl) ?_
          refine lv_iconst (v := 1) hx hb dX12_singles_233 (by decide) ?_
          refine lv_iconst (v := 1) hx hb dX12_singles_234 (by decide) ?_
          obtain ⟨σ17, g17, hf⟩ := zbu_use hf
          refine z_callVu (As := [.int 1, .int 1]) (rest := []) hC hI (cX12_put_met st l D ad cy σ16 1 1 _ g17) (zgV zw52_13 zw52_14 zw52_15 zw1_5 zw52_16) rfl ⟨rfl, rfl⟩ 2 hdX12_put ⟨Nat.le_of_ble_eq_true rfl, Nat.le_of_ble_eq_true rfl⟩ rfl rfl (wM_e0 ad cy σ16) rfl hl rfl (Nat.le_of_ble_eq_true rfl) dX12_singles_235 ⟨Nat.zero_le _, Nat.zero_le _⟩ (fun H locs hI => ?_)
          refine lv_aload_n hx hb dX12_singles_238 rfl (lv_at hl 0 rfl) ?_
          refine lv_aload_n hx hb dX12_singles_239 rfl (lv_at hl 0 rfl) ?_
          refine z_get hC hI hinX12_singles_X120 0 (wM_e0 ad cy σ17) rfl 10 (by decide) (List.mem_cons_of_mem _ zw9_7) rfl dX12_singles_240 ?_
          refine lv_iconst (v := 0) hx hb dX12_singles_243 (by decide) ?_
          obtain ⟨q, hf⟩ := zck_use hf
          refine z_iald hC hI 3 2 (wM_e3 ad cy σ17) (tM_t3 cy) q dX12_singles_244 ?_
          obtain ⟨σ18, g18, hf⟩ := zbu_use hf
          refine z_callVu (As := [.int (zgi σ17 3 (0 : Int32).toNatClampNeg)]) (rest := []) hC hI (cX12_xy_met st l D ad cy σ17 (zgi σ17 3 (0 : Int32).toNatClampNeg) _ g18) (zgV zw52_17 zw52_18 zw52_19 zw1_5 zw52_20) rfl ⟨rfl, rfl⟩ 1 hdX12_xy ⟨Nat.le_of_ble_eq_true rfl, Nat.le_of_ble_eq_true rfl⟩ rfl rfl (wM_e0 ad cy σ17) rfl hl rfl (Nat.le_of_ble_eq_true rfl) dX12_singles_245 ⟨Nat.zero_le _, Nat.zero_le _⟩ (fun H locs hI => ?_)
          refine lv_goto (tgt := 316) hx hb dX12_singles_248 (by decide) ?_
          exact bX12_singles_316 hC  hI (lv_sub hl [] rfl) hf
        replace hf := zif_t q hf
        refine lv_aload_n hx hb dX12_singles_202 rfl (lv_at hl 0 rfl) ?_
        obtain ⟨σ19, g19, hf⟩ := zbu_use hf
        refine z_callVu (As := []) (rest := []) hC hI (cX12_adjusts_met st l D ad cy σ  _ g19) (zgV zw54_6 zw54_7 zw54_8 zw1_5 zw54_9) rfl ⟨rfl, rfl⟩ 0 hdX12_adjusts ⟨Nat.le_of_ble_eq_true rfl, Nat.le_of_ble_eq_true rfl⟩ rfl rfl (wM_e0 ad cy σ) rfl hl rfl (Nat.le_of_ble_eq_true rfl) dX12_singles_203 ⟨Nat.zero_le _, Nat.zero_le _⟩ (fun H locs hI => ?_)
        refine lv_goto (tgt := 316) hx hb dX12_singles_206 (by decide) ?_
        exact bX12_singles_316 hC  hI (lv_sub hl [] rfl) hf
      replace hf := zif_f q hf
      refine lv_aload_n hx hb dX12_singles_155 rfl (lv_at hl 0 rfl) ?_
      refine z_get hC hI hinX12_singles_X120 0 (wM_e0 ad cy σ) rfl 10 (by decide) (List.mem_cons_of_mem _ zw9_7) rfl dX12_singles_156 ?_
      refine lv_iconst (v := 0) hx hb dX12_singles_159 (by decide) ?_
      refine lv_aload_n hx hb dX12_singles_160 rfl (lv_at hl 0 rfl) ?_
      refine lv_iload_n hx hb dX12_singles_161 rfl (lv_at hl 1 rfl) ?_
      refine lv_aload_n hx hb dX12_singles_162 rfl (lv_at hl 0 rfl) ?_
      refine z_get hC hI hinX12_singles_X120 0 (wM_e0 ad cy σ) rfl 10 (by decide) (List.mem_cons_of_mem _ zw9_7) rfl dX12_singles_163 ?_
      refine lv_iconst (v := 0) hx hb dX12_singles_166 (by decide) ?_
      obtain ⟨q, hf⟩ := zck_use hf
      refine z_iald hC hI 3 2 (wM_e3 ad cy σ) (tM_t3 cy) q dX12_singles_167 ?_
      obtain ⟨σ20, v21, g20, hf⟩ := zbi_use hf
      refine z_callVi (As := [.int x1, .int (zgi σ 3 (0 : Int32).toNatClampNeg)]) (rest := [.int 0, .ref (ad 3)]) hC hI (cX12_turned_met st l D ad cy σ x1 (zgi σ 3 (0 : Int32).toNatClampNeg) _ g20) (zgV zw54_2 zw54_3 zw54_4 zw1_5 zw54_5) rfl ⟨rfl, rfl⟩ 2 hdX12_turned ⟨Nat.le_of_ble_eq_true rfl, Nat.le_of_ble_eq_true rfl⟩ rfl rfl (wM_e0 ad cy σ) rfl hl rfl (Nat.le_of_ble_eq_true rfl) dX12_singles_168 ⟨Nat.zero_le _, Nat.zero_le _⟩ (fun H locs hI => ?_)
      obtain ⟨q, hf⟩ := zck_use hf
      obtain ⟨σ22, eσ22⟩ : ∃ z, z = zsi σ20 3 ((0 : Int32).toNatClampNeg) v21 := ⟨_, rfl⟩
      replace hf := zbv_use eσ22 hf
      refine z_iast hC hI 3 2 (wM_e3 ad cy σ20) (tM_t3 cy) q ((wM_s3 ad cy σ20 _ _).trans (congrArg (wM ad cy) eσ22.symm)) dX12_singles_171 (fun H locs hI => ?_)
      refine lv_aload_n hx hb dX12_singles_172 rfl (lv_at hl 0 rfl) ?_
      refine lv_aload_n hx hb dX12_singles_173 rfl (lv_at hl 0 rfl) ?_
      refine z_get hC hI hinX12_singles_X120 0 (wM_e0 ad cy σ22) rfl 10 (by decide) (List.mem_cons_of_mem _ zw9_7) rfl dX12_singles_174 ?_
      refine lv_iconst (v := 0) hx hb dX12_singles_177 (by decide) ?_
      obtain ⟨q, hf⟩ := zck_use hf
      refine z_iald hC hI 3 2 (wM_e3 ad cy σ22) (tM_t3 cy) q dX12_singles_178 ?_
      obtain ⟨σ23, g23, hf⟩ := zbu_use hf
      refine z_callVu (As := [.int (zgi σ22 3 (0 : Int32).toNatClampNeg)]) (rest := []) hC hI (cX12_xy_met st l D ad cy σ22 (zgi σ22 3 (0 : Int32).toNatClampNeg) _ g23) (zgV zw52_17 zw52_18 zw52_19 zw1_5 zw52_20) rfl ⟨rfl, rfl⟩ 1 hdX12_xy ⟨Nat.le_of_ble_eq_true rfl, Nat.le_of_ble_eq_true rfl⟩ rfl rfl (wM_e0 ad cy σ22) rfl hl rfl (Nat.le_of_ble_eq_true rfl) dX12_singles_179 ⟨Nat.zero_le _, Nat.zero_le _⟩ (fun H locs hI => ?_)
      refine lv_aload_n hx hb dX12_singles_182 rfl (lv_at hl 0 rfl) ?_
      refine lv_iconst (v := 4) hx hb dX12_singles_183 (by decide) ?_
      refine lv_iconst (v := 0) hx hb dX12_singles_184 (by decide) ?_
      obtain ⟨σ24, g24, hf⟩ := zbu_use hf
      refine z_callVu (As := [.int 4, .int 0]) (rest := []) hC hI (cX12_put_met st l D ad cy σ23 4 0 _ g24) (zgV zw52_13 zw52_14 zw52_15 zw1_5 zw52_16) rfl ⟨rfl, rfl⟩ 2 hdX12_put ⟨Nat.le_of_ble_eq_true rfl, Nat.le_of_ble_eq_true rfl⟩ rfl rfl (wM_e0 ad cy σ23) rfl hl rfl (Nat.le_of_ble_eq_true rfl) dX12_singles_185 ⟨Nat.zero_le _, Nat.zero_le _⟩ (fun H locs hI => ?_)
      refine lv_aload_n hx hb dX12_singles_188 rfl (lv_at hl 0 rfl) ?_
      refine lv_iconst (v := 1) hx hb dX12_singles_189 (by decide) ?_
      refine lv_iconst (v := 0) hx hb dX12_singles_190 (by decide) ?_
      obtain ⟨σ25, g25, hf⟩ := zbu_use hf
      refine z_callVu (As := [.int 1, .int 0]) (rest := []) hC hI (cX12_put_met st l D ad cy σ24 1 0 _ g25) (zgV zw52_13 zw52_14 zw52_15 zw1_5 zw52_16) rfl ⟨rfl, rfl⟩ 2 hdX12_put ⟨Nat.le_of_ble_eq_true rfl, Nat.le_of_ble_eq_true rfl⟩ rfl rfl (wM_e0 ad cy σ24) rfl hl rfl (Nat.le_of_ble_eq_true rfl) dX12_singles_191 ⟨Nat.zero_le _, Nat.zero_le _⟩ (fun H locs hI => ?_)
      refine lv_goto (tgt := 316) hx hb dX12_singles_194 (by decide) ?_
      exact bX12_singles_316 hC  hI (lv_sub hl [] rfl) hf
    replace hf := zif_f q hf
    refine lv_aload_n hx hb dX12_singles_35 rfl (lv_at hl 0 rfl) ?_
    refine lv_iload_n hx hb dX12_singles_36 rfl (lv_at hl 1 rfl) ?_
    obtain ⟨σ26, v27, g26, hf⟩ := zbi_use hf
    refine z_callVi (As := [.int x1]) (rest := []) hC hI (cX12_r_met st l D ad cy σ x1 _ g26) (zgV zw53_18 zw53_19 zw53_20 zw1_5 zw53_21) rfl ⟨rfl, rfl⟩ 1 hdX12_r ⟨Nat.le_of_ble_eq_true rfl, Nat.le_of_ble_eq_true rfl⟩ rfl rfl (wM_e0 ad cy σ) rfl hl rfl (Nat.le_of_ble_eq_true rfl) dX12_singles_37 ⟨Nat.zero_le _, Nat.zero_le _⟩ (fun H locs hI => ?_)
    refine lv_iload_n hx hb dX12_singles_40 rfl (lv_at hl 2 rfl) ?_
    refine lv_iconst (v := 4) hx hb dX12_singles_41 (by decide) ?_
    refine lv_icmp_ne (tgt := 49) hx hb dX12_singles_42 (by decide) (fun q => ?_) (fun q => ?_)
    · replace hf := zif_f q hf
      refine lv_iconst (v := (-1)) hx hb dX12_singles_49 (by decide) ?_
      exact bX12_singles_50 hC  hI hl hf
    replace hf := zif_t q hf
    refine lv_iconst (v := 1) hx hb dX12_singles_45 (by decide) ?_
    refine lv_goto (tgt := 50) hx hb dX12_singles_46 (by decide) ?_
    exact bX12_singles_50 hC  hI hl hf
  replace hf := zif_t q hf
  refine lv_aload_n hx hb dX12_singles_6 rfl (lv_at hl 0 rfl) ?_
  refine lv_iload_n hx hb dX12_singles_7 rfl (lv_at hl 1 rfl) ?_
  refine lv_aload_n hx hb dX12_singles_8 rfl (lv_at hl 0 rfl) ?_
  obtain ⟨σ28, v29, g28, hf⟩ := zbi_use hf
  refine z_callVi (As := []) (rest := [.int x1, .ref (ad 0)]) hC hI (cX12_next_met st l D ad cy σ  _ g28) (zgV zw50_2 zw50_3 zw50_4 zw1_5 zw50_5) rfl ⟨rfl, rfl⟩ 0 hdX12_next ⟨Nat.le_of_ble_eq_true rfl, Nat.le_of_ble_eq_true rfl⟩ rfl rfl (wM_e0 ad cy σ) rfl hl rfl (Nat.le_of_ble_eq_true rfl) dX12_singles_9 ⟨Nat.zero_le _, Nat.zero_le _⟩ (fun H locs hI => ?_)
  obtain ⟨σ30, g30, hf⟩ := zbu_use hf
  refine z_callVu (As := [.int x1, .int v29]) (rest := []) hC hI (cX12_rTo_met st l D ad cy σ28 x1 v29 _ g30) (zgV zw53_9 zw53_10 zw53_11 zw1_5 zw53_12) rfl ⟨rfl, rfl⟩ 2 hdX12_rTo ⟨Nat.le_of_ble_eq_true rfl, Nat.le_of_ble_eq_true rfl⟩ rfl rfl (wM_e0 ad cy σ28) rfl hl rfl (Nat.le_of_ble_eq_true rfl) dX12_singles_12 ⟨Nat.zero_le _, Nat.zero_le _⟩ (fun H locs hI => ?_)
  refine lv_iload_n hx hb dX12_singles_15 rfl (lv_at hl 1 rfl) ?_
  refine lv_bipush (v := 6) hx hb dX12_singles_16 (by decide) ?_
  refine lv_icmp_ne (tgt := 26) hx hb dX12_singles_18 (by decide) (fun q => ?_) (fun q => ?_)
  · replace hf := zif_f q hf
    refine lv_bipush (v := 7) hx hb dX12_singles_26 (by decide) ?_
    exact bX12_singles_28 hC  hI (lv_sub hl [] rfl) hf
  replace hf := zif_t q hf
  refine lv_bipush (v := 10) hx hb dX12_singles_21 (by decide) ?_
  refine lv_goto (tgt := 28) hx hb dX12_singles_23 (by decide) ?_
  exact bX12_singles_28 hC  hI (lv_sub hl [] rfl) hf
set_option maxRecDepth 20000 in
theorem cX12_singles_met (st : Nat → Nat) (l : Launch) (D : va_G) (ad : Nat → Nat) (cy : Nat → ClassId) (σ : zSt) (x1 : Int32) (x2 : Int32) (res : zSt × Int32) (hf : fX12_singles σ x1 x2 = some res) (sz : Nat) : zMi st l yX12_singles wzX12_singles rmX12_singles [.ref (ad 0), .int x1, .int x2] D (tM cy) (wM ad cy) sz σ res :=
  zMi.of (cc := cX12_singles) (maxL := 4) (ret := (some .int)) (by decide) rfl (Nat.le_of_ble_eq_true rfl) (fun p e s m args below meth c hC A hI ls hl => bX12_singles hC hI hl hf)
theorem hdX12_singles : yX12_singles.cls = RX12 ∧ yX12_singles.cls ≠ "java/lang/invoke/MethodHandle" ∧ yX12_singles.cls ≠ "java/lang/invoke/VarHandle" ∧ (parseMethodDescriptor yX12_singles.desc).map (fun d => d.parameters.length) = some 2 := by decide +kernel
def rmX12_plain_r1 : Room := { frames := 8, cells := 0, slots := 0, locals := 186 }
def wzX12_plain : List Cond := .code yX12_plain cX12_plain 4 (some .int) :: wsL_law
theorem hinX12_plain_r1_X120 : ∀ w ∈ wsX120, w ∈ wzX12_plain := fun w h => List.mem_cons_of_mem _ (inlX12 w h)
def fX12_plain_r1_160  (σ : zSt) (s0 : Int32) : Option (zSt × Int32) :=
  some (σ, s0)
def fX12_plain_r1_139  (σ : zSt) (s0 : Int32) : Option (zSt × Int32) :=
  some (σ, s0)
def fX12_plain_r1_116  (σ : zSt) (s0 : Int32) : Option (zSt × Int32) :=
  some (σ, s0)
def fX12_plain_r1_115  (σ : zSt)  : Option (zSt × Int32) :=
  fX12_plain_r1_116 σ 4
def fX12_plain_r1_110  (σ : zSt)  : Option (zSt × Int32) :=
  fX12_plain_r1_116 σ 7
def fX12_plain_r1_92  (σ : zSt) (x1 : Int32) (x2 : Int32) (x3 : Int32) : Option (zSt × Int32) :=
  if x1 = 118 then fX12_plain_r1_115 σ else
  if x2 = 6 then fX12_plain_r1_110 σ else
  if x3 = 6 then fX12_plain_r1_110 σ else
  fX12_plain_r1_115 σ
def fX12_plain_r1_64  (σ : zSt) (s0 : Int32) : Option (zSt × Int32) :=
  some (σ, s0)
def fX12_plain_r1  (σ : zSt) (x1 : Int32) : Option (zSt × Int32) :=
  zbv ((x1 >>> ((3 : Int32) &&& 31)) &&& 7) (fun v1 =>
  zbv (x1 &&& 7) (fun v2 =>
  if (x1 >>> ((6 : Int32) &&& 31)) = 0 then if 4 ≤ v2 then zbi (fX12_singles σ v1 v2) (fun σ3 v4 =>
  fX12_plain_r1_64 σ3 v4) else
  zbi (fX12_zero σ v1 v2) (fun σ5 v6 =>
  fX12_plain_r1_64 σ5 v6) else
  if (x1 >>> ((6 : Int32) &&& 31)) = 1 then if x1 = 118 then zck (zin 26 1048) (zbv (zsi σ 3 ((26 : Int32).toNatClampNeg) 1) (fun σ10 =>
  fX12_plain_r1_92 σ10 x1 v1 v2)) else
  zbi (fX12_r σ v2) (fun σ7 v8 =>
  zbu (fX12_rTo σ7 v1 v8) (fun σ9 =>
  fX12_plain_r1_92 σ9 x1 v1 v2)) else
  if (x1 >>> ((6 : Int32) &&& 31)) = 2 then zbi (fX12_r σ v2) (fun σ11 v12 =>
  zbu (fX12_does σ11 v1 v12) (fun σ13 =>
  if v2 = 6 then fX12_plain_r1_139 σ13 7 else
  fX12_plain_r1_139 σ13 4)) else
  if 4 ≤ v2 then zbi (fX12_more3_r1 σ v1 v2) (fun σ14 v15 =>
  fX12_plain_r1_160 σ14 v15) else
  zbi (fX12_three σ v1 v2) (fun σ16 v17 =>
  fX12_plain_r1_160 σ16 v17)))
set_option maxRecDepth 20000 in
set_option maxHeartbeats 4000000 in
theorem bX12_plain_r1_160 {st : Nat → Nat} {p : Program} {l : Launch} {e : Env} {s : State} {m : MethodId} {args : Array Value} {below : List Frame} {meth : Method} {c : Code} {D : va_G} {A : Nat → Prop} {ad : Nat → Nat} {cy : Nat → ClassId} (hC : zC p m c cX12_plain 4 s args wzX12_plain RX12 meth (some .int))  {res : zSt × Int32} {H : Heap} {locs : List Loc} {σ : zSt} {ls : Array Slot} {s0 : Int32} (hI : zI st D (tM cy) (wM ad cy σ) A s H locs) (hl : lv_has ls 4 []) (hf : fX12_plain_r1_160  σ s0 = some res) : W p l e rmX12_plain_r1 s m args below meth c H locs 0 0 (zQi below args s D (tM cy) (wM ad cy) A res) (F0 m 160 ls [.int s0]) := by
  have hx := hC.1
  have hb := hC.2.1
  unfold fX12_plain_r1_160 at hf
  exact z_ireturn hC hI hf dX12_plain_160
set_option maxRecDepth 20000 in
set_option maxHeartbeats 4000000 in
theorem bX12_plain_r1_139 {st : Nat → Nat} {p : Program} {l : Launch} {e : Env} {s : State} {m : MethodId} {args : Array Value} {below : List Frame} {meth : Method} {c : Code} {D : va_G} {A : Nat → Prop} {ad : Nat → Nat} {cy : Nat → ClassId} (hC : zC p m c cX12_plain 4 s args wzX12_plain RX12 meth (some .int))  {res : zSt × Int32} {H : Heap} {locs : List Loc} {σ : zSt} {ls : Array Slot} {s0 : Int32} (hI : zI st D (tM cy) (wM ad cy σ) A s H locs) (hl : lv_has ls 4 []) (hf : fX12_plain_r1_139  σ s0 = some res) : W p l e rmX12_plain_r1 s m args below meth c H locs 0 0 (zQi below args s D (tM cy) (wM ad cy) A res) (F0 m 139 ls [.int s0]) := by
  have hx := hC.1
  have hb := hC.2.1
  unfold fX12_plain_r1_139 at hf
  exact z_ireturn hC hI hf dX12_plain_139
set_option maxRecDepth 20000 in
set_option maxHeartbeats 4000000 in
theorem bX12_plain_r1_116 {st : Nat → Nat} {p : Program} {l : Launch} {e : Env} {s : State} {m : MethodId} {args : Array Value} {below : List Frame} {meth : Method} {c : Code} {D : va_G} {A : Nat → Prop} {ad : Nat → Nat} {cy : Nat → ClassId} (hC : zC p m c cX12_plain 4 s args wzX12_plain RX12 meth (some .int))  {res : zSt × Int32} {H : Heap} {locs : List Loc} {σ : zSt} {ls : Array Slot} {s0 : Int32} (hI : zI st D (tM cy) (wM ad cy σ) A s H locs) (hl : lv_has ls 4 []) (hf : fX12_plain_r1_116  σ s0 = some res) : W p l e rmX12_plain_r1 s m args below meth c H locs 0 0 (zQi below args s D (tM cy) (wM ad cy) A res) (F0 m 116 ls [.int s0]) := by
  have hx := hC.1
  have hb := hC.2.1
  unfold fX12_plain_r1_116 at hf
  exact z_ireturn hC hI hf dX12_plain_116
set_option maxRecDepth 20000 in
set_option maxHeartbeats 4000000 in
theorem bX12_plain_r1_115 {st : Nat → Nat} {p : Program} {l : Launch} {e : Env} {s : State} {m : MethodId} {args : Array Value} {below : List Frame} {meth : Method} {c : Code} {D : va_G} {A : Nat → Prop} {ad : Nat → Nat} {cy : Nat → ClassId} (hC : zC p m c cX12_plain 4 s args wzX12_plain RX12 meth (some .int))  {res : zSt × Int32} {H : Heap} {locs : List Loc} {σ : zSt} {ls : Array Slot}  (hI : zI st D (tM cy) (wM ad cy σ) A s H locs) (hl : lv_has ls 4 []) (hf : fX12_plain_r1_115  σ  = some res) : W p l e rmX12_plain_r1 s m args below meth c H locs 0 0 (zQi below args s D (tM cy) (wM ad cy) A res) (F0 m 115 ls []) := by
  have hx := hC.1
  have hb := hC.2.1
  unfold fX12_plain_r1_115 at hf
  refine lv_iconst (v := 4) hx hb dX12_plain_115 (by decide) ?_
  exact bX12_plain_r1_116 hC  hI hl hf
set_option maxRecDepth 20000 in
set_option maxHeartbeats 4000000 in
theorem bX12_plain_r1_110 {st : Nat → Nat} {p : Program} {l : Launch} {e : Env} {s : State} {m : MethodId} {args : Array Value} {below : List Frame} {meth : Method} {c : Code} {D : va_G} {A : Nat → Prop} {ad : Nat → Nat} {cy : Nat → ClassId} (hC : zC p m c cX12_plain 4 s args wzX12_plain RX12 meth (some .int))  {res : zSt × Int32} {H : Heap} {locs : List Loc} {σ : zSt} {ls : Array Slot}  (hI : zI st D (tM cy) (wM ad cy σ) A s H locs) (hl : lv_has ls 4 []) (hf : fX12_plain_r1_110  σ  = some res) : W p l e rmX12_plain_r1 s m args below meth c H locs 0 0 (zQi below args s D (tM cy) (wM ad cy) A res) (F0 m 110 ls []) := by
  have hx := hC.1
  have hb := hC.2.1
  unfold fX12_plain_r1_110 at hf
  refine lv_bipush (v := 7) hx hb dX12_plain_110 (by decide) ?_
  refine lv_goto (tgt := 116) hx hb dX12_plain_112 (by decide) ?_
  exact bX12_plain_r1_116 hC  hI hl hf
set_option maxRecDepth 20000 in
set_option maxHeartbeats 4000000 in
theorem bX12_plain_r1_92 {st : Nat → Nat} {p : Program} {l : Launch} {e : Env} {s : State} {m : MethodId} {args : Array Value} {below : List Frame} {meth : Method} {c : Code} {D : va_G} {A : Nat → Prop} {ad : Nat → Nat} {cy : Nat → ClassId} (hC : zC p m c cX12_plain 4 s args wzX12_plain RX12 meth (some .int))  {res : zSt × Int32} {H : Heap} {locs : List Loc} {σ : zSt} {ls : Array Slot} {x1 : Int32} {x2 : Int32} {x3 : Int32} (hI : zI st D (tM cy) (wM ad cy σ) A s H locs) (hl : lv_has ls 4 [(1, .int x1), (2, .int x2), (3, .int x3)]) (hf : fX12_plain_r1_92  σ x1 x2 x3 = some res) : W p l e rmX12_plain_r1 s m args below meth c H locs 0 0 (zQi below args s D (tM cy) (wM ad cy) A res) (F0 m 92 ls []) := by
  have hx := hC.1
  have hb := hC.2.1
  unfold fX12_plain_r1_92 at hf
  refine lv_iload_n hx hb dX12_plain_92 rfl (lv_at hl 0 rfl) ?_
  refine lv_bipush (v := 118) hx hb dX12_plain_93 (by decide) ?_
  refine lv_icmp_eq (tgt := 115) hx hb dX12_plain_95 (by decide) (fun q => ?_) (fun q => ?_)
  · replace hf := zif_t q hf
    exact bX12_plain_r1_115 hC  hI (lv_sub hl [] rfl) hf
  replace hf := zif_f q hf
  refine lv_iload_n hx hb dX12_plain_98 rfl (lv_at hl 1 rfl) ?_
  refine lv_bipush (v := 6) hx hb dX12_plain_99 (by decide) ?_
  refine lv_icmp_eq (tgt := 110) hx hb dX12_plain_101 (by decide) (fun q => ?_) (fun q => ?_)
  · replace hf := zif_t q hf
    exact bX12_plain_r1_110 hC  hI (lv_sub hl [] rfl) hf
  replace hf := zif_f q hf
  refine lv_iload_n hx hb dX12_plain_104 rfl (lv_at hl 2 rfl) ?_
  refine lv_bipush (v := 6) hx hb dX12_plain_105 (by decide) ?_
  refine lv_icmp_ne (tgt := 115) hx hb dX12_plain_107 (by decide) (fun q => ?_) (fun q => ?_)
  · replace hf := zif_f q hf
    exact bX12_plain_r1_115 hC  hI (lv_sub hl [] rfl) hf
  replace hf := zif_t q hf
  exact bX12_plain_r1_110 hC  hI (lv_sub hl [] rfl) hf
set_option maxRecDepth 20000 in
set_option maxHeartbeats 4000000 in
theorem bX12_plain_r1_64 {st : Nat → Nat} {p : Program} {l : Launch} {e : Env} {s : State} {m : MethodId} {args : Array Value} {below : List Frame} {meth : Method} {c : Code} {D : va_G} {A : Nat → Prop} {ad : Nat → Nat} {cy : Nat → ClassId} (hC : zC p m c cX12_plain 4 s args wzX12_plain RX12 meth (some .int))  {res : zSt × Int32} {H : Heap} {locs : List Loc} {σ : zSt} {ls : Array Slot} {s0 : Int32} (hI : zI st D (tM cy) (wM ad cy σ) A s H locs) (hl : lv_has ls 4 []) (hf : fX12_plain_r1_64  σ s0 = some res) : W p l e rmX12_plain_r1 s m args below meth c H locs 0 0 (zQi below args s D (tM cy) (wM ad cy) A res) (F0 m 64 ls [.int s0]) := by
  have hx := hC.1
  have hb := hC.2.1
  unfold fX12_plain_r1_64 at hf
  exact z_ireturn hC hI hf dX12_plain_64
set_option maxRecDepth 20000 in
set_option maxHeartbeats 4000000 in
theorem bX12_plain_r1 {st : Nat → Nat} {p : Program} {l : Launch} {e : Env} {s : State} {m : MethodId} {args : Array Value} {below : List Frame} {meth : Method} {c : Code} {D : va_G} {A : Nat → Prop} {ad : Nat → Nat} {cy : Nat → ClassId} (hC : zC p m c cX12_plain 4 s args wzX12_plain RX12 meth (some .int))  {res : zSt × Int32} {H : Heap} {locs : List Loc} {σ : zSt} {ls : Array Slot} {x1 : Int32} (hI : zI st D (tM cy) (wM ad cy σ) A s H locs) (hl : lv_has ls 4 [(0, .ref (ad 0)), (1, .int x1)]) (hf : fX12_plain_r1  σ x1 = some res) : W p l e rmX12_plain_r1 s m args below meth c H locs 0 0 (zQi below args s D (tM cy) (wM ad cy) A res) (F0 m 0 ls []) := by
  have hx := hC.1
  have hb := hC.2.1
  unfold fX12_plain_r1 at hf
  refine lv_iload_n hx hb dX12_plain_0 rfl (lv_at hl 1 rfl) ?_
  refine lv_iconst (v := 3) hx hb dX12_plain_1 (by decide) ?_
  refine lv_ishr hx hb dX12_plain_2 ?_
  refine lv_bipush (v := 7) hx hb dX12_plain_3 (by decide) ?_
  refine lv_iand hx hb dX12_plain_5 ?_
  refine lv_topi (fun v1 ev1 => ?_)
  replace hf := zbv_use ev1 hf
  refine lv_istore_n (lv' := [(2, .int v1), (0, .ref (ad 0)), (1, .int x1)]) hx hb dX12_plain_6 rfl hl (by decide) rfl (fun ls hl => ?_)
  refine lv_iload_n hx hb dX12_plain_7 rfl (lv_at hl 2 rfl) ?_
  refine lv_bipush (v := 7) hx hb dX12_plain_8 (by decide) ?_
  refine lv_iand hx hb dX12_plain_10 ?_
  refine lv_topi (fun v2 ev2 => ?_)
  replace hf := zbv_use ev2 hf
  refine lv_istore_n (lv' := [(3, .int v2), (2, .int v1), (0, .ref (ad 0)), (1, .int x1)]) hx hb dX12_plain_11 rfl hl (by decide) rfl (fun ls hl => ?_)
  refine lv_iload_n hx hb dX12_plain_12 rfl (lv_at hl 3 rfl) ?_
  refine lv_bipush (v := 6) hx hb dX12_plain_13 (by decide) ?_
  refine lv_ishr hx hb dX12_plain_15 ?_
  by_cases q0 : (x1 >>> ((6 : Int32) &&& 31)) = 0
  · replace hf := zif_t q0 hf
    refine lv_tableIn (tgt := 44) hx hb dX12_plain_16 (by rw [q0]; decide) (by rw [q0]; decide) (by rw [q0]; rfl) (by decide) ?_
    refine lv_iload_n hx hb dX12_plain_44 rfl (lv_at hl 0 rfl) ?_
    refine lv_iconst (v := 4) hx hb dX12_plain_45 (by decide) ?_
    refine lv_icmp_ge (tgt := 58) hx hb dX12_plain_46 (by decide) (fun q => ?_) (fun q => ?_)
    · replace hf := zif_t q hf
      refine lv_aload_n hx hb dX12_plain_58 rfl (lv_at hl 2 rfl) ?_
      refine lv_iload_n hx hb dX12_plain_59 rfl (lv_at hl 1 rfl) ?_
      refine lv_iload_n hx hb dX12_plain_60 rfl (lv_at hl 0 rfl) ?_
      obtain ⟨σ3, v4, g3, hf⟩ := zbi_use hf
      refine z_callVi (As := [.int v1, .int v2]) (rest := []) hC hI (cX12_singles_met st l D ad cy σ v1 v2 _ g3) (zgV zw53_5 zw53_6 zw53_7 zw1_5 zw53_8) rfl ⟨rfl, rfl⟩ 2 hdX12_singles ⟨Nat.le_of_ble_eq_true rfl, Nat.le_of_ble_eq_true rfl⟩ rfl rfl (wM_e0 ad cy σ) rfl hl rfl (Nat.le_of_ble_eq_true rfl) dX12_plain_61 ⟨Nat.zero_le _, Nat.zero_le _⟩ (fun H locs hI => ?_)
      exact bX12_plain_r1_64 hC  hI (lv_sub hl [] rfl) hf
    replace hf := zif_f q hf
    refine lv_aload_n hx hb dX12_plain_49 rfl (lv_at hl 2 rfl) ?_
    refine lv_iload_n hx hb dX12_plain_50 rfl (lv_at hl 1 rfl) ?_
    refine lv_iload_n hx hb dX12_plain_51 rfl (lv_at hl 0 rfl) ?_
    obtain ⟨σ5, v6, g5, hf⟩ := zbi_use hf
    refine z_callVi (As := [.int v1, .int v2]) (rest := []) hC hI (cX12_zero_met st l D ad cy σ v1 v2 _ g5) (zgV zw50_10 zw50_11 zw50_12 zw1_5 zw50_13) rfl ⟨rfl, rfl⟩ 2 hdX12_zero ⟨Nat.le_of_ble_eq_true rfl, Nat.le_of_ble_eq_true rfl⟩ rfl rfl (wM_e0 ad cy σ) rfl hl rfl (Nat.le_of_ble_eq_true rfl) dX12_plain_52 ⟨Nat.zero_le _, Nat.zero_le _⟩ (fun H locs hI => ?_)
    refine lv_goto (tgt := 64) hx hb dX12_plain_55 (by decide) ?_
    exact bX12_plain_r1_64 hC  hI (lv_sub hl [] rfl) hf
  replace hf := zif_f q0 hf
  by_cases q1 : (x1 >>> ((6 : Int32) &&& 31)) = 1
  · replace hf := zif_t q1 hf
    refine lv_tableIn (tgt := 65) hx hb dX12_plain_16 (by rw [q1]; decide) (by rw [q1]; decide) (by rw [q1]; rfl) (by decide) ?_
    refine lv_iload_n hx hb dX12_plain_65 rfl (lv_at hl 3 rfl) ?_
    refine lv_bipush (v := 118) hx hb dX12_plain_66 (by decide) ?_
    refine lv_icmp_ne (tgt := 82) hx hb dX12_plain_68 (by decide) (fun q => ?_) (fun q => ?_)
    · replace hf := zif_f q hf
      refine lv_aload_n hx hb dX12_plain_82 rfl (lv_at hl 2 rfl) ?_
      refine lv_iload_n hx hb dX12_plain_83 rfl (lv_at hl 1 rfl) ?_
      refine lv_aload_n hx hb dX12_plain_84 rfl (lv_at hl 2 rfl) ?_
      refine lv_iload_n hx hb dX12_plain_85 rfl (lv_at hl 0 rfl) ?_
      obtain ⟨σ7, v8, g7, hf⟩ := zbi_use hf
      refine z_callVi (As := [.int v2]) (rest := [.int v1, .ref (ad 0)]) hC hI (cX12_r_met st l D ad cy σ v2 _ g7) (zgV zw53_18 zw53_19 zw53_20 zw1_5 zw53_21) rfl ⟨rfl, rfl⟩ 1 hdX12_r ⟨Nat.le_of_ble_eq_true rfl, Nat.le_of_ble_eq_true rfl⟩ rfl rfl (wM_e0 ad cy σ) rfl hl rfl (Nat.le_of_ble_eq_true rfl) dX12_plain_86 ⟨Nat.zero_le _, Nat.zero_le _⟩ (fun H locs hI => ?_)
      obtain ⟨σ9, g9, hf⟩ := zbu_use hf
      refine z_callVu (As := [.int v1, .int v8]) (rest := []) hC hI (cX12_rTo_met st l D ad cy σ7 v1 v8 _ g9) (zgV zw53_9 zw53_10 zw53_11 zw1_5 zw53_12) rfl ⟨rfl, rfl⟩ 2 hdX12_rTo ⟨Nat.le_of_ble_eq_true rfl, Nat.le_of_ble_eq_true rfl⟩ rfl rfl (wM_e0 ad cy σ7) rfl hl rfl (Nat.le_of_ble_eq_true rfl) dX12_plain_89 ⟨Nat.zero_le _, Nat.zero_le _⟩ (fun H locs hI => ?_)
      exact bX12_plain_r1_92 hC  hI (lv_sub hl [3, 1, 0] rfl) hf
    replace hf := zif_t q hf
    refine lv_aload_n hx hb dX12_plain_71 rfl (lv_at hl 2 rfl) ?_
    refine z_get hC hI hinX12_plain_r1_X120 0 (wM_e0 ad cy σ) rfl 10 (by decide) (List.mem_cons_of_mem _ zw9_7) rfl dX12_plain_72 ?_
    refine lv_bipush (v := 26) hx hb dX12_plain_75 (by decide) ?_
    refine lv_iconst (v := 1) hx hb dX12_plain_77 (by decide) ?_
    obtain ⟨q, hf⟩ := zck_use hf
    obtain ⟨σ10, eσ10⟩ : ∃ z, z = zsi σ 3 ((26 : Int32).toNatClampNeg) 1 := ⟨_, rfl⟩
    replace hf := zbv_use eσ10 hf
    refine z_iast hC hI 3 2 (wM_e3 ad cy σ) (tM_t3 cy) q ((wM_s3 ad cy σ _ _).trans (congrArg (wM ad cy) eσ10.symm)) dX12_plain_78 (fun H locs hI => ?_)
    refine lv_goto (tgt := 92) hx hb dX12_plain_79 (by decide) ?_
    exact bX12_plain_r1_92 hC  hI (lv_sub hl [3, 1, 0] rfl) hf
  replace hf := zif_f q1 hf
  by_cases q2 : (x1 >>> ((6 : Int32) &&& 31)) = 2
  · replace hf := zif_t q2 hf
    refine lv_tableIn (tgt := 117) hx hb dX12_plain_16 (by rw [q2]; decide) (by rw [q2]; decide) (by rw [q2]; rfl) (by decide) ?_
    refine lv_aload_n hx hb dX12_plain_117 rfl (lv_at hl 2 rfl) ?_
    refine lv_iload_n hx hb dX12_plain_118 rfl (lv_at hl 1 rfl) ?_
    refine lv_aload_n hx hb dX12_plain_119 rfl (lv_at hl 2 rfl) ?_
    refine lv_iload_n hx hb dX12_plain_120 rfl (lv_at hl 0 rfl) ?_
    obtain ⟨σ11, v12, g11, hf⟩ := zbi_use hf
    refine z_callVi (As := [.int v2]) (rest := [.int v1, .ref (ad 0)]) hC hI (cX12_r_met st l D ad cy σ v2 _ g11) (zgV zw53_18 zw53_19 zw53_20 zw1_5 zw53_21) rfl ⟨rfl, rfl⟩ 1 hdX12_r ⟨Nat.le_of_ble_eq_true rfl, Nat.le_of_ble_eq_true rfl⟩ rfl rfl (wM_e0 ad cy σ) rfl hl rfl (Nat.le_of_ble_eq_true rfl) dX12_plain_121 ⟨Nat.zero_le _, Nat.zero_le _⟩ (fun H locs hI => ?_)
    obtain ⟨σ13, g13, hf⟩ := zbu_use hf
    refine z_callVu (As := [.int v1, .int v12]) (rest := []) hC hI (cX12_does_met st l D ad cy σ11 v1 v12 _ g13) (zgV zw54_13 zw54_14 zw54_15 zw1_5 zw54_16) rfl ⟨rfl, rfl⟩ 2 hdX12_does ⟨Nat.le_of_ble_eq_true rfl, Nat.le_of_ble_eq_true rfl⟩ rfl rfl (wM_e0 ad cy σ11) rfl hl rfl (Nat.le_of_ble_eq_true rfl) dX12_plain_124 ⟨Nat.zero_le _, Nat.zero_le _⟩ (fun H locs hI => ?_)
    refine lv_iload_n hx hb dX12_plain_127 rfl (lv_at hl 0 rfl) ?_
    refine lv_bipush (v := 6) hx hb dX12_plain_128 (by decide) ?_
    refine lv_icmp_ne (tgt := 138) hx hb dX12_plain_130 (by decide) (fun q => ?_) (fun q => ?_)
    · replace hf := zif_f q hf
      refine lv_iconst (v := 4) hx hb dX12_plain_138 (by decide) ?_
      exact bX12_plain_r1_139 hC  hI (lv_sub hl [] rfl) hf
    replace hf := zif_t q hf
    refine lv_bipush (v := 7) hx hb dX12_plain_133 (by decide) ?_
    refine lv_goto (tgt := 139) hx hb dX12_plain_135 (by decide) ?_
    exact bX12_plain_r1_139 hC  hI (lv_sub hl [] rfl) hf
  replace hf := zif_f q2 hf
  refine lv_tableOut (tgt := 140) hx hb dX12_plain_16 (zsw (fun k h1 h2 => by rcases (show k = 0 ∨ k = 1 ∨ k = 2 by omega) with rfl | rfl | rfl <;> assumption)) (by decide) ?_
  refine lv_iload_n hx hb dX12_plain_140 rfl (lv_at hl 0 rfl) ?_
  refine lv_iconst (v := 4) hx hb dX12_plain_141 (by decide) ?_
  refine lv_icmp_ge (tgt := 154) hx hb dX12_plain_142 (by decide) (fun q => ?_) (fun q => ?_)
  · replace hf := zif_t q hf
    refine lv_aload_n hx hb dX12_plain_154 rfl (lv_at hl 2 rfl) ?_
    refine lv_iload_n hx hb dX12_plain_155 rfl (lv_at hl 1 rfl) ?_
    refine lv_iload_n hx hb dX12_plain_156 rfl (lv_at hl 0 rfl) ?_
    obtain ⟨σ14, v15, g14, hf⟩ := zbi_use hf
    refine z_callVi (As := [.int v1, .int v2]) (rest := []) hC hI (cX12_more3_r1_met st l D ad cy σ v1 v2 _ g14) (zgV zw57_22 zw57_23 zw58_0 zw1_5 zw58_1) rfl ⟨rfl, rfl⟩ 2 hdX12_more3_r1 ⟨Nat.le_of_ble_eq_true rfl, Nat.le_of_ble_eq_true rfl⟩ rfl rfl (wM_e0 ad cy σ) rfl hl rfl (Nat.le_of_ble_eq_true rfl) dX12_plain_157 ⟨Nat.zero_le _, Nat.zero_le _⟩ (fun H locs hI => ?_)
    exact bX12_plain_r1_160 hC  hI (lv_sub hl [] rfl) hf
  replace hf := zif_f q hf
  refine lv_aload_n hx hb dX12_plain_145 rfl (lv_at hl 2 rfl) ?_
  refine lv_iload_n hx hb dX12_plain_146 rfl (lv_at hl 1 rfl) ?_
  refine lv_iload_n hx hb dX12_plain_147 rfl (lv_at hl 0 rfl) ?_
  obtain ⟨σ16, v17, g16, hf⟩ := zbi_use hf
  refine z_callVi (As := [.int v1, .int v2]) (rest := []) hC hI (cX12_three_met st l D ad cy σ v1 v2 _ g16) (zgV zw54_17 zw54_18 zw54_19 zw1_5 zw54_20) rfl ⟨rfl, rfl⟩ 2 hdX12_three ⟨Nat.le_of_ble_eq_true rfl, Nat.le_of_ble_eq_true rfl⟩ rfl rfl (wM_e0 ad cy σ) rfl hl rfl (Nat.le_of_ble_eq_true rfl) dX12_plain_148 ⟨Nat.zero_le _, Nat.zero_le _⟩ (fun H locs hI => ?_)
  refine lv_goto (tgt := 160) hx hb dX12_plain_151 (by decide) ?_
  exact bX12_plain_r1_160 hC  hI (lv_sub hl [] rfl) hf
set_option maxRecDepth 20000 in
theorem cX12_plain_r1_met (st : Nat → Nat) (l : Launch) (D : va_G) (ad : Nat → Nat) (cy : Nat → ClassId) (σ : zSt) (x1 : Int32) (res : zSt × Int32) (hf : fX12_plain_r1 σ x1 = some res) (sz : Nat) : zMi st l yX12_plain wzX12_plain rmX12_plain_r1 [.ref (ad 0), .int x1] D (tM cy) (wM ad cy) sz σ res :=
  zMi.of (cc := cX12_plain) (maxL := 4) (ret := (some .int)) (by decide) rfl (Nat.le_of_ble_eq_true rfl) (fun p e s m args below meth c hC A hI ls hl => bX12_plain_r1 hC hI hl hf)
theorem hdX12_plain_r1 : yX12_plain.cls = RX12 ∧ yX12_plain.cls ≠ "java/lang/invoke/MethodHandle" ∧ yX12_plain.cls ≠ "java/lang/invoke/VarHandle" ∧ (parseMethodDescriptor yX12_plain.desc).map (fun d => d.parameters.length) = some 1 := by decide +kernel
def rmX12_prefixed : Room := { frames := 9, cells := 0, slots := 0, locals := 209 }
theorem hinX12_prefixed_X120 : ∀ w ∈ wsX120, w ∈ wzX12_prefixed := fun w h => List.mem_cons_of_mem _ (inlX12 w h)
def fX12_prefixed_33  (σ : zSt)  : Option (zSt × Int32) :=
  zck (zin 27 1048) (zbv (zsi σ 3 ((27 : Int32).toNatClampNeg) 1) (fun σ1 =>
  some (σ1, 4)))
def fX12_prefixed_154  (σ : zSt) (s0 : Int32) : Option (zSt × Int32) :=
  some (σ, s0)
def fX12_prefixed_135  (σ : zSt) (x4 : Int32) (x5 : Int32) : Option (zSt × Int32) :=
  if (x4 >>> ((6 : Int32) &&& 31)) = 1 then fX12_prefixed_154 σ 20 else
  fX12_prefixed_154 σ (x5 + 8)
def fX12_prefixed_311  (σ : zSt) (s0 : Int32) (s1 : Int32) : Option (zSt × Int32) :=
  some (σ, s1 + s0)
def fX12_prefixed_244  (σ : zSt) (x1 : Int32) (x3 : Int32) (s0 : Int32) : Option (zSt × Int32) :=
  if s0 = 0 then zbv (zsi σ 0 31 x1) (fun σ10 =>
  zbi (fX12_plain_r1 σ10 x3) (fun σ11 v12 =>
  some (σ11, v12 + 4))) else
  zck (zin x1 1048) (
  zbi (fX12_next σ ) (fun σ2 v3 =>
  zbi (fX12_signed σ2 v3) (fun σ4 v5 =>
  zck (zin 20 1048) (zbv (zsi σ4 3 ((20 : Int32).toNatClampNeg) (((zgi σ 3 x1.toNatClampNeg) + v5) &&& 65535)) (fun σ6 =>
  zck (zbo 1) (zbv (zsi σ6 0 32 1) (fun σ7 =>
  zbi (fX12_plain_r1 σ7 x3) (fun σ8 v9 =>
  if x3 = 54 then fX12_prefixed_311 σ8 9 v9 else
  fX12_prefixed_311 σ8 12 v9))))))))
def fX12_prefixed_243  (σ : zSt) (x1 : Int32) (x3 : Int32) : Option (zSt × Int32) :=
  fX12_prefixed_244 σ x1 x3 0
def fX12_prefixed_239  (σ : zSt) (x1 : Int32) (x3 : Int32) : Option (zSt × Int32) :=
  fX12_prefixed_244 σ x1 x3 1
def fX12_prefixed_226  (σ : zSt) (x1 : Int32) (x3 : Int32) (x5 : Int32) (x6 : Int32) : Option (zSt × Int32) :=
  if x6 = 2 then if x5 = 6 then fX12_prefixed_239 σ x1 x3 else
  fX12_prefixed_243 σ x1 x3 else
  fX12_prefixed_243 σ x1 x3
def fX12_prefixed_220  (σ : zSt) (x1 : Int32) (x3 : Int32) (x5 : Int32) (x6 : Int32) : Option (zSt × Int32) :=
  if x3 = 118 then fX12_prefixed_226 σ x1 x3 x5 x6 else
  fX12_prefixed_239 σ x1 x3
def fX12_prefixed_200  (σ : zSt) (x1 : Int32) (x3 : Int32) (x4 : Int32) (x5 : Int32) (x6 : Int32) : Option (zSt × Int32) :=
  if x6 = 1 then if x4 = 6 then fX12_prefixed_220 σ x1 x3 x5 x6 else
  if x5 = 6 then fX12_prefixed_220 σ x1 x3 x5 x6 else
  fX12_prefixed_226 σ x1 x3 x5 x6 else
  fX12_prefixed_226 σ x1 x3 x5 x6
def fX12_prefixed  (σ : zSt) (x1 : Int32) : Option (zSt × Int32) :=
  zck (zin 19 1048) (
  zbi (fX12_read σ (zgi σ 3 (19 : Int32).toNatClampNeg)) (fun σ13 v14 =>
  if v14 = 221 then fX12_prefixed_33 σ13 else
  if v14 = 237 then fX12_prefixed_33 σ13 else
  if v14 = 253 then fX12_prefixed_33 σ13 else
  zbi (fX12_fetch σ13 ) (fun σ15 v16 =>
  if v16 = 203 then zck (zin x1 1048) (
  zbi (fX12_next σ15 ) (fun σ20 v21 =>
  zbi (fX12_signed σ20 v21) (fun σ22 v23 =>
  zck (zin 20 1048) (zbv (zsi σ22 3 ((20 : Int32).toNatClampNeg) (((zgi σ15 3 x1.toNatClampNeg) + v23) &&& 65535)) (fun σ24 =>
  zck (zbo 1) (zbv (zsi σ24 0 32 1) (fun σ25 =>
  zbi (fX12_next σ25 ) (fun σ26 v27 =>
  zbi (fX12_turn σ26 v27) (fun σ28 v29 =>
  if (v27 >>> ((6 : Int32) &&& 31)) = 1 then fX12_prefixed_135 σ28 v27 v29 else
  if (v27 &&& 7) = 6 then fX12_prefixed_135 σ28 v27 v29 else
  zck (zbo 0) (zbv (zsi σ28 0 32 0) (fun σ30 =>
  zbu (fX12_rTo σ30 (v27 &&& 7) (zgi σ30 0 33)) (fun σ31 =>
  fX12_prefixed_135 σ31 v27 v29)))))))))))) else
  zbv ((v16 >>> ((3 : Int32) &&& 31)) &&& 7) (fun v17 =>
  zbv (v16 &&& 7) (fun v18 =>
  zbv (v16 >>> ((6 : Int32) &&& 31)) (fun v19 =>
  if v19 = 0 then if v18 ≤ 3 then fX12_prefixed_200 σ15 x1 v16 v17 v18 v19 else
  if 7 ≤ v18 then fX12_prefixed_200 σ15 x1 v16 v17 v18 v19 else
  if v17 = 6 then fX12_prefixed_239 σ15 x1 v16 else
  fX12_prefixed_200 σ15 x1 v16 v17 v18 v19 else
  fX12_prefixed_200 σ15 x1 v16 v17 v18 v19))))))
set_option maxRecDepth 20000 in
set_option maxHeartbeats 4000000 in
theorem bX12_prefixed_33 {st : Nat → Nat} {p : Program} {l : Launch} {e : Env} {s : State} {m : MethodId} {args : Array Value} {below : List Frame} {meth : Method} {c : Code} {D : va_G} {A : Nat → Prop} {ad : Nat → Nat} {cy : Nat → ClassId} (hC : zC p m c cX12_prefixed 8 s args wzX12_prefixed RX12 meth (some .int))  {res : zSt × Int32} {H : Heap} {locs : List Loc} {σ : zSt} {ls : Array Slot}  (hI : zI st D (tM cy) (wM ad cy σ) A s H locs) (hl : lv_has ls 8 [(0, .ref (ad 0))]) (hf : fX12_prefixed_33  σ  = some res) : W p l e rmX12_prefixed s m args below meth c H locs 0 0 (zQi below args s D (tM cy) (wM ad cy) A res) (F0 m 33 ls []) := by
  have hx := hC.1
  have hb := hC.2.1
  unfold fX12_prefixed_33 at hf
  refine lv_aload_n hx hb dX12_prefixed_33 rfl (lv_at hl 0 rfl) ?_
  refine z_get hC hI hinX12_prefixed_X120 0 (wM_e0 ad cy σ) rfl 10 (by decide) (List.mem_cons_of_mem _ zw9_7) rfl dX12_prefixed_34 ?_
  refine lv_bipush (v := 27) hx hb dX12_prefixed_37 (by decide) ?_
  refine lv_iconst (v := 1) hx hb dX12_prefixed_39 (by decide) ?_
  obtain ⟨q, hf⟩ := zck_use hf
  obtain ⟨σ1, eσ1⟩ : ∃ z, z = zsi σ 3 ((27 : Int32).toNatClampNeg) 1 := ⟨_, rfl⟩
  replace hf := zbv_use eσ1 hf
  refine z_iast hC hI 3 2 (wM_e3 ad cy σ) (tM_t3 cy) q ((wM_s3 ad cy σ _ _).trans (congrArg (wM ad cy) eσ1.symm)) dX12_prefixed_40 (fun H locs hI => ?_)
  refine lv_iconst (v := 4) hx hb dX12_prefixed_41 (by decide) ?_
  exact z_ireturn hC hI hf dX12_prefixed_42
set_option maxRecDepth 20000 in
set_option maxHeartbeats 4000000 in
theorem bX12_prefixed_154 {st : Nat → Nat} {p : Program} {l : Launch} {e : Env} {s : State} {m : MethodId} {args : Array Value} {below : List Frame} {meth : Method} {c : Code} {D : va_G} {A : Nat → Prop} {ad : Nat → Nat} {cy : Nat → ClassId} (hC : zC p m c cX12_prefixed 8 s args wzX12_prefixed RX12 meth (some .int))  {res : zSt × Int32} {H : Heap} {locs : List Loc} {σ : zSt} {ls : Array Slot} {s0 : Int32} (hI : zI st D (tM cy) (wM ad cy σ) A s H locs) (hl : lv_has ls 8 []) (hf : fX12_prefixed_154  σ s0 = some res) : W p l e rmX12_prefixed s m args below meth c H locs 0 0 (zQi below args s D (tM cy) (wM ad cy) A res) (F0 m 154 ls [.int s0]) := by
  have hx := hC.1
  have hb := hC.2.1
  unfold fX12_prefixed_154 at hf
  exact z_ireturn hC hI hf dX12_prefixed_154
set_option maxRecDepth 20000 in
set_option maxHeartbeats 4000000 in
theorem bX12_prefixed_135 {st : Nat → Nat} {p : Program} {l : Launch} {e : Env} {s : State} {m : MethodId} {args : Array Value} {below : List Frame} {meth : Method} {c : Code} {D : va_G} {A : Nat → Prop} {ad : Nat → Nat} {cy : Nat → ClassId} (hC : zC p m c cX12_prefixed 8 s args wzX12_prefixed RX12 meth (some .int))  {res : zSt × Int32} {H : Heap} {locs : List Loc} {σ : zSt} {ls : Array Slot} {x4 : Int32} {x5 : Int32} (hI : zI st D (tM cy) (wM ad cy σ) A s H locs) (hl : lv_has ls 8 [(4, .int x4), (5, .int x5)]) (hf : fX12_prefixed_135  σ x4 x5 = some res) : W p l e rmX12_prefixed s m args below meth c H locs 0 0 (zQi below args s D (tM cy) (wM ad cy) A res) (F0 m 135 ls []) := by
  have hx := hC.1
  have hb := hC.2.1
  unfold fX12_prefixed_135 at hf
  refine lv_iload hx hb dX12_prefixed_135 (lv_at hl 0 rfl) ?_
  refine lv_bipush (v := 6) hx hb dX12_prefixed_137 (by decide) ?_
  refine lv_ishr hx hb dX12_prefixed_139 ?_
  refine lv_iconst (v := 1) hx hb dX12_prefixed_140 (by decide) ?_
  refine lv_icmp_ne (tgt := 149) hx hb dX12_prefixed_141 (by decide) (fun q => ?_) (fun q => ?_)
  · replace hf := zif_f q hf
    refine lv_iload hx hb dX12_prefixed_149 (lv_at hl 1 rfl) ?_
    refine lv_bipush (v := 8) hx hb dX12_prefixed_151 (by decide) ?_
    refine lv_iadd hx hb dX12_prefixed_153 ?_
    exact bX12_prefixed_154 hC  hI (lv_sub hl [] rfl) hf
  replace hf := zif_t q hf
  refine lv_bipush (v := 20) hx hb dX12_prefixed_144 (by decide) ?_
  refine lv_goto (tgt := 154) hx hb dX12_prefixed_146 (by decide) ?_
  exact bX12_prefixed_154 hC  hI (lv_sub hl [] rfl) hf
set_option maxRecDepth 20000 in
set_option maxHeartbeats 4000000 in
theorem bX12_prefixed_311 {st : Nat → Nat} {p : Program} {l : Launch} {e : Env} {s : State} {m : MethodId} {args : Array Value} {below : List Frame} {meth : Method} {c : Code} {D : va_G} {A : Nat → Prop} {ad : Nat → Nat} {cy : Nat → ClassId} (hC : zC p m c cX12_prefixed 8 s args wzX12_prefixed RX12 meth (some .int))  {res : zSt × Int32} {H : Heap} {locs : List Loc} {σ : zSt} {ls : Array Slot} {s0 : Int32} {s1 : Int32} (hI : zI st D (tM cy) (wM ad cy σ) A s H locs) (hl : lv_has ls 8 []) (hf : fX12_prefixed_311  σ s0 s1 = some res) : W p l e rmX12_prefixed s m args below meth c H locs 0 0 (zQi below args s D (tM cy) (wM ad cy) A res) (F0 m 311 ls [.int s0, .int s1]) := by
  have hx := hC.1
  have hb := hC.2.1
  unfold fX12_prefixed_311 at hf
  refine lv_iadd hx hb dX12_prefixed_311 ?_
  exact z_ireturn hC hI hf dX12_prefixed_312
set_option maxRecDepth 20000 in
set_option maxHeartbeats 4000000 in
theorem bX12_prefixed_244 {st : Nat → Nat} {p : Program} {l : Launch} {e : Env} {s : State} {m : MethodId} {args : Array Value} {below : List Frame} {meth : Method} {c : Code} {D : va_G} {A : Nat → Prop} {ad : Nat → Nat} {cy : Nat → ClassId} (hC : zC p m c cX12_prefixed 8 s args wzX12_prefixed RX12 meth (some .int))  {res : zSt × Int32} {H : Heap} {locs : List Loc} {σ : zSt} {ls : Array Slot} {x1 : Int32} {x3 : Int32} {s0 : Int32} (hI : zI st D (tM cy) (wM ad cy σ) A s H locs) (hl : lv_has ls 8 [(0, .ref (ad 0)), (1, .int x1), (3, .int x3)]) (hf : fX12_prefixed_244  σ x1 x3 s0 = some res) : W p l e rmX12_prefixed s m args below meth c H locs 0 0 (zQi below args s D (tM cy) (wM ad cy) A res) (F0 m 244 ls [.int s0]) := by
  have hx := hC.1
  have hb := hC.2.1
  unfold fX12_prefixed_244 at hf
  refine lv_istore (lv' := [(7, .int s0), (0, .ref (ad 0)), (1, .int x1), (3, .int x3)]) hx hb dX12_prefixed_244 hl (by decide) rfl (fun ls hl => ?_)
  refine lv_iload hx hb dX12_prefixed_246 (lv_at hl 0 rfl) ?_
  refine lv_if_ne (tgt := 264) hx hb dX12_prefixed_248 (by decide) (fun q => ?_) (fun q => ?_)
  · replace hf := zif_f q hf
    refine lv_aload_n hx hb dX12_prefixed_264 rfl (lv_at hl 1 rfl) ?_
    refine z_get hC hI hinX12_prefixed_X120 0 (wM_e0 ad cy σ) rfl 10 (by decide) (List.mem_cons_of_mem _ zw9_7) rfl dX12_prefixed_265 ?_
    refine lv_bipush (v := 20) hx hb dX12_prefixed_268 (by decide) ?_
    refine lv_aload_n hx hb dX12_prefixed_270 rfl (lv_at hl 1 rfl) ?_
    refine z_get hC hI hinX12_prefixed_X120 0 (wM_e0 ad cy σ) rfl 10 (by decide) (List.mem_cons_of_mem _ zw9_7) rfl dX12_prefixed_271 ?_
    refine lv_iload_n hx hb dX12_prefixed_274 rfl (lv_at hl 2 rfl) ?_
    obtain ⟨q, hf⟩ := zck_use hf
    refine z_iald hC hI 3 2 (wM_e3 ad cy σ) (tM_t3 cy) q dX12_prefixed_275 ?_
    refine lv_aload_n hx hb dX12_prefixed_276 rfl (lv_at hl 1 rfl) ?_
    obtain ⟨σ2, v3, g2, hf⟩ := zbi_use hf
    refine z_callVi (As := []) (rest := [.int (zgi σ 3 x1.toNatClampNeg), .int 20, .ref (ad 3)]) hC hI (cX12_next_met st l D ad cy σ  _ g2) (zgV zw50_2 zw50_3 zw50_4 zw1_5 zw50_5) rfl ⟨rfl, rfl⟩ 0 hdX12_next ⟨Nat.le_of_ble_eq_true rfl, Nat.le_of_ble_eq_true rfl⟩ rfl rfl (wM_e0 ad cy σ) rfl hl rfl (Nat.le_of_ble_eq_true rfl) dX12_prefixed_277 ⟨Nat.zero_le _, Nat.zero_le _⟩ (fun H locs hI => ?_)
    obtain ⟨σ4, v5, g4, hf⟩ := zbi_use hf
    refine z_callSi (As := [.int v3]) (rest := [.int (zgi σ 3 x1.toNatClampNeg), .int 20, .ref (ad 3)]) hC hI (cX12_signed_met st l D ad cy σ2 v3 _ g4) (zgS zw50_18 zw50_19 zw1_5 zw50_20) rfl ⟨rfl, rfl⟩ 1 hdX12_signed ⟨Nat.le_of_ble_eq_true rfl, Nat.le_of_ble_eq_true rfl⟩ rfl hl rfl (Nat.le_of_ble_eq_true rfl) dX12_prefixed_280 ⟨Nat.zero_le _, Nat.zero_le _⟩ (fun H locs hI => ?_)
    refine lv_iadd hx hb dX12_prefixed_283 ?_
    refine lv_ldc (v := 65535) hx hb hC.2.2.2.1 (hC.2.2.2.2.1 _ (List.mem_cons_of_mem _ zw16_11)) dX12_prefixed_284 ?_
    refine lv_iand hx hb dX12_prefixed_286 ?_
    obtain ⟨q, hf⟩ := zck_use hf
    obtain ⟨σ6, eσ6⟩ : ∃ z, z = zsi σ4 3 ((20 : Int32).toNatClampNeg) (((zgi σ 3 x1.toNatClampNeg) + v5) &&& 65535) := ⟨_, rfl⟩
    replace hf := zbv_use eσ6 hf
    refine z_iast hC hI 3 2 (wM_e3 ad cy σ4) (tM_t3 cy) q ((wM_s3 ad cy σ4 _ _).trans (congrArg (wM ad cy) eσ6.symm)) dX12_prefixed_287 (fun H locs hI => ?_)
    refine lv_aload_n hx hb dX12_prefixed_288 rfl (lv_at hl 1 rfl) ?_
    refine lv_iconst (v := 1) hx hb dX12_prefixed_289 (by decide) ?_
    obtain ⟨q, hf⟩ := zck_use hf
    obtain ⟨σ7, eσ7⟩ : ∃ z, z = zsi σ6 0 32 1 := ⟨_, rfl⟩
    replace hf := zbv_use eσ7 hf
    refine z_put hC hI hinX12_prefixed_X120 tyX12_ok nmX12 0 (wM_e0 ad cy σ6) rfl 32 (by decide) (List.mem_cons_of_mem _ zw49_21) rfl (zbo_n q) (zbo_f q) (Nat.le_of_ble_eq_true rfl) ((wM_s0_32 ad cy σ6 1).trans (congrArg (wM ad cy) eσ7.symm)) dX12_prefixed_290 (fun H locs hI => ?_)
    refine lv_aload_n hx hb dX12_prefixed_293 rfl (lv_at hl 1 rfl) ?_
    refine lv_iload_n hx hb dX12_prefixed_294 rfl (lv_at hl 3 rfl) ?_
    obtain ⟨σ8, v9, g8, hf⟩ := zbi_use hf
    refine z_callVi (As := [.int x3]) (rest := []) hC hI (cX12_plain_r1_met st l D ad cy σ7 x3 _ g8) (zgV zw50_6 zw50_7 zw50_8 zw1_5 zw50_9) rfl ⟨rfl, rfl⟩ 1 hdX12_plain_r1 ⟨Nat.le_of_ble_eq_true rfl, Nat.le_of_ble_eq_true rfl⟩ rfl rfl (wM_e0 ad cy σ7) rfl hl rfl (Nat.le_of_ble_eq_true rfl) dX12_prefixed_295 ⟨Nat.zero_le _, Nat.zero_le _⟩ (fun H locs hI => ?_)
    refine lv_iload_n hx hb dX12_prefixed_298 rfl (lv_at hl 3 rfl) ?_
    refine lv_bipush (v := 54) hx hb dX12_prefixed_299 (by decide) ?_
    refine lv_icmp_ne (tgt := 309) hx hb dX12_prefixed_301 (by decide) (fun q => ?_) (fun q => ?_)
    · replace hf := zif_f q hf
      refine lv_bipush (v := 12) hx hb dX12_prefixed_309 (by decide) ?_
      exact bX12_prefixed_311 hC  hI (lv_sub hl [] rfl) hf
    replace hf := zif_t q hf
    refine lv_bipush (v := 9) hx hb dX12_prefixed_304 (by decide) ?_
    refine lv_goto (tgt := 311) hx hb dX12_prefixed_306 (by decide) ?_
    exact bX12_prefixed_311 hC  hI (lv_sub hl [] rfl) hf
  replace hf := zif_t q hf
  refine lv_aload_n hx hb dX12_prefixed_251 rfl (lv_at hl 1 rfl) ?_
  refine lv_iload_n hx hb dX12_prefixed_252 rfl (lv_at hl 2 rfl) ?_
  obtain ⟨σ10, eσ10⟩ : ∃ z, z = zsi σ 0 31 x1 := ⟨_, rfl⟩
  replace hf := zbv_use eσ10 hf
  refine z_put hC hI hinX12_prefixed_X120 tyX12_ok nmX12 0 (wM_e0 ad cy σ) rfl 31 (by decide) (List.mem_cons_of_mem _ zw49_20) rfl rfl rfl (Nat.le_of_ble_eq_true rfl) ((wM_s0_31 ad cy σ x1).trans (congrArg (wM ad cy) eσ10.symm)) dX12_prefixed_253 (fun H locs hI => ?_)
  refine lv_aload_n hx hb dX12_prefixed_256 rfl (lv_at hl 1 rfl) ?_
  refine lv_iload_n hx hb dX12_prefixed_257 rfl (lv_at hl 3 rfl) ?_
  obtain ⟨σ11, v12, g11, hf⟩ := zbi_use hf
  refine z_callVi (As := [.int x3]) (rest := []) hC hI (cX12_plain_r1_met st l D ad cy σ10 x3 _ g11) (zgV zw50_6 zw50_7 zw50_8 zw1_5 zw50_9) rfl ⟨rfl, rfl⟩ 1 hdX12_plain_r1 ⟨Nat.le_of_ble_eq_true rfl, Nat.le_of_ble_eq_true rfl⟩ rfl rfl (wM_e0 ad cy σ10) rfl hl rfl (Nat.le_of_ble_eq_true rfl) dX12_prefixed_258 ⟨Nat.zero_le _, Nat.zero_le _⟩ (fun H locs hI => ?_)
  refine lv_iconst (v := 4) hx hb dX12_prefixed_261 (by decide) ?_
  refine lv_iadd hx hb dX12_prefixed_262 ?_
  exact z_ireturn hC hI hf dX12_prefixed_263
set_option maxRecDepth 20000 in
set_option maxHeartbeats 4000000 in
theorem bX12_prefixed_243 {st : Nat → Nat} {p : Program} {l : Launch} {e : Env} {s : State} {m : MethodId} {args : Array Value} {below : List Frame} {meth : Method} {c : Code} {D : va_G} {A : Nat → Prop} {ad : Nat → Nat} {cy : Nat → ClassId} (hC : zC p m c cX12_prefixed 8 s args wzX12_prefixed RX12 meth (some .int))  {res : zSt × Int32} {H : Heap} {locs : List Loc} {σ : zSt} {ls : Array Slot} {x1 : Int32} {x3 : Int32} (hI : zI st D (tM cy) (wM ad cy σ) A s H locs) (hl : lv_has ls 8 [(0, .ref (ad 0)), (1, .int x1), (3, .int x3)]) (hf : fX12_prefixed_243  σ x1 x3 = some res) : W p l e rmX12_prefixed s m args below meth c H locs 0 0 (zQi below args s D (tM cy) (wM ad cy) A res) (F0 m 243 ls []) := by
  have hx := hC.1
  have hb := hC.2.1
  unfold fX12_prefixed_243 at hf
  refine lv_iconst (v := 0) hx hb dX12_prefixed_243 (by decide) ?_
  exact bX12_prefixed_244 hC  hI hl hf
set_option maxRecDepth 20000 in
set_option maxHeartbeats 4000000 in
theorem bX12_prefixed_239 {st : Nat → Nat} {p : Program} {l : Launch} {e : Env} {s : State} {m : MethodId} {args : Array Value} {below : List Frame} {meth : Method} {c : Code} {D : va_G} {A : Nat → Prop} {ad : Nat → Nat} {cy : Nat → ClassId} (hC : zC p m c cX12_prefixed 8 s args wzX12_prefixed RX12 meth (some .int))  {res : zSt × Int32} {H : Heap} {locs : List Loc} {σ : zSt} {ls : Array Slot} {x1 : Int32} {x3 : Int32} (hI : zI st D (tM cy) (wM ad cy σ) A s H locs) (hl : lv_has ls 8 [(0, .ref (ad 0)), (1, .int x1), (3, .int x3)]) (hf : fX12_prefixed_239  σ x1 x3 = some res) : W p l e rmX12_prefixed s m args below meth c H locs 0 0 (zQi below args s D (tM cy) (wM ad cy) A res) (F0 m 239 ls []) := by
  have hx := hC.1
  have hb := hC.2.1
  unfold fX12_prefixed_239 at hf
  refine lv_iconst (v := 1) hx hb dX12_prefixed_239 (by decide) ?_
  refine lv_goto (tgt := 244) hx hb dX12_prefixed_240 (by decide) ?_
  exact bX12_prefixed_244 hC  hI hl hf
set_option maxRecDepth 20000 in
set_option maxHeartbeats 4000000 in
theorem bX12_prefixed_226 {st : Nat → Nat} {p : Program} {l : Launch} {e : Env} {s : State} {m : MethodId} {args : Array Value} {below : List Frame} {meth : Method} {c : Code} {D : va_G} {A : Nat → Prop} {ad : Nat → Nat} {cy : Nat → ClassId} (hC : zC p m c cX12_prefixed 8 s args wzX12_prefixed RX12 meth (some .int))  {res : zSt × Int32} {H : Heap} {locs : List Loc} {σ : zSt} {ls : Array Slot} {x1 : Int32} {x3 : Int32} {x5 : Int32} {x6 : Int32} (hI : zI st D (tM cy) (wM ad cy σ) A s H locs) (hl : lv_has ls 8 [(0, .ref (ad 0)), (1, .int x1), (3, .int x3), (5, .int x5), (6, .int x6)]) (hf : fX12_prefixed_226  σ x1 x3 x5 x6 = some res) : W p l e rmX12_prefixed s m args below meth c H locs 0 0 (zQi below args s D (tM cy) (wM ad cy) A res) (F0 m 226 ls []) := by
  have hx := hC.1
  have hb := hC.2.1
  unfold fX12_prefixed_226 at hf
  refine lv_iload hx hb dX12_prefixed_226 (lv_at hl 4 rfl) ?_
  refine lv_iconst (v := 2) hx hb dX12_prefixed_228 (by decide) ?_
  refine lv_icmp_ne (tgt := 243) hx hb dX12_prefixed_229 (by decide) (fun q => ?_) (fun q => ?_)
  · replace hf := zif_f q hf
    exact bX12_prefixed_243 hC  hI (lv_sub hl [0, 1, 2] rfl) hf
  replace hf := zif_t q hf
  refine lv_iload hx hb dX12_prefixed_232 (lv_at hl 3 rfl) ?_
  refine lv_bipush (v := 6) hx hb dX12_prefixed_234 (by decide) ?_
  refine lv_icmp_ne (tgt := 243) hx hb dX12_prefixed_236 (by decide) (fun q => ?_) (fun q => ?_)
  · replace hf := zif_f q hf
    exact bX12_prefixed_243 hC  hI (lv_sub hl [0, 1, 2] rfl) hf
  replace hf := zif_t q hf
  exact bX12_prefixed_239 hC  hI (lv_sub hl [0, 1, 2] rfl) hf
set_option maxRecDepth 20000 in
set_option maxHeartbeats 4000000 in
theorem bX12_prefixed_220 {st : Nat → Nat} {p : Program} {l : Launch} {e : Env} {s : State} {m : MethodId} {args : Array Value} {below : List Frame} {meth : Method} {c : Code} {D : va_G} {A : Nat → Prop} {ad : Nat → Nat} {cy : Nat → ClassId} (hC : zC p m c cX12_prefixed 8 s args wzX12_prefixed RX12 meth (some .int))  {res : zSt × Int32} {H : Heap} {locs : List Loc} {σ : zSt} {ls : Array Slot} {x1 : Int32} {x3 : Int32} {x5 : Int32} {x6 : Int32} (hI : zI st D (tM cy) (wM ad cy σ) A s H locs) (hl : lv_has ls 8 [(0, .ref (ad 0)), (1, .int x1), (3, .int x3), (5, .int x5), (6, .int x6)]) (hf : fX12_prefixed_220  σ x1 x3 x5 x6 = some res) : W p l e rmX12_prefixed s m args below meth c H locs 0 0 (zQi below args s D (tM cy) (wM ad cy) A res) (F0 m 220 ls []) := by
  have hx := hC.1
  have hb := hC.2.1
  unfold fX12_prefixed_220 at hf
  refine lv_iload_n hx hb dX12_prefixed_220 rfl (lv_at hl 2 rfl) ?_
  refine lv_bipush (v := 118) hx hb dX12_prefixed_221 (by decide) ?_
  refine lv_icmp_ne (tgt := 239) hx hb dX12_prefixed_223 (by decide) (fun q => ?_) (fun q => ?_)
  · replace hf := zif_f q hf
    exact bX12_prefixed_239 hC  hI (lv_sub hl [0, 1, 2] rfl) hf
  replace hf := zif_t q hf
  exact bX12_prefixed_226 hC  hI hl hf
set_option maxRecDepth 20000 in
set_option maxHeartbeats 4000000 in
theorem bX12_prefixed_200 {st : Nat → Nat} {p : Program} {l : Launch} {e : Env} {s : State} {m : MethodId} {args : Array Value} {below : List Frame} {meth : Method} {c : Code} {D : va_G} {A : Nat → Prop} {ad : Nat → Nat} {cy : Nat → ClassId} (hC : zC p m c cX12_prefixed 8 s args wzX12_prefixed RX12 meth (some .int))  {res : zSt × Int32} {H : Heap} {locs : List Loc} {σ : zSt} {ls : Array Slot} {x1 : Int32} {x3 : Int32} {x4 : Int32} {x5 : Int32} {x6 : Int32} (hI : zI st D (tM cy) (wM ad cy σ) A s H locs) (hl : lv_has ls 8 [(0, .ref (ad 0)), (1, .int x1), (3, .int x3), (4, .int x4), (5, .int x5), (6, .int x6)]) (hf : fX12_prefixed_200  σ x1 x3 x4 x5 x6 = some res) : W p l e rmX12_prefixed s m args below meth c H locs 0 0 (zQi below args s D (tM cy) (wM ad cy) A res) (F0 m 200 ls []) := by
  have hx := hC.1
  have hb := hC.2.1
  unfold fX12_prefixed_200 at hf
  refine lv_iload hx hb dX12_prefixed_200 (lv_at hl 5 rfl) ?_
  refine lv_iconst (v := 1) hx hb dX12_prefixed_202 (by decide) ?_
  refine lv_icmp_ne (tgt := 226) hx hb dX12_prefixed_203 (by decide) (fun q => ?_) (fun q => ?_)
  · replace hf := zif_f q hf
    exact bX12_prefixed_226 hC  hI (lv_sub hl [0, 1, 2, 4, 5] rfl) hf
  replace hf := zif_t q hf
  refine lv_iload hx hb dX12_prefixed_206 (lv_at hl 3 rfl) ?_
  refine lv_bipush (v := 6) hx hb dX12_prefixed_208 (by decide) ?_
  refine lv_icmp_eq (tgt := 220) hx hb dX12_prefixed_210 (by decide) (fun q => ?_) (fun q => ?_)
  · replace hf := zif_t q hf
    exact bX12_prefixed_220 hC  hI (lv_sub hl [0, 1, 2, 4, 5] rfl) hf
  replace hf := zif_f q hf
  refine lv_iload hx hb dX12_prefixed_213 (lv_at hl 4 rfl) ?_
  refine lv_bipush (v := 6) hx hb dX12_prefixed_215 (by decide) ?_
  refine lv_icmp_ne (tgt := 226) hx hb dX12_prefixed_217 (by decide) (fun q => ?_) (fun q => ?_)
  · replace hf := zif_f q hf
    exact bX12_prefixed_226 hC  hI (lv_sub hl [0, 1, 2, 4, 5] rfl) hf
  replace hf := zif_t q hf
  exact bX12_prefixed_220 hC  hI (lv_sub hl [0, 1, 2, 4, 5] rfl) hf
set_option maxRecDepth 20000 in
set_option maxHeartbeats 4000000 in
theorem bX12_prefixed {st : Nat → Nat} {p : Program} {l : Launch} {e : Env} {s : State} {m : MethodId} {args : Array Value} {below : List Frame} {meth : Method} {c : Code} {D : va_G} {A : Nat → Prop} {ad : Nat → Nat} {cy : Nat → ClassId} (hC : zC p m c cX12_prefixed 8 s args wzX12_prefixed RX12 meth (some .int))  {res : zSt × Int32} {H : Heap} {locs : List Loc} {σ : zSt} {ls : Array Slot} {x1 : Int32} (hI : zI st D (tM cy) (wM ad cy σ) A s H locs) (hl : lv_has ls 8 [(0, .ref (ad 0)), (1, .int x1)]) (hf : fX12_prefixed  σ x1 = some res) : W p l e rmX12_prefixed s m args below meth c H locs 0 0 (zQi below args s D (tM cy) (wM ad cy) A res) (F0 m 0 ls []) := by
  have hx := hC.1
  have hb := hC.2.1
  unfold fX12_prefixed at hf
  refine lv_aload_n hx hb dX12_prefixed_0 rfl (lv_at hl 0 rfl) ?_
  refine lv_aload_n hx hb dX12_prefixed_1 rfl (lv_at hl 0 rfl) ?_
  refine z_get hC hI hinX12_prefixed_X120 0 (wM_e0 ad cy σ) rfl 10 (by decide) (List.mem_cons_of_mem _ zw9_7) rfl dX12_prefixed_2 ?_
  refine lv_bipush (v := 19) hx hb dX12_prefixed_5 (by decide) ?_
  obtain ⟨q, hf⟩ := zck_use hf
  refine z_iald hC hI 3 2 (wM_e3 ad cy σ) (tM_t3 cy) q dX12_prefixed_7 ?_
  obtain ⟨σ13, v14, g13, hf⟩ := zbi_use hf
  refine z_callVi (As := [.int (zgi σ 3 (19 : Int32).toNatClampNeg)]) (rest := []) hC hI (cX12_read_met st l D ad cy σ (zgi σ 3 (19 : Int32).toNatClampNeg) _ g13) (zgV zw49_8 zw49_9 zw49_10 zw1_5 zw49_11) rfl ⟨rfl, rfl⟩ 1 hdX12_read ⟨Nat.le_of_ble_eq_true rfl, Nat.le_of_ble_eq_true rfl⟩ rfl rfl (wM_e0 ad cy σ) rfl hl rfl (Nat.le_of_ble_eq_true rfl) dX12_prefixed_8 ⟨Nat.zero_le _, Nat.zero_le _⟩ (fun H locs hI => ?_)
  refine lv_istore_n (lv' := [(2, .int v14), (0, .ref (ad 0)), (1, .int x1)]) hx hb dX12_prefixed_11 rfl hl (by decide) rfl (fun ls hl => ?_)
  refine lv_iload_n hx hb dX12_prefixed_12 rfl (lv_at hl 0 rfl) ?_
  refine lv_sipush (v := 221) hx hb dX12_prefixed_13 (by decide) ?_
  refine lv_icmp_eq (tgt := 33) hx hb dX12_prefixed_16 (by decide) (fun q => ?_) (fun q => ?_)
  · replace hf := zif_t q hf
    exact bX12_prefixed_33 hC  hI (lv_sub hl [1] rfl) hf
  replace hf := zif_f q hf
  refine lv_iload_n hx hb dX12_prefixed_19 rfl (lv_at hl 0 rfl) ?_
  refine lv_sipush (v := 237) hx hb dX12_prefixed_20 (by decide) ?_
  refine lv_icmp_eq (tgt := 33) hx hb dX12_prefixed_23 (by decide) (fun q => ?_) (fun q => ?_)
  · replace hf := zif_t q hf
    exact bX12_prefixed_33 hC  hI (lv_sub hl [1] rfl) hf
  replace hf := zif_f q hf
  refine lv_iload_n hx hb dX12_prefixed_26 rfl (lv_at hl 0 rfl) ?_
  refine lv_sipush (v := 253) hx hb dX12_prefixed_27 (by decide) ?_
  refine lv_icmp_ne (tgt := 43) hx hb dX12_prefixed_30 (by decide) (fun q => ?_) (fun q => ?_)
  · replace hf := zif_f q hf
    refine lv_aload_n hx hb dX12_prefixed_43 rfl (lv_at hl 1 rfl) ?_
    obtain ⟨σ15, v16, g15, hf⟩ := zbi_use hf
    refine z_callVi (As := []) (rest := []) hC hI (cX12_fetch_met st l D ad cy σ13  _ g15) (zgV zw49_22 zw49_23 zw50_0 zw1_5 zw50_1) rfl ⟨rfl, rfl⟩ 0 hdX12_fetch ⟨Nat.le_of_ble_eq_true rfl, Nat.le_of_ble_eq_true rfl⟩ rfl rfl (wM_e0 ad cy σ13) rfl hl rfl (Nat.le_of_ble_eq_true rfl) dX12_prefixed_44 ⟨Nat.zero_le _, Nat.zero_le _⟩ (fun H locs hI => ?_)
    refine lv_istore_n (lv' := [(3, .int v16), (2, .int v14), (0, .ref (ad 0)), (1, .int x1)]) hx hb dX12_prefixed_47 rfl hl (by decide) rfl (fun ls hl => ?_)
    refine lv_iload_n hx hb dX12_prefixed_48 rfl (lv_at hl 0 rfl) ?_
    refine lv_sipush (v := 203) hx hb dX12_prefixed_49 (by decide) ?_
    refine lv_icmp_ne (tgt := 155) hx hb dX12_prefixed_52 (by decide) (fun q => ?_) (fun q => ?_)
    · replace hf := zif_f q hf
      refine lv_iload_n hx hb dX12_prefixed_155 rfl (lv_at hl 0 rfl) ?_
      refine lv_iconst (v := 3) hx hb dX12_prefixed_156 (by decide) ?_
      refine lv_ishr hx hb dX12_prefixed_157 ?_
      refine lv_bipush (v := 7) hx hb dX12_prefixed_158 (by decide) ?_
      refine lv_iand hx hb dX12_prefixed_160 ?_
      refine lv_topi (fun v17 ev17 => ?_)
      replace hf := zbv_use ev17 hf
      refine lv_istore (lv' := [(4, .int v17), (3, .int v16), (2, .int v14), (0, .ref (ad 0)), (1, .int x1)]) hx hb dX12_prefixed_161 hl (by decide) rfl (fun ls hl => ?_)
      refine lv_iload_n hx hb dX12_prefixed_163 rfl (lv_at hl 1 rfl) ?_
      refine lv_bipush (v := 7) hx hb dX12_prefixed_164 (by decide) ?_
      refine lv_iand hx hb dX12_prefixed_166 ?_
      refine lv_topi (fun v18 ev18 => ?_)
      replace hf := zbv_use ev18 hf
      refine lv_istore (lv' := [(5, .int v18), (4, .int v17), (3, .int v16), (2, .int v14), (0, .ref (ad 0)), (1, .int x1)]) hx hb dX12_prefixed_167 hl (by decide) rfl (fun ls hl => ?_)
      refine lv_iload_n hx hb dX12_prefixed_169 rfl (lv_at hl 2 rfl) ?_
      refine lv_bipush (v := 6) hx hb dX12_prefixed_170 (by decide) ?_
      refine lv_ishr hx hb dX12_prefixed_172 ?_
      refine lv_topi (fun v19 ev19 => ?_)
      replace hf := zbv_use ev19 hf
      refine lv_istore (lv' := [(6, .int v19), (5, .int v18), (4, .int v17), (3, .int v16), (2, .int v14), (0, .ref (ad 0)), (1, .int x1)]) hx hb dX12_prefixed_173 hl (by decide) rfl (fun ls hl => ?_)
      refine lv_iload hx hb dX12_prefixed_175 (lv_at hl 0 rfl) ?_
      refine lv_if_ne (tgt := 200) hx hb dX12_prefixed_177 (by decide) (fun q => ?_) (fun q => ?_)
      · replace hf := zif_f q hf
        exact bX12_prefixed_200 hC  hI (lv_sub hl [5, 6, 3, 2, 1, 0] rfl) hf
      replace hf := zif_t q hf
      refine lv_iload hx hb dX12_prefixed_180 (lv_at hl 1 rfl) ?_
      refine lv_iconst (v := 3) hx hb dX12_prefixed_182 (by decide) ?_
      refine lv_icmp_le (tgt := 200) hx hb dX12_prefixed_183 (by decide) (fun q => ?_) (fun q => ?_)
      · replace hf := zif_t q hf
        exact bX12_prefixed_200 hC  hI (lv_sub hl [5, 6, 3, 2, 1, 0] rfl) hf
      replace hf := zif_f q hf
      refine lv_iload hx hb dX12_prefixed_186 (lv_at hl 1 rfl) ?_
      refine lv_bipush (v := 7) hx hb dX12_prefixed_188 (by decide) ?_
      refine lv_icmp_ge (tgt := 200) hx hb dX12_prefixed_190 (by decide) (fun q => ?_) (fun q => ?_)
      · replace hf := zif_t q hf
        exact bX12_prefixed_200 hC  hI (lv_sub hl [5, 6, 3, 2, 1, 0] rfl) hf
      replace hf := zif_f q hf
      refine lv_iload hx hb dX12_prefixed_193 (lv_at hl 2 rfl) ?_
      refine lv_bipush (v := 6) hx hb dX12_prefixed_195 (by decide) ?_
      refine lv_icmp_eq (tgt := 239) hx hb dX12_prefixed_197 (by decide) (fun q => ?_) (fun q => ?_)
      · replace hf := zif_t q hf
        exact bX12_prefixed_239 hC  hI (lv_sub hl [5, 6, 3] rfl) hf
      replace hf := zif_f q hf
      exact bX12_prefixed_200 hC  hI (lv_sub hl [5, 6, 3, 2, 1, 0] rfl) hf
    replace hf := zif_t q hf
    refine lv_aload_n hx hb dX12_prefixed_55 rfl (lv_at hl 2 rfl) ?_
    refine z_get hC hI hinX12_prefixed_X120 0 (wM_e0 ad cy σ15) rfl 10 (by decide) (List.mem_cons_of_mem _ zw9_7) rfl dX12_prefixed_56 ?_
    refine lv_bipush (v := 20) hx hb dX12_prefixed_59 (by decide) ?_
    refine lv_aload_n hx hb dX12_prefixed_61 rfl (lv_at hl 2 rfl) ?_
    refine z_get hC hI hinX12_prefixed_X120 0 (wM_e0 ad cy σ15) rfl 10 (by decide) (List.mem_cons_of_mem _ zw9_7) rfl dX12_prefixed_62 ?_
    refine lv_iload_n hx hb dX12_prefixed_65 rfl (lv_at hl 3 rfl) ?_
    obtain ⟨q, hf⟩ := zck_use hf
    refine z_iald hC hI 3 2 (wM_e3 ad cy σ15) (tM_t3 cy) q dX12_prefixed_66 ?_
    refine lv_aload_n hx hb dX12_prefixed_67 rfl (lv_at hl 2 rfl) ?_
    obtain ⟨σ20, v21, g20, hf⟩ := zbi_use hf
    refine z_callVi (As := []) (rest := [.int (zgi σ15 3 x1.toNatClampNeg), .int 20, .ref (ad 3)]) hC hI (cX12_next_met st l D ad cy σ15  _ g20) (zgV zw50_2 zw50_3 zw50_4 zw1_5 zw50_5) rfl ⟨rfl, rfl⟩ 0 hdX12_next ⟨Nat.le_of_ble_eq_true rfl, Nat.le_of_ble_eq_true rfl⟩ rfl rfl (wM_e0 ad cy σ15) rfl hl rfl (Nat.le_of_ble_eq_true rfl) dX12_prefixed_68 ⟨Nat.zero_le _, Nat.zero_le _⟩ (fun H locs hI => ?_)
    obtain ⟨σ22, v23, g22, hf⟩ := zbi_use hf
    refine z_callSi (As := [.int v21]) (rest := [.int (zgi σ15 3 x1.toNatClampNeg), .int 20, .ref (ad 3)]) hC hI (cX12_signed_met st l D ad cy σ20 v21 _ g22) (zgS zw50_18 zw50_19 zw1_5 zw50_20) rfl ⟨rfl, rfl⟩ 1 hdX12_signed ⟨Nat.le_of_ble_eq_true rfl, Nat.le_of_ble_eq_true rfl⟩ rfl hl rfl (Nat.le_of_ble_eq_true rfl) dX12_prefixed_71 ⟨Nat.zero_le _, Nat.zero_le _⟩ (fun H locs hI => ?_)
    refine lv_iadd hx hb dX12_prefixed_74 ?_
    refine lv_ldc (v := 65535) hx hb hC.2.2.2.1 (hC.2.2.2.2.1 _ (List.mem_cons_of_mem _ zw16_11)) dX12_prefixed_75 ?_
    refine lv_iand hx hb dX12_prefixed_77 ?_
    obtain ⟨q, hf⟩ := zck_use hf
    obtain ⟨σ24, eσ24⟩ : ∃ z, z = zsi σ22 3 ((20 : Int32).toNatClampNeg) (((zgi σ15 3 x1.toNatClampNeg) + v23) &&& 65535) := ⟨_, rfl⟩
    replace hf := zbv_use eσ24 hf
    refine z_iast hC hI 3 2 (wM_e3 ad cy σ22) (tM_t3 cy) q ((wM_s3 ad cy σ22 _ _).trans (congrArg (wM ad cy) eσ24.symm)) dX12_prefixed_78 (fun H locs hI => ?_)
    refine lv_aload_n hx hb dX12_prefixed_79 rfl (lv_at hl 2 rfl) ?_
    refine lv_iconst (v := 1) hx hb dX12_prefixed_80 (by decide) ?_
    obtain ⟨q, hf⟩ := zck_use hf
    obtain ⟨σ25, eσ25⟩ : ∃ z, z = zsi σ24 0 32 1 := ⟨_, rfl⟩
    replace hf := zbv_use eσ25 hf
    refine z_put hC hI hinX12_prefixed_X120 tyX12_ok nmX12 0 (wM_e0 ad cy σ24) rfl 32 (by decide) (List.mem_cons_of_mem _ zw49_21) rfl (zbo_n q) (zbo_f q) (Nat.le_of_ble_eq_true rfl) ((wM_s0_32 ad cy σ24 1).trans (congrArg (wM ad cy) eσ25.symm)) dX12_prefixed_81 (fun H locs hI => ?_)
    refine lv_aload_n hx hb dX12_prefixed_84 rfl (lv_at hl 2 rfl) ?_
    obtain ⟨σ26, v27, g26, hf⟩ := zbi_use hf
    refine z_callVi (As := []) (rest := []) hC hI (cX12_next_met st l D ad cy σ25  _ g26) (zgV zw50_2 zw50_3 zw50_4 zw1_5 zw50_5) rfl ⟨rfl, rfl⟩ 0 hdX12_next ⟨Nat.le_of_ble_eq_true rfl, Nat.le_of_ble_eq_true rfl⟩ rfl rfl (wM_e0 ad cy σ25) rfl hl rfl (Nat.le_of_ble_eq_true rfl) dX12_prefixed_85 ⟨Nat.zero_le _, Nat.zero_le _⟩ (fun H locs hI => ?_)
    refine lv_istore (lv' := [(4, .int v27), (3, .int v16), (2, .int v14), (0, .ref (ad 0)), (1, .int x1)]) hx hb dX12_prefixed_88 hl (by decide) rfl (fun ls hl => ?_)
    refine lv_aload_n hx hb dX12_prefixed_90 rfl (lv_at hl 3 rfl) ?_
    refine lv_iload hx hb dX12_prefixed_91 (lv_at hl 0 rfl) ?_
    obtain ⟨σ28, v29, g28, hf⟩ := zbi_use hf
    refine z_callVi (As := [.int v27]) (rest := []) hC hI (cX12_turn_met st l D ad cy σ26 v27 _ g28) (zgV zw55_5 zw55_6 zw55_7 zw1_5 zw55_8) rfl ⟨rfl, rfl⟩ 1 hdX12_turn ⟨Nat.le_of_ble_eq_true rfl, Nat.le_of_ble_eq_true rfl⟩ rfl rfl (wM_e0 ad cy σ26) rfl hl rfl (Nat.le_of_ble_eq_true rfl) dX12_prefixed_93 ⟨Nat.zero_le _, Nat.zero_le _⟩ (fun H locs hI => ?_)
    refine lv_istore (lv' := [(5, .int v29), (4, .int v27), (3, .int v16), (2, .int v14), (0, .ref (ad 0)), (1, .int x1)]) hx hb dX12_prefixed_96 hl (by decide) rfl (fun ls hl => ?_)
    refine lv_iload hx hb dX12_prefixed_98 (lv_at hl 1 rfl) ?_
    refine lv_bipush (v := 6) hx hb dX12_prefixed_100 (by decide) ?_
    refine lv_ishr hx hb dX12_prefixed_102 ?_
    refine lv_iconst (v := 1) hx hb dX12_prefixed_103 (by decide) ?_
    refine lv_icmp_eq (tgt := 135) hx hb dX12_prefixed_104 (by decide) (fun q => ?_) (fun q => ?_)
    · replace hf := zif_t q hf
      exact bX12_prefixed_135 hC  hI (lv_sub hl [1, 0] rfl) hf
    replace hf := zif_f q hf
    refine lv_iload hx hb dX12_prefixed_107 (lv_at hl 1 rfl) ?_
    refine lv_bipush (v := 7) hx hb dX12_prefixed_109 (by decide) ?_
    refine lv_iand hx hb dX12_prefixed_111 ?_
    refine lv_bipush (v := 6) hx hb dX12_prefixed_112 (by decide) ?_
    refine lv_icmp_eq (tgt := 135) hx hb dX12_prefixed_114 (by decide) (fun q => ?_) (fun q => ?_)
    · replace hf := zif_t q hf
      exact bX12_prefixed_135 hC  hI (lv_sub hl [1, 0] rfl) hf
    replace hf := zif_f q hf
    refine lv_aload_n hx hb dX12_prefixed_117 rfl (lv_at hl 4 rfl) ?_
    refine lv_iconst (v := 0) hx hb dX12_prefixed_118 (by decide) ?_
    obtain ⟨q, hf⟩ := zck_use hf
    obtain ⟨σ30, eσ30⟩ : ∃ z, z = zsi σ28 0 32 0 := ⟨_, rfl⟩
    replace hf := zbv_use eσ30 hf
    refine z_put hC hI hinX12_prefixed_X120 tyX12_ok nmX12 0 (wM_e0 ad cy σ28) rfl 32 (by decide) (List.mem_cons_of_mem _ zw49_21) rfl (zbo_n q) (zbo_f q) (Nat.le_of_ble_eq_true rfl) ((wM_s0_32 ad cy σ28 0).trans (congrArg (wM ad cy) eσ30.symm)) dX12_prefixed_119 (fun H locs hI => ?_)
    refine lv_aload_n hx hb dX12_prefixed_122 rfl (lv_at hl 4 rfl) ?_
    refine lv_iload hx hb dX12_prefixed_123 (lv_at hl 1 rfl) ?_
    refine lv_bipush (v := 7) hx hb dX12_prefixed_125 (by decide) ?_
    refine lv_iand hx hb dX12_prefixed_127 ?_
    refine lv_aload_n hx hb dX12_prefixed_128 rfl (lv_at hl 4 rfl) ?_
    refine z_get hC hI hinX12_prefixed_X120 0 (wM_e0 ad cy σ30) rfl 33 (by decide) (List.mem_cons_of_mem _ zw55_9) rfl dX12_prefixed_129 ?_
    obtain ⟨σ31, g31, hf⟩ := zbu_use hf
    refine z_callVu (As := [.int (v27 &&& 7), .int (zgi σ30 0 33)]) (rest := []) hC hI (cX12_rTo_met st l D ad cy σ30 (v27 &&& 7) (zgi σ30 0 33) _ g31) (zgV zw53_9 zw53_10 zw53_11 zw1_5 zw53_12) rfl ⟨rfl, rfl⟩ 2 hdX12_rTo ⟨Nat.le_of_ble_eq_true rfl, Nat.le_of_ble_eq_true rfl⟩ rfl rfl (wM_e0 ad cy σ30) rfl hl rfl (Nat.le_of_ble_eq_true rfl) dX12_prefixed_132 ⟨Nat.zero_le _, Nat.zero_le _⟩ (fun H locs hI => ?_)
    exact bX12_prefixed_135 hC  hI (lv_sub hl [1, 0] rfl) hf
  replace hf := zif_t q hf
  exact bX12_prefixed_33 hC  hI (lv_sub hl [1] rfl) hf
set_option maxRecDepth 20000 in
theorem cX12_prefixed_met (st : Nat → Nat) (l : Launch) (D : va_G) (ad : Nat → Nat) (cy : Nat → ClassId) (σ : zSt) (x1 : Int32) (res : zSt × Int32) (hf : fX12_prefixed σ x1 = some res) (sz : Nat) : zMi st l yX12_prefixed wzX12_prefixed rmX12_prefixed [.ref (ad 0), .int x1] D (tM cy) (wM ad cy) sz σ res :=
  zMi.of (cc := cX12_prefixed) (maxL := 8) (ret := (some .int)) (by decide) rfl (Nat.le_of_ble_eq_true rfl) (fun p e s m args below meth c hC A hI ls hl => bX12_prefixed hC hI hl hf)
theorem hdX12_prefixed : yX12_prefixed.cls = RX12 ∧ yX12_prefixed.cls ≠ "java/lang/invoke/MethodHandle" ∧ yX12_prefixed.cls ≠ "java/lang/invoke/VarHandle" ∧ (parseMethodDescriptor yX12_prefixed.desc).map (fun d => d.parameters.length) = some 1 := by decide +kernel
def rmX12_more3 : Room := { frames := 10, cells := 0, slots := 0, locals := 236 }
theorem hinX12_more3_X120 : ∀ w ∈ wsX120, w ∈ wzX12_more3 := fun w h => List.mem_cons_of_mem _ (inlX12 w h)
def fX12_more3_119  (σ : zSt) (s0 : Int32) : Option (zSt × Int32) :=
  zbu (fX12_push σ s0) (fun σ1 =>
  some (σ1, 11))
def fX12_more3_200  (σ : zSt) (s0 : Int32) : Option (zSt × Int32) :=
  some (σ, s0)
def fX12_more3_197  (σ : zSt) (s0 : Int32) : Option (zSt × Int32) :=
  zbi (fX12_prefixed σ s0) (fun σ2 v3 =>
  fX12_more3_200 σ2 v3)
def fX12_more3  (σ : zSt) (x1 : Int32) (x2 : Int32) : Option (zSt × Int32) :=
  zbv (x1 >>> ((1 : Int32) &&& 31)) (fun v4 =>
  if x2 = 4 then zbi (fX12_nextWord σ ) (fun σ22 v23 =>
  zck (zin 20 1048) (zbv (zsi σ22 3 ((20 : Int32).toNatClampNeg) v23) (fun σ24 =>
  zbi (fX12_cc σ24 x1) (fun σ25 v26 =>
  if v26 = 0 then some (σ25, 10) else
  zck (zin 19 1048) (
  zbu (fX12_push σ25 (zgi σ25 3 (19 : Int32).toNatClampNeg)) (fun σ27 =>
  zck (zin 20 1048) (
  zck (zin 19 1048) (zbv (zsi σ27 3 ((19 : Int32).toNatClampNeg) (zgi σ27 3 (20 : Int32).toNatClampNeg)) (fun σ28 =>
  some (σ28, 17)))))))))) else
  if x2 = 6 then zbi (fX12_next σ ) (fun σ19 v20 =>
  zbu (fX12_does σ19 x1 v20) (fun σ21 =>
  some (σ21, 7))) else
  if x2 = 7 then zbu (fX12_call σ (8 * x1)) (fun σ18 =>
  some (σ18, 11)) else
  zck (decide (¬ 2 = 0)) (
  if (zrem x1 2) = 0 then if v4 = 3 then zbi (fX12_pair σ 0) (fun σ16 v17 =>
  fX12_more3_119 σ16 v17) else
  zbi (fX12_rp σ v4) (fun σ14 v15 =>
  fX12_more3_119 σ14 v15) else
  if v4 = 0 then zbi (fX12_nextWord σ ) (fun σ9 v10 =>
  zck (zin 20 1048) (zbv (zsi σ9 3 ((20 : Int32).toNatClampNeg) v10) (fun σ11 =>
  zck (zin 19 1048) (
  zbu (fX12_push σ11 (zgi σ11 3 (19 : Int32).toNatClampNeg)) (fun σ12 =>
  zck (zin 20 1048) (
  zck (zin 19 1048) (zbv (zsi σ12 3 ((19 : Int32).toNatClampNeg) (zgi σ12 3 (20 : Int32).toNatClampNeg)) (fun σ13 =>
  some (σ13, 17))))))))) else
  if v4 = 2 then zbi (fX12_fetch σ ) (fun σ5 v6 =>
  zbi (fX12_more σ5 v6) (fun σ7 v8 =>
  fX12_more3_200 σ7 v8)) else
  if v4 = 1 then fX12_more3_197 σ 16 else
  fX12_more3_197 σ 17))
set_option maxRecDepth 20000 in
set_option maxHeartbeats 4000000 in
theorem bX12_more3_119 {st : Nat → Nat} {p : Program} {l : Launch} {e : Env} {s : State} {m : MethodId} {args : Array Value} {below : List Frame} {meth : Method} {c : Code} {D : va_G} {A : Nat → Prop} {ad : Nat → Nat} {cy : Nat → ClassId} (hC : zC p m c cX12_more3 4 s args wzX12_more3 RX12 meth (some .int))  {res : zSt × Int32} {H : Heap} {locs : List Loc} {σ : zSt} {ls : Array Slot} {s0 : Int32} (hI : zI st D (tM cy) (wM ad cy σ) A s H locs) (hl : lv_has ls 4 []) (hf : fX12_more3_119  σ s0 = some res) : W p l e rmX12_more3 s m args below meth c H locs 0 0 (zQi below args s D (tM cy) (wM ad cy) A res) (F0 m 119 ls [.int s0, .ref (ad 0)]) := by
  have hx := hC.1
  have hb := hC.2.1
  unfold fX12_more3_119 at hf
  obtain ⟨σ1, g1, hf⟩ := zbu_use hf
  refine z_callVu (As := [.int s0]) (rest := []) hC hI (cX12_push_met st l D ad cy σ s0 _ g1) (zgV zw48_1 zw48_2 zw48_3 zw1_5 zw48_4) rfl ⟨rfl, rfl⟩ 1 hdX12_push ⟨Nat.le_of_ble_eq_true rfl, Nat.le_of_ble_eq_true rfl⟩ rfl rfl (wM_e0 ad cy σ) rfl hl rfl (Nat.le_of_ble_eq_true rfl) dX12_more3_119 ⟨Nat.zero_le _, Nat.zero_le _⟩ (fun H locs hI => ?_)
  refine lv_bipush (v := 11) hx hb dX12_more3_122 (by decide) ?_
  exact z_ireturn hC hI hf dX12_more3_124
set_option maxRecDepth 20000 in
set_option maxHeartbeats 4000000 in
theorem bX12_more3_200 {st : Nat → Nat} {p : Program} {l : Launch} {e : Env} {s : State} {m : MethodId} {args : Array Value} {below : List Frame} {meth : Method} {c : Code} {D : va_G} {A : Nat → Prop} {ad : Nat → Nat} {cy : Nat → ClassId} (hC : zC p m c cX12_more3 4 s args wzX12_more3 RX12 meth (some .int))  {res : zSt × Int32} {H : Heap} {locs : List Loc} {σ : zSt} {ls : Array Slot} {s0 : Int32} (hI : zI st D (tM cy) (wM ad cy σ) A s H locs) (hl : lv_has ls 4 []) (hf : fX12_more3_200  σ s0 = some res) : W p l e rmX12_more3 s m args below meth c H locs 0 0 (zQi below args s D (tM cy) (wM ad cy) A res) (F0 m 200 ls [.int s0]) := by
  have hx := hC.1
  have hb := hC.2.1
  unfold fX12_more3_200 at hf
  exact z_ireturn hC hI hf dX12_more3_200
set_option maxRecDepth 20000 in
set_option maxHeartbeats 4000000 in
theorem bX12_more3_197 {st : Nat → Nat} {p : Program} {l : Launch} {e : Env} {s : State} {m : MethodId} {args : Array Value} {below : List Frame} {meth : Method} {c : Code} {D : va_G} {A : Nat → Prop} {ad : Nat → Nat} {cy : Nat → ClassId} (hC : zC p m c cX12_more3 4 s args wzX12_more3 RX12 meth (some .int))  {res : zSt × Int32} {H : Heap} {locs : List Loc} {σ : zSt} {ls : Array Slot} {s0 : Int32} (hI : zI st D (tM cy) (wM ad cy σ) A s H locs) (hl : lv_has ls 4 []) (hf : fX12_more3_197  σ s0 = some res) : W p l e rmX12_more3 s m args below meth c H locs 0 0 (zQi below args s D (tM cy) (wM ad cy) A res) (F0 m 197 ls [.int s0, .ref (ad 0)]) := by
  have hx := hC.1
  have hb := hC.2.1
  unfold fX12_more3_197 at hf
  obtain ⟨σ2, v3, g2, hf⟩ := zbi_use hf
  refine z_callVi (As := [.int s0]) (rest := []) hC hI (cX12_prefixed_met st l D ad cy σ s0 _ g2) (zgV zw58_18 zw58_19 zw58_20 zw1_5 zw58_21) rfl ⟨rfl, rfl⟩ 1 hdX12_prefixed ⟨Nat.le_of_ble_eq_true rfl, Nat.le_of_ble_eq_true rfl⟩ rfl rfl (wM_e0 ad cy σ) rfl hl rfl (Nat.le_of_ble_eq_true rfl) dX12_more3_197 ⟨Nat.zero_le _, Nat.zero_le _⟩ (fun H locs hI => ?_)
  exact bX12_more3_200 hC  hI hl hf
set_option maxRecDepth 20000 in
set_option maxHeartbeats 4000000 in
theorem bX12_more3 {st : Nat → Nat} {p : Program} {l : Launch} {e : Env} {s : State} {m : MethodId} {args : Array Value} {below : List Frame} {meth : Method} {c : Code} {D : va_G} {A : Nat → Prop} {ad : Nat → Nat} {cy : Nat → ClassId} (hC : zC p m c cX12_more3 4 s args wzX12_more3 RX12 meth (some .int))  {res : zSt × Int32} {H : Heap} {locs : List Loc} {σ : zSt} {ls : Array Slot} {x1 : Int32} {x2 : Int32} (hI : zI st D (tM cy) (wM ad cy σ) A s H locs) (hl : lv_has ls 4 [(0, .ref (ad 0)), (1, .int x1), (2, .int x2)]) (hf : fX12_more3  σ x1 x2 = some res) : W p l e rmX12_more3 s m args below meth c H locs 0 0 (zQi below args s D (tM cy) (wM ad cy) A res) (F0 m 0 ls []) := by
  have hx := hC.1
  have hb := hC.2.1
  unfold fX12_more3 at hf
  refine lv_iload_n hx hb dX12_more3_0 rfl (lv_at hl 1 rfl) ?_
  refine lv_iconst (v := 1) hx hb dX12_more3_1 (by decide) ?_
  refine lv_ishr hx hb dX12_more3_2 ?_
  refine lv_topi (fun v4 ev4 => ?_)
  replace hf := zbv_use ev4 hf
  refine lv_istore_n (lv' := [(3, .int v4), (0, .ref (ad 0)), (1, .int x1), (2, .int x2)]) hx hb dX12_more3_3 rfl hl (by decide) rfl (fun ls hl => ?_)
  refine lv_iload_n hx hb dX12_more3_4 rfl (lv_at hl 3 rfl) ?_
  refine lv_iconst (v := 4) hx hb dX12_more3_5 (by decide) ?_
  refine lv_icmp_ne (tgt := 59) hx hb dX12_more3_6 (by decide) (fun q => ?_) (fun q => ?_)
  · replace hf := zif_f q hf
    refine lv_iload_n hx hb dX12_more3_59 rfl (lv_at hl 3 rfl) ?_
    refine lv_bipush (v := 6) hx hb dX12_more3_60 (by decide) ?_
    refine lv_icmp_ne (tgt := 77) hx hb dX12_more3_62 (by decide) (fun q => ?_) (fun q => ?_)
    · replace hf := zif_f q hf
      refine lv_iload_n hx hb dX12_more3_77 rfl (lv_at hl 3 rfl) ?_
      refine lv_bipush (v := 7) hx hb dX12_more3_78 (by decide) ?_
      refine lv_icmp_ne (tgt := 94) hx hb dX12_more3_80 (by decide) (fun q => ?_) (fun q => ?_)
      · replace hf := zif_f q hf
        refine lv_iload_n hx hb dX12_more3_94 rfl (lv_at hl 2 rfl) ?_
        refine lv_iconst (v := 2) hx hb dX12_more3_95 (by decide) ?_
        obtain ⟨q, hf⟩ := zck_use hf
        refine z_irem hx hb dX12_more3_96 (of_decide_eq_true q) ?_
        refine lv_if_ne (tgt := 125) hx hb dX12_more3_97 (by decide) (fun q => ?_) (fun q => ?_)
        · replace hf := zif_f q hf
          refine lv_iload_n hx hb dX12_more3_125 rfl (lv_at hl 0 rfl) ?_
          refine lv_if_ne (tgt := 168) hx hb dX12_more3_126 (by decide) (fun q => ?_) (fun q => ?_)
          · replace hf := zif_f q hf
            refine lv_iload_n hx hb dX12_more3_168 rfl (lv_at hl 0 rfl) ?_
            refine lv_iconst (v := 2) hx hb dX12_more3_169 (by decide) ?_
            refine lv_icmp_ne (tgt := 184) hx hb dX12_more3_170 (by decide) (fun q => ?_) (fun q => ?_)
            · replace hf := zif_f q hf
              refine lv_aload_n hx hb dX12_more3_184 rfl (lv_at hl 1 rfl) ?_
              refine lv_iload_n hx hb dX12_more3_185 rfl (lv_at hl 0 rfl) ?_
              refine lv_iconst (v := 1) hx hb dX12_more3_186 (by decide) ?_
              refine lv_icmp_ne (tgt := 195) hx hb dX12_more3_187 (by decide) (fun q => ?_) (fun q => ?_)
              · replace hf := zif_f q hf
                refine lv_bipush (v := 17) hx hb dX12_more3_195 (by decide) ?_
                exact bX12_more3_197 hC  hI (lv_sub hl [] rfl) hf
              replace hf := zif_t q hf
              refine lv_bipush (v := 16) hx hb dX12_more3_190 (by decide) ?_
              refine lv_goto (tgt := 197) hx hb dX12_more3_192 (by decide) ?_
              exact bX12_more3_197 hC  hI (lv_sub hl [] rfl) hf
            replace hf := zif_t q hf
            refine lv_aload_n hx hb dX12_more3_173 rfl (lv_at hl 1 rfl) ?_
            refine lv_aload_n hx hb dX12_more3_174 rfl (lv_at hl 1 rfl) ?_
            obtain ⟨σ5, v6, g5, hf⟩ := zbi_use hf
            refine z_callVi (As := []) (rest := [.ref (ad 0)]) hC hI (cX12_fetch_met st l D ad cy σ  _ g5) (zgV zw49_22 zw49_23 zw50_0 zw1_5 zw50_1) rfl ⟨rfl, rfl⟩ 0 hdX12_fetch ⟨Nat.le_of_ble_eq_true rfl, Nat.le_of_ble_eq_true rfl⟩ rfl rfl (wM_e0 ad cy σ) rfl hl rfl (Nat.le_of_ble_eq_true rfl) dX12_more3_175 ⟨Nat.zero_le _, Nat.zero_le _⟩ (fun H locs hI => ?_)
            obtain ⟨σ7, v8, g7, hf⟩ := zbi_use hf
            refine z_callVi (As := [.int v6]) (rest := []) hC hI (cX12_more_met st l D ad cy σ5 v6 _ g7) (zgV zw58_2 zw58_3 zw58_4 zw1_5 zw58_5) rfl ⟨rfl, rfl⟩ 1 hdX12_more ⟨Nat.le_of_ble_eq_true rfl, Nat.le_of_ble_eq_true rfl⟩ rfl rfl (wM_e0 ad cy σ5) rfl hl rfl (Nat.le_of_ble_eq_true rfl) dX12_more3_178 ⟨Nat.zero_le _, Nat.zero_le _⟩ (fun H locs hI => ?_)
            refine lv_goto (tgt := 200) hx hb dX12_more3_181 (by decide) ?_
            exact bX12_more3_200 hC  hI (lv_sub hl [] rfl) hf
          replace hf := zif_t q hf
          refine lv_aload_n hx hb dX12_more3_129 rfl (lv_at hl 1 rfl) ?_
          refine z_get hC hI hinX12_more3_X120 0 (wM_e0 ad cy σ) rfl 10 (by decide) (List.mem_cons_of_mem _ zw9_7) rfl dX12_more3_130 ?_
          refine lv_bipush (v := 20) hx hb dX12_more3_133 (by decide) ?_
          refine lv_aload_n hx hb dX12_more3_135 rfl (lv_at hl 1 rfl) ?_
          obtain ⟨σ9, v10, g9, hf⟩ := zbi_use hf
          refine z_callVi (As := []) (rest := [.int 20, .ref (ad 3)]) hC hI (cX12_nextWord_met st l D ad cy σ  _ g9) (zgV zw51_9 zw51_10 zw51_11 zw1_5 zw51_12) rfl ⟨rfl, rfl⟩ 0 hdX12_nextWord ⟨Nat.le_of_ble_eq_true rfl, Nat.le_of_ble_eq_true rfl⟩ rfl rfl (wM_e0 ad cy σ) rfl hl rfl (Nat.le_of_ble_eq_true rfl) dX12_more3_136 ⟨Nat.zero_le _, Nat.zero_le _⟩ (fun H locs hI => ?_)
          obtain ⟨q, hf⟩ := zck_use hf
          obtain ⟨σ11, eσ11⟩ : ∃ z, z = zsi σ9 3 ((20 : Int32).toNatClampNeg) v10 := ⟨_, rfl⟩
          replace hf := zbv_use eσ11 hf
          refine z_iast hC hI 3 2 (wM_e3 ad cy σ9) (tM_t3 cy) q ((wM_s3 ad cy σ9 _ _).trans (congrArg (wM ad cy) eσ11.symm)) dX12_more3_139 (fun H locs hI => ?_)
          refine lv_aload_n hx hb dX12_more3_140 rfl (lv_at hl 1 rfl) ?_
          refine lv_aload_n hx hb dX12_more3_141 rfl (lv_at hl 1 rfl) ?_
          refine z_get hC hI hinX12_more3_X120 0 (wM_e0 ad cy σ11) rfl 10 (by decide) (List.mem_cons_of_mem _ zw9_7) rfl dX12_more3_142 ?_
          refine lv_bipush (v := 19) hx hb dX12_more3_145 (by decide) ?_
          obtain ⟨q, hf⟩ := zck_use hf
          refine z_iald hC hI 3 2 (wM_e3 ad cy σ11) (tM_t3 cy) q dX12_more3_147 ?_
          obtain ⟨σ12, g12, hf⟩ := zbu_use hf
          refine z_callVu (As := [.int (zgi σ11 3 (19 : Int32).toNatClampNeg)]) (rest := []) hC hI (cX12_push_met st l D ad cy σ11 (zgi σ11 3 (19 : Int32).toNatClampNeg) _ g12) (zgV zw48_1 zw48_2 zw48_3 zw1_5 zw48_4) rfl ⟨rfl, rfl⟩ 1 hdX12_push ⟨Nat.le_of_ble_eq_true rfl, Nat.le_of_ble_eq_true rfl⟩ rfl rfl (wM_e0 ad cy σ11) rfl hl rfl (Nat.le_of_ble_eq_true rfl) dX12_more3_148 ⟨Nat.zero_le _, Nat.zero_le _⟩ (fun H locs hI => ?_)
          refine lv_aload_n hx hb dX12_more3_151 rfl (lv_at hl 1 rfl) ?_
          refine z_get hC hI hinX12_more3_X120 0 (wM_e0 ad cy σ12) rfl 10 (by decide) (List.mem_cons_of_mem _ zw9_7) rfl dX12_more3_152 ?_
          refine lv_bipush (v := 19) hx hb dX12_more3_155 (by decide) ?_
          refine lv_aload_n hx hb dX12_more3_157 rfl (lv_at hl 1 rfl) ?_
          refine z_get hC hI hinX12_more3_X120 0 (wM_e0 ad cy σ12) rfl 10 (by decide) (List.mem_cons_of_mem _ zw9_7) rfl dX12_more3_158 ?_
          refine lv_bipush (v := 20) hx hb dX12_more3_161 (by decide) ?_
          obtain ⟨q, hf⟩ := zck_use hf
          refine z_iald hC hI 3 2 (wM_e3 ad cy σ12) (tM_t3 cy) q dX12_more3_163 ?_
          obtain ⟨q, hf⟩ := zck_use hf
          obtain ⟨σ13, eσ13⟩ : ∃ z, z = zsi σ12 3 ((19 : Int32).toNatClampNeg) (zgi σ12 3 (20 : Int32).toNatClampNeg) := ⟨_, rfl⟩
          replace hf := zbv_use eσ13 hf
          refine z_iast hC hI 3 2 (wM_e3 ad cy σ12) (tM_t3 cy) q ((wM_s3 ad cy σ12 _ _).trans (congrArg (wM ad cy) eσ13.symm)) dX12_more3_164 (fun H locs hI => ?_)
          refine lv_bipush (v := 17) hx hb dX12_more3_165 (by decide) ?_
          exact z_ireturn hC hI hf dX12_more3_167
        replace hf := zif_t q hf
        refine lv_aload_n hx hb dX12_more3_100 rfl (lv_at hl 1 rfl) ?_
        refine lv_iload_n hx hb dX12_more3_101 rfl (lv_at hl 0 rfl) ?_
        refine lv_iconst (v := 3) hx hb dX12_more3_102 (by decide) ?_
        refine lv_icmp_ne (tgt := 114) hx hb dX12_more3_103 (by decide) (fun q => ?_) (fun q => ?_)
        · replace hf := zif_f q hf
          refine lv_aload_n hx hb dX12_more3_114 rfl (lv_at hl 1 rfl) ?_
          refine lv_iload_n hx hb dX12_more3_115 rfl (lv_at hl 0 rfl) ?_
          obtain ⟨σ14, v15, g14, hf⟩ := zbi_use hf
          refine z_callVi (As := [.int v4]) (rest := [.ref (ad 0)]) hC hI (cX12_rp_met st l D ad cy σ v4 _ g14) (zgV zw52_9 zw52_10 zw52_11 zw1_5 zw52_12) rfl ⟨rfl, rfl⟩ 1 hdX12_rp ⟨Nat.le_of_ble_eq_true rfl, Nat.le_of_ble_eq_true rfl⟩ rfl rfl (wM_e0 ad cy σ) rfl hl rfl (Nat.le_of_ble_eq_true rfl) dX12_more3_116 ⟨Nat.zero_le _, Nat.zero_le _⟩ (fun H locs hI => ?_)
          exact bX12_more3_119 hC  hI (lv_sub hl [] rfl) hf
        replace hf := zif_t q hf
        refine lv_aload_n hx hb dX12_more3_106 rfl (lv_at hl 1 rfl) ?_
        refine lv_iconst (v := 0) hx hb dX12_more3_107 (by decide) ?_
        obtain ⟨σ16, v17, g16, hf⟩ := zbi_use hf
        refine z_callVi (As := [.int 0]) (rest := [.ref (ad 0)]) hC hI (cX12_pair_met st l D ad cy σ 0 _ g16) (zgV zw52_5 zw52_6 zw52_7 zw1_5 zw52_8) rfl ⟨rfl, rfl⟩ 1 hdX12_pair ⟨Nat.le_of_ble_eq_true rfl, Nat.le_of_ble_eq_true rfl⟩ rfl rfl (wM_e0 ad cy σ) rfl hl rfl (Nat.le_of_ble_eq_true rfl) dX12_more3_108 ⟨Nat.zero_le _, Nat.zero_le _⟩ (fun H locs hI => ?_)
        refine lv_goto (tgt := 119) hx hb dX12_more3_111 (by decide) ?_
        exact bX12_more3_119 hC  hI (lv_sub hl [] rfl) hf
      replace hf := zif_t q hf
      refine lv_aload_n hx hb dX12_more3_83 rfl (lv_at hl 1 rfl) ?_
      refine lv_bipush (v := 8) hx hb dX12_more3_84 (by decide) ?_
      refine lv_iload_n hx hb dX12_more3_86 rfl (lv_at hl 2 rfl) ?_
      refine lv_imul hx hb dX12_more3_87 ?_
      obtain ⟨σ18, g18, hf⟩ := zbu_use hf
      refine z_callVu (As := [.int (8 * x1)]) (rest := []) hC hI (cX12_call_met st l D ad cy σ (8 * x1) _ g18) (zgV zw47_21 zw47_22 zw47_23 zw1_5 zw48_0) rfl ⟨rfl, rfl⟩ 1 hdX12_call ⟨Nat.le_of_ble_eq_true rfl, Nat.le_of_ble_eq_true rfl⟩ rfl rfl (wM_e0 ad cy σ) rfl hl rfl (Nat.le_of_ble_eq_true rfl) dX12_more3_88 ⟨Nat.zero_le _, Nat.zero_le _⟩ (fun H locs hI => ?_)
      refine lv_bipush (v := 11) hx hb dX12_more3_91 (by decide) ?_
      exact z_ireturn hC hI hf dX12_more3_93
    replace hf := zif_t q hf
    refine lv_aload_n hx hb dX12_more3_65 rfl (lv_at hl 1 rfl) ?_
    refine lv_iload_n hx hb dX12_more3_66 rfl (lv_at hl 2 rfl) ?_
    refine lv_aload_n hx hb dX12_more3_67 rfl (lv_at hl 1 rfl) ?_
    obtain ⟨σ19, v20, g19, hf⟩ := zbi_use hf
    refine z_callVi (As := []) (rest := [.int x1, .ref (ad 0)]) hC hI (cX12_next_met st l D ad cy σ  _ g19) (zgV zw50_2 zw50_3 zw50_4 zw1_5 zw50_5) rfl ⟨rfl, rfl⟩ 0 hdX12_next ⟨Nat.le_of_ble_eq_true rfl, Nat.le_of_ble_eq_true rfl⟩ rfl rfl (wM_e0 ad cy σ) rfl hl rfl (Nat.le_of_ble_eq_true rfl) dX12_more3_68 ⟨Nat.zero_le _, Nat.zero_le _⟩ (fun H locs hI => ?_)
    obtain ⟨σ21, g21, hf⟩ := zbu_use hf
    refine z_callVu (As := [.int x1, .int v20]) (rest := []) hC hI (cX12_does_met st l D ad cy σ19 x1 v20 _ g21) (zgV zw54_13 zw54_14 zw54_15 zw1_5 zw54_16) rfl ⟨rfl, rfl⟩ 2 hdX12_does ⟨Nat.le_of_ble_eq_true rfl, Nat.le_of_ble_eq_true rfl⟩ rfl rfl (wM_e0 ad cy σ19) rfl hl rfl (Nat.le_of_ble_eq_true rfl) dX12_more3_71 ⟨Nat.zero_le _, Nat.zero_le _⟩ (fun H locs hI => ?_)
    refine lv_bipush (v := 7) hx hb dX12_more3_74 (by decide) ?_
    exact z_ireturn hC hI hf dX12_more3_76
  replace hf := zif_t q hf
  refine lv_aload_n hx hb dX12_more3_9 rfl (lv_at hl 1 rfl) ?_
  refine z_get hC hI hinX12_more3_X120 0 (wM_e0 ad cy σ) rfl 10 (by decide) (List.mem_cons_of_mem _ zw9_7) rfl dX12_more3_10 ?_
  refine lv_bipush (v := 20) hx hb dX12_more3_13 (by decide) ?_
  refine lv_aload_n hx hb dX12_more3_15 rfl (lv_at hl 1 rfl) ?_
  obtain ⟨σ22, v23, g22, hf⟩ := zbi_use hf
  refine z_callVi (As := []) (rest := [.int 20, .ref (ad 3)]) hC hI (cX12_nextWord_met st l D ad cy σ  _ g22) (zgV zw51_9 zw51_10 zw51_11 zw1_5 zw51_12) rfl ⟨rfl, rfl⟩ 0 hdX12_nextWord ⟨Nat.le_of_ble_eq_true rfl, Nat.le_of_ble_eq_true rfl⟩ rfl rfl (wM_e0 ad cy σ) rfl hl rfl (Nat.le_of_ble_eq_true rfl) dX12_more3_16 ⟨Nat.zero_le _, Nat.zero_le _⟩ (fun H locs hI => ?_)
  obtain ⟨q, hf⟩ := zck_use hf
  obtain ⟨σ24, eσ24⟩ : ∃ z, z = zsi σ22 3 ((20 : Int32).toNatClampNeg) v23 := ⟨_, rfl⟩
  replace hf := zbv_use eσ24 hf
  refine z_iast hC hI 3 2 (wM_e3 ad cy σ22) (tM_t3 cy) q ((wM_s3 ad cy σ22 _ _).trans (congrArg (wM ad cy) eσ24.symm)) dX12_more3_19 (fun H locs hI => ?_)
  refine lv_aload_n hx hb dX12_more3_20 rfl (lv_at hl 1 rfl) ?_
  refine lv_iload_n hx hb dX12_more3_21 rfl (lv_at hl 2 rfl) ?_
  obtain ⟨σ25, v26, g25, hf⟩ := zbi_use hf
  refine z_callVi (As := [.int x1]) (rest := []) hC hI (cX12_cc_met st l D ad cy σ24 x1 _ g25) (zgV zw50_21 zw50_22 zw50_23 zw1_5 zw51_0) rfl ⟨rfl, rfl⟩ 1 hdX12_cc ⟨Nat.le_of_ble_eq_true rfl, Nat.le_of_ble_eq_true rfl⟩ rfl rfl (wM_e0 ad cy σ24) rfl hl rfl (Nat.le_of_ble_eq_true rfl) dX12_more3_22 ⟨Nat.zero_le _, Nat.zero_le _⟩ (fun H locs hI => ?_)
  refine lv_if_ne (tgt := 31) hx hb dX12_more3_25 (by decide) (fun q => ?_) (fun q => ?_)
  · replace hf := zif_f q hf
    refine lv_aload_n hx hb dX12_more3_31 rfl (lv_at hl 1 rfl) ?_
    refine lv_aload_n hx hb dX12_more3_32 rfl (lv_at hl 1 rfl) ?_
    refine z_get hC hI hinX12_more3_X120 0 (wM_e0 ad cy σ25) rfl 10 (by decide) (List.mem_cons_of_mem _ zw9_7) rfl dX12_more3_33 ?_
    refine lv_bipush (v := 19) hx hb dX12_more3_36 (by decide) ?_
    obtain ⟨q, hf⟩ := zck_use hf
    refine z_iald hC hI 3 2 (wM_e3 ad cy σ25) (tM_t3 cy) q dX12_more3_38 ?_
    obtain ⟨σ27, g27, hf⟩ := zbu_use hf
    refine z_callVu (As := [.int (zgi σ25 3 (19 : Int32).toNatClampNeg)]) (rest := []) hC hI (cX12_push_met st l D ad cy σ25 (zgi σ25 3 (19 : Int32).toNatClampNeg) _ g27) (zgV zw48_1 zw48_2 zw48_3 zw1_5 zw48_4) rfl ⟨rfl, rfl⟩ 1 hdX12_push ⟨Nat.le_of_ble_eq_true rfl, Nat.le_of_ble_eq_true rfl⟩ rfl rfl (wM_e0 ad cy σ25) rfl hl rfl (Nat.le_of_ble_eq_true rfl) dX12_more3_39 ⟨Nat.zero_le _, Nat.zero_le _⟩ (fun H locs hI => ?_)
    refine lv_aload_n hx hb dX12_more3_42 rfl (lv_at hl 1 rfl) ?_
    refine z_get hC hI hinX12_more3_X120 0 (wM_e0 ad cy σ27) rfl 10 (by decide) (List.mem_cons_of_mem _ zw9_7) rfl dX12_more3_43 ?_
    refine lv_bipush (v := 19) hx hb dX12_more3_46 (by decide) ?_
    refine lv_aload_n hx hb dX12_more3_48 rfl (lv_at hl 1 rfl) ?_
    refine z_get hC hI hinX12_more3_X120 0 (wM_e0 ad cy σ27) rfl 10 (by decide) (List.mem_cons_of_mem _ zw9_7) rfl dX12_more3_49 ?_
    refine lv_bipush (v := 20) hx hb dX12_more3_52 (by decide) ?_
    obtain ⟨q, hf⟩ := zck_use hf
    refine z_iald hC hI 3 2 (wM_e3 ad cy σ27) (tM_t3 cy) q dX12_more3_54 ?_
    obtain ⟨q, hf⟩ := zck_use hf
    obtain ⟨σ28, eσ28⟩ : ∃ z, z = zsi σ27 3 ((19 : Int32).toNatClampNeg) (zgi σ27 3 (20 : Int32).toNatClampNeg) := ⟨_, rfl⟩
    replace hf := zbv_use eσ28 hf
    refine z_iast hC hI 3 2 (wM_e3 ad cy σ27) (tM_t3 cy) q ((wM_s3 ad cy σ27 _ _).trans (congrArg (wM ad cy) eσ28.symm)) dX12_more3_55 (fun H locs hI => ?_)
    refine lv_bipush (v := 17) hx hb dX12_more3_56 (by decide) ?_
    exact z_ireturn hC hI hf dX12_more3_58
  replace hf := zif_t q hf
  refine lv_bipush (v := 10) hx hb dX12_more3_28 (by decide) ?_
  exact z_ireturn hC hI hf dX12_more3_30
set_option maxRecDepth 20000 in
theorem cX12_more3_met (st : Nat → Nat) (l : Launch) (D : va_G) (ad : Nat → Nat) (cy : Nat → ClassId) (σ : zSt) (x1 : Int32) (x2 : Int32) (res : zSt × Int32) (hf : fX12_more3 σ x1 x2 = some res) (sz : Nat) : zMi st l yX12_more3 wzX12_more3 rmX12_more3 [.ref (ad 0), .int x1, .int x2] D (tM cy) (wM ad cy) sz σ res :=
  zMi.of (cc := cX12_more3) (maxL := 4) (ret := (some .int)) (by decide) rfl (Nat.le_of_ble_eq_true rfl) (fun p e s m args below meth c hC A hI ls hl => bX12_more3 hC hI hl hf)
theorem hdX12_more3 : yX12_more3.cls = RX12 ∧ yX12_more3.cls ≠ "java/lang/invoke/MethodHandle" ∧ yX12_more3.cls ≠ "java/lang/invoke/VarHandle" ∧ (parseMethodDescriptor yX12_more3.desc).map (fun d => d.parameters.length) = some 2 := by decide +kernel
def rmX12_plain : Room := { frames := 11, cells := 0, slots := 0, locals := 259 }
theorem hinX12_plain_X120 : ∀ w ∈ wsX120, w ∈ wzX12_plain := fun w h => List.mem_cons_of_mem _ (inlX12 w h)
def fX12_plain_160  (σ : zSt) (s0 : Int32) : Option (zSt × Int32) :=
  some (σ, s0)
def fX12_plain_139  (σ : zSt) (s0 : Int32) : Option (zSt × Int32) :=
  some (σ, s0)
def fX12_plain_116  (σ : zSt) (s0 : Int32) : Option (zSt × Int32) :=
  some (σ, s0)
def fX12_plain_115  (σ : zSt)  : Option (zSt × Int32) :=
  fX12_plain_116 σ 4
def fX12_plain_110  (σ : zSt)  : Option (zSt × Int32) :=
  fX12_plain_116 σ 7
def fX12_plain_92  (σ : zSt) (x1 : Int32) (x2 : Int32) (x3 : Int32) : Option (zSt × Int32) :=
  if x1 = 118 then fX12_plain_115 σ else
  if x2 = 6 then fX12_plain_110 σ else
  if x3 = 6 then fX12_plain_110 σ else
  fX12_plain_115 σ
def fX12_plain_64  (σ : zSt) (s0 : Int32) : Option (zSt × Int32) :=
  some (σ, s0)
def fX12_plain  (σ : zSt) (x1 : Int32) : Option (zSt × Int32) :=
  zbv ((x1 >>> ((3 : Int32) &&& 31)) &&& 7) (fun v1 =>
  zbv (x1 &&& 7) (fun v2 =>
  if (x1 >>> ((6 : Int32) &&& 31)) = 0 then if 4 ≤ v2 then zbi (fX12_singles σ v1 v2) (fun σ3 v4 =>
  fX12_plain_64 σ3 v4) else
  zbi (fX12_zero σ v1 v2) (fun σ5 v6 =>
  fX12_plain_64 σ5 v6) else
  if (x1 >>> ((6 : Int32) &&& 31)) = 1 then if x1 = 118 then zck (zin 26 1048) (zbv (zsi σ 3 ((26 : Int32).toNatClampNeg) 1) (fun σ10 =>
  fX12_plain_92 σ10 x1 v1 v2)) else
  zbi (fX12_r σ v2) (fun σ7 v8 =>
  zbu (fX12_rTo σ7 v1 v8) (fun σ9 =>
  fX12_plain_92 σ9 x1 v1 v2)) else
  if (x1 >>> ((6 : Int32) &&& 31)) = 2 then zbi (fX12_r σ v2) (fun σ11 v12 =>
  zbu (fX12_does σ11 v1 v12) (fun σ13 =>
  if v2 = 6 then fX12_plain_139 σ13 7 else
  fX12_plain_139 σ13 4)) else
  if 4 ≤ v2 then zbi (fX12_more3 σ v1 v2) (fun σ14 v15 =>
  fX12_plain_160 σ14 v15) else
  zbi (fX12_three σ v1 v2) (fun σ16 v17 =>
  fX12_plain_160 σ16 v17)))
set_option maxRecDepth 20000 in
set_option maxHeartbeats 4000000 in
theorem bX12_plain_160 {st : Nat → Nat} {p : Program} {l : Launch} {e : Env} {s : State} {m : MethodId} {args : Array Value} {below : List Frame} {meth : Method} {c : Code} {D : va_G} {A : Nat → Prop} {ad : Nat → Nat} {cy : Nat → ClassId} (hC : zC p m c cX12_plain 4 s args wzX12_plain RX12 meth (some .int))  {res : zSt × Int32} {H : Heap} {locs : List Loc} {σ : zSt} {ls : Array Slot} {s0 : Int32} (hI : zI st D (tM cy) (wM ad cy σ) A s H locs) (hl : lv_has ls 4 []) (hf : fX12_plain_160  σ s0 = some res) : W p l e rmX12_plain s m args below meth c H locs 0 0 (zQi below args s D (tM cy) (wM ad cy) A res) (F0 m 160 ls [.int s0]) := by
  have hx := hC.1
  have hb := hC.2.1
  unfold fX12_plain_160 at hf
  exact z_ireturn hC hI hf dX12_plain_160
set_option maxRecDepth 20000 in
set_option maxHeartbeats 4000000 in
theorem bX12_plain_139 {st : Nat → Nat} {p : Program} {l : Launch} {e : Env} {s : State} {m : MethodId} {args : Array Value} {below : List Frame} {meth : Method} {c : Code} {D : va_G} {A : Nat → Prop} {ad : Nat → Nat} {cy : Nat → ClassId} (hC : zC p m c cX12_plain 4 s args wzX12_plain RX12 meth (some .int))  {res : zSt × Int32} {H : Heap} {locs : List Loc} {σ : zSt} {ls : Array Slot} {s0 : Int32} (hI : zI st D (tM cy) (wM ad cy σ) A s H locs) (hl : lv_has ls 4 []) (hf : fX12_plain_139  σ s0 = some res) : W p l e rmX12_plain s m args below meth c H locs 0 0 (zQi below args s D (tM cy) (wM ad cy) A res) (F0 m 139 ls [.int s0]) := by
  have hx := hC.1
  have hb := hC.2.1
  unfold fX12_plain_139 at hf
  exact z_ireturn hC hI hf dX12_plain_139
set_option maxRecDepth 20000 in
set_option maxHeartbeats 4000000 in
theorem bX12_plain_116 {st : Nat → Nat} {p : Program} {l : Launch} {e : Env} {s : State} {m : MethodId} {args : Array Value} {below : List Frame} {meth : Method} {c : Code} {D : va_G} {A : Nat → Prop} {ad : Nat → Nat} {cy : Nat → ClassId} (hC : zC p m c cX12_plain 4 s args wzX12_plain RX12 meth (some .int))  {res : zSt × Int32} {H : Heap} {locs : List Loc} {σ : zSt} {ls : Array Slot} {s0 : Int32} (hI : zI st D (tM cy) (wM ad cy σ) A s H locs) (hl : lv_has ls 4 []) (hf : fX12_plain_116  σ s0 = some res) : W p l e rmX12_plain s m args below meth c H locs 0 0 (zQi below args s D (tM cy) (wM ad cy) A res) (F0 m 116 ls [.int s0]) := by
  have hx := hC.1
  have hb := hC.2.1
  unfold fX12_plain_116 at hf
  exact z_ireturn hC hI hf dX12_plain_116
set_option maxRecDepth 20000 in
set_option maxHeartbeats 4000000 in
theorem bX12_plain_115 {st : Nat → Nat} {p : Program} {l : Launch} {e : Env} {s : State} {m : MethodId} {args : Array Value} {below : List Frame} {meth : Method} {c : Code} {D : va_G} {A : Nat → Prop} {ad : Nat → Nat} {cy : Nat → ClassId} (hC : zC p m c cX12_plain 4 s args wzX12_plain RX12 meth (some .int))  {res : zSt × Int32} {H : Heap} {locs : List Loc} {σ : zSt} {ls : Array Slot}  (hI : zI st D (tM cy) (wM ad cy σ) A s H locs) (hl : lv_has ls 4 []) (hf : fX12_plain_115  σ  = some res) : W p l e rmX12_plain s m args below meth c H locs 0 0 (zQi below args s D (tM cy) (wM ad cy) A res) (F0 m 115 ls []) := by
  have hx := hC.1
  have hb := hC.2.1
  unfold fX12_plain_115 at hf
  refine lv_iconst (v := 4) hx hb dX12_plain_115 (by decide) ?_
  exact bX12_plain_116 hC  hI hl hf
set_option maxRecDepth 20000 in
set_option maxHeartbeats 4000000 in
theorem bX12_plain_110 {st : Nat → Nat} {p : Program} {l : Launch} {e : Env} {s : State} {m : MethodId} {args : Array Value} {below : List Frame} {meth : Method} {c : Code} {D : va_G} {A : Nat → Prop} {ad : Nat → Nat} {cy : Nat → ClassId} (hC : zC p m c cX12_plain 4 s args wzX12_plain RX12 meth (some .int))  {res : zSt × Int32} {H : Heap} {locs : List Loc} {σ : zSt} {ls : Array Slot}  (hI : zI st D (tM cy) (wM ad cy σ) A s H locs) (hl : lv_has ls 4 []) (hf : fX12_plain_110  σ  = some res) : W p l e rmX12_plain s m args below meth c H locs 0 0 (zQi below args s D (tM cy) (wM ad cy) A res) (F0 m 110 ls []) := by
  have hx := hC.1
  have hb := hC.2.1
  unfold fX12_plain_110 at hf
  refine lv_bipush (v := 7) hx hb dX12_plain_110 (by decide) ?_
  refine lv_goto (tgt := 116) hx hb dX12_plain_112 (by decide) ?_
  exact bX12_plain_116 hC  hI hl hf
set_option maxRecDepth 20000 in
set_option maxHeartbeats 4000000 in
theorem bX12_plain_92 {st : Nat → Nat} {p : Program} {l : Launch} {e : Env} {s : State} {m : MethodId} {args : Array Value} {below : List Frame} {meth : Method} {c : Code} {D : va_G} {A : Nat → Prop} {ad : Nat → Nat} {cy : Nat → ClassId} (hC : zC p m c cX12_plain 4 s args wzX12_plain RX12 meth (some .int))  {res : zSt × Int32} {H : Heap} {locs : List Loc} {σ : zSt} {ls : Array Slot} {x1 : Int32} {x2 : Int32} {x3 : Int32} (hI : zI st D (tM cy) (wM ad cy σ) A s H locs) (hl : lv_has ls 4 [(1, .int x1), (2, .int x2), (3, .int x3)]) (hf : fX12_plain_92  σ x1 x2 x3 = some res) : W p l e rmX12_plain s m args below meth c H locs 0 0 (zQi below args s D (tM cy) (wM ad cy) A res) (F0 m 92 ls []) := by
  have hx := hC.1
  have hb := hC.2.1
  unfold fX12_plain_92 at hf
  refine lv_iload_n hx hb dX12_plain_92 rfl (lv_at hl 0 rfl) ?_
  refine lv_bipush (v := 118) hx hb dX12_plain_93 (by decide) ?_
  refine lv_icmp_eq (tgt := 115) hx hb dX12_plain_95 (by decide) (fun q => ?_) (fun q => ?_)
  · replace hf := zif_t q hf
    exact bX12_plain_115 hC  hI (lv_sub hl [] rfl) hf
  replace hf := zif_f q hf
  refine lv_iload_n hx hb dX12_plain_98 rfl (lv_at hl 1 rfl) ?_
  refine lv_bipush (v := 6) hx hb dX12_plain_99 (by decide) ?_
  refine lv_icmp_eq (tgt := 110) hx hb dX12_plain_101 (by decide) (fun q => ?_) (fun q => ?_)
  · replace hf := zif_t q hf
    exact bX12_plain_110 hC  hI (lv_sub hl [] rfl) hf
  replace hf := zif_f q hf
  refine lv_iload_n hx hb dX12_plain_104 rfl (lv_at hl 2 rfl) ?_
  refine lv_bipush (v := 6) hx hb dX12_plain_105 (by decide) ?_
  refine lv_icmp_ne (tgt := 115) hx hb dX12_plain_107 (by decide) (fun q => ?_) (fun q => ?_)
  · replace hf := zif_f q hf
    exact bX12_plain_115 hC  hI (lv_sub hl [] rfl) hf
  replace hf := zif_t q hf
  exact bX12_plain_110 hC  hI (lv_sub hl [] rfl) hf
set_option maxRecDepth 20000 in
set_option maxHeartbeats 4000000 in
theorem bX12_plain_64 {st : Nat → Nat} {p : Program} {l : Launch} {e : Env} {s : State} {m : MethodId} {args : Array Value} {below : List Frame} {meth : Method} {c : Code} {D : va_G} {A : Nat → Prop} {ad : Nat → Nat} {cy : Nat → ClassId} (hC : zC p m c cX12_plain 4 s args wzX12_plain RX12 meth (some .int))  {res : zSt × Int32} {H : Heap} {locs : List Loc} {σ : zSt} {ls : Array Slot} {s0 : Int32} (hI : zI st D (tM cy) (wM ad cy σ) A s H locs) (hl : lv_has ls 4 []) (hf : fX12_plain_64  σ s0 = some res) : W p l e rmX12_plain s m args below meth c H locs 0 0 (zQi below args s D (tM cy) (wM ad cy) A res) (F0 m 64 ls [.int s0]) := by
  have hx := hC.1
  have hb := hC.2.1
  unfold fX12_plain_64 at hf
  exact z_ireturn hC hI hf dX12_plain_64
set_option maxRecDepth 20000 in
set_option maxHeartbeats 4000000 in
theorem bX12_plain {st : Nat → Nat} {p : Program} {l : Launch} {e : Env} {s : State} {m : MethodId} {args : Array Value} {below : List Frame} {meth : Method} {c : Code} {D : va_G} {A : Nat → Prop} {ad : Nat → Nat} {cy : Nat → ClassId} (hC : zC p m c cX12_plain 4 s args wzX12_plain RX12 meth (some .int))  {res : zSt × Int32} {H : Heap} {locs : List Loc} {σ : zSt} {ls : Array Slot} {x1 : Int32} (hI : zI st D (tM cy) (wM ad cy σ) A s H locs) (hl : lv_has ls 4 [(0, .ref (ad 0)), (1, .int x1)]) (hf : fX12_plain  σ x1 = some res) : W p l e rmX12_plain s m args below meth c H locs 0 0 (zQi below args s D (tM cy) (wM ad cy) A res) (F0 m 0 ls []) := by
  have hx := hC.1
  have hb := hC.2.1
  unfold fX12_plain at hf
  refine lv_iload_n hx hb dX12_plain_0 rfl (lv_at hl 1 rfl) ?_
  refine lv_iconst (v := 3) hx hb dX12_plain_1 (by decide) ?_
  refine lv_ishr hx hb dX12_plain_2 ?_
  refine lv_bipush (v := 7) hx hb dX12_plain_3 (by decide) ?_
  refine lv_iand hx hb dX12_plain_5 ?_
  refine lv_topi (fun v1 ev1 => ?_)
  replace hf := zbv_use ev1 hf
  refine lv_istore_n (lv' := [(2, .int v1), (0, .ref (ad 0)), (1, .int x1)]) hx hb dX12_plain_6 rfl hl (by decide) rfl (fun ls hl => ?_)
  refine lv_iload_n hx hb dX12_plain_7 rfl (lv_at hl 2 rfl) ?_
  refine lv_bipush (v := 7) hx hb dX12_plain_8 (by decide) ?_
  refine lv_iand hx hb dX12_plain_10 ?_
  refine lv_topi (fun v2 ev2 => ?_)
  replace hf := zbv_use ev2 hf
  refine lv_istore_n (lv' := [(3, .int v2), (2, .int v1), (0, .ref (ad 0)), (1, .int x1)]) hx hb dX12_plain_11 rfl hl (by decide) rfl (fun ls hl => ?_)
  refine lv_iload_n hx hb dX12_plain_12 rfl (lv_at hl 3 rfl) ?_
  refine lv_bipush (v := 6) hx hb dX12_plain_13 (by decide) ?_
  refine lv_ishr hx hb dX12_plain_15 ?_
  by_cases q0 : (x1 >>> ((6 : Int32) &&& 31)) = 0
  · replace hf := zif_t q0 hf
    refine lv_tableIn (tgt := 44) hx hb dX12_plain_16 (by rw [q0]; decide) (by rw [q0]; decide) (by rw [q0]; rfl) (by decide) ?_
    refine lv_iload_n hx hb dX12_plain_44 rfl (lv_at hl 0 rfl) ?_
    refine lv_iconst (v := 4) hx hb dX12_plain_45 (by decide) ?_
    refine lv_icmp_ge (tgt := 58) hx hb dX12_plain_46 (by decide) (fun q => ?_) (fun q => ?_)
    · replace hf := zif_t q hf
      refine lv_aload_n hx hb dX12_plain_58 rfl (lv_at hl 2 rfl) ?_
      refine lv_iload_n hx hb dX12_plain_59 rfl (lv_at hl 1 rfl) ?_
      refine lv_iload_n hx hb dX12_plain_60 rfl (lv_at hl 0 rfl) ?_
      obtain ⟨σ3, v4, g3, hf⟩ := zbi_use hf
      refine z_callVi (As := [.int v1, .int v2]) (rest := []) hC hI (cX12_singles_met st l D ad cy σ v1 v2 _ g3) (zgV zw53_5 zw53_6 zw53_7 zw1_5 zw53_8) rfl ⟨rfl, rfl⟩ 2 hdX12_singles ⟨Nat.le_of_ble_eq_true rfl, Nat.le_of_ble_eq_true rfl⟩ rfl rfl (wM_e0 ad cy σ) rfl hl rfl (Nat.le_of_ble_eq_true rfl) dX12_plain_61 ⟨Nat.zero_le _, Nat.zero_le _⟩ (fun H locs hI => ?_)
      exact bX12_plain_64 hC  hI (lv_sub hl [] rfl) hf
    replace hf := zif_f q hf
    refine lv_aload_n hx hb dX12_plain_49 rfl (lv_at hl 2 rfl) ?_
    refine lv_iload_n hx hb dX12_plain_50 rfl (lv_at hl 1 rfl) ?_
    refine lv_iload_n hx hb dX12_plain_51 rfl (lv_at hl 0 rfl) ?_
    obtain ⟨σ5, v6, g5, hf⟩ := zbi_use hf
    refine z_callVi (As := [.int v1, .int v2]) (rest := []) hC hI (cX12_zero_met st l D ad cy σ v1 v2 _ g5) (zgV zw50_10 zw50_11 zw50_12 zw1_5 zw50_13) rfl ⟨rfl, rfl⟩ 2 hdX12_zero ⟨Nat.le_of_ble_eq_true rfl, Nat.le_of_ble_eq_true rfl⟩ rfl rfl (wM_e0 ad cy σ) rfl hl rfl (Nat.le_of_ble_eq_true rfl) dX12_plain_52 ⟨Nat.zero_le _, Nat.zero_le _⟩ (fun H locs hI => ?_)
    refine lv_goto (tgt := 64) hx hb dX12_plain_55 (by decide) ?_
    exact bX12_plain_64 hC  hI (lv_sub hl [] rfl) hf
  replace hf := zif_f q0 hf
  by_cases q1 : (x1 >>> ((6 : Int32) &&& 31)) = 1
  · replace hf := zif_t q1 hf
    refine lv_tableIn (tgt := 65) hx hb dX12_plain_16 (by rw [q1]; decide) (by rw [q1]; decide) (by rw [q1]; rfl) (by decide) ?_
    refine lv_iload_n hx hb dX12_plain_65 rfl (lv_at hl 3 rfl) ?_
    refine lv_bipush (v := 118) hx hb dX12_plain_66 (by decide) ?_
    refine lv_icmp_ne (tgt := 82) hx hb dX12_plain_68 (by decide) (fun q => ?_) (fun q => ?_)
    · replace hf := zif_f q hf
      refine lv_aload_n hx hb dX12_plain_82 rfl (lv_at hl 2 rfl) ?_
      refine lv_iload_n hx hb dX12_plain_83 rfl (lv_at hl 1 rfl) ?_
      refine lv_aload_n hx hb dX12_plain_84 rfl (lv_at hl 2 rfl) ?_
      refine lv_iload_n hx hb dX12_plain_85 rfl (lv_at hl 0 rfl) ?_
      obtain ⟨σ7, v8, g7, hf⟩ := zbi_use hf
      refine z_callVi (As := [.int v2]) (rest := [.int v1, .ref (ad 0)]) hC hI (cX12_r_met st l D ad cy σ v2 _ g7) (zgV zw53_18 zw53_19 zw53_20 zw1_5 zw53_21) rfl ⟨rfl, rfl⟩ 1 hdX12_r ⟨Nat.le_of_ble_eq_true rfl, Nat.le_of_ble_eq_true rfl⟩ rfl rfl (wM_e0 ad cy σ) rfl hl rfl (Nat.le_of_ble_eq_true rfl) dX12_plain_86 ⟨Nat.zero_le _, Nat.zero_le _⟩ (fun H locs hI => ?_)
      obtain ⟨σ9, g9, hf⟩ := zbu_use hf
      refine z_callVu (As := [.int v1, .int v8]) (rest := []) hC hI (cX12_rTo_met st l D ad cy σ7 v1 v8 _ g9) (zgV zw53_9 zw53_10 zw53_11 zw1_5 zw53_12) rfl ⟨rfl, rfl⟩ 2 hdX12_rTo ⟨Nat.le_of_ble_eq_true rfl, Nat.le_of_ble_eq_true rfl⟩ rfl rfl (wM_e0 ad cy σ7) rfl hl rfl (Nat.le_of_ble_eq_true rfl) dX12_plain_89 ⟨Nat.zero_le _, Nat.zero_le _⟩ (fun H locs hI => ?_)
      exact bX12_plain_92 hC  hI (lv_sub hl [3, 1, 0] rfl) hf
    replace hf := zif_t q hf
    refine lv_aload_n hx hb dX12_plain_71 rfl (lv_at hl 2 rfl) ?_
    refine z_get hC hI hinX12_plain_X120 0 (wM_e0 ad cy σ) rfl 10 (by decide) (List.mem_cons_of_mem _ zw9_7) rfl dX12_plain_72 ?_
    refine lv_bipush (v := 26) hx hb dX12_plain_75 (by decide) ?_
    refine lv_iconst (v := 1) hx hb dX12_plain_77 (by decide) ?_
    obtain ⟨q, hf⟩ := zck_use hf
    obtain ⟨σ10, eσ10⟩ : ∃ z, z = zsi σ 3 ((26 : Int32).toNatClampNeg) 1 := ⟨_, rfl⟩
    replace hf := zbv_use eσ10 hf
    refine z_iast hC hI 3 2 (wM_e3 ad cy σ) (tM_t3 cy) q ((wM_s3 ad cy σ _ _).trans (congrArg (wM ad cy) eσ10.symm)) dX12_plain_78 (fun H locs hI => ?_)
    refine lv_goto (tgt := 92) hx hb dX12_plain_79 (by decide) ?_
    exact bX12_plain_92 hC  hI (lv_sub hl [3, 1, 0] rfl) hf
  replace hf := zif_f q1 hf
  by_cases q2 : (x1 >>> ((6 : Int32) &&& 31)) = 2
  · replace hf := zif_t q2 hf
    refine lv_tableIn (tgt := 117) hx hb dX12_plain_16 (by rw [q2]; decide) (by rw [q2]; decide) (by rw [q2]; rfl) (by decide) ?_
    refine lv_aload_n hx hb dX12_plain_117 rfl (lv_at hl 2 rfl) ?_
    refine lv_iload_n hx hb dX12_plain_118 rfl (lv_at hl 1 rfl) ?_
    refine lv_aload_n hx hb dX12_plain_119 rfl (lv_at hl 2 rfl) ?_
    refine lv_iload_n hx hb dX12_plain_120 rfl (lv_at hl 0 rfl) ?_
    obtain ⟨σ11, v12, g11, hf⟩ := zbi_use hf
    refine z_callVi (As := [.int v2]) (rest := [.int v1, .ref (ad 0)]) hC hI (cX12_r_met st l D ad cy σ v2 _ g11) (zgV zw53_18 zw53_19 zw53_20 zw1_5 zw53_21) rfl ⟨rfl, rfl⟩ 1 hdX12_r ⟨Nat.le_of_ble_eq_true rfl, Nat.le_of_ble_eq_true rfl⟩ rfl rfl (wM_e0 ad cy σ) rfl hl rfl (Nat.le_of_ble_eq_true rfl) dX12_plain_121 ⟨Nat.zero_le _, Nat.zero_le _⟩ (fun H locs hI => ?_)
    obtain ⟨σ13, g13, hf⟩ := zbu_use hf
    refine z_callVu (As := [.int v1, .int v12]) (rest := []) hC hI (cX12_does_met st l D ad cy σ11 v1 v12 _ g13) (zgV zw54_13 zw54_14 zw54_15 zw1_5 zw54_16) rfl ⟨rfl, rfl⟩ 2 hdX12_does ⟨Nat.le_of_ble_eq_true rfl, Nat.le_of_ble_eq_true rfl⟩ rfl rfl (wM_e0 ad cy σ11) rfl hl rfl (Nat.le_of_ble_eq_true rfl) dX12_plain_124 ⟨Nat.zero_le _, Nat.zero_le _⟩ (fun H locs hI => ?_)
    refine lv_iload_n hx hb dX12_plain_127 rfl (lv_at hl 0 rfl) ?_
    refine lv_bipush (v := 6) hx hb dX12_plain_128 (by decide) ?_
    refine lv_icmp_ne (tgt := 138) hx hb dX12_plain_130 (by decide) (fun q => ?_) (fun q => ?_)
    · replace hf := zif_f q hf
      refine lv_iconst (v := 4) hx hb dX12_plain_138 (by decide) ?_
      exact bX12_plain_139 hC  hI (lv_sub hl [] rfl) hf
    replace hf := zif_t q hf
    refine lv_bipush (v := 7) hx hb dX12_plain_133 (by decide) ?_
    refine lv_goto (tgt := 139) hx hb dX12_plain_135 (by decide) ?_
    exact bX12_plain_139 hC  hI (lv_sub hl [] rfl) hf
  replace hf := zif_f q2 hf
  refine lv_tableOut (tgt := 140) hx hb dX12_plain_16 (zsw (fun k h1 h2 => by rcases (show k = 0 ∨ k = 1 ∨ k = 2 by omega) with rfl | rfl | rfl <;> assumption)) (by decide) ?_
  refine lv_iload_n hx hb dX12_plain_140 rfl (lv_at hl 0 rfl) ?_
  refine lv_iconst (v := 4) hx hb dX12_plain_141 (by decide) ?_
  refine lv_icmp_ge (tgt := 154) hx hb dX12_plain_142 (by decide) (fun q => ?_) (fun q => ?_)
  · replace hf := zif_t q hf
    refine lv_aload_n hx hb dX12_plain_154 rfl (lv_at hl 2 rfl) ?_
    refine lv_iload_n hx hb dX12_plain_155 rfl (lv_at hl 1 rfl) ?_
    refine lv_iload_n hx hb dX12_plain_156 rfl (lv_at hl 0 rfl) ?_
    obtain ⟨σ14, v15, g14, hf⟩ := zbi_use hf
    refine z_callVi (As := [.int v1, .int v2]) (rest := []) hC hI (cX12_more3_met st l D ad cy σ v1 v2 _ g14) (zgV zw57_22 zw57_23 zw58_0 zw1_5 zw58_1) rfl ⟨rfl, rfl⟩ 2 hdX12_more3 ⟨Nat.le_of_ble_eq_true rfl, Nat.le_of_ble_eq_true rfl⟩ rfl rfl (wM_e0 ad cy σ) rfl hl rfl (Nat.le_of_ble_eq_true rfl) dX12_plain_157 ⟨Nat.zero_le _, Nat.zero_le _⟩ (fun H locs hI => ?_)
    exact bX12_plain_160 hC  hI (lv_sub hl [] rfl) hf
  replace hf := zif_f q hf
  refine lv_aload_n hx hb dX12_plain_145 rfl (lv_at hl 2 rfl) ?_
  refine lv_iload_n hx hb dX12_plain_146 rfl (lv_at hl 1 rfl) ?_
  refine lv_iload_n hx hb dX12_plain_147 rfl (lv_at hl 0 rfl) ?_
  obtain ⟨σ16, v17, g16, hf⟩ := zbi_use hf
  refine z_callVi (As := [.int v1, .int v2]) (rest := []) hC hI (cX12_three_met st l D ad cy σ v1 v2 _ g16) (zgV zw54_17 zw54_18 zw54_19 zw1_5 zw54_20) rfl ⟨rfl, rfl⟩ 2 hdX12_three ⟨Nat.le_of_ble_eq_true rfl, Nat.le_of_ble_eq_true rfl⟩ rfl rfl (wM_e0 ad cy σ) rfl hl rfl (Nat.le_of_ble_eq_true rfl) dX12_plain_148 ⟨Nat.zero_le _, Nat.zero_le _⟩ (fun H locs hI => ?_)
  refine lv_goto (tgt := 160) hx hb dX12_plain_151 (by decide) ?_
  exact bX12_plain_160 hC  hI (lv_sub hl [] rfl) hf
set_option maxRecDepth 20000 in
theorem cX12_plain_met (st : Nat → Nat) (l : Launch) (D : va_G) (ad : Nat → Nat) (cy : Nat → ClassId) (σ : zSt) (x1 : Int32) (res : zSt × Int32) (hf : fX12_plain σ x1 = some res) (sz : Nat) : zMi st l yX12_plain wzX12_plain rmX12_plain [.ref (ad 0), .int x1] D (tM cy) (wM ad cy) sz σ res :=
  zMi.of (cc := cX12_plain) (maxL := 4) (ret := (some .int)) (by decide) rfl (Nat.le_of_ble_eq_true rfl) (fun p e s m args below meth c hC A hI ls hl => bX12_plain hC hI hl hf)
theorem hdX12_plain : yX12_plain.cls = RX12 ∧ yX12_plain.cls ≠ "java/lang/invoke/MethodHandle" ∧ yX12_plain.cls ≠ "java/lang/invoke/VarHandle" ∧ (parseMethodDescriptor yX12_plain.desc).map (fun d => d.parameters.length) = some 1 := by decide +kernel
def rmX12_instruction : Room := { frames := 12, cells := 0, slots := 0, locals := 282 }
def wzX12_instruction : List Cond := .code yX12_instruction cX12_instruction 1 (some .int) :: wsL_law
theorem hinX12_instruction_X120 : ∀ w ∈ wsX120, w ∈ wzX12_instruction := fun w h => List.mem_cons_of_mem _ (inlX12 w h)
def fX12_instruction  (σ : zSt)  : Option (zSt × Int32) :=
  zbv (zsi σ 0 31 0) (fun σ1 =>
  zck (zbo 0) (zbv (zsi σ1 0 32 0) (fun σ2 =>
  zbi (fX12_fetch σ2 ) (fun σ3 v4 =>
  zbi (fX12_plain σ3 v4) (fun σ5 v6 =>
  some (σ5, v6))))))
set_option maxRecDepth 20000 in
set_option maxHeartbeats 4000000 in
theorem bX12_instruction {st : Nat → Nat} {p : Program} {l : Launch} {e : Env} {s : State} {m : MethodId} {args : Array Value} {below : List Frame} {meth : Method} {c : Code} {D : va_G} {A : Nat → Prop} {ad : Nat → Nat} {cy : Nat → ClassId} (hC : zC p m c cX12_instruction 1 s args wzX12_instruction RX12 meth (some .int))  {res : zSt × Int32} {H : Heap} {locs : List Loc} {σ : zSt} {ls : Array Slot}  (hI : zI st D (tM cy) (wM ad cy σ) A s H locs) (hl : lv_has ls 1 [(0, .ref (ad 0))]) (hf : fX12_instruction  σ  = some res) : W p l e rmX12_instruction s m args below meth c H locs 0 0 (zQi below args s D (tM cy) (wM ad cy) A res) (F0 m 0 ls []) := by
  have hx := hC.1
  have hb := hC.2.1
  unfold fX12_instruction at hf
  refine lv_aload_n hx hb dX12_instruction_0 rfl (lv_at hl 0 rfl) ?_
  refine lv_iconst (v := 0) hx hb dX12_instruction_1 (by decide) ?_
  obtain ⟨σ1, eσ1⟩ : ∃ z, z = zsi σ 0 31 0 := ⟨_, rfl⟩
  replace hf := zbv_use eσ1 hf
  refine z_put hC hI hinX12_instruction_X120 tyX12_ok nmX12 0 (wM_e0 ad cy σ) rfl 31 (by decide) (List.mem_cons_of_mem _ zw49_20) rfl rfl rfl (Nat.le_of_ble_eq_true rfl) ((wM_s0_31 ad cy σ 0).trans (congrArg (wM ad cy) eσ1.symm)) dX12_instruction_2 (fun H locs hI => ?_)
  refine lv_aload_n hx hb dX12_instruction_5 rfl (lv_at hl 0 rfl) ?_
  refine lv_iconst (v := 0) hx hb dX12_instruction_6 (by decide) ?_
  obtain ⟨q, hf⟩ := zck_use hf
  obtain ⟨σ2, eσ2⟩ : ∃ z, z = zsi σ1 0 32 0 := ⟨_, rfl⟩
  replace hf := zbv_use eσ2 hf
  refine z_put hC hI hinX12_instruction_X120 tyX12_ok nmX12 0 (wM_e0 ad cy σ1) rfl 32 (by decide) (List.mem_cons_of_mem _ zw49_21) rfl (zbo_n q) (zbo_f q) (Nat.le_of_ble_eq_true rfl) ((wM_s0_32 ad cy σ1 0).trans (congrArg (wM ad cy) eσ2.symm)) dX12_instruction_7 (fun H locs hI => ?_)
  refine lv_aload_n hx hb dX12_instruction_10 rfl (lv_at hl 0 rfl) ?_
  refine lv_aload_n hx hb dX12_instruction_11 rfl (lv_at hl 0 rfl) ?_
  obtain ⟨σ3, v4, g3, hf⟩ := zbi_use hf
  refine z_callVi (As := []) (rest := [.ref (ad 0)]) hC hI (cX12_fetch_met st l D ad cy σ2  _ g3) (zgV zw49_22 zw49_23 zw50_0 zw1_5 zw50_1) rfl ⟨rfl, rfl⟩ 0 hdX12_fetch ⟨Nat.le_of_ble_eq_true rfl, Nat.le_of_ble_eq_true rfl⟩ rfl rfl (wM_e0 ad cy σ2) rfl hl rfl (Nat.le_of_ble_eq_true rfl) dX12_instruction_12 ⟨Nat.zero_le _, Nat.zero_le _⟩ (fun H locs hI => ?_)
  obtain ⟨σ5, v6, g5, hf⟩ := zbi_use hf
  refine z_callVi (As := [.int v4]) (rest := []) hC hI (cX12_plain_met st l D ad cy σ3 v4 _ g5) (zgV zw50_6 zw50_7 zw50_8 zw1_5 zw50_9) rfl ⟨rfl, rfl⟩ 1 hdX12_plain ⟨Nat.le_of_ble_eq_true rfl, Nat.le_of_ble_eq_true rfl⟩ rfl rfl (wM_e0 ad cy σ3) rfl hl rfl (Nat.le_of_ble_eq_true rfl) dX12_instruction_15 ⟨Nat.zero_le _, Nat.zero_le _⟩ (fun H locs hI => ?_)
  exact z_ireturn hC hI hf dX12_instruction_18
set_option maxRecDepth 20000 in
theorem cX12_instruction_met (st : Nat → Nat) (l : Launch) (D : va_G) (ad : Nat → Nat) (cy : Nat → ClassId) (σ : zSt)  (res : zSt × Int32) (hf : fX12_instruction σ  = some res) (sz : Nat) : zMi st l yX12_instruction wzX12_instruction rmX12_instruction [.ref (ad 0)] D (tM cy) (wM ad cy) sz σ res :=
  zMi.of (cc := cX12_instruction) (maxL := 1) (ret := (some .int)) (by decide) rfl (Nat.le_of_ble_eq_true rfl) (fun p e s m args below meth c hC A hI ls hl => bX12_instruction hC hI hl hf)
theorem hdX12_instruction : yX12_instruction.cls = RX12 ∧ yX12_instruction.cls ≠ "java/lang/invoke/MethodHandle" ∧ yX12_instruction.cls ≠ "java/lang/invoke/VarHandle" ∧ (parseMethodDescriptor yX12_instruction.desc).map (fun d => d.parameters.length) = some 0 := by decide +kernel
def rmX12_answers : Room := { frames := 1, cells := 0, slots := 0, locals := 20 }
def wzX12_answers : List Cond := .code yX12_answers cX12_answers 1 none :: wsL_law
theorem hinX12_answers_X120 : ∀ w ∈ wsX120, w ∈ wzX12_answers := fun w h => List.mem_cons_of_mem _ (inlX12 w h)
def fX12_answers  (σ : zSt)  : Option (zSt) :=
  zbu (fX12_grows σ ) (fun σ1 =>
  zck (zin 26 1048) (zbv (zsi σ1 3 ((26 : Int32).toNatClampNeg) 0) (fun σ2 =>
  some σ2)))
set_option maxRecDepth 20000 in
set_option maxHeartbeats 4000000 in
theorem bX12_answers {st : Nat → Nat} {p : Program} {l : Launch} {e : Env} {s : State} {m : MethodId} {args : Array Value} {below : List Frame} {meth : Method} {c : Code} {D : va_G} {A : Nat → Prop} {ad : Nat → Nat} {cy : Nat → ClassId} (hC : zC p m c cX12_answers 1 s args wzX12_answers RX12 meth none)  {res : zSt} {H : Heap} {locs : List Loc} {σ : zSt} {ls : Array Slot}  (hI : zI st D (tM cy) (wM ad cy σ) A s H locs) (hl : lv_has ls 1 [(0, .ref (ad 0))]) (hf : fX12_answers  σ  = some res) : W p l e rmX12_answers s m args below meth c H locs 0 0 (zQu below args s D (tM cy) (wM ad cy) A res) (F0 m 0 ls []) := by
  have hx := hC.1
  have hb := hC.2.1
  unfold fX12_answers at hf
  refine lv_aload_n hx hb dX12_answers_0 rfl (lv_at hl 0 rfl) ?_
  obtain ⟨σ1, g1, hf⟩ := zbu_use hf
  refine z_callVu (As := []) (rest := []) hC hI (cX12_grows_met st l D ad cy σ  _ g1) (zgV zw47_17 zw47_18 zw47_19 zw1_5 zw47_20) rfl ⟨rfl, rfl⟩ 0 hdX12_grows ⟨Nat.le_of_ble_eq_true rfl, Nat.le_of_ble_eq_true rfl⟩ rfl rfl (wM_e0 ad cy σ) rfl hl rfl (Nat.le_of_ble_eq_true rfl) dX12_answers_1 ⟨Nat.zero_le _, Nat.zero_le _⟩ (fun H locs hI => ?_)
  refine lv_aload_n hx hb dX12_answers_4 rfl (lv_at hl 0 rfl) ?_
  refine z_get hC hI hinX12_answers_X120 0 (wM_e0 ad cy σ1) rfl 10 (by decide) (List.mem_cons_of_mem _ zw9_7) rfl dX12_answers_5 ?_
  refine lv_bipush (v := 26) hx hb dX12_answers_8 (by decide) ?_
  refine lv_iconst (v := 0) hx hb dX12_answers_10 (by decide) ?_
  obtain ⟨q, hf⟩ := zck_use hf
  obtain ⟨σ2, eσ2⟩ : ∃ z, z = zsi σ1 3 ((26 : Int32).toNatClampNeg) 0 := ⟨_, rfl⟩
  replace hf := zbv_use eσ2 hf
  refine z_iast hC hI 3 2 (wM_e3 ad cy σ1) (tM_t3 cy) q ((wM_s3 ad cy σ1 _ _).trans (congrArg (wM ad cy) eσ2.symm)) dX12_answers_11 (fun H locs hI => ?_)
  exact z_return hC hI hf dX12_answers_12
set_option maxRecDepth 20000 in
theorem cX12_answers_met (st : Nat → Nat) (l : Launch) (D : va_G) (ad : Nat → Nat) (cy : Nat → ClassId) (σ : zSt)  (res : zSt) (hf : fX12_answers σ  = some res) (sz : Nat) : zMu st l yX12_answers wzX12_answers rmX12_answers [.ref (ad 0)] D (tM cy) (wM ad cy) sz σ res :=
  zMu.of (cc := cX12_answers) (maxL := 1) (ret := none) (by decide) rfl (Nat.le_of_ble_eq_true rfl) (fun p e s m args below meth c hC A hI ls hl => bX12_answers hC hI hl hf)
theorem hdX12_answers : yX12_answers.cls = RX12 ∧ yX12_answers.cls ≠ "java/lang/invoke/MethodHandle" ∧ yX12_answers.cls ≠ "java/lang/invoke/VarHandle" ∧ (parseMethodDescriptor yX12_answers.desc).map (fun d => d.parameters.length) = some 0 := by decide +kernel
def rmX12_reg : Room := { frames := 0, cells := 0, slots := 0, locals := 0 }
def wzX12_reg : List Cond := .code yX12_reg cX12_reg 2 (some .int) :: wsL_law
theorem hinX12_reg_X120 : ∀ w ∈ wsX120, w ∈ wzX12_reg := fun w h => List.mem_cons_of_mem _ (inlX12 w h)
def fX12_reg  (σ : zSt) (x1 : Int32) : Option (zSt × Int32) :=
  zck (zin (47 + x1) 1048) (
  some (σ, zgi σ 3 (47 + x1).toNatClampNeg))
set_option maxRecDepth 20000 in
set_option maxHeartbeats 4000000 in
theorem bX12_reg {st : Nat → Nat} {p : Program} {l : Launch} {e : Env} {s : State} {m : MethodId} {args : Array Value} {below : List Frame} {meth : Method} {c : Code} {D : va_G} {A : Nat → Prop} {ad : Nat → Nat} {cy : Nat → ClassId} (hC : zC p m c cX12_reg 2 s args wzX12_reg RX12 meth (some .int))  {res : zSt × Int32} {H : Heap} {locs : List Loc} {σ : zSt} {ls : Array Slot} {x1 : Int32} (hI : zI st D (tM cy) (wM ad cy σ) A s H locs) (hl : lv_has ls 2 [(0, .ref (ad 0)), (1, .int x1)]) (hf : fX12_reg  σ x1 = some res) : W p l e rmX12_reg s m args below meth c H locs 0 0 (zQi below args s D (tM cy) (wM ad cy) A res) (F0 m 0 ls []) := by
  have hx := hC.1
  have hb := hC.2.1
  unfold fX12_reg at hf
  refine lv_aload_n hx hb dX12_reg_0 rfl (lv_at hl 0 rfl) ?_
  refine z_get hC hI hinX12_reg_X120 0 (wM_e0 ad cy σ) rfl 10 (by decide) (List.mem_cons_of_mem _ zw9_7) rfl dX12_reg_1 ?_
  refine lv_bipush (v := 47) hx hb dX12_reg_4 (by decide) ?_
  refine lv_iload_n hx hb dX12_reg_6 rfl (lv_at hl 1 rfl) ?_
  refine lv_iadd hx hb dX12_reg_7 ?_
  obtain ⟨q, hf⟩ := zck_use hf
  refine z_iald hC hI 3 2 (wM_e3 ad cy σ) (tM_t3 cy) q dX12_reg_8 ?_
  exact z_ireturn hC hI hf dX12_reg_9
set_option maxRecDepth 20000 in
theorem cX12_reg_met (st : Nat → Nat) (l : Launch) (D : va_G) (ad : Nat → Nat) (cy : Nat → ClassId) (σ : zSt) (x1 : Int32) (res : zSt × Int32) (hf : fX12_reg σ x1 = some res) (sz : Nat) : zMi st l yX12_reg wzX12_reg rmX12_reg [.ref (ad 0), .int x1] D (tM cy) (wM ad cy) sz σ res :=
  zMi.of (cc := cX12_reg) (maxL := 2) (ret := (some .int)) (by decide) rfl (Nat.le_of_ble_eq_true rfl) (fun p e s m args below meth c hC A hI ls hl => bX12_reg hC hI hl hf)
theorem hdX12_reg : yX12_reg.cls = RX12 ∧ yX12_reg.cls ≠ "java/lang/invoke/MethodHandle" ∧ yX12_reg.cls ≠ "java/lang/invoke/VarHandle" ∧ (parseMethodDescriptor yX12_reg.desc).map (fun d => d.parameters.length) = some 1 := by decide +kernel
def rmX12_tileDot : Room := { frames := 1, cells := 0, slots := 0, locals := 21 }
def wzX12_tileDot : List Cond := .code yX12_tileDot cX12_tileDot 6 (some .int) :: wsL_law
def fX12_tileDot_6_body (k6 : zSt → Int32 → Int32 → Int32 → Int32 → Int32 → Option (zSt × Int32)) (σ : zSt) (x1 : Int32) (x2 : Int32) (x3 : Int32) (x4 : Int32) (x5 : Int32) : Option (zSt × Int32) :=
  if 4 ≤ x5 then some (σ, x4) else
  zbi (fX12_video8 σ (((32 * x1) + (4 * x3)) + x5)) (fun σ1 v2 =>
  zbv (x4 ||| (((v2 >>> ((7 - x2) &&& 31)) &&& 1) <<< (x5 &&& 31))) (fun v3 =>
  zbv (x5 + 1) (fun v4 =>
  k6 σ1 x1 x2 x3 v3 v4)))
def fX12_tileDot_6  : Nat → zSt → Int32 → Int32 → Int32 → Int32 → Int32 → Option (zSt × Int32)
  | 0, _, _, _, _, _, _ => none
  | n + 1, σ, x1, x2, x3, x4, x5 => fX12_tileDot_6_body (fX12_tileDot_6  n) σ x1 x2 x3 x4 x5
def fX12_tileDot  (σ : zSt) (x1 : Int32) (x2 : Int32) (x3 : Int32) : Option (zSt × Int32) :=
  fX12_tileDot_6 zfuel σ x1 x2 x3 0 0
set_option maxRecDepth 20000 in
set_option maxHeartbeats 4000000 in
theorem bX12_tileDot_6_body {st : Nat → Nat} {p : Program} {l : Launch} {e : Env} {s : State} {m : MethodId} {args : Array Value} {below : List Frame} {meth : Method} {c : Code} {D : va_G} {A : Nat → Prop} {ad : Nat → Nat} {cy : Nat → ClassId} (hC : zC p m c cX12_tileDot 6 s args wzX12_tileDot RX12 meth (some .int)) {k6 : zSt → Int32 → Int32 → Int32 → Int32 → Int32 → Option (zSt × Int32)} {res : zSt × Int32} (hk6 : ∀ (H : Heap) (locs : List Loc) (σ : zSt) (ls : Array Slot) (x1 : Int32) (x2 : Int32) (x3 : Int32) (x4 : Int32) (x5 : Int32), zI st D (tM cy) (wM ad cy σ) A s H locs → lv_has ls 6 [(0, .ref (ad 0)), (1, .int x1), (2, .int x2), (3, .int x3), (4, .int x4), (5, .int x5)] → k6 σ x1 x2 x3 x4 x5 = some res → W p l e rmX12_tileDot s m args below meth c H locs 0 0 (zQi below args s D (tM cy) (wM ad cy) A res) (F0 m 6 ls [])) {H : Heap} {locs : List Loc} {σ : zSt} {ls : Array Slot} {x1 : Int32} {x2 : Int32} {x3 : Int32} {x4 : Int32} {x5 : Int32} (hI : zI st D (tM cy) (wM ad cy σ) A s H locs) (hl : lv_has ls 6 [(0, .ref (ad 0)), (1, .int x1), (2, .int x2), (3, .int x3), (4, .int x4), (5, .int x5)]) (hf : fX12_tileDot_6_body k6 σ x1 x2 x3 x4 x5 = some res) : W p l e rmX12_tileDot s m args below meth c H locs 0 0 (zQi below args s D (tM cy) (wM ad cy) A res) (F0 m 6 ls []) := by
  have hx := hC.1
  have hb := hC.2.1
  unfold fX12_tileDot_6_body at hf
  refine lv_iload hx hb dX12_tileDot_6 (lv_at hl 5 rfl) ?_
  refine lv_iconst (v := 4) hx hb dX12_tileDot_8 (by decide) ?_
  refine lv_icmp_ge (tgt := 48) hx hb dX12_tileDot_9 (by decide) (fun q => ?_) (fun q => ?_)
  · replace hf := zif_t q hf
    refine lv_iload hx hb dX12_tileDot_48 (lv_at hl 4 rfl) ?_
    exact z_ireturn hC hI hf dX12_tileDot_50
  replace hf := zif_f q hf
  refine lv_iload hx hb dX12_tileDot_12 (lv_at hl 4 rfl) ?_
  refine lv_aload_n hx hb dX12_tileDot_14 rfl (lv_at hl 0 rfl) ?_
  refine lv_bipush (v := 32) hx hb dX12_tileDot_15 (by decide) ?_
  refine lv_iload_n hx hb dX12_tileDot_17 rfl (lv_at hl 1 rfl) ?_
  refine lv_imul hx hb dX12_tileDot_18 ?_
  refine lv_iconst (v := 4) hx hb dX12_tileDot_19 (by decide) ?_
  refine lv_iload_n hx hb dX12_tileDot_20 rfl (lv_at hl 3 rfl) ?_
  refine lv_imul hx hb dX12_tileDot_21 ?_
  refine lv_iadd hx hb dX12_tileDot_22 ?_
  refine lv_iload hx hb dX12_tileDot_23 (lv_at hl 5 rfl) ?_
  refine lv_iadd hx hb dX12_tileDot_25 ?_
  obtain ⟨σ1, v2, g1, hf⟩ := zbi_use hf
  refine z_callVi (As := [.int (((32 * x1) + (4 * x3)) + x5)]) (rest := [.int x4]) hC hI (cX12_video8_met st l D ad cy σ (((32 * x1) + (4 * x3)) + x5) _ g1) (zgV zw56_6 zw56_7 zw56_8 zw1_5 zw56_9) rfl ⟨rfl, rfl⟩ 1 hdX12_video8 ⟨Nat.le_of_ble_eq_true rfl, Nat.le_of_ble_eq_true rfl⟩ rfl rfl (wM_e0 ad cy σ) rfl hl rfl (Nat.le_of_ble_eq_true rfl) dX12_tileDot_26 ⟨Nat.zero_le _, Nat.zero_le _⟩ (fun H locs hI => ?_)
  refine lv_bipush (v := 7) hx hb dX12_tileDot_29 (by decide) ?_
  refine lv_iload_n hx hb dX12_tileDot_31 rfl (lv_at hl 2 rfl) ?_
  refine lv_isub hx hb dX12_tileDot_32 ?_
  refine lv_ishr hx hb dX12_tileDot_33 ?_
  refine lv_iconst (v := 1) hx hb dX12_tileDot_34 (by decide) ?_
  refine lv_iand hx hb dX12_tileDot_35 ?_
  refine lv_iload hx hb dX12_tileDot_36 (lv_at hl 5 rfl) ?_
  refine lv_ishl hx hb dX12_tileDot_38 ?_
  refine lv_ior hx hb dX12_tileDot_39 ?_
  refine lv_topi (fun v3 ev3 => ?_)
  replace hf := zbv_use ev3 hf
  refine lv_istore (lv' := [(4, .int v3), (0, .ref (ad 0)), (1, .int x1), (2, .int x2), (3, .int x3), (5, .int x5)]) hx hb dX12_tileDot_40 hl (by decide) rfl (fun ls hl => ?_)
  obtain ⟨v4, ev4⟩ : ∃ z : Int32, z = x5 + 1 := ⟨_, rfl⟩
  replace hf := zbv_use ev4 hf
  refine lv_iinc (v := v4) (lv' := [(5, .int v4), (4, .int v3), (0, .ref (ad 0)), (1, .int x1), (2, .int x2), (3, .int x3)]) hx hb dX12_tileDot_42 hl (k := 5) rfl (by rw [ev4]; rfl) (by decide) rfl (fun ls hl => ?_)
  refine lv_goto (tgt := 6) hx hb dX12_tileDot_45 (by decide) ?_
  exact hk6 _ _ _ _ _ _ _ _ _ hI (lv_sub hl [2, 3, 4, 5, 1, 0] rfl) hf
theorem blX12_tileDot_6 {st : Nat → Nat} {p : Program} {l : Launch} {e : Env} {s : State} {m : MethodId} {args : Array Value} {below : List Frame} {meth : Method} {c : Code} {D : va_G} {A : Nat → Prop} {ad : Nat → Nat} {cy : Nat → ClassId} (hC : zC p m c cX12_tileDot 6 s args wzX12_tileDot RX12 meth (some .int))  {res : zSt × Int32} : ∀ (n : Nat) (H : Heap) (locs : List Loc) (σ : zSt) (ls : Array Slot) (x1 : Int32) (x2 : Int32) (x3 : Int32) (x4 : Int32) (x5 : Int32), zI st D (tM cy) (wM ad cy σ) A s H locs → lv_has ls 6 [(0, .ref (ad 0)), (1, .int x1), (2, .int x2), (3, .int x3), (4, .int x4), (5, .int x5)] → fX12_tileDot_6  n σ x1 x2 x3 x4 x5 = some res → W p l e rmX12_tileDot s m args below meth c H locs 0 0 (zQi below args s D (tM cy) (wM ad cy) A res) (F0 m 6 ls []) := by
  intro n
  induction n with
  | zero => intro H locs σ ls x1 x2 x3 x4 x5 hI hl hf; cases hf
  | succ n ih => intro H locs σ ls x1 x2 x3 x4 x5 hI hl hf; exact bX12_tileDot_6_body hC ih hI hl hf
set_option maxRecDepth 20000 in
set_option maxHeartbeats 4000000 in
theorem bX12_tileDot {st : Nat → Nat} {p : Program} {l : Launch} {e : Env} {s : State} {m : MethodId} {args : Array Value} {below : List Frame} {meth : Method} {c : Code} {D : va_G} {A : Nat → Prop} {ad : Nat → Nat} {cy : Nat → ClassId} (hC : zC p m c cX12_tileDot 6 s args wzX12_tileDot RX12 meth (some .int))  {res : zSt × Int32} {H : Heap} {locs : List Loc} {σ : zSt} {ls : Array Slot} {x1 : Int32} {x2 : Int32} {x3 : Int32} (hI : zI st D (tM cy) (wM ad cy σ) A s H locs) (hl : lv_has ls 6 [(0, .ref (ad 0)), (1, .int x1), (2, .int x2), (3, .int x3)]) (hf : fX12_tileDot  σ x1 x2 x3 = some res) : W p l e rmX12_tileDot s m args below meth c H locs 0 0 (zQi below args s D (tM cy) (wM ad cy) A res) (F0 m 0 ls []) := by
  have hx := hC.1
  have hb := hC.2.1
  unfold fX12_tileDot at hf
  refine lv_iconst (v := 0) hx hb dX12_tileDot_0 (by decide) ?_
  refine lv_istore (lv' := [(4, .int 0), (0, .ref (ad 0)), (1, .int x1), (2, .int x2), (3, .int x3)]) hx hb dX12_tileDot_1 hl (by decide) rfl (fun ls hl => ?_)
  refine lv_iconst (v := 0) hx hb dX12_tileDot_3 (by decide) ?_
  refine lv_istore (lv' := [(5, .int 0), (4, .int 0), (0, .ref (ad 0)), (1, .int x1), (2, .int x2), (3, .int x3)]) hx hb dX12_tileDot_4 hl (by decide) rfl (fun ls hl => ?_)
  exact blX12_tileDot_6 hC  zfuel _ _ _ _ _ _ _ _ _ hI (lv_sub hl [2, 3, 4, 5, 1, 0] rfl) hf
set_option maxRecDepth 20000 in
theorem cX12_tileDot_met (st : Nat → Nat) (l : Launch) (D : va_G) (ad : Nat → Nat) (cy : Nat → ClassId) (σ : zSt) (x1 : Int32) (x2 : Int32) (x3 : Int32) (res : zSt × Int32) (hf : fX12_tileDot σ x1 x2 x3 = some res) (sz : Nat) : zMi st l yX12_tileDot wzX12_tileDot rmX12_tileDot [.ref (ad 0), .int x1, .int x2, .int x3] D (tM cy) (wM ad cy) sz σ res :=
  zMi.of (cc := cX12_tileDot) (maxL := 6) (ret := (some .int)) (by decide) rfl (Nat.le_of_ble_eq_true rfl) (fun p e s m args below meth c hC A hI ls hl => bX12_tileDot hC hI hl hf)
theorem hdX12_tileDot : yX12_tileDot.cls = RX12 ∧ yX12_tileDot.cls ≠ "java/lang/invoke/MethodHandle" ∧ yX12_tileDot.cls ≠ "java/lang/invoke/VarHandle" ∧ (parseMethodDescriptor yX12_tileDot.desc).map (fun d => d.parameters.length) = some 3 := by decide +kernel
def rmX12_tile : Room := { frames := 3, cells := 0, slots := 0, locals := 62 }
def wzX12_tile : List Cond := .code yX12_tile cX12_tile 13 none :: wsL_law
theorem hinX12_tile_X120 : ∀ w ∈ wsX120, w ∈ wzX12_tile := fun w h => List.mem_cons_of_mem _ (inlX12 w h)
def fX12_tile_302  (σ : zSt) (s0 : Int32) (s1 : Int32) : Option (zSt) :=
  zck (zin s1 256) (zbv (zsi σ 23 (s1.toNatClampNeg) (vp_nar .boolean s0)) (fun σ1 =>
  some σ1))
def fX12_tile_301  (σ : zSt) (s0 : Int32) : Option (zSt) :=
  fX12_tile_302 σ 0 s0
def fX12_tile_276  (σ : zSt) (x2 : Int32) (x9 : Int32) (x12 : Int32) (s0 : Int32) (s1 : Int32) (s2 : Int32) : Option (zSt) :=
  zck (zin s2 256) (zbv (zsi σ 22 (s2.toNatClampNeg) (s1 + s0)) (fun σ2 =>
  if x12 ≤ 0 then fX12_tile_301 σ2 x2 else
  if (x9 &&& 4096) = 0 then fX12_tile_301 σ2 x2 else
  fX12_tile_302 σ2 1 x2))
def fX12_tile_236  (σ : zSt) (x2 : Int32) (x9 : Int32) (x10 : Int32) (s0 : Int32) : Option (zSt) :=
  zbi (fX12_tileDot σ (x9 &&& 511) x10 s0) (fun σ3 v4 =>
  if (x9 &&& 2048) = 0 then fX12_tile_276 σ3 x2 x9 v4 0 v4 x2 else
  fX12_tile_276 σ3 x2 x9 v4 16 v4 x2)
def fX12_tile_209  (σ : zSt) (x2 : Int32) (x7 : Int32) (x9 : Int32) (s0 : Int32) : Option (zSt) :=
  if (x9 &&& 1024) = 0 then zck (decide (¬ 8 = 0)) (
  fX12_tile_236 σ x2 x9 s0 (zrem x7 8)) else
  zck (decide (¬ 8 = 0)) (
  fX12_tile_236 σ x2 x9 s0 (7 - (zrem x7 8)))
def fX12_tile_141  (σ : zSt) (x2 : Int32) (x4 : Int32) (x6 : Int32) (s0 : Int32) : Option (zSt) :=
  zck (decide (¬ 8 = 0)) (
  zck (decide (¬ 8 = 0)) (
  zbv ((x4 + (64 * (s0 / 8))) + (2 * (x6 / 8))) (fun v5 =>
  zbi (fX12_video8 σ v5) (fun σ6 v7 =>
  zbi (fX12_video8 σ6 (v5 + 1)) (fun σ8 v9 =>
  zbv (v7 ||| (v9 <<< ((8 : Int32) &&& 31))) (fun v10 =>
  if (v10 &&& 512) = 0 then zck (decide (¬ 8 = 0)) (
  fX12_tile_209 σ8 x2 s0 v10 (zrem x6 8)) else
  zck (decide (¬ 8 = 0)) (
  fX12_tile_209 σ8 x2 s0 v10 (7 - (zrem x6 8)))))))))
def fX12_tile_140  (σ : zSt) (x2 : Int32) (x4 : Int32) (x6 : Int32) (s0 : Int32) (s1 : Int32) : Option (zSt) :=
  zck (decide (¬ s0 = 0)) (
  fX12_tile_141 σ x2 x4 x6 (zrem s1 s0))
def fX12_tile_118  (σ : zSt) (x1 : Int32) (x2 : Int32) (x3 : Int32) (x4 : Int32) (x6 : Int32) : Option (zSt) :=
  zck (zin 65 1048) (
  if x3 = 0 then fX12_tile_140 σ x2 x4 x6 256 (x1 + (zgi σ 3 (65 : Int32).toNatClampNeg)) else
  fX12_tile_140 σ x2 x4 x6 224 (x1 + (zgi σ 3 (65 : Int32).toNatClampNeg)))
def fX12_tile_84  (σ : zSt) (x1 : Int32) (x2 : Int32) (x3 : Int32) (x4 : Int32) (s0 : Int32) : Option (zSt) :=
  zbv ((x2 - s0) &&& 255) (fun v11 =>
  if x2 ≤ 191 then fX12_tile_118 σ x1 x2 x3 x4 v11 else
  zbi (fX12_bit σ 0 7) (fun σ12 v13 =>
  if v13 = 1 then fX12_tile_141 σ12 x2 x4 v11 x1 else
  fX12_tile_118 σ12 x1 x2 x3 x4 v11))
def fX12_tile_78  (σ : zSt) (x1 : Int32) (x2 : Int32) (x3 : Int32) (x4 : Int32) : Option (zSt) :=
  zbi (fX12_reg σ 8) (fun σ14 v15 =>
  fX12_tile_84 σ14 x1 x2 x3 x4 v15)
def fX12_tile_55  (σ : zSt) (x1 : Int32) (x2 : Int32) (x3 : Int32) (s0 : Int32) : Option (zSt) :=
  if 16 ≤ x1 then fX12_tile_78 σ x1 x2 x3 s0 else
  zbi (fX12_bit σ 0 6) (fun σ16 v17 =>
  if v17 = 1 then fX12_tile_84 σ16 x1 x2 x3 s0 0 else
  fX12_tile_78 σ16 x1 x2 x3 s0)
def fX12_tile_15  (σ : zSt) (x1 : Int32) (x2 : Int32) (s0 : Int32) : Option (zSt) :=
  if s0 = 0 then zbi (fX12_reg σ 2) (fun σ18 v19 =>
  zck (decide (¬ 4 = 0)) (
  zck (decide (¬ 4 = 0)) (
  fX12_tile_55 σ18 x1 x2 s0 ((4096 * (zrem (v19 / 4) 4)) + 1792)))) else
  zbi (fX12_reg σ 2) (fun σ20 v21 =>
  zck (decide (¬ 16 = 0)) (
  fX12_tile_55 σ20 x1 x2 s0 (1024 * ((zrem v21 16) &&& 14))))
def fX12_tile  (σ : zSt) (x1 : Int32) (x2 : Int32) : Option (zSt) :=
  zbi (fX12_height σ ) (fun σ22 v23 =>
  if v23 = 192 then fX12_tile_15 σ22 x1 x2 1 else
  fX12_tile_15 σ22 x1 x2 0)
set_option maxRecDepth 20000 in
set_option maxHeartbeats 4000000 in
theorem bX12_tile_302 {st : Nat → Nat} {p : Program} {l : Launch} {e : Env} {s : State} {m : MethodId} {args : Array Value} {below : List Frame} {meth : Method} {c : Code} {D : va_G} {A : Nat → Prop} {ad : Nat → Nat} {cy : Nat → ClassId} (hC : zC p m c cX12_tile 13 s args wzX12_tile RX12 meth none)  {res : zSt} {H : Heap} {locs : List Loc} {σ : zSt} {ls : Array Slot} {s0 : Int32} {s1 : Int32} (hI : zI st D (tM cy) (wM ad cy σ) A s H locs) (hl : lv_has ls 13 []) (hf : fX12_tile_302  σ s0 s1 = some res) : W p l e rmX12_tile s m args below meth c H locs 0 0 (zQu below args s D (tM cy) (wM ad cy) A res) (F0 m 302 ls [.int s0, .int s1, .ref (ad 23)]) := by
  have hx := hC.1
  have hb := hC.2.1
  unfold fX12_tile_302 at hf
  obtain ⟨q, hf⟩ := zck_use hf
  obtain ⟨σ1, eσ1⟩ : ∃ z, z = zsi σ 23 (s1.toNatClampNeg) (vp_nar .boolean s0) := ⟨_, rfl⟩
  replace hf := zbv_use eσ1 hf
  refine z_zast hC hI 23 22 (wM_e23 ad cy σ) (tM_t23 cy) q ((wM_s23 ad cy σ _ _).trans (congrArg (wM ad cy) eσ1.symm)) dX12_tile_302 (fun H locs hI => ?_)
  exact z_return hC hI hf dX12_tile_303
set_option maxRecDepth 20000 in
set_option maxHeartbeats 4000000 in
theorem bX12_tile_301 {st : Nat → Nat} {p : Program} {l : Launch} {e : Env} {s : State} {m : MethodId} {args : Array Value} {below : List Frame} {meth : Method} {c : Code} {D : va_G} {A : Nat → Prop} {ad : Nat → Nat} {cy : Nat → ClassId} (hC : zC p m c cX12_tile 13 s args wzX12_tile RX12 meth none)  {res : zSt} {H : Heap} {locs : List Loc} {σ : zSt} {ls : Array Slot} {s0 : Int32} (hI : zI st D (tM cy) (wM ad cy σ) A s H locs) (hl : lv_has ls 13 []) (hf : fX12_tile_301  σ s0 = some res) : W p l e rmX12_tile s m args below meth c H locs 0 0 (zQu below args s D (tM cy) (wM ad cy) A res) (F0 m 301 ls [.int s0, .ref (ad 23)]) := by
  have hx := hC.1
  have hb := hC.2.1
  unfold fX12_tile_301 at hf
  refine lv_iconst (v := 0) hx hb dX12_tile_301 (by decide) ?_
  exact bX12_tile_302 hC  hI hl hf
set_option maxRecDepth 20000 in
set_option maxHeartbeats 4000000 in
theorem bX12_tile_276 {st : Nat → Nat} {p : Program} {l : Launch} {e : Env} {s : State} {m : MethodId} {args : Array Value} {below : List Frame} {meth : Method} {c : Code} {D : va_G} {A : Nat → Prop} {ad : Nat → Nat} {cy : Nat → ClassId} (hC : zC p m c cX12_tile 13 s args wzX12_tile RX12 meth none)  {res : zSt} {H : Heap} {locs : List Loc} {σ : zSt} {ls : Array Slot} {x2 : Int32} {x9 : Int32} {x12 : Int32} {s0 : Int32} {s1 : Int32} {s2 : Int32} (hI : zI st D (tM cy) (wM ad cy σ) A s H locs) (hl : lv_has ls 13 [(0, .ref (ad 0)), (2, .int x2), (9, .int x9), (12, .int x12)]) (hf : fX12_tile_276  σ x2 x9 x12 s0 s1 s2 = some res) : W p l e rmX12_tile s m args below meth c H locs 0 0 (zQu below args s D (tM cy) (wM ad cy) A res) (F0 m 276 ls [.int s0, .int s1, .int s2, .ref (ad 22)]) := by
  have hx := hC.1
  have hb := hC.2.1
  unfold fX12_tile_276 at hf
  refine lv_iadd hx hb dX12_tile_276 ?_
  obtain ⟨q, hf⟩ := zck_use hf
  obtain ⟨σ2, eσ2⟩ : ∃ z, z = zsi σ 22 (s2.toNatClampNeg) (s1 + s0) := ⟨_, rfl⟩
  replace hf := zbv_use eσ2 hf
  refine z_iast hC hI 22 21 (wM_e22 ad cy σ) (tM_t22 cy) q ((wM_s22 ad cy σ _ _).trans (congrArg (wM ad cy) eσ2.symm)) dX12_tile_277 (fun H locs hI => ?_)
  refine lv_aload_n hx hb dX12_tile_278 rfl (lv_at hl 0 rfl) ?_
  refine z_get hC hI hinX12_tile_X120 0 (wM_e0 ad cy σ2) rfl 35 (by decide) (List.mem_cons_of_mem _ zw10_6) rfl dX12_tile_279 ?_
  refine lv_iload_n hx hb dX12_tile_282 rfl (lv_at hl 1 rfl) ?_
  refine lv_iload hx hb dX12_tile_283 (lv_at hl 3 rfl) ?_
  refine lv_if_le (tgt := 301) hx hb dX12_tile_285 (by decide) (fun q => ?_) (fun q => ?_)
  · replace hf := zif_t q hf
    exact bX12_tile_301 hC  hI (lv_sub hl [] rfl) hf
  replace hf := zif_f q hf
  refine lv_iload hx hb dX12_tile_288 (lv_at hl 2 rfl) ?_
  refine lv_sipush (v := 4096) hx hb dX12_tile_290 (by decide) ?_
  refine lv_iand hx hb dX12_tile_293 ?_
  refine lv_if_eq (tgt := 301) hx hb dX12_tile_294 (by decide) (fun q => ?_) (fun q => ?_)
  · replace hf := zif_t q hf
    exact bX12_tile_301 hC  hI (lv_sub hl [] rfl) hf
  replace hf := zif_f q hf
  refine lv_iconst (v := 1) hx hb dX12_tile_297 (by decide) ?_
  refine lv_goto (tgt := 302) hx hb dX12_tile_298 (by decide) ?_
  exact bX12_tile_302 hC  hI (lv_sub hl [] rfl) hf
set_option maxRecDepth 20000 in
set_option maxHeartbeats 4000000 in
theorem bX12_tile_236 {st : Nat → Nat} {p : Program} {l : Launch} {e : Env} {s : State} {m : MethodId} {args : Array Value} {below : List Frame} {meth : Method} {c : Code} {D : va_G} {A : Nat → Prop} {ad : Nat → Nat} {cy : Nat → ClassId} (hC : zC p m c cX12_tile 13 s args wzX12_tile RX12 meth none)  {res : zSt} {H : Heap} {locs : List Loc} {σ : zSt} {ls : Array Slot} {x2 : Int32} {x9 : Int32} {x10 : Int32} {s0 : Int32} (hI : zI st D (tM cy) (wM ad cy σ) A s H locs) (hl : lv_has ls 13 [(0, .ref (ad 0)), (2, .int x2), (9, .int x9), (10, .int x10)]) (hf : fX12_tile_236  σ x2 x9 x10 s0 = some res) : W p l e rmX12_tile s m args below meth c H locs 0 0 (zQu below args s D (tM cy) (wM ad cy) A res) (F0 m 236 ls [.int s0]) := by
  have hx := hC.1
  have hb := hC.2.1
  unfold fX12_tile_236 at hf
  refine lv_istore (lv' := [(11, .int s0), (0, .ref (ad 0)), (2, .int x2), (9, .int x9), (10, .int x10)]) hx hb dX12_tile_236 hl (by decide) rfl (fun ls hl => ?_)
  refine lv_aload_n hx hb dX12_tile_238 rfl (lv_at hl 1 rfl) ?_
  refine lv_iload hx hb dX12_tile_239 (lv_at hl 3 rfl) ?_
  refine lv_sipush (v := 511) hx hb dX12_tile_241 (by decide) ?_
  refine lv_iand hx hb dX12_tile_244 ?_
  refine lv_iload hx hb dX12_tile_245 (lv_at hl 4 rfl) ?_
  refine lv_iload hx hb dX12_tile_247 (lv_at hl 0 rfl) ?_
  obtain ⟨σ3, v4, g3, hf⟩ := zbi_use hf
  refine z_callVi (As := [.int (x9 &&& 511), .int x10, .int s0]) (rest := []) hC hI (cX12_tileDot_met st l D ad cy σ (x9 &&& 511) x10 s0 _ g3) (zgV zw59_14 zw59_15 zw59_16 zw1_5 zw59_17) rfl ⟨rfl, rfl⟩ 3 hdX12_tileDot ⟨Nat.le_of_ble_eq_true rfl, Nat.le_of_ble_eq_true rfl⟩ rfl rfl (wM_e0 ad cy σ) rfl hl rfl (Nat.le_of_ble_eq_true rfl) dX12_tile_249 ⟨Nat.zero_le _, Nat.zero_le _⟩ (fun H locs hI => ?_)
  refine lv_istore (lv' := [(12, .int v4), (11, .int s0), (0, .ref (ad 0)), (2, .int x2), (9, .int x9), (10, .int x10)]) hx hb dX12_tile_252 hl (by decide) rfl (fun ls hl => ?_)
  refine lv_aload_n hx hb dX12_tile_254 rfl (lv_at hl 2 rfl) ?_
  refine z_get hC hI hinX12_tile_X120 0 (wM_e0 ad cy σ3) rfl 34 (by decide) (List.mem_cons_of_mem _ zw10_4) rfl dX12_tile_255 ?_
  refine lv_iload_n hx hb dX12_tile_258 rfl (lv_at hl 3 rfl) ?_
  refine lv_iload hx hb dX12_tile_259 (lv_at hl 0 rfl) ?_
  refine lv_iload hx hb dX12_tile_261 (lv_at hl 4 rfl) ?_
  refine lv_sipush (v := 2048) hx hb dX12_tile_263 (by decide) ?_
  refine lv_iand hx hb dX12_tile_266 ?_
  refine lv_if_eq (tgt := 275) hx hb dX12_tile_267 (by decide) (fun q => ?_) (fun q => ?_)
  · replace hf := zif_t q hf
    refine lv_iconst (v := 0) hx hb dX12_tile_275 (by decide) ?_
    exact bX12_tile_276 hC  hI (lv_sub hl [2, 3, 4, 0] rfl) hf
  replace hf := zif_f q hf
  refine lv_bipush (v := 16) hx hb dX12_tile_270 (by decide) ?_
  refine lv_goto (tgt := 276) hx hb dX12_tile_272 (by decide) ?_
  exact bX12_tile_276 hC  hI (lv_sub hl [2, 3, 4, 0] rfl) hf
set_option maxRecDepth 20000 in
set_option maxHeartbeats 4000000 in
theorem bX12_tile_209 {st : Nat → Nat} {p : Program} {l : Launch} {e : Env} {s : State} {m : MethodId} {args : Array Value} {below : List Frame} {meth : Method} {c : Code} {D : va_G} {A : Nat → Prop} {ad : Nat → Nat} {cy : Nat → ClassId} (hC : zC p m c cX12_tile 13 s args wzX12_tile RX12 meth none)  {res : zSt} {H : Heap} {locs : List Loc} {σ : zSt} {ls : Array Slot} {x2 : Int32} {x7 : Int32} {x9 : Int32} {s0 : Int32} (hI : zI st D (tM cy) (wM ad cy σ) A s H locs) (hl : lv_has ls 13 [(0, .ref (ad 0)), (2, .int x2), (7, .int x7), (9, .int x9)]) (hf : fX12_tile_209  σ x2 x7 x9 s0 = some res) : W p l e rmX12_tile s m args below meth c H locs 0 0 (zQu below args s D (tM cy) (wM ad cy) A res) (F0 m 209 ls [.int s0]) := by
  have hx := hC.1
  have hb := hC.2.1
  unfold fX12_tile_209 at hf
  refine lv_istore (lv' := [(10, .int s0), (0, .ref (ad 0)), (2, .int x2), (7, .int x7), (9, .int x9)]) hx hb dX12_tile_209 hl (by decide) rfl (fun ls hl => ?_)
  refine lv_iload hx hb dX12_tile_211 (lv_at hl 4 rfl) ?_
  refine lv_sipush (v := 1024) hx hb dX12_tile_213 (by decide) ?_
  refine lv_iand hx hb dX12_tile_216 ?_
  refine lv_if_eq (tgt := 231) hx hb dX12_tile_217 (by decide) (fun q => ?_) (fun q => ?_)
  · replace hf := zif_t q hf
    refine lv_iload hx hb dX12_tile_231 (lv_at hl 3 rfl) ?_
    refine lv_bipush (v := 8) hx hb dX12_tile_233 (by decide) ?_
    obtain ⟨q, hf⟩ := zck_use hf
    refine z_irem hx hb dX12_tile_235 (of_decide_eq_true q) ?_
    exact bX12_tile_236 hC  hI (lv_sub hl [1, 2, 4, 0] rfl) hf
  replace hf := zif_f q hf
  refine lv_bipush (v := 7) hx hb dX12_tile_220 (by decide) ?_
  refine lv_iload hx hb dX12_tile_222 (lv_at hl 3 rfl) ?_
  refine lv_bipush (v := 8) hx hb dX12_tile_224 (by decide) ?_
  obtain ⟨q, hf⟩ := zck_use hf
  refine z_irem hx hb dX12_tile_226 (of_decide_eq_true q) ?_
  refine lv_isub hx hb dX12_tile_227 ?_
  refine lv_goto (tgt := 236) hx hb dX12_tile_228 (by decide) ?_
  exact bX12_tile_236 hC  hI (lv_sub hl [1, 2, 4, 0] rfl) hf
set_option maxRecDepth 20000 in
set_option maxHeartbeats 4000000 in
theorem bX12_tile_141 {st : Nat → Nat} {p : Program} {l : Launch} {e : Env} {s : State} {m : MethodId} {args : Array Value} {below : List Frame} {meth : Method} {c : Code} {D : va_G} {A : Nat → Prop} {ad : Nat → Nat} {cy : Nat → ClassId} (hC : zC p m c cX12_tile 13 s args wzX12_tile RX12 meth none)  {res : zSt} {H : Heap} {locs : List Loc} {σ : zSt} {ls : Array Slot} {x2 : Int32} {x4 : Int32} {x6 : Int32} {s0 : Int32} (hI : zI st D (tM cy) (wM ad cy σ) A s H locs) (hl : lv_has ls 13 [(0, .ref (ad 0)), (2, .int x2), (4, .int x4), (6, .int x6)]) (hf : fX12_tile_141  σ x2 x4 x6 s0 = some res) : W p l e rmX12_tile s m args below meth c H locs 0 0 (zQu below args s D (tM cy) (wM ad cy) A res) (F0 m 141 ls [.int s0]) := by
  have hx := hC.1
  have hb := hC.2.1
  unfold fX12_tile_141 at hf
  refine lv_istore (lv' := [(7, .int s0), (0, .ref (ad 0)), (2, .int x2), (4, .int x4), (6, .int x6)]) hx hb dX12_tile_141 hl (by decide) rfl (fun ls hl => ?_)
  refine lv_iload hx hb dX12_tile_143 (lv_at hl 3 rfl) ?_
  refine lv_bipush (v := 64) hx hb dX12_tile_145 (by decide) ?_
  refine lv_iload hx hb dX12_tile_147 (lv_at hl 0 rfl) ?_
  refine lv_bipush (v := 8) hx hb dX12_tile_149 (by decide) ?_
  obtain ⟨q, hf⟩ := zck_use hf
  refine lv_idiv hx hb dX12_tile_151 (of_decide_eq_true q) ?_
  refine lv_imul hx hb dX12_tile_152 ?_
  refine lv_iadd hx hb dX12_tile_153 ?_
  refine lv_iconst (v := 2) hx hb dX12_tile_154 (by decide) ?_
  refine lv_iload hx hb dX12_tile_155 (lv_at hl 4 rfl) ?_
  refine lv_bipush (v := 8) hx hb dX12_tile_157 (by decide) ?_
  obtain ⟨q, hf⟩ := zck_use hf
  refine lv_idiv hx hb dX12_tile_159 (of_decide_eq_true q) ?_
  refine lv_imul hx hb dX12_tile_160 ?_
  refine lv_iadd hx hb dX12_tile_161 ?_
  refine lv_topi (fun v5 ev5 => ?_)
  replace hf := zbv_use ev5 hf
  refine lv_istore (lv' := [(8, .int v5), (7, .int s0), (0, .ref (ad 0)), (2, .int x2), (4, .int x4), (6, .int x6)]) hx hb dX12_tile_162 hl (by decide) rfl (fun ls hl => ?_)
  refine lv_aload_n hx hb dX12_tile_164 rfl (lv_at hl 2 rfl) ?_
  refine lv_iload hx hb dX12_tile_165 (lv_at hl 0 rfl) ?_
  obtain ⟨σ6, v7, g6, hf⟩ := zbi_use hf
  refine z_callVi (As := [.int v5]) (rest := []) hC hI (cX12_video8_met st l D ad cy σ v5 _ g6) (zgV zw56_6 zw56_7 zw56_8 zw1_5 zw56_9) rfl ⟨rfl, rfl⟩ 1 hdX12_video8 ⟨Nat.le_of_ble_eq_true rfl, Nat.le_of_ble_eq_true rfl⟩ rfl rfl (wM_e0 ad cy σ) rfl hl rfl (Nat.le_of_ble_eq_true rfl) dX12_tile_167 ⟨Nat.zero_le _, Nat.zero_le _⟩ (fun H locs hI => ?_)
  refine lv_aload_n hx hb dX12_tile_170 rfl (lv_at hl 2 rfl) ?_
  refine lv_iload hx hb dX12_tile_171 (lv_at hl 0 rfl) ?_
  refine lv_iconst (v := 1) hx hb dX12_tile_173 (by decide) ?_
  refine lv_iadd hx hb dX12_tile_174 ?_
  obtain ⟨σ8, v9, g8, hf⟩ := zbi_use hf
  refine z_callVi (As := [.int (v5 + 1)]) (rest := [.int v7]) hC hI (cX12_video8_met st l D ad cy σ6 (v5 + 1) _ g8) (zgV zw56_6 zw56_7 zw56_8 zw1_5 zw56_9) rfl ⟨rfl, rfl⟩ 1 hdX12_video8 ⟨Nat.le_of_ble_eq_true rfl, Nat.le_of_ble_eq_true rfl⟩ rfl rfl (wM_e0 ad cy σ6) rfl hl rfl (Nat.le_of_ble_eq_true rfl) dX12_tile_175 ⟨Nat.zero_le _, Nat.zero_le _⟩ (fun H locs hI => ?_)
  refine lv_bipush (v := 8) hx hb dX12_tile_178 (by decide) ?_
  refine lv_ishl hx hb dX12_tile_180 ?_
  refine lv_ior hx hb dX12_tile_181 ?_
  refine lv_topi (fun v10 ev10 => ?_)
  replace hf := zbv_use ev10 hf
  refine lv_istore (lv' := [(9, .int v10), (8, .int v5), (7, .int s0), (0, .ref (ad 0)), (2, .int x2), (4, .int x4), (6, .int x6)]) hx hb dX12_tile_182 hl (by decide) rfl (fun ls hl => ?_)
  refine lv_iload hx hb dX12_tile_184 (lv_at hl 0 rfl) ?_
  refine lv_sipush (v := 512) hx hb dX12_tile_186 (by decide) ?_
  refine lv_iand hx hb dX12_tile_189 ?_
  refine lv_if_eq (tgt := 204) hx hb dX12_tile_190 (by decide) (fun q => ?_) (fun q => ?_)
  · replace hf := zif_t q hf
    refine lv_iload hx hb dX12_tile_204 (lv_at hl 6 rfl) ?_
    refine lv_bipush (v := 8) hx hb dX12_tile_206 (by decide) ?_
    obtain ⟨q, hf⟩ := zck_use hf
    refine z_irem hx hb dX12_tile_208 (of_decide_eq_true q) ?_
    exact bX12_tile_209 hC  hI (lv_sub hl [3, 4, 2, 0] rfl) hf
  replace hf := zif_f q hf
  refine lv_bipush (v := 7) hx hb dX12_tile_193 (by decide) ?_
  refine lv_iload hx hb dX12_tile_195 (lv_at hl 6 rfl) ?_
  refine lv_bipush (v := 8) hx hb dX12_tile_197 (by decide) ?_
  obtain ⟨q, hf⟩ := zck_use hf
  refine z_irem hx hb dX12_tile_199 (of_decide_eq_true q) ?_
  refine lv_isub hx hb dX12_tile_200 ?_
  refine lv_goto (tgt := 209) hx hb dX12_tile_201 (by decide) ?_
  exact bX12_tile_209 hC  hI (lv_sub hl [3, 4, 2, 0] rfl) hf
set_option maxRecDepth 20000 in
set_option maxHeartbeats 4000000 in
theorem bX12_tile_140 {st : Nat → Nat} {p : Program} {l : Launch} {e : Env} {s : State} {m : MethodId} {args : Array Value} {below : List Frame} {meth : Method} {c : Code} {D : va_G} {A : Nat → Prop} {ad : Nat → Nat} {cy : Nat → ClassId} (hC : zC p m c cX12_tile 13 s args wzX12_tile RX12 meth none)  {res : zSt} {H : Heap} {locs : List Loc} {σ : zSt} {ls : Array Slot} {x2 : Int32} {x4 : Int32} {x6 : Int32} {s0 : Int32} {s1 : Int32} (hI : zI st D (tM cy) (wM ad cy σ) A s H locs) (hl : lv_has ls 13 [(0, .ref (ad 0)), (2, .int x2), (4, .int x4), (6, .int x6)]) (hf : fX12_tile_140  σ x2 x4 x6 s0 s1 = some res) : W p l e rmX12_tile s m args below meth c H locs 0 0 (zQu below args s D (tM cy) (wM ad cy) A res) (F0 m 140 ls [.int s0, .int s1]) := by
  have hx := hC.1
  have hb := hC.2.1
  unfold fX12_tile_140 at hf
  obtain ⟨q, hf⟩ := zck_use hf
  refine z_irem hx hb dX12_tile_140 (of_decide_eq_true q) ?_
  exact bX12_tile_141 hC  hI hl hf
set_option maxRecDepth 20000 in
set_option maxHeartbeats 4000000 in
theorem bX12_tile_118 {st : Nat → Nat} {p : Program} {l : Launch} {e : Env} {s : State} {m : MethodId} {args : Array Value} {below : List Frame} {meth : Method} {c : Code} {D : va_G} {A : Nat → Prop} {ad : Nat → Nat} {cy : Nat → ClassId} (hC : zC p m c cX12_tile 13 s args wzX12_tile RX12 meth none)  {res : zSt} {H : Heap} {locs : List Loc} {σ : zSt} {ls : Array Slot} {x1 : Int32} {x2 : Int32} {x3 : Int32} {x4 : Int32} {x6 : Int32} (hI : zI st D (tM cy) (wM ad cy σ) A s H locs) (hl : lv_has ls 13 [(0, .ref (ad 0)), (1, .int x1), (2, .int x2), (3, .int x3), (4, .int x4), (6, .int x6)]) (hf : fX12_tile_118  σ x1 x2 x3 x4 x6 = some res) : W p l e rmX12_tile s m args below meth c H locs 0 0 (zQu below args s D (tM cy) (wM ad cy) A res) (F0 m 118 ls []) := by
  have hx := hC.1
  have hb := hC.2.1
  unfold fX12_tile_118 at hf
  refine lv_iload_n hx hb dX12_tile_118 rfl (lv_at hl 1 rfl) ?_
  refine lv_aload_n hx hb dX12_tile_119 rfl (lv_at hl 0 rfl) ?_
  refine z_get hC hI hinX12_tile_X120 0 (wM_e0 ad cy σ) rfl 10 (by decide) (List.mem_cons_of_mem _ zw9_7) rfl dX12_tile_120 ?_
  refine lv_bipush (v := 65) hx hb dX12_tile_123 (by decide) ?_
  obtain ⟨q, hf⟩ := zck_use hf
  refine z_iald hC hI 3 2 (wM_e3 ad cy σ) (tM_t3 cy) q dX12_tile_125 ?_
  refine lv_iadd hx hb dX12_tile_126 ?_
  refine lv_iload_n hx hb dX12_tile_127 rfl (lv_at hl 3 rfl) ?_
  refine lv_if_eq (tgt := 137) hx hb dX12_tile_128 (by decide) (fun q => ?_) (fun q => ?_)
  · replace hf := zif_t q hf
    refine lv_sipush (v := 256) hx hb dX12_tile_137 (by decide) ?_
    exact bX12_tile_140 hC  hI (lv_sub hl [0, 2, 4, 5] rfl) hf
  replace hf := zif_f q hf
  refine lv_sipush (v := 224) hx hb dX12_tile_131 (by decide) ?_
  refine lv_goto (tgt := 140) hx hb dX12_tile_134 (by decide) ?_
  exact bX12_tile_140 hC  hI (lv_sub hl [0, 2, 4, 5] rfl) hf
set_option maxRecDepth 20000 in
set_option maxHeartbeats 4000000 in
theorem bX12_tile_84 {st : Nat → Nat} {p : Program} {l : Launch} {e : Env} {s : State} {m : MethodId} {args : Array Value} {below : List Frame} {meth : Method} {c : Code} {D : va_G} {A : Nat → Prop} {ad : Nat → Nat} {cy : Nat → ClassId} (hC : zC p m c cX12_tile 13 s args wzX12_tile RX12 meth none)  {res : zSt} {H : Heap} {locs : List Loc} {σ : zSt} {ls : Array Slot} {x1 : Int32} {x2 : Int32} {x3 : Int32} {x4 : Int32} {s0 : Int32} (hI : zI st D (tM cy) (wM ad cy σ) A s H locs) (hl : lv_has ls 13 [(0, .ref (ad 0)), (1, .int x1), (2, .int x2), (3, .int x3), (4, .int x4)]) (hf : fX12_tile_84  σ x1 x2 x3 x4 s0 = some res) : W p l e rmX12_tile s m args below meth c H locs 0 0 (zQu below args s D (tM cy) (wM ad cy) A res) (F0 m 84 ls [.int s0]) := by
  have hx := hC.1
  have hb := hC.2.1
  unfold fX12_tile_84 at hf
  refine lv_istore (lv' := [(5, .int s0), (0, .ref (ad 0)), (1, .int x1), (2, .int x2), (3, .int x3), (4, .int x4)]) hx hb dX12_tile_84 hl (by decide) rfl (fun ls hl => ?_)
  refine lv_iload_n hx hb dX12_tile_86 rfl (lv_at hl 3 rfl) ?_
  refine lv_iload hx hb dX12_tile_87 (lv_at hl 0 rfl) ?_
  refine lv_isub hx hb dX12_tile_89 ?_
  refine lv_sipush (v := 255) hx hb dX12_tile_90 (by decide) ?_
  refine lv_iand hx hb dX12_tile_93 ?_
  refine lv_topi (fun v11 ev11 => ?_)
  replace hf := zbv_use ev11 hf
  refine lv_istore (lv' := [(6, .int v11), (5, .int s0), (0, .ref (ad 0)), (1, .int x1), (2, .int x2), (3, .int x3), (4, .int x4)]) hx hb dX12_tile_94 hl (by decide) rfl (fun ls hl => ?_)
  refine lv_iload_n hx hb dX12_tile_96 rfl (lv_at hl 4 rfl) ?_
  refine lv_sipush (v := 191) hx hb dX12_tile_97 (by decide) ?_
  refine lv_icmp_le (tgt := 118) hx hb dX12_tile_100 (by decide) (fun q => ?_) (fun q => ?_)
  · replace hf := zif_t q hf
    exact bX12_tile_118 hC  hI (lv_sub hl [2, 3, 4, 5, 6, 0] rfl) hf
  replace hf := zif_f q hf
  refine lv_aload_n hx hb dX12_tile_103 rfl (lv_at hl 2 rfl) ?_
  refine lv_iconst (v := 0) hx hb dX12_tile_104 (by decide) ?_
  refine lv_bipush (v := 7) hx hb dX12_tile_105 (by decide) ?_
  obtain ⟨σ12, v13, g12, hf⟩ := zbi_use hf
  refine z_callVi (As := [.int 0, .int 7]) (rest := []) hC hI (cX12_bit_met st l D ad cy σ 0 7 _ g12) (zgV zw49_0 zw49_1 zw49_2 zw1_5 zw49_3) rfl ⟨rfl, rfl⟩ 2 hdX12_bit ⟨Nat.le_of_ble_eq_true rfl, Nat.le_of_ble_eq_true rfl⟩ rfl rfl (wM_e0 ad cy σ) rfl hl rfl (Nat.le_of_ble_eq_true rfl) dX12_tile_107 ⟨Nat.zero_le _, Nat.zero_le _⟩ (fun H locs hI => ?_)
  refine lv_iconst (v := 1) hx hb dX12_tile_110 (by decide) ?_
  refine lv_icmp_ne (tgt := 118) hx hb dX12_tile_111 (by decide) (fun q => ?_) (fun q => ?_)
  · replace hf := zif_f q hf
    exact bX12_tile_118 hC  hI (lv_sub hl [2, 3, 4, 5, 6, 0] rfl) hf
  replace hf := zif_t q hf
  refine lv_iload_n hx hb dX12_tile_114 rfl (lv_at hl 3 rfl) ?_
  refine lv_goto (tgt := 141) hx hb dX12_tile_115 (by decide) ?_
  exact bX12_tile_141 hC  hI (lv_sub hl [2, 4, 6, 0] rfl) hf
set_option maxRecDepth 20000 in
set_option maxHeartbeats 4000000 in
theorem bX12_tile_78 {st : Nat → Nat} {p : Program} {l : Launch} {e : Env} {s : State} {m : MethodId} {args : Array Value} {below : List Frame} {meth : Method} {c : Code} {D : va_G} {A : Nat → Prop} {ad : Nat → Nat} {cy : Nat → ClassId} (hC : zC p m c cX12_tile 13 s args wzX12_tile RX12 meth none)  {res : zSt} {H : Heap} {locs : List Loc} {σ : zSt} {ls : Array Slot} {x1 : Int32} {x2 : Int32} {x3 : Int32} {x4 : Int32} (hI : zI st D (tM cy) (wM ad cy σ) A s H locs) (hl : lv_has ls 13 [(0, .ref (ad 0)), (1, .int x1), (2, .int x2), (3, .int x3), (4, .int x4)]) (hf : fX12_tile_78  σ x1 x2 x3 x4 = some res) : W p l e rmX12_tile s m args below meth c H locs 0 0 (zQu below args s D (tM cy) (wM ad cy) A res) (F0 m 78 ls []) := by
  have hx := hC.1
  have hb := hC.2.1
  unfold fX12_tile_78 at hf
  refine lv_aload_n hx hb dX12_tile_78 rfl (lv_at hl 0 rfl) ?_
  refine lv_bipush (v := 8) hx hb dX12_tile_79 (by decide) ?_
  obtain ⟨σ14, v15, g14, hf⟩ := zbi_use hf
  refine z_callVi (As := [.int 8]) (rest := []) hC hI (cX12_reg_met st l D ad cy σ 8 _ g14) (zgV zw59_6 zw59_7 zw59_8 zw1_5 zw59_9) rfl ⟨rfl, rfl⟩ 1 hdX12_reg ⟨Nat.le_of_ble_eq_true rfl, Nat.le_of_ble_eq_true rfl⟩ rfl rfl (wM_e0 ad cy σ) rfl hl rfl (Nat.le_of_ble_eq_true rfl) dX12_tile_81 ⟨Nat.zero_le _, Nat.zero_le _⟩ (fun H locs hI => ?_)
  exact bX12_tile_84 hC  hI hl hf
set_option maxRecDepth 20000 in
set_option maxHeartbeats 4000000 in
theorem bX12_tile_55 {st : Nat → Nat} {p : Program} {l : Launch} {e : Env} {s : State} {m : MethodId} {args : Array Value} {below : List Frame} {meth : Method} {c : Code} {D : va_G} {A : Nat → Prop} {ad : Nat → Nat} {cy : Nat → ClassId} (hC : zC p m c cX12_tile 13 s args wzX12_tile RX12 meth none)  {res : zSt} {H : Heap} {locs : List Loc} {σ : zSt} {ls : Array Slot} {x1 : Int32} {x2 : Int32} {x3 : Int32} {s0 : Int32} (hI : zI st D (tM cy) (wM ad cy σ) A s H locs) (hl : lv_has ls 13 [(0, .ref (ad 0)), (1, .int x1), (2, .int x2), (3, .int x3)]) (hf : fX12_tile_55  σ x1 x2 x3 s0 = some res) : W p l e rmX12_tile s m args below meth c H locs 0 0 (zQu below args s D (tM cy) (wM ad cy) A res) (F0 m 55 ls [.int s0]) := by
  have hx := hC.1
  have hb := hC.2.1
  unfold fX12_tile_55 at hf
  refine lv_istore (lv' := [(4, .int s0), (0, .ref (ad 0)), (1, .int x1), (2, .int x2), (3, .int x3)]) hx hb dX12_tile_55 hl (by decide) rfl (fun ls hl => ?_)
  refine lv_iload_n hx hb dX12_tile_57 rfl (lv_at hl 2 rfl) ?_
  refine lv_bipush (v := 16) hx hb dX12_tile_58 (by decide) ?_
  refine lv_icmp_ge (tgt := 78) hx hb dX12_tile_60 (by decide) (fun q => ?_) (fun q => ?_)
  · replace hf := zif_t q hf
    exact bX12_tile_78 hC  hI (lv_sub hl [1, 2, 3, 4, 0] rfl) hf
  replace hf := zif_f q hf
  refine lv_aload_n hx hb dX12_tile_63 rfl (lv_at hl 1 rfl) ?_
  refine lv_iconst (v := 0) hx hb dX12_tile_64 (by decide) ?_
  refine lv_bipush (v := 6) hx hb dX12_tile_65 (by decide) ?_
  obtain ⟨σ16, v17, g16, hf⟩ := zbi_use hf
  refine z_callVi (As := [.int 0, .int 6]) (rest := []) hC hI (cX12_bit_met st l D ad cy σ 0 6 _ g16) (zgV zw49_0 zw49_1 zw49_2 zw1_5 zw49_3) rfl ⟨rfl, rfl⟩ 2 hdX12_bit ⟨Nat.le_of_ble_eq_true rfl, Nat.le_of_ble_eq_true rfl⟩ rfl rfl (wM_e0 ad cy σ) rfl hl rfl (Nat.le_of_ble_eq_true rfl) dX12_tile_67 ⟨Nat.zero_le _, Nat.zero_le _⟩ (fun H locs hI => ?_)
  refine lv_iconst (v := 1) hx hb dX12_tile_70 (by decide) ?_
  refine lv_icmp_ne (tgt := 78) hx hb dX12_tile_71 (by decide) (fun q => ?_) (fun q => ?_)
  · replace hf := zif_f q hf
    exact bX12_tile_78 hC  hI (lv_sub hl [1, 2, 3, 4, 0] rfl) hf
  replace hf := zif_t q hf
  refine lv_iconst (v := 0) hx hb dX12_tile_74 (by decide) ?_
  refine lv_goto (tgt := 84) hx hb dX12_tile_75 (by decide) ?_
  exact bX12_tile_84 hC  hI (lv_sub hl [1, 2, 3, 4, 0] rfl) hf
set_option maxRecDepth 20000 in
set_option maxHeartbeats 4000000 in
theorem bX12_tile_15 {st : Nat → Nat} {p : Program} {l : Launch} {e : Env} {s : State} {m : MethodId} {args : Array Value} {below : List Frame} {meth : Method} {c : Code} {D : va_G} {A : Nat → Prop} {ad : Nat → Nat} {cy : Nat → ClassId} (hC : zC p m c cX12_tile 13 s args wzX12_tile RX12 meth none)  {res : zSt} {H : Heap} {locs : List Loc} {σ : zSt} {ls : Array Slot} {x1 : Int32} {x2 : Int32} {s0 : Int32} (hI : zI st D (tM cy) (wM ad cy σ) A s H locs) (hl : lv_has ls 13 [(0, .ref (ad 0)), (1, .int x1), (2, .int x2)]) (hf : fX12_tile_15  σ x1 x2 s0 = some res) : W p l e rmX12_tile s m args below meth c H locs 0 0 (zQu below args s D (tM cy) (wM ad cy) A res) (F0 m 15 ls [.int s0]) := by
  have hx := hC.1
  have hb := hC.2.1
  unfold fX12_tile_15 at hf
  refine lv_istore_n (lv' := [(3, .int s0), (0, .ref (ad 0)), (1, .int x1), (2, .int x2)]) hx hb dX12_tile_15 rfl hl (by decide) rfl (fun ls hl => ?_)
  refine lv_iload_n hx hb dX12_tile_16 rfl (lv_at hl 0 rfl) ?_
  refine lv_if_eq (tgt := 38) hx hb dX12_tile_17 (by decide) (fun q => ?_) (fun q => ?_)
  · replace hf := zif_t q hf
    refine lv_sipush (v := 4096) hx hb dX12_tile_38 (by decide) ?_
    refine lv_aload_n hx hb dX12_tile_41 rfl (lv_at hl 1 rfl) ?_
    refine lv_iconst (v := 2) hx hb dX12_tile_42 (by decide) ?_
    obtain ⟨σ18, v19, g18, hf⟩ := zbi_use hf
    refine z_callVi (As := [.int 2]) (rest := [.int 4096]) hC hI (cX12_reg_met st l D ad cy σ 2 _ g18) (zgV zw59_6 zw59_7 zw59_8 zw1_5 zw59_9) rfl ⟨rfl, rfl⟩ 1 hdX12_reg ⟨Nat.le_of_ble_eq_true rfl, Nat.le_of_ble_eq_true rfl⟩ rfl rfl (wM_e0 ad cy σ) rfl hl rfl (Nat.le_of_ble_eq_true rfl) dX12_tile_43 ⟨Nat.zero_le _, Nat.zero_le _⟩ (fun H locs hI => ?_)
    refine lv_iconst (v := 4) hx hb dX12_tile_46 (by decide) ?_
    obtain ⟨q, hf⟩ := zck_use hf
    refine lv_idiv hx hb dX12_tile_47 (of_decide_eq_true q) ?_
    refine lv_iconst (v := 4) hx hb dX12_tile_48 (by decide) ?_
    obtain ⟨q, hf⟩ := zck_use hf
    refine z_irem hx hb dX12_tile_49 (of_decide_eq_true q) ?_
    refine lv_imul hx hb dX12_tile_50 ?_
    refine lv_sipush (v := 1792) hx hb dX12_tile_51 (by decide) ?_
    refine lv_iadd hx hb dX12_tile_54 ?_
    exact bX12_tile_55 hC  hI (lv_sub hl [1, 2, 3, 0] rfl) hf
  replace hf := zif_f q hf
  refine lv_sipush (v := 1024) hx hb dX12_tile_20 (by decide) ?_
  refine lv_aload_n hx hb dX12_tile_23 rfl (lv_at hl 1 rfl) ?_
  refine lv_iconst (v := 2) hx hb dX12_tile_24 (by decide) ?_
  obtain ⟨σ20, v21, g20, hf⟩ := zbi_use hf
  refine z_callVi (As := [.int 2]) (rest := [.int 1024]) hC hI (cX12_reg_met st l D ad cy σ 2 _ g20) (zgV zw59_6 zw59_7 zw59_8 zw1_5 zw59_9) rfl ⟨rfl, rfl⟩ 1 hdX12_reg ⟨Nat.le_of_ble_eq_true rfl, Nat.le_of_ble_eq_true rfl⟩ rfl rfl (wM_e0 ad cy σ) rfl hl rfl (Nat.le_of_ble_eq_true rfl) dX12_tile_25 ⟨Nat.zero_le _, Nat.zero_le _⟩ (fun H locs hI => ?_)
  refine lv_bipush (v := 16) hx hb dX12_tile_28 (by decide) ?_
  obtain ⟨q, hf⟩ := zck_use hf
  refine z_irem hx hb dX12_tile_30 (of_decide_eq_true q) ?_
  refine lv_bipush (v := 14) hx hb dX12_tile_31 (by decide) ?_
  refine lv_iand hx hb dX12_tile_33 ?_
  refine lv_imul hx hb dX12_tile_34 ?_
  refine lv_goto (tgt := 55) hx hb dX12_tile_35 (by decide) ?_
  exact bX12_tile_55 hC  hI (lv_sub hl [1, 2, 3, 0] rfl) hf
set_option maxRecDepth 20000 in
set_option maxHeartbeats 4000000 in
theorem bX12_tile {st : Nat → Nat} {p : Program} {l : Launch} {e : Env} {s : State} {m : MethodId} {args : Array Value} {below : List Frame} {meth : Method} {c : Code} {D : va_G} {A : Nat → Prop} {ad : Nat → Nat} {cy : Nat → ClassId} (hC : zC p m c cX12_tile 13 s args wzX12_tile RX12 meth none)  {res : zSt} {H : Heap} {locs : List Loc} {σ : zSt} {ls : Array Slot} {x1 : Int32} {x2 : Int32} (hI : zI st D (tM cy) (wM ad cy σ) A s H locs) (hl : lv_has ls 13 [(0, .ref (ad 0)), (1, .int x1), (2, .int x2)]) (hf : fX12_tile  σ x1 x2 = some res) : W p l e rmX12_tile s m args below meth c H locs 0 0 (zQu below args s D (tM cy) (wM ad cy) A res) (F0 m 0 ls []) := by
  have hx := hC.1
  have hb := hC.2.1
  unfold fX12_tile at hf
  refine lv_aload_n hx hb dX12_tile_0 rfl (lv_at hl 0 rfl) ?_
  obtain ⟨σ22, v23, g22, hf⟩ := zbi_use hf
  refine z_callVi (As := []) (rest := []) hC hI (cX12_height_met st l D ad cy σ  _ g22) (zgV zw57_2 zw57_3 zw57_4 zw1_5 zw57_5) rfl ⟨rfl, rfl⟩ 0 hdX12_height ⟨Nat.le_of_ble_eq_true rfl, Nat.le_of_ble_eq_true rfl⟩ rfl rfl (wM_e0 ad cy σ) rfl hl rfl (Nat.le_of_ble_eq_true rfl) dX12_tile_1 ⟨Nat.zero_le _, Nat.zero_le _⟩ (fun H locs hI => ?_)
  refine lv_sipush (v := 192) hx hb dX12_tile_4 (by decide) ?_
  refine lv_icmp_ne (tgt := 14) hx hb dX12_tile_7 (by decide) (fun q => ?_) (fun q => ?_)
  · replace hf := zif_f q hf
    refine lv_iconst (v := 0) hx hb dX12_tile_14 (by decide) ?_
    exact bX12_tile_15 hC  hI hl hf
  replace hf := zif_t q hf
  refine lv_iconst (v := 1) hx hb dX12_tile_10 (by decide) ?_
  refine lv_goto (tgt := 15) hx hb dX12_tile_11 (by decide) ?_
  exact bX12_tile_15 hC  hI hl hf
set_option maxRecDepth 20000 in
theorem cX12_tile_met (st : Nat → Nat) (l : Launch) (D : va_G) (ad : Nat → Nat) (cy : Nat → ClassId) (σ : zSt) (x1 : Int32) (x2 : Int32) (res : zSt) (hf : fX12_tile σ x1 x2 = some res) (sz : Nat) : zMu st l yX12_tile wzX12_tile rmX12_tile [.ref (ad 0), .int x1, .int x2] D (tM cy) (wM ad cy) sz σ res :=
  zMu.of (cc := cX12_tile) (maxL := 13) (ret := none) (by decide) rfl (Nat.le_of_ble_eq_true rfl) (fun p e s m args below meth c hC A hI ls hl => bX12_tile hC hI hl hf)
theorem hdX12_tile : yX12_tile.cls = RX12 ∧ yX12_tile.cls ≠ "java/lang/invoke/MethodHandle" ∧ yX12_tile.cls ≠ "java/lang/invoke/VarHandle" ∧ (parseMethodDescriptor yX12_tile.desc).map (fun d => d.parameters.length) = some 2 := by decide +kernel
def rmX12_sprites : Room := { frames := 3, cells := 0, slots := 0, locals := 62 }
def wzX12_sprites : List Cond := .code yX12_sprites cX12_sprites 15 none :: wsL_law
theorem hinX12_sprites_X120 : ∀ w ∈ wsX120, w ∈ wzX12_sprites := fun w h => List.mem_cons_of_mem _ (inlX12 w h)
def fX12_sprites_349 (k73 : zSt → Int32 → Int32 → Int32 → Int32 → Int32 → Int32 → Int32 → Option (zSt)) (σ : zSt) (x1 : Int32) (x2 : Int32) (x3 : Int32) (x4 : Int32) (x5 : Int32) (x6 : Int32) (x7 : Int32) : Option (zSt) :=
  zbv (x7 + 1) (fun v1 =>
  k73 σ x1 x2 x3 x4 x5 x6 v1)
def fX12_sprites_343 (k73 : zSt → Int32 → Int32 → Int32 → Int32 → Int32 → Int32 → Int32 → Option (zSt)) (k250 : zSt → Int32 → Int32 → Int32 → Int32 → Int32 → Int32 → Int32 → Int32 → Int32 → Int32 → Int32 → Option (zSt)) (σ : zSt) (x1 : Int32) (x2 : Int32) (x3 : Int32) (x4 : Int32) (x5 : Int32) (x6 : Int32) (x7 : Int32) (x9 : Int32) (x10 : Int32) (x11 : Int32) (x12 : Int32) : Option (zSt) :=
  zbv (x12 + 1) (fun v2 =>
  k250 σ x1 x2 x3 x4 x5 x6 x7 x9 x10 x11 v2)
def fX12_sprites_250_body (k73 : zSt → Int32 → Int32 → Int32 → Int32 → Int32 → Int32 → Int32 → Option (zSt)) (k250 : zSt → Int32 → Int32 → Int32 → Int32 → Int32 → Int32 → Int32 → Int32 → Int32 → Int32 → Int32 → Option (zSt)) (σ : zSt) (x1 : Int32) (x2 : Int32) (x3 : Int32) (x4 : Int32) (x5 : Int32) (x6 : Int32) (x7 : Int32) (x9 : Int32) (x10 : Int32) (x11 : Int32) (x12 : Int32) : Option (zSt) :=
  if (8 * x3) ≤ x12 then fX12_sprites_349 k73 σ x1 x2 x3 x4 x5 x6 x7 else
  zck (decide (¬ x3 = 0)) (
  zck (decide (¬ x3 = 0)) (
  zck (decide (¬ 8 = 0)) (
  zbi (fX12_tileDot σ x10 (x12 / x3) (zrem (x9 / x3) 8)) (fun σ3 v4 =>
  zbv (x11 + x12) (fun v5 =>
  if v4 = 0 then fX12_sprites_343 k73 k250 σ3 x1 x2 x3 x4 x5 x6 x7 x9 x10 x11 x12 else
  if v5 < 0 then fX12_sprites_343 k73 k250 σ3 x1 x2 x3 x4 x5 x6 x7 x9 x10 x11 x12 else
  if v5 ≤ 255 then zck (zin v5 256) (
  if (zgi σ3 24 v5.toNatClampNeg) ≤ 0 then zck (zin v5 256) (zbv (zsi σ3 24 (v5.toNatClampNeg) (16 + v4)) (fun σ6 =>
  fX12_sprites_343 k73 k250 σ6 x1 x2 x3 x4 x5 x6 x7 x9 x10 x11 x12)) else
  zck (zin 62 1048) (
  zck (zin 62 1048) (zbv (zsi σ3 3 ((62 : Int32).toNatClampNeg) ((zgi σ3 3 (62 : Int32).toNatClampNeg) ||| 32)) (fun σ7 =>
  fX12_sprites_343 k73 k250 σ7 x1 x2 x3 x4 x5 x6 x7 x9 x10 x11 x12)))) else
  fX12_sprites_343 k73 k250 σ3 x1 x2 x3 x4 x5 x6 x7 x9 x10 x11 x12)))))
def fX12_sprites_250 (k73 : zSt → Int32 → Int32 → Int32 → Int32 → Int32 → Int32 → Int32 → Option (zSt)) : Nat → zSt → Int32 → Int32 → Int32 → Int32 → Int32 → Int32 → Int32 → Int32 → Int32 → Int32 → Int32 → Option (zSt)
  | 0, _, _, _, _, _, _, _, _, _, _, _, _ => none
  | n + 1, σ, x1, x2, x3, x4, x5, x6, x7, x9, x10, x11, x12 => fX12_sprites_250_body k73 (fX12_sprites_250 k73 n) σ x1 x2 x3 x4 x5 x6 x7 x9 x10 x11 x12
def fX12_sprites_244 (k73 : zSt → Int32 → Int32 → Int32 → Int32 → Int32 → Int32 → Int32 → Option (zSt)) (σ : zSt) (x1 : Int32) (x2 : Int32) (x3 : Int32) (x4 : Int32) (x5 : Int32) (x6 : Int32) (x7 : Int32) (x9 : Int32) (x10 : Int32) (s0 : Int32) (s1 : Int32) : Option (zSt) :=
  zbv (s1 - s0) (fun v8 =>
  fX12_sprites_250 k73 zfuel σ x1 x2 x3 x4 x5 x6 x7 x9 x10 v8 0)
def fX12_sprites_212 (k73 : zSt → Int32 → Int32 → Int32 → Int32 → Int32 → Int32 → Int32 → Option (zSt)) (σ : zSt) (x1 : Int32) (x2 : Int32) (x3 : Int32) (x4 : Int32) (x5 : Int32) (x6 : Int32) (x7 : Int32) (x9 : Int32) (s0 : Int32) : Option (zSt) :=
  zbi (fX12_video8 σ ((x2 + 128) + (2 * x7))) (fun σ9 v10 =>
  zbi (fX12_bit σ9 0 3) (fun σ11 v12 =>
  if v12 = 1 then fX12_sprites_244 k73 σ11 x1 x2 x3 x4 x5 x6 x7 x9 s0 8 v10 else
  fX12_sprites_244 k73 σ11 x1 x2 x3 x4 x5 x6 x7 x9 s0 0 v10))
def fX12_sprites_183 (k73 : zSt → Int32 → Int32 → Int32 → Int32 → Int32 → Int32 → Int32 → Option (zSt)) (σ : zSt) (x1 : Int32) (x2 : Int32) (x3 : Int32) (x4 : Int32) (x5 : Int32) (x6 : Int32) (x7 : Int32) (x9 : Int32) (s0 : Int32) (s1 : Int32) : Option (zSt) :=
  zbv (s1 + s0) (fun v13 =>
  if x4 = 16 then zck (decide (¬ x3 = 0)) (
  zck (decide (¬ 8 = 0)) (
  fX12_sprites_212 k73 σ x1 x2 x3 x4 x5 x6 x7 x9 ((v13 &&& 510) + ((x9 / x3) / 8)))) else
  fX12_sprites_212 k73 σ x1 x2 x3 x4 x5 x6 x7 x9 v13)
def fX12_sprites_104 (k73 : zSt → Int32 → Int32 → Int32 → Int32 → Int32 → Int32 → Int32 → Option (zSt)) (σ : zSt) (x1 : Int32) (x2 : Int32) (x3 : Int32) (x4 : Int32) (x5 : Int32) (x6 : Int32) (x7 : Int32) (x8 : Int32) : Option (zSt) :=
  zbv (((x1 - x8) - 1) &&& 255) (fun v14 =>
  if v14 < (x4 * x3) then if x5 = 8 then zck (zin 62 1048) (
  zck (zin 62 1048) (zbv (zsi σ 3 ((62 : Int32).toNatClampNeg) ((zgi σ 3 (62 : Int32).toNatClampNeg) ||| 64)) (fun σ20 =>
  some σ20))) else
  zbv (x5 + 1) (fun v15 =>
  zbi (fX12_video8 σ ((x2 + 129) + (2 * x7))) (fun σ16 v17 =>
  zbi (fX12_bit σ16 6 2) (fun σ18 v19 =>
  if v19 = 1 then fX12_sprites_183 k73 σ18 x1 x2 x3 x4 v15 x6 x7 v14 256 v17 else
  fX12_sprites_183 k73 σ18 x1 x2 x3 x4 v15 x6 x7 v14 0 v17))) else
  fX12_sprites_349 k73 σ x1 x2 x3 x4 x5 x6 x7)
def fX12_sprites_73_body (k73 : zSt → Int32 → Int32 → Int32 → Int32 → Int32 → Int32 → Int32 → Option (zSt)) (σ : zSt) (x1 : Int32) (x2 : Int32) (x3 : Int32) (x4 : Int32) (x5 : Int32) (x6 : Int32) (x7 : Int32) : Option (zSt) :=
  if 64 ≤ x7 then some σ else
  zbi (fX12_video8 σ (x2 + x7)) (fun σ21 v22 =>
  if x6 = 0 then fX12_sprites_104 k73 σ21 x1 x2 x3 x4 x5 x6 x7 v22 else
  if v22 = 208 then some σ21 else
  fX12_sprites_104 k73 σ21 x1 x2 x3 x4 x5 x6 x7 v22)
def fX12_sprites_73  : Nat → zSt → Int32 → Int32 → Int32 → Int32 → Int32 → Int32 → Int32 → Option (zSt)
  | 0, _, _, _, _, _, _, _, _ => none
  | n + 1, σ, x1, x2, x3, x4, x5, x6, x7 => fX12_sprites_73_body (fX12_sprites_73  n) σ x1 x2 x3 x4 x5 x6 x7
def fX12_sprites_68  (σ : zSt) (x1 : Int32) (x2 : Int32) (x3 : Int32) (x4 : Int32) (x5 : Int32) (s0 : Int32) : Option (zSt) :=
  fX12_sprites_73 zfuel σ x1 x2 x3 x4 x5 s0 0
def fX12_sprites_48  (σ : zSt) (x1 : Int32) (x2 : Int32) (x3 : Int32) (s0 : Int32) : Option (zSt) :=
  zbi (fX12_height σ ) (fun σ23 v24 =>
  if v24 = 192 then fX12_sprites_68 σ23 x1 x2 x3 s0 0 1 else
  fX12_sprites_68 σ23 x1 x2 x3 s0 0 0)
def fX12_sprites_30  (σ : zSt) (x1 : Int32) (x2 : Int32) (s0 : Int32) : Option (zSt) :=
  zbi (fX12_bit σ 1 1) (fun σ25 v26 =>
  if v26 = 1 then fX12_sprites_48 σ25 x1 x2 s0 16 else
  fX12_sprites_48 σ25 x1 x2 s0 8)
def fX12_sprites  (σ : zSt) (x1 : Int32) : Option (zSt) :=
  zbi (fX12_reg σ 5) (fun σ27 v28 =>
  zck (decide (¬ 2 = 0)) (
  zck (decide (¬ 64 = 0)) (
  zbv (256 * (zrem (v28 / 2) 64)) (fun v29 =>
  zbi (fX12_bit σ27 1 0) (fun σ30 v31 =>
  if v31 = 1 then fX12_sprites_30 σ30 x1 v29 2 else
  fX12_sprites_30 σ30 x1 v29 1)))))
set_option maxRecDepth 20000 in
set_option maxHeartbeats 4000000 in
theorem bX12_sprites_349 {st : Nat → Nat} {p : Program} {l : Launch} {e : Env} {s : State} {m : MethodId} {args : Array Value} {below : List Frame} {meth : Method} {c : Code} {D : va_G} {A : Nat → Prop} {ad : Nat → Nat} {cy : Nat → ClassId} (hC : zC p m c cX12_sprites 15 s args wzX12_sprites RX12 meth none) {k73 : zSt → Int32 → Int32 → Int32 → Int32 → Int32 → Int32 → Int32 → Option (zSt)} {res : zSt} (hk73 : ∀ (H : Heap) (locs : List Loc) (σ : zSt) (ls : Array Slot) (x1 : Int32) (x2 : Int32) (x3 : Int32) (x4 : Int32) (x5 : Int32) (x6 : Int32) (x7 : Int32), zI st D (tM cy) (wM ad cy σ) A s H locs → lv_has ls 15 [(0, .ref (ad 0)), (1, .int x1), (2, .int x2), (3, .int x3), (4, .int x4), (5, .int x5), (6, .int x6), (7, .int x7)] → k73 σ x1 x2 x3 x4 x5 x6 x7 = some res → W p l e rmX12_sprites s m args below meth c H locs 0 0 (zQu below args s D (tM cy) (wM ad cy) A res) (F0 m 73 ls [])) {H : Heap} {locs : List Loc} {σ : zSt} {ls : Array Slot} {x1 : Int32} {x2 : Int32} {x3 : Int32} {x4 : Int32} {x5 : Int32} {x6 : Int32} {x7 : Int32} (hI : zI st D (tM cy) (wM ad cy σ) A s H locs) (hl : lv_has ls 15 [(0, .ref (ad 0)), (1, .int x1), (2, .int x2), (3, .int x3), (4, .int x4), (5, .int x5), (6, .int x6), (7, .int x7)]) (hf : fX12_sprites_349 k73 σ x1 x2 x3 x4 x5 x6 x7 = some res) : W p l e rmX12_sprites s m args below meth c H locs 0 0 (zQu below args s D (tM cy) (wM ad cy) A res) (F0 m 349 ls []) := by
  have hx := hC.1
  have hb := hC.2.1
  unfold fX12_sprites_349 at hf
  obtain ⟨v1, ev1⟩ : ∃ z : Int32, z = x7 + 1 := ⟨_, rfl⟩
  replace hf := zbv_use ev1 hf
  refine lv_iinc (v := v1) (lv' := [(7, .int v1), (0, .ref (ad 0)), (1, .int x1), (2, .int x2), (3, .int x3), (4, .int x4), (5, .int x5), (6, .int x6)]) hx hb dX12_sprites_349 hl (k := 7) rfl (by rw [ev1]; rfl) (by decide) rfl (fun ls hl => ?_)
  refine lv_goto (tgt := 73) hx hb dX12_sprites_352 (by decide) ?_
  exact hk73 _ _ _ _ _ _ _ _ _ _ _ hI (lv_sub hl [1, 2, 3, 4, 5, 6, 7, 0] rfl) hf
set_option maxRecDepth 20000 in
set_option maxHeartbeats 4000000 in
theorem bX12_sprites_343 {st : Nat → Nat} {p : Program} {l : Launch} {e : Env} {s : State} {m : MethodId} {args : Array Value} {below : List Frame} {meth : Method} {c : Code} {D : va_G} {A : Nat → Prop} {ad : Nat → Nat} {cy : Nat → ClassId} (hC : zC p m c cX12_sprites 15 s args wzX12_sprites RX12 meth none) {k73 : zSt → Int32 → Int32 → Int32 → Int32 → Int32 → Int32 → Int32 → Option (zSt)} {k250 : zSt → Int32 → Int32 → Int32 → Int32 → Int32 → Int32 → Int32 → Int32 → Int32 → Int32 → Int32 → Option (zSt)} {res : zSt} (hk73 : ∀ (H : Heap) (locs : List Loc) (σ : zSt) (ls : Array Slot) (x1 : Int32) (x2 : Int32) (x3 : Int32) (x4 : Int32) (x5 : Int32) (x6 : Int32) (x7 : Int32), zI st D (tM cy) (wM ad cy σ) A s H locs → lv_has ls 15 [(0, .ref (ad 0)), (1, .int x1), (2, .int x2), (3, .int x3), (4, .int x4), (5, .int x5), (6, .int x6), (7, .int x7)] → k73 σ x1 x2 x3 x4 x5 x6 x7 = some res → W p l e rmX12_sprites s m args below meth c H locs 0 0 (zQu below args s D (tM cy) (wM ad cy) A res) (F0 m 73 ls [])) (hk250 : ∀ (H : Heap) (locs : List Loc) (σ : zSt) (ls : Array Slot) (x1 : Int32) (x2 : Int32) (x3 : Int32) (x4 : Int32) (x5 : Int32) (x6 : Int32) (x7 : Int32) (x9 : Int32) (x10 : Int32) (x11 : Int32) (x12 : Int32), zI st D (tM cy) (wM ad cy σ) A s H locs → lv_has ls 15 [(0, .ref (ad 0)), (1, .int x1), (2, .int x2), (3, .int x3), (4, .int x4), (5, .int x5), (6, .int x6), (7, .int x7), (9, .int x9), (10, .int x10), (11, .int x11), (12, .int x12)] → k250 σ x1 x2 x3 x4 x5 x6 x7 x9 x10 x11 x12 = some res → W p l e rmX12_sprites s m args below meth c H locs 0 0 (zQu below args s D (tM cy) (wM ad cy) A res) (F0 m 250 ls [])) {H : Heap} {locs : List Loc} {σ : zSt} {ls : Array Slot} {x1 : Int32} {x2 : Int32} {x3 : Int32} {x4 : Int32} {x5 : Int32} {x6 : Int32} {x7 : Int32} {x9 : Int32} {x10 : Int32} {x11 : Int32} {x12 : Int32} (hI : zI st D (tM cy) (wM ad cy σ) A s H locs) (hl : lv_has ls 15 [(0, .ref (ad 0)), (1, .int x1), (2, .int x2), (3, .int x3), (4, .int x4), (5, .int x5), (6, .int x6), (7, .int x7), (9, .int x9), (10, .int x10), (11, .int x11), (12, .int x12)]) (hf : fX12_sprites_343 k73 k250 σ x1 x2 x3 x4 x5 x6 x7 x9 x10 x11 x12 = some res) : W p l e rmX12_sprites s m args below meth c H locs 0 0 (zQu below args s D (tM cy) (wM ad cy) A res) (F0 m 343 ls []) := by
  have hx := hC.1
  have hb := hC.2.1
  unfold fX12_sprites_343 at hf
  obtain ⟨v2, ev2⟩ : ∃ z : Int32, z = x12 + 1 := ⟨_, rfl⟩
  replace hf := zbv_use ev2 hf
  refine lv_iinc (v := v2) (lv' := [(12, .int v2), (0, .ref (ad 0)), (1, .int x1), (2, .int x2), (3, .int x3), (4, .int x4), (5, .int x5), (6, .int x6), (7, .int x7), (9, .int x9), (10, .int x10), (11, .int x11)]) hx hb dX12_sprites_343 hl (k := 11) rfl (by rw [ev2]; rfl) (by decide) rfl (fun ls hl => ?_)
  refine lv_goto (tgt := 250) hx hb dX12_sprites_346 (by decide) ?_
  exact hk250 _ _ _ _ _ _ _ _ _ _ _ _ _ _ _ hI (lv_sub hl [1, 2, 3, 4, 5, 6, 7, 8, 9, 10, 11, 0] rfl) hf
set_option maxRecDepth 20000 in
set_option maxHeartbeats 4000000 in
theorem bX12_sprites_250_body {st : Nat → Nat} {p : Program} {l : Launch} {e : Env} {s : State} {m : MethodId} {args : Array Value} {below : List Frame} {meth : Method} {c : Code} {D : va_G} {A : Nat → Prop} {ad : Nat → Nat} {cy : Nat → ClassId} (hC : zC p m c cX12_sprites 15 s args wzX12_sprites RX12 meth none) {k73 : zSt → Int32 → Int32 → Int32 → Int32 → Int32 → Int32 → Int32 → Option (zSt)} {k250 : zSt → Int32 → Int32 → Int32 → Int32 → Int32 → Int32 → Int32 → Int32 → Int32 → Int32 → Int32 → Option (zSt)} {res : zSt} (hk73 : ∀ (H : Heap) (locs : List Loc) (σ : zSt) (ls : Array Slot) (x1 : Int32) (x2 : Int32) (x3 : Int32) (x4 : Int32) (x5 : Int32) (x6 : Int32) (x7 : Int32), zI st D (tM cy) (wM ad cy σ) A s H locs → lv_has ls 15 [(0, .ref (ad 0)), (1, .int x1), (2, .int x2), (3, .int x3), (4, .int x4), (5, .int x5), (6, .int x6), (7, .int x7)] → k73 σ x1 x2 x3 x4 x5 x6 x7 = some res → W p l e rmX12_sprites s m args below meth c H locs 0 0 (zQu below args s D (tM cy) (wM ad cy) A res) (F0 m 73 ls [])) (hk250 : ∀ (H : Heap) (locs : List Loc) (σ : zSt) (ls : Array Slot) (x1 : Int32) (x2 : Int32) (x3 : Int32) (x4 : Int32) (x5 : Int32) (x6 : Int32) (x7 : Int32) (x9 : Int32) (x10 : Int32) (x11 : Int32) (x12 : Int32), zI st D (tM cy) (wM ad cy σ) A s H locs → lv_has ls 15 [(0, .ref (ad 0)), (1, .int x1), (2, .int x2), (3, .int x3), (4, .int x4), (5, .int x5), (6, .int x6), (7, .int x7), (9, .int x9), (10, .int x10), (11, .int x11), (12, .int x12)] → k250 σ x1 x2 x3 x4 x5 x6 x7 x9 x10 x11 x12 = some res → W p l e rmX12_sprites s m args below meth c H locs 0 0 (zQu below args s D (tM cy) (wM ad cy) A res) (F0 m 250 ls [])) {H : Heap} {locs : List Loc} {σ : zSt} {ls : Array Slot} {x1 : Int32} {x2 : Int32} {x3 : Int32} {x4 : Int32} {x5 : Int32} {x6 : Int32} {x7 : Int32} {x9 : Int32} {x10 : Int32} {x11 : Int32} {x12 : Int32} (hI : zI st D (tM cy) (wM ad cy σ) A s H locs) (hl : lv_has ls 15 [(0, .ref (ad 0)), (1, .int x1), (2, .int x2), (3, .int x3), (4, .int x4), (5, .int x5), (6, .int x6), (7, .int x7), (9, .int x9), (10, .int x10), (11, .int x11), (12, .int x12)]) (hf : fX12_sprites_250_body k73 k250 σ x1 x2 x3 x4 x5 x6 x7 x9 x10 x11 x12 = some res) : W p l e rmX12_sprites s m args below meth c H locs 0 0 (zQu below args s D (tM cy) (wM ad cy) A res) (F0 m 250 ls []) := by
  have hx := hC.1
  have hb := hC.2.1
  unfold fX12_sprites_250_body at hf
  refine lv_iload hx hb dX12_sprites_250 (lv_at hl 11 rfl) ?_
  refine lv_bipush (v := 8) hx hb dX12_sprites_252 (by decide) ?_
  refine lv_iload_n hx hb dX12_sprites_254 rfl (lv_at hl 3 rfl) ?_
  refine lv_imul hx hb dX12_sprites_255 ?_
  refine lv_icmp_ge (tgt := 349) hx hb dX12_sprites_256 (by decide) (fun q => ?_) (fun q => ?_)
  · replace hf := zif_t q hf
    exact bX12_sprites_349 hC hk73 hI (lv_sub hl [0, 1, 2, 3, 4, 5, 6, 7] rfl) hf
  replace hf := zif_f q hf
  refine lv_aload_n hx hb dX12_sprites_259 rfl (lv_at hl 0 rfl) ?_
  refine lv_iload hx hb dX12_sprites_260 (lv_at hl 9 rfl) ?_
  refine lv_iload hx hb dX12_sprites_262 (lv_at hl 11 rfl) ?_
  refine lv_iload_n hx hb dX12_sprites_264 rfl (lv_at hl 3 rfl) ?_
  obtain ⟨q, hf⟩ := zck_use hf
  refine lv_idiv hx hb dX12_sprites_265 (of_decide_eq_true q) ?_
  refine lv_iload hx hb dX12_sprites_266 (lv_at hl 8 rfl) ?_
  refine lv_iload_n hx hb dX12_sprites_268 rfl (lv_at hl 3 rfl) ?_
  obtain ⟨q, hf⟩ := zck_use hf
  refine lv_idiv hx hb dX12_sprites_269 (of_decide_eq_true q) ?_
  refine lv_bipush (v := 8) hx hb dX12_sprites_270 (by decide) ?_
  obtain ⟨q, hf⟩ := zck_use hf
  refine z_irem hx hb dX12_sprites_272 (of_decide_eq_true q) ?_
  obtain ⟨σ3, v4, g3, hf⟩ := zbi_use hf
  refine z_callVi (As := [.int x10, .int (x12 / x3), .int (zrem (x9 / x3) 8)]) (rest := []) hC hI (cX12_tileDot_met st l D ad cy σ x10 (x12 / x3) (zrem (x9 / x3) 8) _ g3) (zgV zw59_14 zw59_15 zw59_16 zw1_5 zw59_17) rfl ⟨rfl, rfl⟩ 3 hdX12_tileDot ⟨Nat.le_of_ble_eq_true rfl, Nat.le_of_ble_eq_true rfl⟩ rfl rfl (wM_e0 ad cy σ) rfl hl rfl (Nat.le_of_ble_eq_true rfl) dX12_sprites_273 ⟨Nat.zero_le _, Nat.zero_le _⟩ (fun H locs hI => ?_)
  refine lv_istore (lv' := [(13, .int v4), (0, .ref (ad 0)), (1, .int x1), (2, .int x2), (3, .int x3), (4, .int x4), (5, .int x5), (6, .int x6), (7, .int x7), (9, .int x9), (10, .int x10), (11, .int x11), (12, .int x12)]) hx hb dX12_sprites_276 hl (by decide) rfl (fun ls hl => ?_)
  refine lv_iload hx hb dX12_sprites_278 (lv_at hl 11 rfl) ?_
  refine lv_iload hx hb dX12_sprites_280 (lv_at hl 12 rfl) ?_
  refine lv_iadd hx hb dX12_sprites_282 ?_
  refine lv_topi (fun v5 ev5 => ?_)
  replace hf := zbv_use ev5 hf
  refine lv_istore (lv' := [(14, .int v5), (13, .int v4), (0, .ref (ad 0)), (1, .int x1), (2, .int x2), (3, .int x3), (4, .int x4), (5, .int x5), (6, .int x6), (7, .int x7), (9, .int x9), (10, .int x10), (11, .int x11), (12, .int x12)]) hx hb dX12_sprites_283 hl (by decide) rfl (fun ls hl => ?_)
  refine lv_iload hx hb dX12_sprites_285 (lv_at hl 1 rfl) ?_
  refine lv_if_eq (tgt := 343) hx hb dX12_sprites_287 (by decide) (fun q => ?_) (fun q => ?_)
  · replace hf := zif_t q hf
    exact bX12_sprites_343 hC hk73 hk250 hI (lv_sub hl [2, 3, 4, 5, 6, 7, 8, 9, 10, 11, 12, 13] rfl) hf
  replace hf := zif_f q hf
  refine lv_iload hx hb dX12_sprites_290 (lv_at hl 0 rfl) ?_
  refine lv_if_lt (tgt := 343) hx hb dX12_sprites_292 (by decide) (fun q => ?_) (fun q => ?_)
  · replace hf := zif_t q hf
    exact bX12_sprites_343 hC hk73 hk250 hI (lv_sub hl [2, 3, 4, 5, 6, 7, 8, 9, 10, 11, 12, 13] rfl) hf
  replace hf := zif_f q hf
  refine lv_iload hx hb dX12_sprites_295 (lv_at hl 0 rfl) ?_
  refine lv_sipush (v := 255) hx hb dX12_sprites_297 (by decide) ?_
  refine lv_icmp_le (tgt := 306) hx hb dX12_sprites_300 (by decide) (fun q => ?_) (fun q => ?_)
  · replace hf := zif_t q hf
    refine lv_aload_n hx hb dX12_sprites_306 rfl (lv_at hl 2 rfl) ?_
    refine z_get hC hI hinX12_sprites_X120 0 (wM_e0 ad cy σ3) rfl 36 (by decide) (List.mem_cons_of_mem _ zw10_7) rfl dX12_sprites_307 ?_
    refine lv_iload hx hb dX12_sprites_310 (lv_at hl 0 rfl) ?_
    obtain ⟨q, hf⟩ := zck_use hf
    refine z_iald hC hI 24 23 (wM_e24 ad cy σ3) (tM_t24 cy) q dX12_sprites_312 ?_
    refine lv_if_le (tgt := 331) hx hb dX12_sprites_313 (by decide) (fun q => ?_) (fun q => ?_)
    · replace hf := zif_t q hf
      refine lv_aload_n hx hb dX12_sprites_331 rfl (lv_at hl 2 rfl) ?_
      refine z_get hC hI hinX12_sprites_X120 0 (wM_e0 ad cy σ3) rfl 36 (by decide) (List.mem_cons_of_mem _ zw10_7) rfl dX12_sprites_332 ?_
      refine lv_iload hx hb dX12_sprites_335 (lv_at hl 0 rfl) ?_
      refine lv_bipush (v := 16) hx hb dX12_sprites_337 (by decide) ?_
      refine lv_iload hx hb dX12_sprites_339 (lv_at hl 1 rfl) ?_
      refine lv_iadd hx hb dX12_sprites_341 ?_
      obtain ⟨q, hf⟩ := zck_use hf
      obtain ⟨σ6, eσ6⟩ : ∃ z, z = zsi σ3 24 (v5.toNatClampNeg) (16 + v4) := ⟨_, rfl⟩
      replace hf := zbv_use eσ6 hf
      refine z_iast hC hI 24 23 (wM_e24 ad cy σ3) (tM_t24 cy) q ((wM_s24 ad cy σ3 _ _).trans (congrArg (wM ad cy) eσ6.symm)) dX12_sprites_342 (fun H locs hI => ?_)
      exact bX12_sprites_343 hC hk73 hk250 hI (lv_sub hl [2, 3, 4, 5, 6, 7, 8, 9, 10, 11, 12, 13] rfl) hf
    replace hf := zif_f q hf
    refine lv_aload_n hx hb dX12_sprites_316 rfl (lv_at hl 2 rfl) ?_
    refine z_get hC hI hinX12_sprites_X120 0 (wM_e0 ad cy σ3) rfl 10 (by decide) (List.mem_cons_of_mem _ zw9_7) rfl dX12_sprites_317 ?_
    refine lv_bipush (v := 62) hx hb dX12_sprites_320 (by decide) ?_
    refine lv_dup2_11 hx hb dX12_sprites_322 rfl rfl ?_
    obtain ⟨q, hf⟩ := zck_use hf
    refine z_iald hC hI 3 2 (wM_e3 ad cy σ3) (tM_t3 cy) q dX12_sprites_323 ?_
    refine lv_bipush (v := 32) hx hb dX12_sprites_324 (by decide) ?_
    refine lv_ior hx hb dX12_sprites_326 ?_
    obtain ⟨q, hf⟩ := zck_use hf
    obtain ⟨σ7, eσ7⟩ : ∃ z, z = zsi σ3 3 ((62 : Int32).toNatClampNeg) ((zgi σ3 3 (62 : Int32).toNatClampNeg) ||| 32) := ⟨_, rfl⟩
    replace hf := zbv_use eσ7 hf
    refine z_iast hC hI 3 2 (wM_e3 ad cy σ3) (tM_t3 cy) q ((wM_s3 ad cy σ3 _ _).trans (congrArg (wM ad cy) eσ7.symm)) dX12_sprites_327 (fun H locs hI => ?_)
    refine lv_goto (tgt := 343) hx hb dX12_sprites_328 (by decide) ?_
    exact bX12_sprites_343 hC hk73 hk250 hI (lv_sub hl [2, 3, 4, 5, 6, 7, 8, 9, 10, 11, 12, 13] rfl) hf
  replace hf := zif_f q hf
  refine lv_goto (tgt := 343) hx hb dX12_sprites_303 (by decide) ?_
  exact bX12_sprites_343 hC hk73 hk250 hI (lv_sub hl [2, 3, 4, 5, 6, 7, 8, 9, 10, 11, 12, 13] rfl) hf
theorem blX12_sprites_250 {st : Nat → Nat} {p : Program} {l : Launch} {e : Env} {s : State} {m : MethodId} {args : Array Value} {below : List Frame} {meth : Method} {c : Code} {D : va_G} {A : Nat → Prop} {ad : Nat → Nat} {cy : Nat → ClassId} (hC : zC p m c cX12_sprites 15 s args wzX12_sprites RX12 meth none) {k73 : zSt → Int32 → Int32 → Int32 → Int32 → Int32 → Int32 → Int32 → Option (zSt)} {res : zSt} (hk73 : ∀ (H : Heap) (locs : List Loc) (σ : zSt) (ls : Array Slot) (x1 : Int32) (x2 : Int32) (x3 : Int32) (x4 : Int32) (x5 : Int32) (x6 : Int32) (x7 : Int32), zI st D (tM cy) (wM ad cy σ) A s H locs → lv_has ls 15 [(0, .ref (ad 0)), (1, .int x1), (2, .int x2), (3, .int x3), (4, .int x4), (5, .int x5), (6, .int x6), (7, .int x7)] → k73 σ x1 x2 x3 x4 x5 x6 x7 = some res → W p l e rmX12_sprites s m args below meth c H locs 0 0 (zQu below args s D (tM cy) (wM ad cy) A res) (F0 m 73 ls [])) : ∀ (n : Nat) (H : Heap) (locs : List Loc) (σ : zSt) (ls : Array Slot) (x1 : Int32) (x2 : Int32) (x3 : Int32) (x4 : Int32) (x5 : Int32) (x6 : Int32) (x7 : Int32) (x9 : Int32) (x10 : Int32) (x11 : Int32) (x12 : Int32), zI st D (tM cy) (wM ad cy σ) A s H locs → lv_has ls 15 [(0, .ref (ad 0)), (1, .int x1), (2, .int x2), (3, .int x3), (4, .int x4), (5, .int x5), (6, .int x6), (7, .int x7), (9, .int x9), (10, .int x10), (11, .int x11), (12, .int x12)] → fX12_sprites_250 k73 n σ x1 x2 x3 x4 x5 x6 x7 x9 x10 x11 x12 = some res → W p l e rmX12_sprites s m args below meth c H locs 0 0 (zQu below args s D (tM cy) (wM ad cy) A res) (F0 m 250 ls []) := by
  intro n
  induction n with
  | zero => intro H locs σ ls x1 x2 x3 x4 x5 x6 x7 x9 x10 x11 x12 hI hl hf; cases hf
  | succ n ih => intro H locs σ ls x1 x2 x3 x4 x5 x6 x7 x9 x10 x11 x12 hI hl hf; exact bX12_sprites_250_body hC hk73 ih hI hl hf
set_option maxRecDepth 20000 in
set_option maxHeartbeats 4000000 in
theorem bX12_sprites_244 {st : Nat → Nat} {p : Program} {l : Launch} {e : Env} {s : State} {m : MethodId} {args : Array Value} {below : List Frame} {meth : Method} {c : Code} {D : va_G} {A : Nat → Prop} {ad : Nat → Nat} {cy : Nat → ClassId} (hC : zC p m c cX12_sprites 15 s args wzX12_sprites RX12 meth none) {k73 : zSt → Int32 → Int32 → Int32 → Int32 → Int32 → Int32 → Int32 → Option (zSt)} {res : zSt} (hk73 : ∀ (H : Heap) (locs : List Loc) (σ : zSt) (ls : Array Slot) (x1 : Int32) (x2 : Int32) (x3 : Int32) (x4 : Int32) (x5 : Int32) (x6 : Int32) (x7 : Int32), zI st D (tM cy) (wM ad cy σ) A s H locs → lv_has ls 15 [(0, .ref (ad 0)), (1, .int x1), (2, .int x2), (3, .int x3), (4, .int x4), (5, .int x5), (6, .int x6), (7, .int x7)] → k73 σ x1 x2 x3 x4 x5 x6 x7 = some res → W p l e rmX12_sprites s m args below meth c H locs 0 0 (zQu below args s D (tM cy) (wM ad cy) A res) (F0 m 73 ls [])) {H : Heap} {locs : List Loc} {σ : zSt} {ls : Array Slot} {x1 : Int32} {x2 : Int32} {x3 : Int32} {x4 : Int32} {x5 : Int32} {x6 : Int32} {x7 : Int32} {x9 : Int32} {x10 : Int32} {s0 : Int32} {s1 : Int32} (hI : zI st D (tM cy) (wM ad cy σ) A s H locs) (hl : lv_has ls 15 [(0, .ref (ad 0)), (1, .int x1), (2, .int x2), (3, .int x3), (4, .int x4), (5, .int x5), (6, .int x6), (7, .int x7), (9, .int x9), (10, .int x10)]) (hf : fX12_sprites_244 k73 σ x1 x2 x3 x4 x5 x6 x7 x9 x10 s0 s1 = some res) : W p l e rmX12_sprites s m args below meth c H locs 0 0 (zQu below args s D (tM cy) (wM ad cy) A res) (F0 m 244 ls [.int s0, .int s1]) := by
  have hx := hC.1
  have hb := hC.2.1
  unfold fX12_sprites_244 at hf
  refine lv_isub hx hb dX12_sprites_244 ?_
  refine lv_topi (fun v8 ev8 => ?_)
  replace hf := zbv_use ev8 hf
  refine lv_istore (lv' := [(11, .int v8), (0, .ref (ad 0)), (1, .int x1), (2, .int x2), (3, .int x3), (4, .int x4), (5, .int x5), (6, .int x6), (7, .int x7), (9, .int x9), (10, .int x10)]) hx hb dX12_sprites_245 hl (by decide) rfl (fun ls hl => ?_)
  refine lv_iconst (v := 0) hx hb dX12_sprites_247 (by decide) ?_
  refine lv_istore (lv' := [(12, .int 0), (11, .int v8), (0, .ref (ad 0)), (1, .int x1), (2, .int x2), (3, .int x3), (4, .int x4), (5, .int x5), (6, .int x6), (7, .int x7), (9, .int x9), (10, .int x10)]) hx hb dX12_sprites_248 hl (by decide) rfl (fun ls hl => ?_)
  exact blX12_sprites_250 hC hk73 zfuel _ _ _ _ _ _ _ _ _ _ _ _ _ _ _ hI (lv_sub hl [2, 3, 4, 5, 6, 7, 8, 9, 10, 11, 1, 0] rfl) hf
set_option maxRecDepth 20000 in
set_option maxHeartbeats 4000000 in
theorem bX12_sprites_212 {st : Nat → Nat} {p : Program} {l : Launch} {e : Env} {s : State} {m : MethodId} {args : Array Value} {below : List Frame} {meth : Method} {c : Code} {D : va_G} {A : Nat → Prop} {ad : Nat → Nat} {cy : Nat → ClassId} (hC : zC p m c cX12_sprites 15 s args wzX12_sprites RX12 meth none) {k73 : zSt → Int32 → Int32 → Int32 → Int32 → Int32 → Int32 → Int32 → Option (zSt)} {res : zSt} (hk73 : ∀ (H : Heap) (locs : List Loc) (σ : zSt) (ls : Array Slot) (x1 : Int32) (x2 : Int32) (x3 : Int32) (x4 : Int32) (x5 : Int32) (x6 : Int32) (x7 : Int32), zI st D (tM cy) (wM ad cy σ) A s H locs → lv_has ls 15 [(0, .ref (ad 0)), (1, .int x1), (2, .int x2), (3, .int x3), (4, .int x4), (5, .int x5), (6, .int x6), (7, .int x7)] → k73 σ x1 x2 x3 x4 x5 x6 x7 = some res → W p l e rmX12_sprites s m args below meth c H locs 0 0 (zQu below args s D (tM cy) (wM ad cy) A res) (F0 m 73 ls [])) {H : Heap} {locs : List Loc} {σ : zSt} {ls : Array Slot} {x1 : Int32} {x2 : Int32} {x3 : Int32} {x4 : Int32} {x5 : Int32} {x6 : Int32} {x7 : Int32} {x9 : Int32} {s0 : Int32} (hI : zI st D (tM cy) (wM ad cy σ) A s H locs) (hl : lv_has ls 15 [(0, .ref (ad 0)), (1, .int x1), (2, .int x2), (3, .int x3), (4, .int x4), (5, .int x5), (6, .int x6), (7, .int x7), (9, .int x9)]) (hf : fX12_sprites_212 k73 σ x1 x2 x3 x4 x5 x6 x7 x9 s0 = some res) : W p l e rmX12_sprites s m args below meth c H locs 0 0 (zQu below args s D (tM cy) (wM ad cy) A res) (F0 m 212 ls [.int s0]) := by
  have hx := hC.1
  have hb := hC.2.1
  unfold fX12_sprites_212 at hf
  refine lv_istore (lv' := [(10, .int s0), (0, .ref (ad 0)), (1, .int x1), (2, .int x2), (3, .int x3), (4, .int x4), (5, .int x5), (6, .int x6), (7, .int x7), (9, .int x9)]) hx hb dX12_sprites_212 hl (by decide) rfl (fun ls hl => ?_)
  refine lv_aload_n hx hb dX12_sprites_214 rfl (lv_at hl 1 rfl) ?_
  refine lv_iload_n hx hb dX12_sprites_215 rfl (lv_at hl 3 rfl) ?_
  refine lv_sipush (v := 128) hx hb dX12_sprites_216 (by decide) ?_
  refine lv_iadd hx hb dX12_sprites_219 ?_
  refine lv_iconst (v := 2) hx hb dX12_sprites_220 (by decide) ?_
  refine lv_iload hx hb dX12_sprites_221 (lv_at hl 8 rfl) ?_
  refine lv_imul hx hb dX12_sprites_223 ?_
  refine lv_iadd hx hb dX12_sprites_224 ?_
  obtain ⟨σ9, v10, g9, hf⟩ := zbi_use hf
  refine z_callVi (As := [.int ((x2 + 128) + (2 * x7))]) (rest := []) hC hI (cX12_video8_met st l D ad cy σ ((x2 + 128) + (2 * x7)) _ g9) (zgV zw56_6 zw56_7 zw56_8 zw1_5 zw56_9) rfl ⟨rfl, rfl⟩ 1 hdX12_video8 ⟨Nat.le_of_ble_eq_true rfl, Nat.le_of_ble_eq_true rfl⟩ rfl rfl (wM_e0 ad cy σ) rfl hl rfl (Nat.le_of_ble_eq_true rfl) dX12_sprites_225 ⟨Nat.zero_le _, Nat.zero_le _⟩ (fun H locs hI => ?_)
  refine lv_aload_n hx hb dX12_sprites_228 rfl (lv_at hl 1 rfl) ?_
  refine lv_iconst (v := 0) hx hb dX12_sprites_229 (by decide) ?_
  refine lv_iconst (v := 3) hx hb dX12_sprites_230 (by decide) ?_
  obtain ⟨σ11, v12, g11, hf⟩ := zbi_use hf
  refine z_callVi (As := [.int 0, .int 3]) (rest := [.int v10]) hC hI (cX12_bit_met st l D ad cy σ9 0 3 _ g11) (zgV zw49_0 zw49_1 zw49_2 zw1_5 zw49_3) rfl ⟨rfl, rfl⟩ 2 hdX12_bit ⟨Nat.le_of_ble_eq_true rfl, Nat.le_of_ble_eq_true rfl⟩ rfl rfl (wM_e0 ad cy σ9) rfl hl rfl (Nat.le_of_ble_eq_true rfl) dX12_sprites_231 ⟨Nat.zero_le _, Nat.zero_le _⟩ (fun H locs hI => ?_)
  refine lv_iconst (v := 1) hx hb dX12_sprites_234 (by decide) ?_
  refine lv_icmp_ne (tgt := 243) hx hb dX12_sprites_235 (by decide) (fun q => ?_) (fun q => ?_)
  · replace hf := zif_f q hf
    refine lv_iconst (v := 0) hx hb dX12_sprites_243 (by decide) ?_
    exact bX12_sprites_244 hC hk73 hI (lv_sub hl [1, 2, 3, 4, 5, 6, 7, 8, 9, 0] rfl) hf
  replace hf := zif_t q hf
  refine lv_bipush (v := 8) hx hb dX12_sprites_238 (by decide) ?_
  refine lv_goto (tgt := 244) hx hb dX12_sprites_240 (by decide) ?_
  exact bX12_sprites_244 hC hk73 hI (lv_sub hl [1, 2, 3, 4, 5, 6, 7, 8, 9, 0] rfl) hf
set_option maxRecDepth 20000 in
set_option maxHeartbeats 4000000 in
theorem bX12_sprites_183 {st : Nat → Nat} {p : Program} {l : Launch} {e : Env} {s : State} {m : MethodId} {args : Array Value} {below : List Frame} {meth : Method} {c : Code} {D : va_G} {A : Nat → Prop} {ad : Nat → Nat} {cy : Nat → ClassId} (hC : zC p m c cX12_sprites 15 s args wzX12_sprites RX12 meth none) {k73 : zSt → Int32 → Int32 → Int32 → Int32 → Int32 → Int32 → Int32 → Option (zSt)} {res : zSt} (hk73 : ∀ (H : Heap) (locs : List Loc) (σ : zSt) (ls : Array Slot) (x1 : Int32) (x2 : Int32) (x3 : Int32) (x4 : Int32) (x5 : Int32) (x6 : Int32) (x7 : Int32), zI st D (tM cy) (wM ad cy σ) A s H locs → lv_has ls 15 [(0, .ref (ad 0)), (1, .int x1), (2, .int x2), (3, .int x3), (4, .int x4), (5, .int x5), (6, .int x6), (7, .int x7)] → k73 σ x1 x2 x3 x4 x5 x6 x7 = some res → W p l e rmX12_sprites s m args below meth c H locs 0 0 (zQu below args s D (tM cy) (wM ad cy) A res) (F0 m 73 ls [])) {H : Heap} {locs : List Loc} {σ : zSt} {ls : Array Slot} {x1 : Int32} {x2 : Int32} {x3 : Int32} {x4 : Int32} {x5 : Int32} {x6 : Int32} {x7 : Int32} {x9 : Int32} {s0 : Int32} {s1 : Int32} (hI : zI st D (tM cy) (wM ad cy σ) A s H locs) (hl : lv_has ls 15 [(0, .ref (ad 0)), (1, .int x1), (2, .int x2), (3, .int x3), (4, .int x4), (5, .int x5), (6, .int x6), (7, .int x7), (9, .int x9)]) (hf : fX12_sprites_183 k73 σ x1 x2 x3 x4 x5 x6 x7 x9 s0 s1 = some res) : W p l e rmX12_sprites s m args below meth c H locs 0 0 (zQu below args s D (tM cy) (wM ad cy) A res) (F0 m 183 ls [.int s0, .int s1]) := by
  have hx := hC.1
  have hb := hC.2.1
  unfold fX12_sprites_183 at hf
  refine lv_iadd hx hb dX12_sprites_183 ?_
  refine lv_topi (fun v13 ev13 => ?_)
  replace hf := zbv_use ev13 hf
  refine lv_istore (lv' := [(10, .int v13), (0, .ref (ad 0)), (1, .int x1), (2, .int x2), (3, .int x3), (4, .int x4), (5, .int x5), (6, .int x6), (7, .int x7), (9, .int x9)]) hx hb dX12_sprites_184 hl (by decide) rfl (fun ls hl => ?_)
  refine lv_iload hx hb dX12_sprites_186 (lv_at hl 5 rfl) ?_
  refine lv_bipush (v := 16) hx hb dX12_sprites_188 (by decide) ?_
  refine lv_icmp_ne (tgt := 210) hx hb dX12_sprites_190 (by decide) (fun q => ?_) (fun q => ?_)
  · replace hf := zif_f q hf
    refine lv_iload hx hb dX12_sprites_210 (lv_at hl 0 rfl) ?_
    exact bX12_sprites_212 hC hk73 hI (lv_sub hl [1, 2, 3, 4, 5, 6, 7, 8, 9] rfl) hf
  replace hf := zif_t q hf
  refine lv_iload hx hb dX12_sprites_193 (lv_at hl 0 rfl) ?_
  refine lv_sipush (v := 510) hx hb dX12_sprites_195 (by decide) ?_
  refine lv_iand hx hb dX12_sprites_198 ?_
  refine lv_iload hx hb dX12_sprites_199 (lv_at hl 9 rfl) ?_
  refine lv_iload_n hx hb dX12_sprites_201 rfl (lv_at hl 4 rfl) ?_
  obtain ⟨q, hf⟩ := zck_use hf
  refine lv_idiv hx hb dX12_sprites_202 (of_decide_eq_true q) ?_
  refine lv_bipush (v := 8) hx hb dX12_sprites_203 (by decide) ?_
  obtain ⟨q, hf⟩ := zck_use hf
  refine lv_idiv hx hb dX12_sprites_205 (of_decide_eq_true q) ?_
  refine lv_iadd hx hb dX12_sprites_206 ?_
  refine lv_goto (tgt := 212) hx hb dX12_sprites_207 (by decide) ?_
  exact bX12_sprites_212 hC hk73 hI (lv_sub hl [1, 2, 3, 4, 5, 6, 7, 8, 9] rfl) hf
set_option maxRecDepth 20000 in
set_option maxHeartbeats 4000000 in
theorem bX12_sprites_104 {st : Nat → Nat} {p : Program} {l : Launch} {e : Env} {s : State} {m : MethodId} {args : Array Value} {below : List Frame} {meth : Method} {c : Code} {D : va_G} {A : Nat → Prop} {ad : Nat → Nat} {cy : Nat → ClassId} (hC : zC p m c cX12_sprites 15 s args wzX12_sprites RX12 meth none) {k73 : zSt → Int32 → Int32 → Int32 → Int32 → Int32 → Int32 → Int32 → Option (zSt)} {res : zSt} (hk73 : ∀ (H : Heap) (locs : List Loc) (σ : zSt) (ls : Array Slot) (x1 : Int32) (x2 : Int32) (x3 : Int32) (x4 : Int32) (x5 : Int32) (x6 : Int32) (x7 : Int32), zI st D (tM cy) (wM ad cy σ) A s H locs → lv_has ls 15 [(0, .ref (ad 0)), (1, .int x1), (2, .int x2), (3, .int x3), (4, .int x4), (5, .int x5), (6, .int x6), (7, .int x7)] → k73 σ x1 x2 x3 x4 x5 x6 x7 = some res → W p l e rmX12_sprites s m args below meth c H locs 0 0 (zQu below args s D (tM cy) (wM ad cy) A res) (F0 m 73 ls [])) {H : Heap} {locs : List Loc} {σ : zSt} {ls : Array Slot} {x1 : Int32} {x2 : Int32} {x3 : Int32} {x4 : Int32} {x5 : Int32} {x6 : Int32} {x7 : Int32} {x8 : Int32} (hI : zI st D (tM cy) (wM ad cy σ) A s H locs) (hl : lv_has ls 15 [(0, .ref (ad 0)), (1, .int x1), (2, .int x2), (3, .int x3), (4, .int x4), (5, .int x5), (6, .int x6), (7, .int x7), (8, .int x8)]) (hf : fX12_sprites_104 k73 σ x1 x2 x3 x4 x5 x6 x7 x8 = some res) : W p l e rmX12_sprites s m args below meth c H locs 0 0 (zQu below args s D (tM cy) (wM ad cy) A res) (F0 m 104 ls []) := by
  have hx := hC.1
  have hb := hC.2.1
  unfold fX12_sprites_104 at hf
  refine lv_iload_n hx hb dX12_sprites_104 rfl (lv_at hl 1 rfl) ?_
  refine lv_iload hx hb dX12_sprites_105 (lv_at hl 8 rfl) ?_
  refine lv_isub hx hb dX12_sprites_107 ?_
  refine lv_iconst (v := 1) hx hb dX12_sprites_108 (by decide) ?_
  refine lv_isub hx hb dX12_sprites_109 ?_
  refine lv_sipush (v := 255) hx hb dX12_sprites_110 (by decide) ?_
  refine lv_iand hx hb dX12_sprites_113 ?_
  refine lv_topi (fun v14 ev14 => ?_)
  replace hf := zbv_use ev14 hf
  refine lv_istore (lv' := [(9, .int v14), (0, .ref (ad 0)), (1, .int x1), (2, .int x2), (3, .int x3), (4, .int x4), (5, .int x5), (6, .int x6), (7, .int x7), (8, .int x8)]) hx hb dX12_sprites_114 hl (by decide) rfl (fun ls hl => ?_)
  refine lv_iload hx hb dX12_sprites_116 (lv_at hl 0 rfl) ?_
  refine lv_iload hx hb dX12_sprites_118 (lv_at hl 5 rfl) ?_
  refine lv_iload_n hx hb dX12_sprites_120 rfl (lv_at hl 4 rfl) ?_
  refine lv_imul hx hb dX12_sprites_121 ?_
  refine lv_icmp_lt (tgt := 128) hx hb dX12_sprites_122 (by decide) (fun q => ?_) (fun q => ?_)
  · replace hf := zif_t q hf
    refine lv_iload hx hb dX12_sprites_128 (lv_at hl 6 rfl) ?_
    refine lv_bipush (v := 8) hx hb dX12_sprites_130 (by decide) ?_
    refine lv_icmp_ne (tgt := 148) hx hb dX12_sprites_132 (by decide) (fun q => ?_) (fun q => ?_)
    · replace hf := zif_f q hf
      obtain ⟨v15, ev15⟩ : ∃ z : Int32, z = x5 + 1 := ⟨_, rfl⟩
      replace hf := zbv_use ev15 hf
      refine lv_iinc (v := v15) (lv' := [(5, .int v15), (9, .int v14), (0, .ref (ad 0)), (1, .int x1), (2, .int x2), (3, .int x3), (4, .int x4), (6, .int x6), (7, .int x7), (8, .int x8)]) hx hb dX12_sprites_148 hl (k := 6) rfl (by rw [ev15]; rfl) (by decide) rfl (fun ls hl => ?_)
      refine lv_aload_n hx hb dX12_sprites_151 rfl (lv_at hl 2 rfl) ?_
      refine lv_iload_n hx hb dX12_sprites_152 rfl (lv_at hl 4 rfl) ?_
      refine lv_sipush (v := 129) hx hb dX12_sprites_153 (by decide) ?_
      refine lv_iadd hx hb dX12_sprites_156 ?_
      refine lv_iconst (v := 2) hx hb dX12_sprites_157 (by decide) ?_
      refine lv_iload hx hb dX12_sprites_158 (lv_at hl 8 rfl) ?_
      refine lv_imul hx hb dX12_sprites_160 ?_
      refine lv_iadd hx hb dX12_sprites_161 ?_
      obtain ⟨σ16, v17, g16, hf⟩ := zbi_use hf
      refine z_callVi (As := [.int ((x2 + 129) + (2 * x7))]) (rest := []) hC hI (cX12_video8_met st l D ad cy σ ((x2 + 129) + (2 * x7)) _ g16) (zgV zw56_6 zw56_7 zw56_8 zw1_5 zw56_9) rfl ⟨rfl, rfl⟩ 1 hdX12_video8 ⟨Nat.le_of_ble_eq_true rfl, Nat.le_of_ble_eq_true rfl⟩ rfl rfl (wM_e0 ad cy σ) rfl hl rfl (Nat.le_of_ble_eq_true rfl) dX12_sprites_162 ⟨Nat.zero_le _, Nat.zero_le _⟩ (fun H locs hI => ?_)
      refine lv_aload_n hx hb dX12_sprites_165 rfl (lv_at hl 2 rfl) ?_
      refine lv_bipush (v := 6) hx hb dX12_sprites_166 (by decide) ?_
      refine lv_iconst (v := 2) hx hb dX12_sprites_168 (by decide) ?_
      obtain ⟨σ18, v19, g18, hf⟩ := zbi_use hf
      refine z_callVi (As := [.int 6, .int 2]) (rest := [.int v17]) hC hI (cX12_bit_met st l D ad cy σ16 6 2 _ g18) (zgV zw49_0 zw49_1 zw49_2 zw1_5 zw49_3) rfl ⟨rfl, rfl⟩ 2 hdX12_bit ⟨Nat.le_of_ble_eq_true rfl, Nat.le_of_ble_eq_true rfl⟩ rfl rfl (wM_e0 ad cy σ16) rfl hl rfl (Nat.le_of_ble_eq_true rfl) dX12_sprites_169 ⟨Nat.zero_le _, Nat.zero_le _⟩ (fun H locs hI => ?_)
      refine lv_iconst (v := 1) hx hb dX12_sprites_172 (by decide) ?_
      refine lv_icmp_ne (tgt := 182) hx hb dX12_sprites_173 (by decide) (fun q => ?_) (fun q => ?_)
      · replace hf := zif_f q hf
        refine lv_iconst (v := 0) hx hb dX12_sprites_182 (by decide) ?_
        exact bX12_sprites_183 hC hk73 hI (lv_sub hl [2, 3, 4, 5, 6, 0, 7, 8, 1] rfl) hf
      replace hf := zif_t q hf
      refine lv_sipush (v := 256) hx hb dX12_sprites_176 (by decide) ?_
      refine lv_goto (tgt := 183) hx hb dX12_sprites_179 (by decide) ?_
      exact bX12_sprites_183 hC hk73 hI (lv_sub hl [2, 3, 4, 5, 6, 0, 7, 8, 1] rfl) hf
    replace hf := zif_t q hf
    refine lv_aload_n hx hb dX12_sprites_135 rfl (lv_at hl 1 rfl) ?_
    refine z_get hC hI hinX12_sprites_X120 0 (wM_e0 ad cy σ) rfl 10 (by decide) (List.mem_cons_of_mem _ zw9_7) rfl dX12_sprites_136 ?_
    refine lv_bipush (v := 62) hx hb dX12_sprites_139 (by decide) ?_
    refine lv_dup2_11 hx hb dX12_sprites_141 rfl rfl ?_
    obtain ⟨q, hf⟩ := zck_use hf
    refine z_iald hC hI 3 2 (wM_e3 ad cy σ) (tM_t3 cy) q dX12_sprites_142 ?_
    refine lv_bipush (v := 64) hx hb dX12_sprites_143 (by decide) ?_
    refine lv_ior hx hb dX12_sprites_145 ?_
    obtain ⟨q, hf⟩ := zck_use hf
    obtain ⟨σ20, eσ20⟩ : ∃ z, z = zsi σ 3 ((62 : Int32).toNatClampNeg) ((zgi σ 3 (62 : Int32).toNatClampNeg) ||| 64) := ⟨_, rfl⟩
    replace hf := zbv_use eσ20 hf
    refine z_iast hC hI 3 2 (wM_e3 ad cy σ) (tM_t3 cy) q ((wM_s3 ad cy σ _ _).trans (congrArg (wM ad cy) eσ20.symm)) dX12_sprites_146 (fun H locs hI => ?_)
    exact z_return hC hI hf dX12_sprites_147
  replace hf := zif_f q hf
  refine lv_goto (tgt := 349) hx hb dX12_sprites_125 (by decide) ?_
  exact bX12_sprites_349 hC hk73 hI (lv_sub hl [1, 2, 3, 4, 5, 6, 7, 8] rfl) hf
set_option maxRecDepth 20000 in
set_option maxHeartbeats 4000000 in
theorem bX12_sprites_73_body {st : Nat → Nat} {p : Program} {l : Launch} {e : Env} {s : State} {m : MethodId} {args : Array Value} {below : List Frame} {meth : Method} {c : Code} {D : va_G} {A : Nat → Prop} {ad : Nat → Nat} {cy : Nat → ClassId} (hC : zC p m c cX12_sprites 15 s args wzX12_sprites RX12 meth none) {k73 : zSt → Int32 → Int32 → Int32 → Int32 → Int32 → Int32 → Int32 → Option (zSt)} {res : zSt} (hk73 : ∀ (H : Heap) (locs : List Loc) (σ : zSt) (ls : Array Slot) (x1 : Int32) (x2 : Int32) (x3 : Int32) (x4 : Int32) (x5 : Int32) (x6 : Int32) (x7 : Int32), zI st D (tM cy) (wM ad cy σ) A s H locs → lv_has ls 15 [(0, .ref (ad 0)), (1, .int x1), (2, .int x2), (3, .int x3), (4, .int x4), (5, .int x5), (6, .int x6), (7, .int x7)] → k73 σ x1 x2 x3 x4 x5 x6 x7 = some res → W p l e rmX12_sprites s m args below meth c H locs 0 0 (zQu below args s D (tM cy) (wM ad cy) A res) (F0 m 73 ls [])) {H : Heap} {locs : List Loc} {σ : zSt} {ls : Array Slot} {x1 : Int32} {x2 : Int32} {x3 : Int32} {x4 : Int32} {x5 : Int32} {x6 : Int32} {x7 : Int32} (hI : zI st D (tM cy) (wM ad cy σ) A s H locs) (hl : lv_has ls 15 [(0, .ref (ad 0)), (1, .int x1), (2, .int x2), (3, .int x3), (4, .int x4), (5, .int x5), (6, .int x6), (7, .int x7)]) (hf : fX12_sprites_73_body k73 σ x1 x2 x3 x4 x5 x6 x7 = some res) : W p l e rmX12_sprites s m args below meth c H locs 0 0 (zQu below args s D (tM cy) (wM ad cy) A res) (F0 m 73 ls []) := by
  have hx := hC.1
  have hb := hC.2.1
  unfold fX12_sprites_73_body at hf
  refine lv_iload hx hb dX12_sprites_73 (lv_at hl 7 rfl) ?_
  refine lv_bipush (v := 64) hx hb dX12_sprites_75 (by decide) ?_
  refine lv_icmp_ge (tgt := 355) hx hb dX12_sprites_77 (by decide) (fun q => ?_) (fun q => ?_)
  · replace hf := zif_t q hf
    exact z_return hC hI hf dX12_sprites_355
  replace hf := zif_f q hf
  refine lv_aload_n hx hb dX12_sprites_80 rfl (lv_at hl 0 rfl) ?_
  refine lv_iload_n hx hb dX12_sprites_81 rfl (lv_at hl 2 rfl) ?_
  refine lv_iload hx hb dX12_sprites_82 (lv_at hl 7 rfl) ?_
  refine lv_iadd hx hb dX12_sprites_84 ?_
  obtain ⟨σ21, v22, g21, hf⟩ := zbi_use hf
  refine z_callVi (As := [.int (x2 + x7)]) (rest := []) hC hI (cX12_video8_met st l D ad cy σ (x2 + x7) _ g21) (zgV zw56_6 zw56_7 zw56_8 zw1_5 zw56_9) rfl ⟨rfl, rfl⟩ 1 hdX12_video8 ⟨Nat.le_of_ble_eq_true rfl, Nat.le_of_ble_eq_true rfl⟩ rfl rfl (wM_e0 ad cy σ) rfl hl rfl (Nat.le_of_ble_eq_true rfl) dX12_sprites_85 ⟨Nat.zero_le _, Nat.zero_le _⟩ (fun H locs hI => ?_)
  refine lv_istore (lv' := [(8, .int v22), (0, .ref (ad 0)), (1, .int x1), (2, .int x2), (3, .int x3), (4, .int x4), (5, .int x5), (6, .int x6), (7, .int x7)]) hx hb dX12_sprites_88 hl (by decide) rfl (fun ls hl => ?_)
  refine lv_iload hx hb dX12_sprites_90 (lv_at hl 7 rfl) ?_
  refine lv_if_eq (tgt := 104) hx hb dX12_sprites_92 (by decide) (fun q => ?_) (fun q => ?_)
  · replace hf := zif_t q hf
    exact bX12_sprites_104 hC hk73 hI (lv_sub hl [1, 2, 3, 4, 5, 6, 7, 8, 0] rfl) hf
  replace hf := zif_f q hf
  refine lv_iload hx hb dX12_sprites_95 (lv_at hl 0 rfl) ?_
  refine lv_sipush (v := 208) hx hb dX12_sprites_97 (by decide) ?_
  refine lv_icmp_ne (tgt := 104) hx hb dX12_sprites_100 (by decide) (fun q => ?_) (fun q => ?_)
  · replace hf := zif_f q hf
    exact bX12_sprites_104 hC hk73 hI (lv_sub hl [1, 2, 3, 4, 5, 6, 7, 8, 0] rfl) hf
  replace hf := zif_t q hf
  exact z_return hC hI hf dX12_sprites_103
theorem blX12_sprites_73 {st : Nat → Nat} {p : Program} {l : Launch} {e : Env} {s : State} {m : MethodId} {args : Array Value} {below : List Frame} {meth : Method} {c : Code} {D : va_G} {A : Nat → Prop} {ad : Nat → Nat} {cy : Nat → ClassId} (hC : zC p m c cX12_sprites 15 s args wzX12_sprites RX12 meth none)  {res : zSt} : ∀ (n : Nat) (H : Heap) (locs : List Loc) (σ : zSt) (ls : Array Slot) (x1 : Int32) (x2 : Int32) (x3 : Int32) (x4 : Int32) (x5 : Int32) (x6 : Int32) (x7 : Int32), zI st D (tM cy) (wM ad cy σ) A s H locs → lv_has ls 15 [(0, .ref (ad 0)), (1, .int x1), (2, .int x2), (3, .int x3), (4, .int x4), (5, .int x5), (6, .int x6), (7, .int x7)] → fX12_sprites_73  n σ x1 x2 x3 x4 x5 x6 x7 = some res → W p l e rmX12_sprites s m args below meth c H locs 0 0 (zQu below args s D (tM cy) (wM ad cy) A res) (F0 m 73 ls []) := by
  intro n
  induction n with
  | zero => intro H locs σ ls x1 x2 x3 x4 x5 x6 x7 hI hl hf; cases hf
  | succ n ih => intro H locs σ ls x1 x2 x3 x4 x5 x6 x7 hI hl hf; exact bX12_sprites_73_body hC ih hI hl hf
set_option maxRecDepth 20000 in
set_option maxHeartbeats 4000000 in
theorem bX12_sprites_68 {st : Nat → Nat} {p : Program} {l : Launch} {e : Env} {s : State} {m : MethodId} {args : Array Value} {below : List Frame} {meth : Method} {c : Code} {D : va_G} {A : Nat → Prop} {ad : Nat → Nat} {cy : Nat → ClassId} (hC : zC p m c cX12_sprites 15 s args wzX12_sprites RX12 meth none)  {res : zSt} {H : Heap} {locs : List Loc} {σ : zSt} {ls : Array Slot} {x1 : Int32} {x2 : Int32} {x3 : Int32} {x4 : Int32} {x5 : Int32} {s0 : Int32} (hI : zI st D (tM cy) (wM ad cy σ) A s H locs) (hl : lv_has ls 15 [(0, .ref (ad 0)), (1, .int x1), (2, .int x2), (3, .int x3), (4, .int x4), (5, .int x5)]) (hf : fX12_sprites_68  σ x1 x2 x3 x4 x5 s0 = some res) : W p l e rmX12_sprites s m args below meth c H locs 0 0 (zQu below args s D (tM cy) (wM ad cy) A res) (F0 m 68 ls [.int s0]) := by
  have hx := hC.1
  have hb := hC.2.1
  unfold fX12_sprites_68 at hf
  refine lv_istore (lv' := [(6, .int s0), (0, .ref (ad 0)), (1, .int x1), (2, .int x2), (3, .int x3), (4, .int x4), (5, .int x5)]) hx hb dX12_sprites_68 hl (by decide) rfl (fun ls hl => ?_)
  refine lv_iconst (v := 0) hx hb dX12_sprites_70 (by decide) ?_
  refine lv_istore (lv' := [(7, .int 0), (6, .int s0), (0, .ref (ad 0)), (1, .int x1), (2, .int x2), (3, .int x3), (4, .int x4), (5, .int x5)]) hx hb dX12_sprites_71 hl (by decide) rfl (fun ls hl => ?_)
  exact blX12_sprites_73 hC  zfuel _ _ _ _ _ _ _ _ _ _ _ hI (lv_sub hl [2, 3, 4, 5, 6, 7, 1, 0] rfl) hf
set_option maxRecDepth 20000 in
set_option maxHeartbeats 4000000 in
theorem bX12_sprites_48 {st : Nat → Nat} {p : Program} {l : Launch} {e : Env} {s : State} {m : MethodId} {args : Array Value} {below : List Frame} {meth : Method} {c : Code} {D : va_G} {A : Nat → Prop} {ad : Nat → Nat} {cy : Nat → ClassId} (hC : zC p m c cX12_sprites 15 s args wzX12_sprites RX12 meth none)  {res : zSt} {H : Heap} {locs : List Loc} {σ : zSt} {ls : Array Slot} {x1 : Int32} {x2 : Int32} {x3 : Int32} {s0 : Int32} (hI : zI st D (tM cy) (wM ad cy σ) A s H locs) (hl : lv_has ls 15 [(0, .ref (ad 0)), (1, .int x1), (2, .int x2), (3, .int x3)]) (hf : fX12_sprites_48  σ x1 x2 x3 s0 = some res) : W p l e rmX12_sprites s m args below meth c H locs 0 0 (zQu below args s D (tM cy) (wM ad cy) A res) (F0 m 48 ls [.int s0]) := by
  have hx := hC.1
  have hb := hC.2.1
  unfold fX12_sprites_48 at hf
  refine lv_istore (lv' := [(4, .int s0), (0, .ref (ad 0)), (1, .int x1), (2, .int x2), (3, .int x3)]) hx hb dX12_sprites_48 hl (by decide) rfl (fun ls hl => ?_)
  refine lv_iconst (v := 0) hx hb dX12_sprites_50 (by decide) ?_
  refine lv_istore (lv' := [(5, .int 0), (4, .int s0), (0, .ref (ad 0)), (1, .int x1), (2, .int x2), (3, .int x3)]) hx hb dX12_sprites_51 hl (by decide) rfl (fun ls hl => ?_)
  refine lv_aload_n hx hb dX12_sprites_53 rfl (lv_at hl 2 rfl) ?_
  obtain ⟨σ23, v24, g23, hf⟩ := zbi_use hf
  refine z_callVi (As := []) (rest := []) hC hI (cX12_height_met st l D ad cy σ  _ g23) (zgV zw57_2 zw57_3 zw57_4 zw1_5 zw57_5) rfl ⟨rfl, rfl⟩ 0 hdX12_height ⟨Nat.le_of_ble_eq_true rfl, Nat.le_of_ble_eq_true rfl⟩ rfl rfl (wM_e0 ad cy σ) rfl hl rfl (Nat.le_of_ble_eq_true rfl) dX12_sprites_54 ⟨Nat.zero_le _, Nat.zero_le _⟩ (fun H locs hI => ?_)
  refine lv_sipush (v := 192) hx hb dX12_sprites_57 (by decide) ?_
  refine lv_icmp_ne (tgt := 67) hx hb dX12_sprites_60 (by decide) (fun q => ?_) (fun q => ?_)
  · replace hf := zif_f q hf
    refine lv_iconst (v := 0) hx hb dX12_sprites_67 (by decide) ?_
    exact bX12_sprites_68 hC  hI (lv_sub hl [2, 3, 4, 5, 1, 0] rfl) hf
  replace hf := zif_t q hf
  refine lv_iconst (v := 1) hx hb dX12_sprites_63 (by decide) ?_
  refine lv_goto (tgt := 68) hx hb dX12_sprites_64 (by decide) ?_
  exact bX12_sprites_68 hC  hI (lv_sub hl [2, 3, 4, 5, 1, 0] rfl) hf
set_option maxRecDepth 20000 in
set_option maxHeartbeats 4000000 in
theorem bX12_sprites_30 {st : Nat → Nat} {p : Program} {l : Launch} {e : Env} {s : State} {m : MethodId} {args : Array Value} {below : List Frame} {meth : Method} {c : Code} {D : va_G} {A : Nat → Prop} {ad : Nat → Nat} {cy : Nat → ClassId} (hC : zC p m c cX12_sprites 15 s args wzX12_sprites RX12 meth none)  {res : zSt} {H : Heap} {locs : List Loc} {σ : zSt} {ls : Array Slot} {x1 : Int32} {x2 : Int32} {s0 : Int32} (hI : zI st D (tM cy) (wM ad cy σ) A s H locs) (hl : lv_has ls 15 [(0, .ref (ad 0)), (1, .int x1), (2, .int x2)]) (hf : fX12_sprites_30  σ x1 x2 s0 = some res) : W p l e rmX12_sprites s m args below meth c H locs 0 0 (zQu below args s D (tM cy) (wM ad cy) A res) (F0 m 30 ls [.int s0]) := by
  have hx := hC.1
  have hb := hC.2.1
  unfold fX12_sprites_30 at hf
  refine lv_istore_n (lv' := [(3, .int s0), (0, .ref (ad 0)), (1, .int x1), (2, .int x2)]) hx hb dX12_sprites_30 rfl hl (by decide) rfl (fun ls hl => ?_)
  refine lv_aload_n hx hb dX12_sprites_31 rfl (lv_at hl 1 rfl) ?_
  refine lv_iconst (v := 1) hx hb dX12_sprites_32 (by decide) ?_
  refine lv_iconst (v := 1) hx hb dX12_sprites_33 (by decide) ?_
  obtain ⟨σ25, v26, g25, hf⟩ := zbi_use hf
  refine z_callVi (As := [.int 1, .int 1]) (rest := []) hC hI (cX12_bit_met st l D ad cy σ 1 1 _ g25) (zgV zw49_0 zw49_1 zw49_2 zw1_5 zw49_3) rfl ⟨rfl, rfl⟩ 2 hdX12_bit ⟨Nat.le_of_ble_eq_true rfl, Nat.le_of_ble_eq_true rfl⟩ rfl rfl (wM_e0 ad cy σ) rfl hl rfl (Nat.le_of_ble_eq_true rfl) dX12_sprites_34 ⟨Nat.zero_le _, Nat.zero_le _⟩ (fun H locs hI => ?_)
  refine lv_iconst (v := 1) hx hb dX12_sprites_37 (by decide) ?_
  refine lv_icmp_ne (tgt := 46) hx hb dX12_sprites_38 (by decide) (fun q => ?_) (fun q => ?_)
  · replace hf := zif_f q hf
    refine lv_bipush (v := 8) hx hb dX12_sprites_46 (by decide) ?_
    exact bX12_sprites_48 hC  hI (lv_sub hl [1, 2, 3, 0] rfl) hf
  replace hf := zif_t q hf
  refine lv_bipush (v := 16) hx hb dX12_sprites_41 (by decide) ?_
  refine lv_goto (tgt := 48) hx hb dX12_sprites_43 (by decide) ?_
  exact bX12_sprites_48 hC  hI (lv_sub hl [1, 2, 3, 0] rfl) hf
set_option maxRecDepth 20000 in
set_option maxHeartbeats 4000000 in
theorem bX12_sprites {st : Nat → Nat} {p : Program} {l : Launch} {e : Env} {s : State} {m : MethodId} {args : Array Value} {below : List Frame} {meth : Method} {c : Code} {D : va_G} {A : Nat → Prop} {ad : Nat → Nat} {cy : Nat → ClassId} (hC : zC p m c cX12_sprites 15 s args wzX12_sprites RX12 meth none)  {res : zSt} {H : Heap} {locs : List Loc} {σ : zSt} {ls : Array Slot} {x1 : Int32} (hI : zI st D (tM cy) (wM ad cy σ) A s H locs) (hl : lv_has ls 15 [(0, .ref (ad 0)), (1, .int x1)]) (hf : fX12_sprites  σ x1 = some res) : W p l e rmX12_sprites s m args below meth c H locs 0 0 (zQu below args s D (tM cy) (wM ad cy) A res) (F0 m 0 ls []) := by
  have hx := hC.1
  have hb := hC.2.1
  unfold fX12_sprites at hf
  refine lv_sipush (v := 256) hx hb dX12_sprites_0 (by decide) ?_
  refine lv_aload_n hx hb dX12_sprites_3 rfl (lv_at hl 0 rfl) ?_
  refine lv_iconst (v := 5) hx hb dX12_sprites_4 (by decide) ?_
  obtain ⟨σ27, v28, g27, hf⟩ := zbi_use hf
  refine z_callVi (As := [.int 5]) (rest := [.int 256]) hC hI (cX12_reg_met st l D ad cy σ 5 _ g27) (zgV zw59_6 zw59_7 zw59_8 zw1_5 zw59_9) rfl ⟨rfl, rfl⟩ 1 hdX12_reg ⟨Nat.le_of_ble_eq_true rfl, Nat.le_of_ble_eq_true rfl⟩ rfl rfl (wM_e0 ad cy σ) rfl hl rfl (Nat.le_of_ble_eq_true rfl) dX12_sprites_5 ⟨Nat.zero_le _, Nat.zero_le _⟩ (fun H locs hI => ?_)
  refine lv_iconst (v := 2) hx hb dX12_sprites_8 (by decide) ?_
  obtain ⟨q, hf⟩ := zck_use hf
  refine lv_idiv hx hb dX12_sprites_9 (of_decide_eq_true q) ?_
  refine lv_bipush (v := 64) hx hb dX12_sprites_10 (by decide) ?_
  obtain ⟨q, hf⟩ := zck_use hf
  refine z_irem hx hb dX12_sprites_12 (of_decide_eq_true q) ?_
  refine lv_imul hx hb dX12_sprites_13 ?_
  refine lv_topi (fun v29 ev29 => ?_)
  replace hf := zbv_use ev29 hf
  refine lv_istore_n (lv' := [(2, .int v29), (0, .ref (ad 0)), (1, .int x1)]) hx hb dX12_sprites_14 rfl hl (by decide) rfl (fun ls hl => ?_)
  refine lv_aload_n hx hb dX12_sprites_15 rfl (lv_at hl 1 rfl) ?_
  refine lv_iconst (v := 1) hx hb dX12_sprites_16 (by decide) ?_
  refine lv_iconst (v := 0) hx hb dX12_sprites_17 (by decide) ?_
  obtain ⟨σ30, v31, g30, hf⟩ := zbi_use hf
  refine z_callVi (As := [.int 1, .int 0]) (rest := []) hC hI (cX12_bit_met st l D ad cy σ27 1 0 _ g30) (zgV zw49_0 zw49_1 zw49_2 zw1_5 zw49_3) rfl ⟨rfl, rfl⟩ 2 hdX12_bit ⟨Nat.le_of_ble_eq_true rfl, Nat.le_of_ble_eq_true rfl⟩ rfl rfl (wM_e0 ad cy σ27) rfl hl rfl (Nat.le_of_ble_eq_true rfl) dX12_sprites_18 ⟨Nat.zero_le _, Nat.zero_le _⟩ (fun H locs hI => ?_)
  refine lv_iconst (v := 1) hx hb dX12_sprites_21 (by decide) ?_
  refine lv_icmp_ne (tgt := 29) hx hb dX12_sprites_22 (by decide) (fun q => ?_) (fun q => ?_)
  · replace hf := zif_f q hf
    refine lv_iconst (v := 1) hx hb dX12_sprites_29 (by decide) ?_
    exact bX12_sprites_30 hC  hI (lv_sub hl [1, 2, 0] rfl) hf
  replace hf := zif_t q hf
  refine lv_iconst (v := 2) hx hb dX12_sprites_25 (by decide) ?_
  refine lv_goto (tgt := 30) hx hb dX12_sprites_26 (by decide) ?_
  exact bX12_sprites_30 hC  hI (lv_sub hl [1, 2, 0] rfl) hf
set_option maxRecDepth 20000 in
theorem cX12_sprites_met (st : Nat → Nat) (l : Launch) (D : va_G) (ad : Nat → Nat) (cy : Nat → ClassId) (σ : zSt) (x1 : Int32) (res : zSt) (hf : fX12_sprites σ x1 = some res) (sz : Nat) : zMu st l yX12_sprites wzX12_sprites rmX12_sprites [.ref (ad 0), .int x1] D (tM cy) (wM ad cy) sz σ res :=
  zMu.of (cc := cX12_sprites) (maxL := 15) (ret := none) (by decide) rfl (Nat.le_of_ble_eq_true rfl) (fun p e s m args below meth c hC A hI ls hl => bX12_sprites hC hI hl hf)
theorem hdX12_sprites : yX12_sprites.cls = RX12 ∧ yX12_sprites.cls ≠ "java/lang/invoke/MethodHandle" ∧ yX12_sprites.cls ≠ "java/lang/invoke/VarHandle" ∧ (parseMethodDescriptor yX12_sprites.desc).map (fun d => d.parameters.length) = some 1 := by decide +kernel
