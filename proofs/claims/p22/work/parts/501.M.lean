def kn_cX12_r : Nat := 0xac2e601b051600b42aac7eff00112eae00b42a1600b42a1000a77a08102eae00b42a1600b42a1200a0071b2500a4061b2a009eae00b42aac2e031600b42a0a00a007101baca600b6c200b62a2a0c00a006101b
theorem zk_cX12_r : zkd cX12_r.data.toList kn_cX12_r = true := by decide +kernel
theorem zn_cX12_r : cX12_r.data.toList.length = 83 := by decide +kernel
theorem dX12_r_0 : decode cX12_r 0 = .ok (.iload_n 1, 1) := zo_27 (zkb zk_cX12_r zn_cX12_r (by decide +kernel))
theorem dX12_r_1 : decode cX12_r 1 = .ok (.bipush 6, 2) := zo_16 (b1 := 6) (zkb2 zk_cX12_r zn_cX12_r (by decide +kernel)) rfl
theorem dX12_r_3 : decode cX12_r 3 = .ok (.if_icmp .ne 12, 3) := zo_160 (b1 := 0) (b2 := 12) (zkb3 zk_cX12_r zn_cX12_r (by decide +kernel)) rfl
theorem dX12_r_6 : decode cX12_r 6 = .ok (.aload_n 0, 1) := zo_42 (zkb zk_cX12_r zn_cX12_r (by decide +kernel))
theorem dX12_r_7 : decode cX12_r 7 = .ok (.aload_n 0, 1) := zo_42 (zkb zk_cX12_r zn_cX12_r (by decide +kernel))
theorem dX12_r_8 : decode cX12_r 8 = .ok (.invokevirtual 194, 3) := zo_182 (b1 := 0) (b2 := 194) (zkb3 zk_cX12_r zn_cX12_r (by decide +kernel)) rfl
theorem dX12_r_11 : decode cX12_r 11 = .ok (.invokevirtual 166, 3) := zo_182 (b1 := 0) (b2 := 166) (zkb3 zk_cX12_r zn_cX12_r (by decide +kernel)) rfl
theorem dX12_r_14 : decode cX12_r 14 = .ok (.ireturn, 1) := zo_172 (zkb zk_cX12_r zn_cX12_r (by decide +kernel))
theorem dX12_r_15 : decode cX12_r 15 = .ok (.iload_n 1, 1) := zo_27 (zkb zk_cX12_r zn_cX12_r (by decide +kernel))
theorem dX12_r_16 : decode cX12_r 16 = .ok (.bipush 7, 2) := zo_16 (b1 := 7) (zkb2 zk_cX12_r zn_cX12_r (by decide +kernel)) rfl
theorem dX12_r_18 : decode cX12_r 18 = .ok (.if_icmp .ne 10, 3) := zo_160 (b1 := 0) (b2 := 10) (zkb3 zk_cX12_r zn_cX12_r (by decide +kernel)) rfl
theorem dX12_r_21 : decode cX12_r 21 = .ok (.aload_n 0, 1) := zo_42 (zkb zk_cX12_r zn_cX12_r (by decide +kernel))
theorem dX12_r_22 : decode cX12_r 22 = .ok (.getfield 22, 3) := zo_180 (b1 := 0) (b2 := 22) (zkb3 zk_cX12_r zn_cX12_r (by decide +kernel)) rfl
theorem dX12_r_25 : decode cX12_r 25 = .ok (.iconst 0, 1) := zo_3 (zkb zk_cX12_r zn_cX12_r (by decide +kernel))
theorem dX12_r_26 : decode cX12_r 26 = .ok (.iaload, 1) := zo_46 (zkb zk_cX12_r zn_cX12_r (by decide +kernel))
theorem dX12_r_27 : decode cX12_r 27 = .ok (.ireturn, 1) := zo_172 (zkb zk_cX12_r zn_cX12_r (by decide +kernel))
theorem dX12_r_28 : decode cX12_r 28 = .ok (.aload_n 0, 1) := zo_42 (zkb zk_cX12_r zn_cX12_r (by decide +kernel))
theorem dX12_r_29 : decode cX12_r 29 = .ok (.getfield 174, 3) := zo_180 (b1 := 0) (b2 := 174) (zkb3 zk_cX12_r zn_cX12_r (by decide +kernel)) rfl
theorem dX12_r_32 : decode cX12_r 32 = .ok (.ifCond .le 42, 3) := zo_158 (b1 := 0) (b2 := 42) (zkb3 zk_cX12_r zn_cX12_r (by decide +kernel)) rfl
theorem dX12_r_35 : decode cX12_r 35 = .ok (.iload_n 1, 1) := zo_27 (zkb zk_cX12_r zn_cX12_r (by decide +kernel))
theorem dX12_r_36 : decode cX12_r 36 = .ok (.iconst 3, 1) := zo_6 (zkb zk_cX12_r zn_cX12_r (by decide +kernel))
theorem dX12_r_37 : decode cX12_r 37 = .ok (.if_icmp .le 37, 3) := zo_164 (b1 := 0) (b2 := 37) (zkb3 zk_cX12_r zn_cX12_r (by decide +kernel)) rfl
theorem dX12_r_40 : decode cX12_r 40 = .ok (.iload_n 1, 1) := zo_27 (zkb zk_cX12_r zn_cX12_r (by decide +kernel))
theorem dX12_r_41 : decode cX12_r 41 = .ok (.iconst 4, 1) := zo_7 (zkb zk_cX12_r zn_cX12_r (by decide +kernel))
theorem dX12_r_42 : decode cX12_r 42 = .ok (.if_icmp .ne 18, 3) := zo_160 (b1 := 0) (b2 := 18) (zkb3 zk_cX12_r zn_cX12_r (by decide +kernel)) rfl
theorem dX12_r_45 : decode cX12_r 45 = .ok (.aload_n 0, 1) := zo_42 (zkb zk_cX12_r zn_cX12_r (by decide +kernel))
theorem dX12_r_46 : decode cX12_r 46 = .ok (.getfield 22, 3) := zo_180 (b1 := 0) (b2 := 22) (zkb3 zk_cX12_r zn_cX12_r (by decide +kernel)) rfl
theorem dX12_r_49 : decode cX12_r 49 = .ok (.aload_n 0, 1) := zo_42 (zkb zk_cX12_r zn_cX12_r (by decide +kernel))
theorem dX12_r_50 : decode cX12_r 50 = .ok (.getfield 174, 3) := zo_180 (b1 := 0) (b2 := 174) (zkb3 zk_cX12_r zn_cX12_r (by decide +kernel)) rfl
theorem dX12_r_53 : decode cX12_r 53 = .ok (.iaload, 1) := zo_46 (zkb zk_cX12_r zn_cX12_r (by decide +kernel))
theorem dX12_r_54 : decode cX12_r 54 = .ok (.bipush 8, 2) := zo_16 (b1 := 8) (zkb2 zk_cX12_r zn_cX12_r (by decide +kernel)) rfl
theorem dX12_r_56 : decode cX12_r 56 = .ok (.ishr, 1) := zo_122 (zkb zk_cX12_r zn_cX12_r (by decide +kernel))
theorem dX12_r_57 : decode cX12_r 57 = .ok (.goto 16, 3) := zo_167 (b1 := 0) (b2 := 16) (zkb3 zk_cX12_r zn_cX12_r (by decide +kernel)) rfl
theorem dX12_r_60 : decode cX12_r 60 = .ok (.aload_n 0, 1) := zo_42 (zkb zk_cX12_r zn_cX12_r (by decide +kernel))
theorem dX12_r_61 : decode cX12_r 61 = .ok (.getfield 22, 3) := zo_180 (b1 := 0) (b2 := 22) (zkb3 zk_cX12_r zn_cX12_r (by decide +kernel)) rfl
theorem dX12_r_64 : decode cX12_r 64 = .ok (.aload_n 0, 1) := zo_42 (zkb zk_cX12_r zn_cX12_r (by decide +kernel))
theorem dX12_r_65 : decode cX12_r 65 = .ok (.getfield 174, 3) := zo_180 (b1 := 0) (b2 := 174) (zkb3 zk_cX12_r zn_cX12_r (by decide +kernel)) rfl
theorem dX12_r_68 : decode cX12_r 68 = .ok (.iaload, 1) := zo_46 (zkb zk_cX12_r zn_cX12_r (by decide +kernel))
theorem dX12_r_69 : decode cX12_r 69 = .ok (.sipush 255, 3) := zo_17 (b1 := 0) (b2 := 255) (zkb3 zk_cX12_r zn_cX12_r (by decide +kernel)) rfl
theorem dX12_r_72 : decode cX12_r 72 = .ok (.iand, 1) := zo_126 (zkb zk_cX12_r zn_cX12_r (by decide +kernel))
theorem dX12_r_73 : decode cX12_r 73 = .ok (.ireturn, 1) := zo_172 (zkb zk_cX12_r zn_cX12_r (by decide +kernel))
theorem dX12_r_74 : decode cX12_r 74 = .ok (.aload_n 0, 1) := zo_42 (zkb zk_cX12_r zn_cX12_r (by decide +kernel))
theorem dX12_r_75 : decode cX12_r 75 = .ok (.getfield 22, 3) := zo_180 (b1 := 0) (b2 := 22) (zkb3 zk_cX12_r zn_cX12_r (by decide +kernel)) rfl
theorem dX12_r_78 : decode cX12_r 78 = .ok (.iconst 2, 1) := zo_5 (zkb zk_cX12_r zn_cX12_r (by decide +kernel))
theorem dX12_r_79 : decode cX12_r 79 = .ok (.iload_n 1, 1) := zo_27 (zkb zk_cX12_r zn_cX12_r (by decide +kernel))
theorem dX12_r_80 : decode cX12_r 80 = .ok (.iadd, 1) := zo_96 (zkb zk_cX12_r zn_cX12_r (by decide +kernel))
theorem dX12_r_81 : decode cX12_r 81 = .ok (.iaload, 1) := zo_46 (zkb zk_cX12_r zn_cX12_r (by decide +kernel))
theorem dX12_r_82 : decode cX12_r 82 = .ok (.ireturn, 1) := zo_172 (zkb zk_cX12_r zn_cX12_r (by decide +kernel))
def kn_cX12_rTo : Nat := 0xb14f1d601b051600b42a0c00a74f801d7ec5122eae00b42a1600b42a1100a7807eff00112eae00b42a1600b42a7808101d1800a0071bae00b42a1600b42a3700a4061b3c009eae00b42a4c00a74f1d031600b42a0d00a007101b5c00a7a900b61dc200b62a2a0f00a006101b3e7eff00111c
theorem zk_cX12_rTo : zkd cX12_rTo.data.toList kn_cX12_rTo = true := by decide +kernel
theorem zn_cX12_rTo : cX12_rTo.data.toList.length = 114 := by decide +kernel
theorem dX12_rTo_0 : decode cX12_rTo 0 = .ok (.iload_n 2, 1) := zo_28 (zkb zk_cX12_rTo zn_cX12_rTo (by decide +kernel))
theorem dX12_rTo_1 : decode cX12_rTo 1 = .ok (.sipush 255, 3) := zo_17 (b1 := 0) (b2 := 255) (zkb3 zk_cX12_rTo zn_cX12_rTo (by decide +kernel)) rfl
theorem dX12_rTo_4 : decode cX12_rTo 4 = .ok (.iand, 1) := zo_126 (zkb zk_cX12_rTo zn_cX12_rTo (by decide +kernel))
theorem dX12_rTo_5 : decode cX12_rTo 5 = .ok (.istore_n 3, 1) := zo_62 (zkb zk_cX12_rTo zn_cX12_rTo (by decide +kernel))
theorem dX12_rTo_6 : decode cX12_rTo 6 = .ok (.iload_n 1, 1) := zo_27 (zkb zk_cX12_rTo zn_cX12_rTo (by decide +kernel))
theorem dX12_rTo_7 : decode cX12_rTo 7 = .ok (.bipush 6, 2) := zo_16 (b1 := 6) (zkb2 zk_cX12_rTo zn_cX12_rTo (by decide +kernel)) rfl
theorem dX12_rTo_9 : decode cX12_rTo 9 = .ok (.if_icmp .ne 15, 3) := zo_160 (b1 := 0) (b2 := 15) (zkb3 zk_cX12_rTo zn_cX12_rTo (by decide +kernel)) rfl
theorem dX12_rTo_12 : decode cX12_rTo 12 = .ok (.aload_n 0, 1) := zo_42 (zkb zk_cX12_rTo zn_cX12_rTo (by decide +kernel))
theorem dX12_rTo_13 : decode cX12_rTo 13 = .ok (.aload_n 0, 1) := zo_42 (zkb zk_cX12_rTo zn_cX12_rTo (by decide +kernel))
theorem dX12_rTo_14 : decode cX12_rTo 14 = .ok (.invokevirtual 194, 3) := zo_182 (b1 := 0) (b2 := 194) (zkb3 zk_cX12_rTo zn_cX12_rTo (by decide +kernel)) rfl
theorem dX12_rTo_17 : decode cX12_rTo 17 = .ok (.iload_n 3, 1) := zo_29 (zkb zk_cX12_rTo zn_cX12_rTo (by decide +kernel))
theorem dX12_rTo_18 : decode cX12_rTo 18 = .ok (.invokevirtual 169, 3) := zo_182 (b1 := 0) (b2 := 169) (zkb3 zk_cX12_rTo zn_cX12_rTo (by decide +kernel)) rfl
theorem dX12_rTo_21 : decode cX12_rTo 21 = .ok (.goto 92, 3) := zo_167 (b1 := 0) (b2 := 92) (zkb3 zk_cX12_rTo zn_cX12_rTo (by decide +kernel)) rfl
theorem dX12_rTo_24 : decode cX12_rTo 24 = .ok (.iload_n 1, 1) := zo_27 (zkb zk_cX12_rTo zn_cX12_rTo (by decide +kernel))
theorem dX12_rTo_25 : decode cX12_rTo 25 = .ok (.bipush 7, 2) := zo_16 (b1 := 7) (zkb2 zk_cX12_rTo zn_cX12_rTo (by decide +kernel)) rfl
theorem dX12_rTo_27 : decode cX12_rTo 27 = .ok (.if_icmp .ne 13, 3) := zo_160 (b1 := 0) (b2 := 13) (zkb3 zk_cX12_rTo zn_cX12_rTo (by decide +kernel)) rfl
theorem dX12_rTo_30 : decode cX12_rTo 30 = .ok (.aload_n 0, 1) := zo_42 (zkb zk_cX12_rTo zn_cX12_rTo (by decide +kernel))
theorem dX12_rTo_31 : decode cX12_rTo 31 = .ok (.getfield 22, 3) := zo_180 (b1 := 0) (b2 := 22) (zkb3 zk_cX12_rTo zn_cX12_rTo (by decide +kernel)) rfl
theorem dX12_rTo_34 : decode cX12_rTo 34 = .ok (.iconst 0, 1) := zo_3 (zkb zk_cX12_rTo zn_cX12_rTo (by decide +kernel))
theorem dX12_rTo_35 : decode cX12_rTo 35 = .ok (.iload_n 3, 1) := zo_29 (zkb zk_cX12_rTo zn_cX12_rTo (by decide +kernel))
theorem dX12_rTo_36 : decode cX12_rTo 36 = .ok (.iastore, 1) := zo_79 (zkb zk_cX12_rTo zn_cX12_rTo (by decide +kernel))
theorem dX12_rTo_37 : decode cX12_rTo 37 = .ok (.goto 76, 3) := zo_167 (b1 := 0) (b2 := 76) (zkb3 zk_cX12_rTo zn_cX12_rTo (by decide +kernel)) rfl
theorem dX12_rTo_40 : decode cX12_rTo 40 = .ok (.aload_n 0, 1) := zo_42 (zkb zk_cX12_rTo zn_cX12_rTo (by decide +kernel))
theorem dX12_rTo_41 : decode cX12_rTo 41 = .ok (.getfield 174, 3) := zo_180 (b1 := 0) (b2 := 174) (zkb3 zk_cX12_rTo zn_cX12_rTo (by decide +kernel)) rfl
theorem dX12_rTo_44 : decode cX12_rTo 44 = .ok (.ifCond .le 60, 3) := zo_158 (b1 := 0) (b2 := 60) (zkb3 zk_cX12_rTo zn_cX12_rTo (by decide +kernel)) rfl
theorem dX12_rTo_47 : decode cX12_rTo 47 = .ok (.iload_n 1, 1) := zo_27 (zkb zk_cX12_rTo zn_cX12_rTo (by decide +kernel))
theorem dX12_rTo_48 : decode cX12_rTo 48 = .ok (.iconst 3, 1) := zo_6 (zkb zk_cX12_rTo zn_cX12_rTo (by decide +kernel))
theorem dX12_rTo_49 : decode cX12_rTo 49 = .ok (.if_icmp .le 55, 3) := zo_164 (b1 := 0) (b2 := 55) (zkb3 zk_cX12_rTo zn_cX12_rTo (by decide +kernel)) rfl
theorem dX12_rTo_52 : decode cX12_rTo 52 = .ok (.aload_n 0, 1) := zo_42 (zkb zk_cX12_rTo zn_cX12_rTo (by decide +kernel))
theorem dX12_rTo_53 : decode cX12_rTo 53 = .ok (.getfield 22, 3) := zo_180 (b1 := 0) (b2 := 22) (zkb3 zk_cX12_rTo zn_cX12_rTo (by decide +kernel)) rfl
theorem dX12_rTo_56 : decode cX12_rTo 56 = .ok (.aload_n 0, 1) := zo_42 (zkb zk_cX12_rTo zn_cX12_rTo (by decide +kernel))
theorem dX12_rTo_57 : decode cX12_rTo 57 = .ok (.getfield 174, 3) := zo_180 (b1 := 0) (b2 := 174) (zkb3 zk_cX12_rTo zn_cX12_rTo (by decide +kernel)) rfl
theorem dX12_rTo_60 : decode cX12_rTo 60 = .ok (.iload_n 1, 1) := zo_27 (zkb zk_cX12_rTo zn_cX12_rTo (by decide +kernel))
theorem dX12_rTo_61 : decode cX12_rTo 61 = .ok (.iconst 4, 1) := zo_7 (zkb zk_cX12_rTo zn_cX12_rTo (by decide +kernel))
theorem dX12_rTo_62 : decode cX12_rTo 62 = .ok (.if_icmp .ne 24, 3) := zo_160 (b1 := 0) (b2 := 24) (zkb3 zk_cX12_rTo zn_cX12_rTo (by decide +kernel)) rfl
theorem dX12_rTo_65 : decode cX12_rTo 65 = .ok (.iload_n 3, 1) := zo_29 (zkb zk_cX12_rTo zn_cX12_rTo (by decide +kernel))
theorem dX12_rTo_66 : decode cX12_rTo 66 = .ok (.bipush 8, 2) := zo_16 (b1 := 8) (zkb2 zk_cX12_rTo zn_cX12_rTo (by decide +kernel)) rfl
theorem dX12_rTo_68 : decode cX12_rTo 68 = .ok (.ishl, 1) := zo_120 (zkb zk_cX12_rTo zn_cX12_rTo (by decide +kernel))
theorem dX12_rTo_69 : decode cX12_rTo 69 = .ok (.aload_n 0, 1) := zo_42 (zkb zk_cX12_rTo zn_cX12_rTo (by decide +kernel))
theorem dX12_rTo_70 : decode cX12_rTo 70 = .ok (.getfield 22, 3) := zo_180 (b1 := 0) (b2 := 22) (zkb3 zk_cX12_rTo zn_cX12_rTo (by decide +kernel)) rfl
theorem dX12_rTo_73 : decode cX12_rTo 73 = .ok (.aload_n 0, 1) := zo_42 (zkb zk_cX12_rTo zn_cX12_rTo (by decide +kernel))
theorem dX12_rTo_74 : decode cX12_rTo 74 = .ok (.getfield 174, 3) := zo_180 (b1 := 0) (b2 := 174) (zkb3 zk_cX12_rTo zn_cX12_rTo (by decide +kernel)) rfl
theorem dX12_rTo_77 : decode cX12_rTo 77 = .ok (.iaload, 1) := zo_46 (zkb zk_cX12_rTo zn_cX12_rTo (by decide +kernel))
theorem dX12_rTo_78 : decode cX12_rTo 78 = .ok (.sipush 255, 3) := zo_17 (b1 := 0) (b2 := 255) (zkb3 zk_cX12_rTo zn_cX12_rTo (by decide +kernel)) rfl
theorem dX12_rTo_81 : decode cX12_rTo 81 = .ok (.iand, 1) := zo_126 (zkb zk_cX12_rTo zn_cX12_rTo (by decide +kernel))
theorem dX12_rTo_82 : decode cX12_rTo 82 = .ok (.ior, 1) := zo_128 (zkb zk_cX12_rTo zn_cX12_rTo (by decide +kernel))
theorem dX12_rTo_83 : decode cX12_rTo 83 = .ok (.goto 17, 3) := zo_167 (b1 := 0) (b2 := 17) (zkb3 zk_cX12_rTo zn_cX12_rTo (by decide +kernel)) rfl
theorem dX12_rTo_86 : decode cX12_rTo 86 = .ok (.aload_n 0, 1) := zo_42 (zkb zk_cX12_rTo zn_cX12_rTo (by decide +kernel))
theorem dX12_rTo_87 : decode cX12_rTo 87 = .ok (.getfield 22, 3) := zo_180 (b1 := 0) (b2 := 22) (zkb3 zk_cX12_rTo zn_cX12_rTo (by decide +kernel)) rfl
theorem dX12_rTo_90 : decode cX12_rTo 90 = .ok (.aload_n 0, 1) := zo_42 (zkb zk_cX12_rTo zn_cX12_rTo (by decide +kernel))
theorem dX12_rTo_91 : decode cX12_rTo 91 = .ok (.getfield 174, 3) := zo_180 (b1 := 0) (b2 := 174) (zkb3 zk_cX12_rTo zn_cX12_rTo (by decide +kernel)) rfl
theorem dX12_rTo_94 : decode cX12_rTo 94 = .ok (.iaload, 1) := zo_46 (zkb zk_cX12_rTo zn_cX12_rTo (by decide +kernel))
theorem dX12_rTo_95 : decode cX12_rTo 95 = .ok (.ldc 197, 2) := zo_18 (b1 := 197) (zkb2 zk_cX12_rTo zn_cX12_rTo (by decide +kernel))
theorem dX12_rTo_97 : decode cX12_rTo 97 = .ok (.iand, 1) := zo_126 (zkb zk_cX12_rTo zn_cX12_rTo (by decide +kernel))
theorem dX12_rTo_98 : decode cX12_rTo 98 = .ok (.iload_n 3, 1) := zo_29 (zkb zk_cX12_rTo zn_cX12_rTo (by decide +kernel))
theorem dX12_rTo_99 : decode cX12_rTo 99 = .ok (.ior, 1) := zo_128 (zkb zk_cX12_rTo zn_cX12_rTo (by decide +kernel))
theorem dX12_rTo_100 : decode cX12_rTo 100 = .ok (.iastore, 1) := zo_79 (zkb zk_cX12_rTo zn_cX12_rTo (by decide +kernel))
theorem dX12_rTo_101 : decode cX12_rTo 101 = .ok (.goto 12, 3) := zo_167 (b1 := 0) (b2 := 12) (zkb3 zk_cX12_rTo zn_cX12_rTo (by decide +kernel)) rfl
theorem dX12_rTo_104 : decode cX12_rTo 104 = .ok (.aload_n 0, 1) := zo_42 (zkb zk_cX12_rTo zn_cX12_rTo (by decide +kernel))
theorem dX12_rTo_105 : decode cX12_rTo 105 = .ok (.getfield 22, 3) := zo_180 (b1 := 0) (b2 := 22) (zkb3 zk_cX12_rTo zn_cX12_rTo (by decide +kernel)) rfl
theorem dX12_rTo_108 : decode cX12_rTo 108 = .ok (.iconst 2, 1) := zo_5 (zkb zk_cX12_rTo zn_cX12_rTo (by decide +kernel))
theorem dX12_rTo_109 : decode cX12_rTo 109 = .ok (.iload_n 1, 1) := zo_27 (zkb zk_cX12_rTo zn_cX12_rTo (by decide +kernel))
theorem dX12_rTo_110 : decode cX12_rTo 110 = .ok (.iadd, 1) := zo_96 (zkb zk_cX12_rTo zn_cX12_rTo (by decide +kernel))
theorem dX12_rTo_111 : decode cX12_rTo 111 = .ok (.iload_n 3, 1) := zo_29 (zkb zk_cX12_rTo zn_cX12_rTo (by decide +kernel))
theorem dX12_rTo_112 : decode cX12_rTo 112 = .ok (.iastore, 1) := zo_79 (zkb zk_cX12_rTo zn_cX12_rTo (by decide +kernel))
theorem dX12_rTo_113 : decode cX12_rTo 113 = .ok (.return_, 1) := zo_177 (zkb zk_cX12_rTo zn_cX12_rTo (by decide +kernel))
def kn_cX12_put : Nat := 0xb14f7e8202781b042e041600b42a0f00a780781b042e041600b42a1000991c041600b42a
theorem zk_cX12_put : zkd cX12_put.data.toList kn_cX12_put = true := by decide +kernel
theorem zn_cX12_put : cX12_put.data.toList.length = 36 := by decide +kernel
theorem dX12_put_0 : decode cX12_put 0 = .ok (.aload_n 0, 1) := zo_42 (zkb zk_cX12_put zn_cX12_put (by decide +kernel))
theorem dX12_put_1 : decode cX12_put 1 = .ok (.getfield 22, 3) := zo_180 (b1 := 0) (b2 := 22) (zkb3 zk_cX12_put zn_cX12_put (by decide +kernel)) rfl
theorem dX12_put_4 : decode cX12_put 4 = .ok (.iconst 1, 1) := zo_4 (zkb zk_cX12_put zn_cX12_put (by decide +kernel))
theorem dX12_put_5 : decode cX12_put 5 = .ok (.iload_n 2, 1) := zo_28 (zkb zk_cX12_put zn_cX12_put (by decide +kernel))
theorem dX12_put_6 : decode cX12_put 6 = .ok (.ifCond .eq 16, 3) := zo_153 (b1 := 0) (b2 := 16) (zkb3 zk_cX12_put zn_cX12_put (by decide +kernel)) rfl
theorem dX12_put_9 : decode cX12_put 9 = .ok (.aload_n 0, 1) := zo_42 (zkb zk_cX12_put zn_cX12_put (by decide +kernel))
theorem dX12_put_10 : decode cX12_put 10 = .ok (.getfield 22, 3) := zo_180 (b1 := 0) (b2 := 22) (zkb3 zk_cX12_put zn_cX12_put (by decide +kernel)) rfl
theorem dX12_put_13 : decode cX12_put 13 = .ok (.iconst 1, 1) := zo_4 (zkb zk_cX12_put zn_cX12_put (by decide +kernel))
theorem dX12_put_14 : decode cX12_put 14 = .ok (.iaload, 1) := zo_46 (zkb zk_cX12_put zn_cX12_put (by decide +kernel))
theorem dX12_put_15 : decode cX12_put 15 = .ok (.iconst 1, 1) := zo_4 (zkb zk_cX12_put zn_cX12_put (by decide +kernel))
theorem dX12_put_16 : decode cX12_put 16 = .ok (.iload_n 1, 1) := zo_27 (zkb zk_cX12_put zn_cX12_put (by decide +kernel))
theorem dX12_put_17 : decode cX12_put 17 = .ok (.ishl, 1) := zo_120 (zkb zk_cX12_put zn_cX12_put (by decide +kernel))
theorem dX12_put_18 : decode cX12_put 18 = .ok (.ior, 1) := zo_128 (zkb zk_cX12_put zn_cX12_put (by decide +kernel))
theorem dX12_put_19 : decode cX12_put 19 = .ok (.goto 15, 3) := zo_167 (b1 := 0) (b2 := 15) (zkb3 zk_cX12_put zn_cX12_put (by decide +kernel)) rfl
theorem dX12_put_22 : decode cX12_put 22 = .ok (.aload_n 0, 1) := zo_42 (zkb zk_cX12_put zn_cX12_put (by decide +kernel))
theorem dX12_put_23 : decode cX12_put 23 = .ok (.getfield 22, 3) := zo_180 (b1 := 0) (b2 := 22) (zkb3 zk_cX12_put zn_cX12_put (by decide +kernel)) rfl
theorem dX12_put_26 : decode cX12_put 26 = .ok (.iconst 1, 1) := zo_4 (zkb zk_cX12_put zn_cX12_put (by decide +kernel))
theorem dX12_put_27 : decode cX12_put 27 = .ok (.iaload, 1) := zo_46 (zkb zk_cX12_put zn_cX12_put (by decide +kernel))
theorem dX12_put_28 : decode cX12_put 28 = .ok (.iconst 1, 1) := zo_4 (zkb zk_cX12_put zn_cX12_put (by decide +kernel))
theorem dX12_put_29 : decode cX12_put 29 = .ok (.iload_n 1, 1) := zo_27 (zkb zk_cX12_put zn_cX12_put (by decide +kernel))
theorem dX12_put_30 : decode cX12_put 30 = .ok (.ishl, 1) := zo_120 (zkb zk_cX12_put zn_cX12_put (by decide +kernel))
theorem dX12_put_31 : decode cX12_put 31 = .ok (.iconst (-1), 1) := zo_2 (zkb zk_cX12_put zn_cX12_put (by decide +kernel))
theorem dX12_put_32 : decode cX12_put 32 = .ok (.ixor, 1) := zo_130 (zkb zk_cX12_put zn_cX12_put (by decide +kernel))
theorem dX12_put_33 : decode cX12_put 33 = .ok (.iand, 1) := zo_126 (zkb zk_cX12_put zn_cX12_put (by decide +kernel))
theorem dX12_put_34 : decode cX12_put 34 = .ok (.iastore, 1) := zo_79 (zkb zk_cX12_put zn_cX12_put (by decide +kernel))
theorem dX12_put_35 : decode cX12_put 35 = .ok (.return_, 1) := zo_177 (zkb zk_cX12_put zn_cX12_put (by decide +kernel))
def kn_cX12_flag : Nat := 0xac7e047a1b2e041600b42a
theorem zk_cX12_flag : zkd cX12_flag.data.toList kn_cX12_flag = true := by decide +kernel
theorem zn_cX12_flag : cX12_flag.data.toList.length = 11 := by decide +kernel
theorem dX12_flag_0 : decode cX12_flag 0 = .ok (.aload_n 0, 1) := zo_42 (zkb zk_cX12_flag zn_cX12_flag (by decide +kernel))
theorem dX12_flag_1 : decode cX12_flag 1 = .ok (.getfield 22, 3) := zo_180 (b1 := 0) (b2 := 22) (zkb3 zk_cX12_flag zn_cX12_flag (by decide +kernel)) rfl
theorem dX12_flag_4 : decode cX12_flag 4 = .ok (.iconst 1, 1) := zo_4 (zkb zk_cX12_flag zn_cX12_flag (by decide +kernel))
theorem dX12_flag_5 : decode cX12_flag 5 = .ok (.iaload, 1) := zo_46 (zkb zk_cX12_flag zn_cX12_flag (by decide +kernel))
theorem dX12_flag_6 : decode cX12_flag 6 = .ok (.iload_n 1, 1) := zo_27 (zkb zk_cX12_flag zn_cX12_flag (by decide +kernel))
theorem dX12_flag_7 : decode cX12_flag 7 = .ok (.ishr, 1) := zo_122 (zkb zk_cX12_flag zn_cX12_flag (by decide +kernel))
theorem dX12_flag_8 : decode cX12_flag 8 = .ok (.iconst 1, 1) := zo_4 (zkb zk_cX12_flag zn_cX12_flag (by decide +kernel))
theorem dX12_flag_9 : decode cX12_flag 9 = .ok (.iand, 1) := zo_126 (zkb zk_cX12_flag zn_cX12_flag (by decide +kernel))
theorem dX12_flag_10 : decode cX12_flag 10 = .ok (.ireturn, 1) := zo_172 (zkb zk_cX12_flag zn_cX12_flag (by decide +kernel))
def kn_cX12_xy : Nat := 0xb1c600b6030400a7040700997e08101b062ac600b6030400a7040700997e20101b082a
theorem zk_cX12_xy : zkd cX12_xy.data.toList kn_cX12_xy = true := by decide +kernel
theorem zn_cX12_xy : cX12_xy.data.toList.length = 35 := by decide +kernel
theorem dX12_xy_0 : decode cX12_xy 0 = .ok (.aload_n 0, 1) := zo_42 (zkb zk_cX12_xy zn_cX12_xy (by decide +kernel))
theorem dX12_xy_1 : decode cX12_xy 1 = .ok (.iconst 5, 1) := zo_8 (zkb zk_cX12_xy zn_cX12_xy (by decide +kernel))
theorem dX12_xy_2 : decode cX12_xy 2 = .ok (.iload_n 1, 1) := zo_27 (zkb zk_cX12_xy zn_cX12_xy (by decide +kernel))
theorem dX12_xy_3 : decode cX12_xy 3 = .ok (.bipush 32, 2) := zo_16 (b1 := 32) (zkb2 zk_cX12_xy zn_cX12_xy (by decide +kernel)) rfl
theorem dX12_xy_5 : decode cX12_xy 5 = .ok (.iand, 1) := zo_126 (zkb zk_cX12_xy zn_cX12_xy (by decide +kernel))
theorem dX12_xy_6 : decode cX12_xy 6 = .ok (.ifCond .eq 7, 3) := zo_153 (b1 := 0) (b2 := 7) (zkb3 zk_cX12_xy zn_cX12_xy (by decide +kernel)) rfl
theorem dX12_xy_9 : decode cX12_xy 9 = .ok (.iconst 1, 1) := zo_4 (zkb zk_cX12_xy zn_cX12_xy (by decide +kernel))
theorem dX12_xy_10 : decode cX12_xy 10 = .ok (.goto 4, 3) := zo_167 (b1 := 0) (b2 := 4) (zkb3 zk_cX12_xy zn_cX12_xy (by decide +kernel)) rfl
theorem dX12_xy_13 : decode cX12_xy 13 = .ok (.iconst 0, 1) := zo_3 (zkb zk_cX12_xy zn_cX12_xy (by decide +kernel))
theorem dX12_xy_14 : decode cX12_xy 14 = .ok (.invokevirtual 198, 3) := zo_182 (b1 := 0) (b2 := 198) (zkb3 zk_cX12_xy zn_cX12_xy (by decide +kernel)) rfl
theorem dX12_xy_17 : decode cX12_xy 17 = .ok (.aload_n 0, 1) := zo_42 (zkb zk_cX12_xy zn_cX12_xy (by decide +kernel))
theorem dX12_xy_18 : decode cX12_xy 18 = .ok (.iconst 3, 1) := zo_6 (zkb zk_cX12_xy zn_cX12_xy (by decide +kernel))
theorem dX12_xy_19 : decode cX12_xy 19 = .ok (.iload_n 1, 1) := zo_27 (zkb zk_cX12_xy zn_cX12_xy (by decide +kernel))
theorem dX12_xy_20 : decode cX12_xy 20 = .ok (.bipush 8, 2) := zo_16 (b1 := 8) (zkb2 zk_cX12_xy zn_cX12_xy (by decide +kernel)) rfl
theorem dX12_xy_22 : decode cX12_xy 22 = .ok (.iand, 1) := zo_126 (zkb zk_cX12_xy zn_cX12_xy (by decide +kernel))
theorem dX12_xy_23 : decode cX12_xy 23 = .ok (.ifCond .eq 7, 3) := zo_153 (b1 := 0) (b2 := 7) (zkb3 zk_cX12_xy zn_cX12_xy (by decide +kernel)) rfl
theorem dX12_xy_26 : decode cX12_xy 26 = .ok (.iconst 1, 1) := zo_4 (zkb zk_cX12_xy zn_cX12_xy (by decide +kernel))
theorem dX12_xy_27 : decode cX12_xy 27 = .ok (.goto 4, 3) := zo_167 (b1 := 0) (b2 := 4) (zkb3 zk_cX12_xy zn_cX12_xy (by decide +kernel)) rfl
theorem dX12_xy_30 : decode cX12_xy 30 = .ok (.iconst 0, 1) := zo_3 (zkb zk_cX12_xy zn_cX12_xy (by decide +kernel))
theorem dX12_xy_31 : decode cX12_xy 31 = .ok (.invokevirtual 198, 3) := zo_182 (b1 := 0) (b2 := 198) (zkb3 zk_cX12_xy zn_cX12_xy (by decide +kernel)) rfl
theorem dX12_xy_34 : decode cX12_xy 34 = .ok (.return_, 1) := zo_177 (zkb zk_cX12_xy zn_cX12_xy (by decide +kernel))
def kn_cX12_by : Nat := 0xb1ca00b61b2ac600b6030400a70407009a1b06102ac600b6030400a7040700997e8000111b07102a
theorem zk_cX12_by : zkd cX12_by.data.toList kn_cX12_by = true := by decide +kernel
theorem zn_cX12_by : cX12_by.data.toList.length = 40 := by decide +kernel
theorem dX12_by_0 : decode cX12_by 0 = .ok (.aload_n 0, 1) := zo_42 (zkb zk_cX12_by zn_cX12_by (by decide +kernel))
theorem dX12_by_1 : decode cX12_by 1 = .ok (.bipush 7, 2) := zo_16 (b1 := 7) (zkb2 zk_cX12_by zn_cX12_by (by decide +kernel)) rfl
theorem dX12_by_3 : decode cX12_by 3 = .ok (.iload_n 1, 1) := zo_27 (zkb zk_cX12_by zn_cX12_by (by decide +kernel))
theorem dX12_by_4 : decode cX12_by 4 = .ok (.sipush 128, 3) := zo_17 (b1 := 0) (b2 := 128) (zkb3 zk_cX12_by zn_cX12_by (by decide +kernel)) rfl
theorem dX12_by_7 : decode cX12_by 7 = .ok (.iand, 1) := zo_126 (zkb zk_cX12_by zn_cX12_by (by decide +kernel))
theorem dX12_by_8 : decode cX12_by 8 = .ok (.ifCond .eq 7, 3) := zo_153 (b1 := 0) (b2 := 7) (zkb3 zk_cX12_by zn_cX12_by (by decide +kernel)) rfl
theorem dX12_by_11 : decode cX12_by 11 = .ok (.iconst 1, 1) := zo_4 (zkb zk_cX12_by zn_cX12_by (by decide +kernel))
theorem dX12_by_12 : decode cX12_by 12 = .ok (.goto 4, 3) := zo_167 (b1 := 0) (b2 := 4) (zkb3 zk_cX12_by zn_cX12_by (by decide +kernel)) rfl
theorem dX12_by_15 : decode cX12_by 15 = .ok (.iconst 0, 1) := zo_3 (zkb zk_cX12_by zn_cX12_by (by decide +kernel))
theorem dX12_by_16 : decode cX12_by 16 = .ok (.invokevirtual 198, 3) := zo_182 (b1 := 0) (b2 := 198) (zkb3 zk_cX12_by zn_cX12_by (by decide +kernel)) rfl
theorem dX12_by_19 : decode cX12_by 19 = .ok (.aload_n 0, 1) := zo_42 (zkb zk_cX12_by zn_cX12_by (by decide +kernel))
theorem dX12_by_20 : decode cX12_by 20 = .ok (.bipush 6, 2) := zo_16 (b1 := 6) (zkb2 zk_cX12_by zn_cX12_by (by decide +kernel)) rfl
theorem dX12_by_22 : decode cX12_by 22 = .ok (.iload_n 1, 1) := zo_27 (zkb zk_cX12_by zn_cX12_by (by decide +kernel))
theorem dX12_by_23 : decode cX12_by 23 = .ok (.ifCond .ne 7, 3) := zo_154 (b1 := 0) (b2 := 7) (zkb3 zk_cX12_by zn_cX12_by (by decide +kernel)) rfl
theorem dX12_by_26 : decode cX12_by 26 = .ok (.iconst 1, 1) := zo_4 (zkb zk_cX12_by zn_cX12_by (by decide +kernel))
theorem dX12_by_27 : decode cX12_by 27 = .ok (.goto 4, 3) := zo_167 (b1 := 0) (b2 := 4) (zkb3 zk_cX12_by zn_cX12_by (by decide +kernel)) rfl
theorem dX12_by_30 : decode cX12_by 30 = .ok (.iconst 0, 1) := zo_3 (zkb zk_cX12_by zn_cX12_by (by decide +kernel))
theorem dX12_by_31 : decode cX12_by 31 = .ok (.invokevirtual 198, 3) := zo_182 (b1 := 0) (b2 := 198) (zkb3 zk_cX12_by zn_cX12_by (by decide +kernel)) rfl
theorem dX12_by_34 : decode cX12_by 34 = .ok (.aload_n 0, 1) := zo_42 (zkb zk_cX12_by zn_cX12_by (by decide +kernel))
theorem dX12_by_35 : decode cX12_by 35 = .ok (.iload_n 1, 1) := zo_27 (zkb zk_cX12_by zn_cX12_by (by decide +kernel))
theorem dX12_by_36 : decode cX12_by 36 = .ok (.invokevirtual 202, 3) := zo_182 (b1 := 0) (b2 := 202) (zkb3 zk_cX12_by zn_cX12_by (by decide +kernel)) rfl
theorem dX12_by_39 : decode cX12_by 39 = .ok (.return_, 1) := zo_177 (zkb zk_cX12_by zn_cX12_by (by decide +kernel))
def kn_cX12_isEven : Nat := 0xac030400a70407009a70051befffa70102843c607e047a1c1a1b1100a208101c3d033c03
theorem zk_cX12_isEven : zkd cX12_isEven.data.toList kn_cX12_isEven = true := by decide +kernel
theorem zn_cX12_isEven : cX12_isEven.data.toList.length = 36 := by decide +kernel
theorem dX12_isEven_0 : decode cX12_isEven 0 = .ok (.iconst 0, 1) := zo_3 (zkb zk_cX12_isEven zn_cX12_isEven (by decide +kernel))
theorem dX12_isEven_1 : decode cX12_isEven 1 = .ok (.istore_n 1, 1) := zo_60 (zkb zk_cX12_isEven zn_cX12_isEven (by decide +kernel))
theorem dX12_isEven_2 : decode cX12_isEven 2 = .ok (.iconst 0, 1) := zo_3 (zkb zk_cX12_isEven zn_cX12_isEven (by decide +kernel))
theorem dX12_isEven_3 : decode cX12_isEven 3 = .ok (.istore_n 2, 1) := zo_61 (zkb zk_cX12_isEven zn_cX12_isEven (by decide +kernel))
theorem dX12_isEven_4 : decode cX12_isEven 4 = .ok (.iload_n 2, 1) := zo_28 (zkb zk_cX12_isEven zn_cX12_isEven (by decide +kernel))
theorem dX12_isEven_5 : decode cX12_isEven 5 = .ok (.bipush 8, 2) := zo_16 (b1 := 8) (zkb2 zk_cX12_isEven zn_cX12_isEven (by decide +kernel)) rfl
theorem dX12_isEven_7 : decode cX12_isEven 7 = .ok (.if_icmp .ge 17, 3) := zo_162 (b1 := 0) (b2 := 17) (zkb3 zk_cX12_isEven zn_cX12_isEven (by decide +kernel)) rfl
theorem dX12_isEven_10 : decode cX12_isEven 10 = .ok (.iload_n 1, 1) := zo_27 (zkb zk_cX12_isEven zn_cX12_isEven (by decide +kernel))
theorem dX12_isEven_11 : decode cX12_isEven 11 = .ok (.iload_n 0, 1) := zo_26 (zkb zk_cX12_isEven zn_cX12_isEven (by decide +kernel))
theorem dX12_isEven_12 : decode cX12_isEven 12 = .ok (.iload_n 2, 1) := zo_28 (zkb zk_cX12_isEven zn_cX12_isEven (by decide +kernel))
theorem dX12_isEven_13 : decode cX12_isEven 13 = .ok (.ishr, 1) := zo_122 (zkb zk_cX12_isEven zn_cX12_isEven (by decide +kernel))
theorem dX12_isEven_14 : decode cX12_isEven 14 = .ok (.iconst 1, 1) := zo_4 (zkb zk_cX12_isEven zn_cX12_isEven (by decide +kernel))
theorem dX12_isEven_15 : decode cX12_isEven 15 = .ok (.iand, 1) := zo_126 (zkb zk_cX12_isEven zn_cX12_isEven (by decide +kernel))
theorem dX12_isEven_16 : decode cX12_isEven 16 = .ok (.iadd, 1) := zo_96 (zkb zk_cX12_isEven zn_cX12_isEven (by decide +kernel))
theorem dX12_isEven_17 : decode cX12_isEven 17 = .ok (.istore_n 1, 1) := zo_60 (zkb zk_cX12_isEven zn_cX12_isEven (by decide +kernel))
theorem dX12_isEven_18 : decode cX12_isEven 18 = .ok (.iinc 2 1, 3) := zo_132 (b1 := 2) (b2 := 1) (zkb3 zk_cX12_isEven zn_cX12_isEven (by decide +kernel)) rfl
theorem dX12_isEven_21 : decode cX12_isEven 21 = .ok (.goto (-17), 3) := zo_167 (b1 := 255) (b2 := 239) (zkb3 zk_cX12_isEven zn_cX12_isEven (by decide +kernel)) rfl
theorem dX12_isEven_24 : decode cX12_isEven 24 = .ok (.iload_n 1, 1) := zo_27 (zkb zk_cX12_isEven zn_cX12_isEven (by decide +kernel))
theorem dX12_isEven_25 : decode cX12_isEven 25 = .ok (.iconst 2, 1) := zo_5 (zkb zk_cX12_isEven zn_cX12_isEven (by decide +kernel))
theorem dX12_isEven_26 : decode cX12_isEven 26 = .ok (.irem, 1) := zo_112 (zkb zk_cX12_isEven zn_cX12_isEven (by decide +kernel))
theorem dX12_isEven_27 : decode cX12_isEven 27 = .ok (.ifCond .ne 7, 3) := zo_154 (b1 := 0) (b2 := 7) (zkb3 zk_cX12_isEven zn_cX12_isEven (by decide +kernel)) rfl
theorem dX12_isEven_30 : decode cX12_isEven 30 = .ok (.iconst 1, 1) := zo_4 (zkb zk_cX12_isEven zn_cX12_isEven (by decide +kernel))
theorem dX12_isEven_31 : decode cX12_isEven 31 = .ok (.goto 4, 3) := zo_167 (b1 := 0) (b2 := 4) (zkb3 zk_cX12_isEven zn_cX12_isEven (by decide +kernel)) rfl
theorem dX12_isEven_34 : decode cX12_isEven 34 = .ok (.iconst 0, 1) := zo_3 (zkb zk_cX12_isEven zn_cX12_isEven (by decide +kernel))
theorem dX12_isEven_35 : decode cX12_isEven 35 = .ok (.ireturn, 1) := zo_172 (zkb zk_cX12_isEven zn_cX12_isEven (by decide +kernel))
def kn_cX12_cc : Nat := 0xac030400a7040700a0030400a7040700a00470051b030400a7040700a004cd00b607100500a7050700a206101b0f00a7030700a2071b1800a706100800a2051b2a
theorem zk_cX12_cc : zkd cX12_cc.data.toList kn_cX12_cc = true := by decide +kernel
theorem zn_cX12_cc : cX12_cc.data.toList.length = 65 := by decide +kernel
theorem dX12_cc_0 : decode cX12_cc 0 = .ok (.aload_n 0, 1) := zo_42 (zkb zk_cX12_cc zn_cX12_cc (by decide +kernel))
theorem dX12_cc_1 : decode cX12_cc 1 = .ok (.iload_n 1, 1) := zo_27 (zkb zk_cX12_cc zn_cX12_cc (by decide +kernel))
theorem dX12_cc_2 : decode cX12_cc 2 = .ok (.iconst 2, 1) := zo_5 (zkb zk_cX12_cc zn_cX12_cc (by decide +kernel))
theorem dX12_cc_3 : decode cX12_cc 3 = .ok (.if_icmp .ge 8, 3) := zo_162 (b1 := 0) (b2 := 8) (zkb3 zk_cX12_cc zn_cX12_cc (by decide +kernel)) rfl
theorem dX12_cc_6 : decode cX12_cc 6 = .ok (.bipush 6, 2) := zo_16 (b1 := 6) (zkb2 zk_cX12_cc zn_cX12_cc (by decide +kernel)) rfl
theorem dX12_cc_8 : decode cX12_cc 8 = .ok (.goto 24, 3) := zo_167 (b1 := 0) (b2 := 24) (zkb3 zk_cX12_cc zn_cX12_cc (by decide +kernel)) rfl
theorem dX12_cc_11 : decode cX12_cc 11 = .ok (.iload_n 1, 1) := zo_27 (zkb zk_cX12_cc zn_cX12_cc (by decide +kernel))
theorem dX12_cc_12 : decode cX12_cc 12 = .ok (.iconst 4, 1) := zo_7 (zkb zk_cX12_cc zn_cX12_cc (by decide +kernel))
theorem dX12_cc_13 : decode cX12_cc 13 = .ok (.if_icmp .ge 7, 3) := zo_162 (b1 := 0) (b2 := 7) (zkb3 zk_cX12_cc zn_cX12_cc (by decide +kernel)) rfl
theorem dX12_cc_16 : decode cX12_cc 16 = .ok (.iconst 0, 1) := zo_3 (zkb zk_cX12_cc zn_cX12_cc (by decide +kernel))
theorem dX12_cc_17 : decode cX12_cc 17 = .ok (.goto 15, 3) := zo_167 (b1 := 0) (b2 := 15) (zkb3 zk_cX12_cc zn_cX12_cc (by decide +kernel)) rfl
theorem dX12_cc_20 : decode cX12_cc 20 = .ok (.iload_n 1, 1) := zo_27 (zkb zk_cX12_cc zn_cX12_cc (by decide +kernel))
theorem dX12_cc_21 : decode cX12_cc 21 = .ok (.bipush 6, 2) := zo_16 (b1 := 6) (zkb2 zk_cX12_cc zn_cX12_cc (by decide +kernel)) rfl
theorem dX12_cc_23 : decode cX12_cc 23 = .ok (.if_icmp .ge 7, 3) := zo_162 (b1 := 0) (b2 := 7) (zkb3 zk_cX12_cc zn_cX12_cc (by decide +kernel)) rfl
theorem dX12_cc_26 : decode cX12_cc 26 = .ok (.iconst 2, 1) := zo_5 (zkb zk_cX12_cc zn_cX12_cc (by decide +kernel))
theorem dX12_cc_27 : decode cX12_cc 27 = .ok (.goto 5, 3) := zo_167 (b1 := 0) (b2 := 5) (zkb3 zk_cX12_cc zn_cX12_cc (by decide +kernel)) rfl
theorem dX12_cc_30 : decode cX12_cc 30 = .ok (.bipush 7, 2) := zo_16 (b1 := 7) (zkb2 zk_cX12_cc zn_cX12_cc (by decide +kernel)) rfl
theorem dX12_cc_32 : decode cX12_cc 32 = .ok (.invokevirtual 205, 3) := zo_182 (b1 := 0) (b2 := 205) (zkb3 zk_cX12_cc zn_cX12_cc (by decide +kernel)) rfl
theorem dX12_cc_35 : decode cX12_cc 35 = .ok (.iconst 1, 1) := zo_4 (zkb zk_cX12_cc zn_cX12_cc (by decide +kernel))
theorem dX12_cc_36 : decode cX12_cc 36 = .ok (.if_icmp .ne 7, 3) := zo_160 (b1 := 0) (b2 := 7) (zkb3 zk_cX12_cc zn_cX12_cc (by decide +kernel)) rfl
theorem dX12_cc_39 : decode cX12_cc 39 = .ok (.iconst 1, 1) := zo_4 (zkb zk_cX12_cc zn_cX12_cc (by decide +kernel))
theorem dX12_cc_40 : decode cX12_cc 40 = .ok (.goto 4, 3) := zo_167 (b1 := 0) (b2 := 4) (zkb3 zk_cX12_cc zn_cX12_cc (by decide +kernel)) rfl
theorem dX12_cc_43 : decode cX12_cc 43 = .ok (.iconst 0, 1) := zo_3 (zkb zk_cX12_cc zn_cX12_cc (by decide +kernel))
theorem dX12_cc_44 : decode cX12_cc 44 = .ok (.iload_n 1, 1) := zo_27 (zkb zk_cX12_cc zn_cX12_cc (by decide +kernel))
theorem dX12_cc_45 : decode cX12_cc 45 = .ok (.iconst 2, 1) := zo_5 (zkb zk_cX12_cc zn_cX12_cc (by decide +kernel))
theorem dX12_cc_46 : decode cX12_cc 46 = .ok (.irem, 1) := zo_112 (zkb zk_cX12_cc zn_cX12_cc (by decide +kernel))
theorem dX12_cc_47 : decode cX12_cc 47 = .ok (.iconst 1, 1) := zo_4 (zkb zk_cX12_cc zn_cX12_cc (by decide +kernel))
theorem dX12_cc_48 : decode cX12_cc 48 = .ok (.if_icmp .ne 7, 3) := zo_160 (b1 := 0) (b2 := 7) (zkb3 zk_cX12_cc zn_cX12_cc (by decide +kernel)) rfl
theorem dX12_cc_51 : decode cX12_cc 51 = .ok (.iconst 1, 1) := zo_4 (zkb zk_cX12_cc zn_cX12_cc (by decide +kernel))
theorem dX12_cc_52 : decode cX12_cc 52 = .ok (.goto 4, 3) := zo_167 (b1 := 0) (b2 := 4) (zkb3 zk_cX12_cc zn_cX12_cc (by decide +kernel)) rfl
theorem dX12_cc_55 : decode cX12_cc 55 = .ok (.iconst 0, 1) := zo_3 (zkb zk_cX12_cc zn_cX12_cc (by decide +kernel))
theorem dX12_cc_56 : decode cX12_cc 56 = .ok (.if_icmp .ne 7, 3) := zo_160 (b1 := 0) (b2 := 7) (zkb3 zk_cX12_cc zn_cX12_cc (by decide +kernel)) rfl
theorem dX12_cc_59 : decode cX12_cc 59 = .ok (.iconst 1, 1) := zo_4 (zkb zk_cX12_cc zn_cX12_cc (by decide +kernel))
theorem dX12_cc_60 : decode cX12_cc 60 = .ok (.goto 4, 3) := zo_167 (b1 := 0) (b2 := 4) (zkb3 zk_cX12_cc zn_cX12_cc (by decide +kernel)) rfl
theorem dX12_cc_63 : decode cX12_cc 63 = .ok (.iconst 0, 1) := zo_3 (zkb zk_cX12_cc zn_cX12_cc (by decide +kernel))
theorem dX12_cc_64 : decode cX12_cc 64 = .ok (.ireturn, 1) := zo_172 (zkb zk_cX12_cc zn_cX12_cc (by decide +kernel))
def kn_cX12_push : Nat := 0xb1a900b61b2e12101600b42a2a4f7e8f1264042e12101600b42a12101600b42aa900b67a08101b2e12101600b42a2a4f7e8f1264042e12101600b42a12101600b42a
theorem zk_cX12_push : zkd cX12_push.data.toList kn_cX12_push = true := by decide +kernel
theorem zn_cX12_push : cX12_push.data.toList.length = 66 := by decide +kernel
theorem dX12_push_0 : decode cX12_push 0 = .ok (.aload_n 0, 1) := zo_42 (zkb zk_cX12_push zn_cX12_push (by decide +kernel))
theorem dX12_push_1 : decode cX12_push 1 = .ok (.getfield 22, 3) := zo_180 (b1 := 0) (b2 := 22) (zkb3 zk_cX12_push zn_cX12_push (by decide +kernel)) rfl
theorem dX12_push_4 : decode cX12_push 4 = .ok (.bipush 18, 2) := zo_16 (b1 := 18) (zkb2 zk_cX12_push zn_cX12_push (by decide +kernel)) rfl
theorem dX12_push_6 : decode cX12_push 6 = .ok (.aload_n 0, 1) := zo_42 (zkb zk_cX12_push zn_cX12_push (by decide +kernel))
theorem dX12_push_7 : decode cX12_push 7 = .ok (.getfield 22, 3) := zo_180 (b1 := 0) (b2 := 22) (zkb3 zk_cX12_push zn_cX12_push (by decide +kernel)) rfl
theorem dX12_push_10 : decode cX12_push 10 = .ok (.bipush 18, 2) := zo_16 (b1 := 18) (zkb2 zk_cX12_push zn_cX12_push (by decide +kernel)) rfl
theorem dX12_push_12 : decode cX12_push 12 = .ok (.iaload, 1) := zo_46 (zkb zk_cX12_push zn_cX12_push (by decide +kernel))
theorem dX12_push_13 : decode cX12_push 13 = .ok (.iconst 1, 1) := zo_4 (zkb zk_cX12_push zn_cX12_push (by decide +kernel))
theorem dX12_push_14 : decode cX12_push 14 = .ok (.isub, 1) := zo_100 (zkb zk_cX12_push zn_cX12_push (by decide +kernel))
theorem dX12_push_15 : decode cX12_push 15 = .ok (.ldc 143, 2) := zo_18 (b1 := 143) (zkb2 zk_cX12_push zn_cX12_push (by decide +kernel))
theorem dX12_push_17 : decode cX12_push 17 = .ok (.iand, 1) := zo_126 (zkb zk_cX12_push zn_cX12_push (by decide +kernel))
theorem dX12_push_18 : decode cX12_push 18 = .ok (.iastore, 1) := zo_79 (zkb zk_cX12_push zn_cX12_push (by decide +kernel))
theorem dX12_push_19 : decode cX12_push 19 = .ok (.aload_n 0, 1) := zo_42 (zkb zk_cX12_push zn_cX12_push (by decide +kernel))
theorem dX12_push_20 : decode cX12_push 20 = .ok (.aload_n 0, 1) := zo_42 (zkb zk_cX12_push zn_cX12_push (by decide +kernel))
theorem dX12_push_21 : decode cX12_push 21 = .ok (.getfield 22, 3) := zo_180 (b1 := 0) (b2 := 22) (zkb3 zk_cX12_push zn_cX12_push (by decide +kernel)) rfl
theorem dX12_push_24 : decode cX12_push 24 = .ok (.bipush 18, 2) := zo_16 (b1 := 18) (zkb2 zk_cX12_push zn_cX12_push (by decide +kernel)) rfl
theorem dX12_push_26 : decode cX12_push 26 = .ok (.iaload, 1) := zo_46 (zkb zk_cX12_push zn_cX12_push (by decide +kernel))
theorem dX12_push_27 : decode cX12_push 27 = .ok (.iload_n 1, 1) := zo_27 (zkb zk_cX12_push zn_cX12_push (by decide +kernel))
theorem dX12_push_28 : decode cX12_push 28 = .ok (.bipush 8, 2) := zo_16 (b1 := 8) (zkb2 zk_cX12_push zn_cX12_push (by decide +kernel)) rfl
theorem dX12_push_30 : decode cX12_push 30 = .ok (.ishr, 1) := zo_122 (zkb zk_cX12_push zn_cX12_push (by decide +kernel))
theorem dX12_push_31 : decode cX12_push 31 = .ok (.invokevirtual 169, 3) := zo_182 (b1 := 0) (b2 := 169) (zkb3 zk_cX12_push zn_cX12_push (by decide +kernel)) rfl
theorem dX12_push_34 : decode cX12_push 34 = .ok (.aload_n 0, 1) := zo_42 (zkb zk_cX12_push zn_cX12_push (by decide +kernel))
theorem dX12_push_35 : decode cX12_push 35 = .ok (.getfield 22, 3) := zo_180 (b1 := 0) (b2 := 22) (zkb3 zk_cX12_push zn_cX12_push (by decide +kernel)) rfl
theorem dX12_push_38 : decode cX12_push 38 = .ok (.bipush 18, 2) := zo_16 (b1 := 18) (zkb2 zk_cX12_push zn_cX12_push (by decide +kernel)) rfl
theorem dX12_push_40 : decode cX12_push 40 = .ok (.aload_n 0, 1) := zo_42 (zkb zk_cX12_push zn_cX12_push (by decide +kernel))
theorem dX12_push_41 : decode cX12_push 41 = .ok (.getfield 22, 3) := zo_180 (b1 := 0) (b2 := 22) (zkb3 zk_cX12_push zn_cX12_push (by decide +kernel)) rfl
theorem dX12_push_44 : decode cX12_push 44 = .ok (.bipush 18, 2) := zo_16 (b1 := 18) (zkb2 zk_cX12_push zn_cX12_push (by decide +kernel)) rfl
theorem dX12_push_46 : decode cX12_push 46 = .ok (.iaload, 1) := zo_46 (zkb zk_cX12_push zn_cX12_push (by decide +kernel))
theorem dX12_push_47 : decode cX12_push 47 = .ok (.iconst 1, 1) := zo_4 (zkb zk_cX12_push zn_cX12_push (by decide +kernel))
theorem dX12_push_48 : decode cX12_push 48 = .ok (.isub, 1) := zo_100 (zkb zk_cX12_push zn_cX12_push (by decide +kernel))
theorem dX12_push_49 : decode cX12_push 49 = .ok (.ldc 143, 2) := zo_18 (b1 := 143) (zkb2 zk_cX12_push zn_cX12_push (by decide +kernel))
theorem dX12_push_51 : decode cX12_push 51 = .ok (.iand, 1) := zo_126 (zkb zk_cX12_push zn_cX12_push (by decide +kernel))
theorem dX12_push_52 : decode cX12_push 52 = .ok (.iastore, 1) := zo_79 (zkb zk_cX12_push zn_cX12_push (by decide +kernel))
theorem dX12_push_53 : decode cX12_push 53 = .ok (.aload_n 0, 1) := zo_42 (zkb zk_cX12_push zn_cX12_push (by decide +kernel))
theorem dX12_push_54 : decode cX12_push 54 = .ok (.aload_n 0, 1) := zo_42 (zkb zk_cX12_push zn_cX12_push (by decide +kernel))
theorem dX12_push_55 : decode cX12_push 55 = .ok (.getfield 22, 3) := zo_180 (b1 := 0) (b2 := 22) (zkb3 zk_cX12_push zn_cX12_push (by decide +kernel)) rfl
theorem dX12_push_58 : decode cX12_push 58 = .ok (.bipush 18, 2) := zo_16 (b1 := 18) (zkb2 zk_cX12_push zn_cX12_push (by decide +kernel)) rfl
theorem dX12_push_60 : decode cX12_push 60 = .ok (.iaload, 1) := zo_46 (zkb zk_cX12_push zn_cX12_push (by decide +kernel))
theorem dX12_push_61 : decode cX12_push 61 = .ok (.iload_n 1, 1) := zo_27 (zkb zk_cX12_push zn_cX12_push (by decide +kernel))
theorem dX12_push_62 : decode cX12_push 62 = .ok (.invokevirtual 169, 3) := zo_182 (b1 := 0) (b2 := 169) (zkb3 zk_cX12_push zn_cX12_push (by decide +kernel)) rfl
theorem dX12_push_65 : decode cX12_push 65 = .ok (.return_, 1) := zo_177 (zkb zk_cX12_push zn_cX12_push (by decide +kernel))
def kn_cX12_pop : Nat := 0xac1b4f7e8f1260042e12101600b42a12101600b42a3c80780810a600b62e12101600b42a2a1b4f7e8f1260042e12101600b42a12101600b42a3ca600b62e12101600b42a2a
theorem zk_cX12_pop : zkd cX12_pop.data.toList kn_cX12_pop = true := by decide +kernel
theorem zn_cX12_pop : cX12_pop.data.toList.length = 69 := by decide +kernel
theorem dX12_pop_0 : decode cX12_pop 0 = .ok (.aload_n 0, 1) := zo_42 (zkb zk_cX12_pop zn_cX12_pop (by decide +kernel))
theorem dX12_pop_1 : decode cX12_pop 1 = .ok (.aload_n 0, 1) := zo_42 (zkb zk_cX12_pop zn_cX12_pop (by decide +kernel))
theorem dX12_pop_2 : decode cX12_pop 2 = .ok (.getfield 22, 3) := zo_180 (b1 := 0) (b2 := 22) (zkb3 zk_cX12_pop zn_cX12_pop (by decide +kernel)) rfl
theorem dX12_pop_5 : decode cX12_pop 5 = .ok (.bipush 18, 2) := zo_16 (b1 := 18) (zkb2 zk_cX12_pop zn_cX12_pop (by decide +kernel)) rfl
theorem dX12_pop_7 : decode cX12_pop 7 = .ok (.iaload, 1) := zo_46 (zkb zk_cX12_pop zn_cX12_pop (by decide +kernel))
theorem dX12_pop_8 : decode cX12_pop 8 = .ok (.invokevirtual 166, 3) := zo_182 (b1 := 0) (b2 := 166) (zkb3 zk_cX12_pop zn_cX12_pop (by decide +kernel)) rfl
theorem dX12_pop_11 : decode cX12_pop 11 = .ok (.istore_n 1, 1) := zo_60 (zkb zk_cX12_pop zn_cX12_pop (by decide +kernel))
theorem dX12_pop_12 : decode cX12_pop 12 = .ok (.aload_n 0, 1) := zo_42 (zkb zk_cX12_pop zn_cX12_pop (by decide +kernel))
theorem dX12_pop_13 : decode cX12_pop 13 = .ok (.getfield 22, 3) := zo_180 (b1 := 0) (b2 := 22) (zkb3 zk_cX12_pop zn_cX12_pop (by decide +kernel)) rfl
theorem dX12_pop_16 : decode cX12_pop 16 = .ok (.bipush 18, 2) := zo_16 (b1 := 18) (zkb2 zk_cX12_pop zn_cX12_pop (by decide +kernel)) rfl
theorem dX12_pop_18 : decode cX12_pop 18 = .ok (.aload_n 0, 1) := zo_42 (zkb zk_cX12_pop zn_cX12_pop (by decide +kernel))
theorem dX12_pop_19 : decode cX12_pop 19 = .ok (.getfield 22, 3) := zo_180 (b1 := 0) (b2 := 22) (zkb3 zk_cX12_pop zn_cX12_pop (by decide +kernel)) rfl
theorem dX12_pop_22 : decode cX12_pop 22 = .ok (.bipush 18, 2) := zo_16 (b1 := 18) (zkb2 zk_cX12_pop zn_cX12_pop (by decide +kernel)) rfl
theorem dX12_pop_24 : decode cX12_pop 24 = .ok (.iaload, 1) := zo_46 (zkb zk_cX12_pop zn_cX12_pop (by decide +kernel))
theorem dX12_pop_25 : decode cX12_pop 25 = .ok (.iconst 1, 1) := zo_4 (zkb zk_cX12_pop zn_cX12_pop (by decide +kernel))
theorem dX12_pop_26 : decode cX12_pop 26 = .ok (.iadd, 1) := zo_96 (zkb zk_cX12_pop zn_cX12_pop (by decide +kernel))
theorem dX12_pop_27 : decode cX12_pop 27 = .ok (.ldc 143, 2) := zo_18 (b1 := 143) (zkb2 zk_cX12_pop zn_cX12_pop (by decide +kernel))
theorem dX12_pop_29 : decode cX12_pop 29 = .ok (.iand, 1) := zo_126 (zkb zk_cX12_pop zn_cX12_pop (by decide +kernel))
theorem dX12_pop_30 : decode cX12_pop 30 = .ok (.iastore, 1) := zo_79 (zkb zk_cX12_pop zn_cX12_pop (by decide +kernel))
theorem dX12_pop_31 : decode cX12_pop 31 = .ok (.iload_n 1, 1) := zo_27 (zkb zk_cX12_pop zn_cX12_pop (by decide +kernel))
theorem dX12_pop_32 : decode cX12_pop 32 = .ok (.aload_n 0, 1) := zo_42 (zkb zk_cX12_pop zn_cX12_pop (by decide +kernel))
theorem dX12_pop_33 : decode cX12_pop 33 = .ok (.aload_n 0, 1) := zo_42 (zkb zk_cX12_pop zn_cX12_pop (by decide +kernel))
theorem dX12_pop_34 : decode cX12_pop 34 = .ok (.getfield 22, 3) := zo_180 (b1 := 0) (b2 := 22) (zkb3 zk_cX12_pop zn_cX12_pop (by decide +kernel)) rfl
theorem dX12_pop_37 : decode cX12_pop 37 = .ok (.bipush 18, 2) := zo_16 (b1 := 18) (zkb2 zk_cX12_pop zn_cX12_pop (by decide +kernel)) rfl
theorem dX12_pop_39 : decode cX12_pop 39 = .ok (.iaload, 1) := zo_46 (zkb zk_cX12_pop zn_cX12_pop (by decide +kernel))
theorem dX12_pop_40 : decode cX12_pop 40 = .ok (.invokevirtual 166, 3) := zo_182 (b1 := 0) (b2 := 166) (zkb3 zk_cX12_pop zn_cX12_pop (by decide +kernel)) rfl
theorem dX12_pop_43 : decode cX12_pop 43 = .ok (.bipush 8, 2) := zo_16 (b1 := 8) (zkb2 zk_cX12_pop zn_cX12_pop (by decide +kernel)) rfl
theorem dX12_pop_45 : decode cX12_pop 45 = .ok (.ishl, 1) := zo_120 (zkb zk_cX12_pop zn_cX12_pop (by decide +kernel))
theorem dX12_pop_46 : decode cX12_pop 46 = .ok (.ior, 1) := zo_128 (zkb zk_cX12_pop zn_cX12_pop (by decide +kernel))
theorem dX12_pop_47 : decode cX12_pop 47 = .ok (.istore_n 1, 1) := zo_60 (zkb zk_cX12_pop zn_cX12_pop (by decide +kernel))
theorem dX12_pop_48 : decode cX12_pop 48 = .ok (.aload_n 0, 1) := zo_42 (zkb zk_cX12_pop zn_cX12_pop (by decide +kernel))
theorem dX12_pop_49 : decode cX12_pop 49 = .ok (.getfield 22, 3) := zo_180 (b1 := 0) (b2 := 22) (zkb3 zk_cX12_pop zn_cX12_pop (by decide +kernel)) rfl
theorem dX12_pop_52 : decode cX12_pop 52 = .ok (.bipush 18, 2) := zo_16 (b1 := 18) (zkb2 zk_cX12_pop zn_cX12_pop (by decide +kernel)) rfl
theorem dX12_pop_54 : decode cX12_pop 54 = .ok (.aload_n 0, 1) := zo_42 (zkb zk_cX12_pop zn_cX12_pop (by decide +kernel))
theorem dX12_pop_55 : decode cX12_pop 55 = .ok (.getfield 22, 3) := zo_180 (b1 := 0) (b2 := 22) (zkb3 zk_cX12_pop zn_cX12_pop (by decide +kernel)) rfl
theorem dX12_pop_58 : decode cX12_pop 58 = .ok (.bipush 18, 2) := zo_16 (b1 := 18) (zkb2 zk_cX12_pop zn_cX12_pop (by decide +kernel)) rfl
theorem dX12_pop_60 : decode cX12_pop 60 = .ok (.iaload, 1) := zo_46 (zkb zk_cX12_pop zn_cX12_pop (by decide +kernel))
theorem dX12_pop_61 : decode cX12_pop 61 = .ok (.iconst 1, 1) := zo_4 (zkb zk_cX12_pop zn_cX12_pop (by decide +kernel))
theorem dX12_pop_62 : decode cX12_pop 62 = .ok (.iadd, 1) := zo_96 (zkb zk_cX12_pop zn_cX12_pop (by decide +kernel))
theorem dX12_pop_63 : decode cX12_pop 63 = .ok (.ldc 143, 2) := zo_18 (b1 := 143) (zkb2 zk_cX12_pop zn_cX12_pop (by decide +kernel))
theorem dX12_pop_65 : decode cX12_pop 65 = .ok (.iand, 1) := zo_126 (zkb zk_cX12_pop zn_cX12_pop (by decide +kernel))
theorem dX12_pop_66 : decode cX12_pop 66 = .ok (.iastore, 1) := zo_79 (zkb zk_cX12_pop zn_cX12_pop (by decide +kernel))
theorem dX12_pop_67 : decode cX12_pop 67 = .ok (.iload_n 1, 1) := zo_27 (zkb zk_cX12_pop zn_cX12_pop (by decide +kernel))
theorem dX12_pop_68 : decode cX12_pop 68 = .ok (.ireturn, 1) := zo_172 (zkb zk_cX12_pop zn_cX12_pop (by decide +kernel))
def kn_cX12_grows : Nat := 0xb14f807e7f1060042e16101600b42a7e8000112e16101600b42a16101600b42a
theorem zk_cX12_grows : zkd cX12_grows.data.toList kn_cX12_grows = true := by decide +kernel
theorem zn_cX12_grows : cX12_grows.data.toList.length = 32 := by decide +kernel
theorem dX12_grows_0 : decode cX12_grows 0 = .ok (.aload_n 0, 1) := zo_42 (zkb zk_cX12_grows zn_cX12_grows (by decide +kernel))
theorem dX12_grows_1 : decode cX12_grows 1 = .ok (.getfield 22, 3) := zo_180 (b1 := 0) (b2 := 22) (zkb3 zk_cX12_grows zn_cX12_grows (by decide +kernel)) rfl
theorem dX12_grows_4 : decode cX12_grows 4 = .ok (.bipush 22, 2) := zo_16 (b1 := 22) (zkb2 zk_cX12_grows zn_cX12_grows (by decide +kernel)) rfl
theorem dX12_grows_6 : decode cX12_grows 6 = .ok (.aload_n 0, 1) := zo_42 (zkb zk_cX12_grows zn_cX12_grows (by decide +kernel))
theorem dX12_grows_7 : decode cX12_grows 7 = .ok (.getfield 22, 3) := zo_180 (b1 := 0) (b2 := 22) (zkb3 zk_cX12_grows zn_cX12_grows (by decide +kernel)) rfl
theorem dX12_grows_10 : decode cX12_grows 10 = .ok (.bipush 22, 2) := zo_16 (b1 := 22) (zkb2 zk_cX12_grows zn_cX12_grows (by decide +kernel)) rfl
theorem dX12_grows_12 : decode cX12_grows 12 = .ok (.iaload, 1) := zo_46 (zkb zk_cX12_grows zn_cX12_grows (by decide +kernel))
theorem dX12_grows_13 : decode cX12_grows 13 = .ok (.sipush 128, 3) := zo_17 (b1 := 0) (b2 := 128) (zkb3 zk_cX12_grows zn_cX12_grows (by decide +kernel)) rfl
theorem dX12_grows_16 : decode cX12_grows 16 = .ok (.iand, 1) := zo_126 (zkb zk_cX12_grows zn_cX12_grows (by decide +kernel))
theorem dX12_grows_17 : decode cX12_grows 17 = .ok (.aload_n 0, 1) := zo_42 (zkb zk_cX12_grows zn_cX12_grows (by decide +kernel))
theorem dX12_grows_18 : decode cX12_grows 18 = .ok (.getfield 22, 3) := zo_180 (b1 := 0) (b2 := 22) (zkb3 zk_cX12_grows zn_cX12_grows (by decide +kernel)) rfl
theorem dX12_grows_21 : decode cX12_grows 21 = .ok (.bipush 22, 2) := zo_16 (b1 := 22) (zkb2 zk_cX12_grows zn_cX12_grows (by decide +kernel)) rfl
theorem dX12_grows_23 : decode cX12_grows 23 = .ok (.iaload, 1) := zo_46 (zkb zk_cX12_grows zn_cX12_grows (by decide +kernel))
theorem dX12_grows_24 : decode cX12_grows 24 = .ok (.iconst 1, 1) := zo_4 (zkb zk_cX12_grows zn_cX12_grows (by decide +kernel))
theorem dX12_grows_25 : decode cX12_grows 25 = .ok (.iadd, 1) := zo_96 (zkb zk_cX12_grows zn_cX12_grows (by decide +kernel))
theorem dX12_grows_26 : decode cX12_grows 26 = .ok (.bipush 127, 2) := zo_16 (b1 := 127) (zkb2 zk_cX12_grows zn_cX12_grows (by decide +kernel)) rfl
theorem dX12_grows_28 : decode cX12_grows 28 = .ok (.iand, 1) := zo_126 (zkb zk_cX12_grows zn_cX12_grows (by decide +kernel))
theorem dX12_grows_29 : decode cX12_grows 29 = .ok (.ior, 1) := zo_128 (zkb zk_cX12_grows zn_cX12_grows (by decide +kernel))
theorem dX12_grows_30 : decode cX12_grows 30 = .ok (.iastore, 1) := zo_79 (zkb zk_cX12_grows zn_cX12_grows (by decide +kernel))
theorem dX12_grows_31 : decode cX12_grows 31 = .ok (.return_, 1) := zo_177 (zkb zk_cX12_grows zn_cX12_grows (by decide +kernel))
def kn_cX12_next : Nat := 0xac1b4f7e8f1260042e13101600b42a13101600b42a3ca600b62e13101600b42a2a
theorem zk_cX12_next : zkd cX12_next.data.toList kn_cX12_next = true := by decide +kernel
theorem zn_cX12_next : cX12_next.data.toList.length = 33 := by decide +kernel
theorem dX12_next_0 : decode cX12_next 0 = .ok (.aload_n 0, 1) := zo_42 (zkb zk_cX12_next zn_cX12_next (by decide +kernel))
theorem dX12_next_1 : decode cX12_next 1 = .ok (.aload_n 0, 1) := zo_42 (zkb zk_cX12_next zn_cX12_next (by decide +kernel))
theorem dX12_next_2 : decode cX12_next 2 = .ok (.getfield 22, 3) := zo_180 (b1 := 0) (b2 := 22) (zkb3 zk_cX12_next zn_cX12_next (by decide +kernel)) rfl
theorem dX12_next_5 : decode cX12_next 5 = .ok (.bipush 19, 2) := zo_16 (b1 := 19) (zkb2 zk_cX12_next zn_cX12_next (by decide +kernel)) rfl
theorem dX12_next_7 : decode cX12_next 7 = .ok (.iaload, 1) := zo_46 (zkb zk_cX12_next zn_cX12_next (by decide +kernel))
theorem dX12_next_8 : decode cX12_next 8 = .ok (.invokevirtual 166, 3) := zo_182 (b1 := 0) (b2 := 166) (zkb3 zk_cX12_next zn_cX12_next (by decide +kernel)) rfl
theorem dX12_next_11 : decode cX12_next 11 = .ok (.istore_n 1, 1) := zo_60 (zkb zk_cX12_next zn_cX12_next (by decide +kernel))
theorem dX12_next_12 : decode cX12_next 12 = .ok (.aload_n 0, 1) := zo_42 (zkb zk_cX12_next zn_cX12_next (by decide +kernel))
theorem dX12_next_13 : decode cX12_next 13 = .ok (.getfield 22, 3) := zo_180 (b1 := 0) (b2 := 22) (zkb3 zk_cX12_next zn_cX12_next (by decide +kernel)) rfl
theorem dX12_next_16 : decode cX12_next 16 = .ok (.bipush 19, 2) := zo_16 (b1 := 19) (zkb2 zk_cX12_next zn_cX12_next (by decide +kernel)) rfl
theorem dX12_next_18 : decode cX12_next 18 = .ok (.aload_n 0, 1) := zo_42 (zkb zk_cX12_next zn_cX12_next (by decide +kernel))
theorem dX12_next_19 : decode cX12_next 19 = .ok (.getfield 22, 3) := zo_180 (b1 := 0) (b2 := 22) (zkb3 zk_cX12_next zn_cX12_next (by decide +kernel)) rfl
theorem dX12_next_22 : decode cX12_next 22 = .ok (.bipush 19, 2) := zo_16 (b1 := 19) (zkb2 zk_cX12_next zn_cX12_next (by decide +kernel)) rfl
theorem dX12_next_24 : decode cX12_next 24 = .ok (.iaload, 1) := zo_46 (zkb zk_cX12_next zn_cX12_next (by decide +kernel))
theorem dX12_next_25 : decode cX12_next 25 = .ok (.iconst 1, 1) := zo_4 (zkb zk_cX12_next zn_cX12_next (by decide +kernel))
theorem dX12_next_26 : decode cX12_next 26 = .ok (.iadd, 1) := zo_96 (zkb zk_cX12_next zn_cX12_next (by decide +kernel))
theorem dX12_next_27 : decode cX12_next 27 = .ok (.ldc 143, 2) := zo_18 (b1 := 143) (zkb2 zk_cX12_next zn_cX12_next (by decide +kernel))
theorem dX12_next_29 : decode cX12_next 29 = .ok (.iand, 1) := zo_126 (zkb zk_cX12_next zn_cX12_next (by decide +kernel))
theorem dX12_next_30 : decode cX12_next 30 = .ok (.iastore, 1) := zo_79 (zkb zk_cX12_next zn_cX12_next (by decide +kernel))
theorem dX12_next_31 : decode cX12_next 31 = .ok (.iload_n 1, 1) := zo_27 (zkb zk_cX12_next zn_cX12_next (by decide +kernel))
theorem dX12_next_32 : decode cX12_next 32 = .ok (.ireturn, 1) := zo_172 (zkb zk_cX12_next zn_cX12_next (by decide +kernel))
def kn_cX12_fetch : Nat := 0xac1bd300b62a3cd000b62a
theorem zk_cX12_fetch : zkd cX12_fetch.data.toList kn_cX12_fetch = true := by decide +kernel
theorem zn_cX12_fetch : cX12_fetch.data.toList.length = 11 := by decide +kernel
theorem dX12_fetch_0 : decode cX12_fetch 0 = .ok (.aload_n 0, 1) := zo_42 (zkb zk_cX12_fetch zn_cX12_fetch (by decide +kernel))
theorem dX12_fetch_1 : decode cX12_fetch 1 = .ok (.invokevirtual 208, 3) := zo_182 (b1 := 0) (b2 := 208) (zkb3 zk_cX12_fetch zn_cX12_fetch (by decide +kernel)) rfl
theorem dX12_fetch_4 : decode cX12_fetch 4 = .ok (.istore_n 1, 1) := zo_60 (zkb zk_cX12_fetch zn_cX12_fetch (by decide +kernel))
theorem dX12_fetch_5 : decode cX12_fetch 5 = .ok (.aload_n 0, 1) := zo_42 (zkb zk_cX12_fetch zn_cX12_fetch (by decide +kernel))
theorem dX12_fetch_6 : decode cX12_fetch 6 = .ok (.invokevirtual 211, 3) := zo_182 (b1 := 0) (b2 := 211) (zkb3 zk_cX12_fetch zn_cX12_fetch (by decide +kernel)) rfl
theorem dX12_fetch_9 : decode cX12_fetch 9 = .ok (.iload_n 1, 1) := zo_27 (zkb zk_cX12_fetch zn_cX12_fetch (by decide +kernel))
theorem dX12_fetch_10 : decode cX12_fetch 10 = .ok (.ireturn, 1) := zo_172 (zkb zk_cX12_fetch zn_cX12_fetch (by decide +kernel))
def kn_cX12_nextWord : Nat := 0xac80780810d000b62a1b3cd000b62a
theorem zk_cX12_nextWord : zkd cX12_nextWord.data.toList kn_cX12_nextWord = true := by decide +kernel
theorem zn_cX12_nextWord : cX12_nextWord.data.toList.length = 15 := by decide +kernel
theorem dX12_nextWord_0 : decode cX12_nextWord 0 = .ok (.aload_n 0, 1) := zo_42 (zkb zk_cX12_nextWord zn_cX12_nextWord (by decide +kernel))
theorem dX12_nextWord_1 : decode cX12_nextWord 1 = .ok (.invokevirtual 208, 3) := zo_182 (b1 := 0) (b2 := 208) (zkb3 zk_cX12_nextWord zn_cX12_nextWord (by decide +kernel)) rfl
theorem dX12_nextWord_4 : decode cX12_nextWord 4 = .ok (.istore_n 1, 1) := zo_60 (zkb zk_cX12_nextWord zn_cX12_nextWord (by decide +kernel))
theorem dX12_nextWord_5 : decode cX12_nextWord 5 = .ok (.iload_n 1, 1) := zo_27 (zkb zk_cX12_nextWord zn_cX12_nextWord (by decide +kernel))
theorem dX12_nextWord_6 : decode cX12_nextWord 6 = .ok (.aload_n 0, 1) := zo_42 (zkb zk_cX12_nextWord zn_cX12_nextWord (by decide +kernel))
theorem dX12_nextWord_7 : decode cX12_nextWord 7 = .ok (.invokevirtual 208, 3) := zo_182 (b1 := 0) (b2 := 208) (zkb3 zk_cX12_nextWord zn_cX12_nextWord (by decide +kernel)) rfl
theorem dX12_nextWord_10 : decode cX12_nextWord 10 = .ok (.bipush 8, 2) := zo_16 (b1 := 8) (zkb2 zk_cX12_nextWord zn_cX12_nextWord (by decide +kernel)) rfl
theorem dX12_nextWord_12 : decode cX12_nextWord 12 = .ok (.ishl, 1) := zo_120 (zkb zk_cX12_nextWord zn_cX12_nextWord (by decide +kernel))
theorem dX12_nextWord_13 : decode cX12_nextWord 13 = .ok (.ior, 1) := zo_128 (zkb zk_cX12_nextWord zn_cX12_nextWord (by decide +kernel))
theorem dX12_nextWord_14 : decode cX12_nextWord 14 = .ok (.ireturn, 1) := zo_172 (zkb zk_cX12_nextWord zn_cX12_nextWord (by decide +kernel))
def kn_cX12_signed : Nat := 0xac640001111a0800a71a0700a28000111a
theorem zk_cX12_signed : zkd cX12_signed.data.toList kn_cX12_signed = true := by decide +kernel
theorem zn_cX12_signed : cX12_signed.data.toList.length = 17 := by decide +kernel
theorem dX12_signed_0 : decode cX12_signed 0 = .ok (.iload_n 0, 1) := zo_26 (zkb zk_cX12_signed zn_cX12_signed (by decide +kernel))
theorem dX12_signed_1 : decode cX12_signed 1 = .ok (.sipush 128, 3) := zo_17 (b1 := 0) (b2 := 128) (zkb3 zk_cX12_signed zn_cX12_signed (by decide +kernel)) rfl
theorem dX12_signed_4 : decode cX12_signed 4 = .ok (.if_icmp .ge 7, 3) := zo_162 (b1 := 0) (b2 := 7) (zkb3 zk_cX12_signed zn_cX12_signed (by decide +kernel)) rfl
theorem dX12_signed_7 : decode cX12_signed 7 = .ok (.iload_n 0, 1) := zo_26 (zkb zk_cX12_signed zn_cX12_signed (by decide +kernel))
theorem dX12_signed_8 : decode cX12_signed 8 = .ok (.goto 8, 3) := zo_167 (b1 := 0) (b2 := 8) (zkb3 zk_cX12_signed zn_cX12_signed (by decide +kernel)) rfl
theorem dX12_signed_11 : decode cX12_signed 11 = .ok (.iload_n 0, 1) := zo_26 (zkb zk_cX12_signed zn_cX12_signed (by decide +kernel))
theorem dX12_signed_12 : decode cX12_signed 12 = .ok (.sipush 256, 3) := zo_17 (b1 := 1) (b2 := 0) (zkb3 zk_cX12_signed zn_cX12_signed (by decide +kernel)) rfl
theorem dX12_signed_15 : decode cX12_signed 15 = .ok (.isub, 1) := zo_100 (zkb zk_cX12_signed zn_cX12_signed (by decide +kernel))
theorem dX12_signed_16 : decode cX12_signed 16 = .ok (.ireturn, 1) := zo_172 (zkb zk_cX12_signed zn_cX12_signed (by decide +kernel))
def kn_cX12_call : Nat := 0xb14f1b14101600b42a4f1b13101600b42ad600b62e13101600b42a2a
theorem zk_cX12_call : zkd cX12_call.data.toList kn_cX12_call = true := by decide +kernel
theorem zn_cX12_call : cX12_call.data.toList.length = 28 := by decide +kernel
theorem dX12_call_0 : decode cX12_call 0 = .ok (.aload_n 0, 1) := zo_42 (zkb zk_cX12_call zn_cX12_call (by decide +kernel))
theorem dX12_call_1 : decode cX12_call 1 = .ok (.aload_n 0, 1) := zo_42 (zkb zk_cX12_call zn_cX12_call (by decide +kernel))
theorem dX12_call_2 : decode cX12_call 2 = .ok (.getfield 22, 3) := zo_180 (b1 := 0) (b2 := 22) (zkb3 zk_cX12_call zn_cX12_call (by decide +kernel)) rfl
theorem dX12_call_5 : decode cX12_call 5 = .ok (.bipush 19, 2) := zo_16 (b1 := 19) (zkb2 zk_cX12_call zn_cX12_call (by decide +kernel)) rfl
theorem dX12_call_7 : decode cX12_call 7 = .ok (.iaload, 1) := zo_46 (zkb zk_cX12_call zn_cX12_call (by decide +kernel))
theorem dX12_call_8 : decode cX12_call 8 = .ok (.invokevirtual 214, 3) := zo_182 (b1 := 0) (b2 := 214) (zkb3 zk_cX12_call zn_cX12_call (by decide +kernel)) rfl
theorem dX12_call_11 : decode cX12_call 11 = .ok (.aload_n 0, 1) := zo_42 (zkb zk_cX12_call zn_cX12_call (by decide +kernel))
theorem dX12_call_12 : decode cX12_call 12 = .ok (.getfield 22, 3) := zo_180 (b1 := 0) (b2 := 22) (zkb3 zk_cX12_call zn_cX12_call (by decide +kernel)) rfl
theorem dX12_call_15 : decode cX12_call 15 = .ok (.bipush 19, 2) := zo_16 (b1 := 19) (zkb2 zk_cX12_call zn_cX12_call (by decide +kernel)) rfl
theorem dX12_call_17 : decode cX12_call 17 = .ok (.iload_n 1, 1) := zo_27 (zkb zk_cX12_call zn_cX12_call (by decide +kernel))
theorem dX12_call_18 : decode cX12_call 18 = .ok (.iastore, 1) := zo_79 (zkb zk_cX12_call zn_cX12_call (by decide +kernel))
theorem dX12_call_19 : decode cX12_call 19 = .ok (.aload_n 0, 1) := zo_42 (zkb zk_cX12_call zn_cX12_call (by decide +kernel))
theorem dX12_call_20 : decode cX12_call 20 = .ok (.getfield 22, 3) := zo_180 (b1 := 0) (b2 := 22) (zkb3 zk_cX12_call zn_cX12_call (by decide +kernel)) rfl
theorem dX12_call_23 : decode cX12_call 23 = .ok (.bipush 20, 2) := zo_16 (b1 := 20) (zkb2 zk_cX12_call zn_cX12_call (by decide +kernel)) rfl
theorem dX12_call_25 : decode cX12_call 25 = .ok (.iload_n 1, 1) := zo_27 (zkb zk_cX12_call zn_cX12_call (by decide +kernel))
theorem dX12_call_26 : decode cX12_call 26 = .ok (.iastore, 1) := zo_79 (zkb zk_cX12_call zn_cX12_call (by decide +kernel))
theorem dX12_call_27 : decode cX12_call 27 = .ok (.return_, 1) := zo_177 (zkb zk_cX12_call zn_cX12_call (by decide +kernel))
def kn_cX12_change : Nat := 0xb14f1d1c1600b42a4f2e1c1600b42a1b1600b42a3e2e1b1600b42a
theorem zk_cX12_change : zkd cX12_change.data.toList kn_cX12_change = true := by decide +kernel
theorem zn_cX12_change : cX12_change.data.toList.length = 27 := by decide +kernel
theorem dX12_change_0 : decode cX12_change 0 = .ok (.aload_n 0, 1) := zo_42 (zkb zk_cX12_change zn_cX12_change (by decide +kernel))
theorem dX12_change_1 : decode cX12_change 1 = .ok (.getfield 22, 3) := zo_180 (b1 := 0) (b2 := 22) (zkb3 zk_cX12_change zn_cX12_change (by decide +kernel)) rfl
theorem dX12_change_4 : decode cX12_change 4 = .ok (.iload_n 1, 1) := zo_27 (zkb zk_cX12_change zn_cX12_change (by decide +kernel))
theorem dX12_change_5 : decode cX12_change 5 = .ok (.iaload, 1) := zo_46 (zkb zk_cX12_change zn_cX12_change (by decide +kernel))
theorem dX12_change_6 : decode cX12_change 6 = .ok (.istore_n 3, 1) := zo_62 (zkb zk_cX12_change zn_cX12_change (by decide +kernel))
theorem dX12_change_7 : decode cX12_change 7 = .ok (.aload_n 0, 1) := zo_42 (zkb zk_cX12_change zn_cX12_change (by decide +kernel))
theorem dX12_change_8 : decode cX12_change 8 = .ok (.getfield 22, 3) := zo_180 (b1 := 0) (b2 := 22) (zkb3 zk_cX12_change zn_cX12_change (by decide +kernel)) rfl
theorem dX12_change_11 : decode cX12_change 11 = .ok (.iload_n 1, 1) := zo_27 (zkb zk_cX12_change zn_cX12_change (by decide +kernel))
theorem dX12_change_12 : decode cX12_change 12 = .ok (.aload_n 0, 1) := zo_42 (zkb zk_cX12_change zn_cX12_change (by decide +kernel))
theorem dX12_change_13 : decode cX12_change 13 = .ok (.getfield 22, 3) := zo_180 (b1 := 0) (b2 := 22) (zkb3 zk_cX12_change zn_cX12_change (by decide +kernel)) rfl
theorem dX12_change_16 : decode cX12_change 16 = .ok (.iload_n 2, 1) := zo_28 (zkb zk_cX12_change zn_cX12_change (by decide +kernel))
theorem dX12_change_17 : decode cX12_change 17 = .ok (.iaload, 1) := zo_46 (zkb zk_cX12_change zn_cX12_change (by decide +kernel))
theorem dX12_change_18 : decode cX12_change 18 = .ok (.iastore, 1) := zo_79 (zkb zk_cX12_change zn_cX12_change (by decide +kernel))
theorem dX12_change_19 : decode cX12_change 19 = .ok (.aload_n 0, 1) := zo_42 (zkb zk_cX12_change zn_cX12_change (by decide +kernel))
theorem dX12_change_20 : decode cX12_change 20 = .ok (.getfield 22, 3) := zo_180 (b1 := 0) (b2 := 22) (zkb3 zk_cX12_change zn_cX12_change (by decide +kernel)) rfl
theorem dX12_change_23 : decode cX12_change 23 = .ok (.iload_n 2, 1) := zo_28 (zkb zk_cX12_change zn_cX12_change (by decide +kernel))
theorem dX12_change_24 : decode cX12_change 24 = .ok (.iload_n 3, 1) := zo_29 (zkb zk_cX12_change zn_cX12_change (by decide +kernel))
theorem dX12_change_25 : decode cX12_change 25 = .ok (.iastore, 1) := zo_79 (zkb zk_cX12_change zn_cX12_change (by decide +kernel))
theorem dX12_change_26 : decode cX12_change 26 = .ok (.return_, 1) := zo_177 (zkb zk_cX12_change zn_cX12_change (by decide +kernel))
def kn_cX12_lineAt : Nat := 0xac2e601b2d101600b42a0c00a77e047a60681b05082e21101600b42a15009a7e047a60681b05042e21101600b42a
theorem zk_cX12_lineAt : zkd cX12_lineAt.data.toList kn_cX12_lineAt = true := by decide +kernel
theorem zn_cX12_lineAt : cX12_lineAt.data.toList.length = 46 := by decide +kernel
theorem dX12_lineAt_0 : decode cX12_lineAt 0 = .ok (.aload_n 0, 1) := zo_42 (zkb zk_cX12_lineAt zn_cX12_lineAt (by decide +kernel))
theorem dX12_lineAt_1 : decode cX12_lineAt 1 = .ok (.getfield 22, 3) := zo_180 (b1 := 0) (b2 := 22) (zkb3 zk_cX12_lineAt zn_cX12_lineAt (by decide +kernel)) rfl
theorem dX12_lineAt_4 : decode cX12_lineAt 4 = .ok (.bipush 33, 2) := zo_16 (b1 := 33) (zkb2 zk_cX12_lineAt zn_cX12_lineAt (by decide +kernel)) rfl
theorem dX12_lineAt_6 : decode cX12_lineAt 6 = .ok (.iaload, 1) := zo_46 (zkb zk_cX12_lineAt zn_cX12_lineAt (by decide +kernel))
theorem dX12_lineAt_7 : decode cX12_lineAt 7 = .ok (.iconst 1, 1) := zo_4 (zkb zk_cX12_lineAt zn_cX12_lineAt (by decide +kernel))
theorem dX12_lineAt_8 : decode cX12_lineAt 8 = .ok (.iconst 2, 1) := zo_5 (zkb zk_cX12_lineAt zn_cX12_lineAt (by decide +kernel))
theorem dX12_lineAt_9 : decode cX12_lineAt 9 = .ok (.iload_n 1, 1) := zo_27 (zkb zk_cX12_lineAt zn_cX12_lineAt (by decide +kernel))
theorem dX12_lineAt_10 : decode cX12_lineAt 10 = .ok (.imul, 1) := zo_104 (zkb zk_cX12_lineAt zn_cX12_lineAt (by decide +kernel))
theorem dX12_lineAt_11 : decode cX12_lineAt 11 = .ok (.iadd, 1) := zo_96 (zkb zk_cX12_lineAt zn_cX12_lineAt (by decide +kernel))
theorem dX12_lineAt_12 : decode cX12_lineAt 12 = .ok (.ishr, 1) := zo_122 (zkb zk_cX12_lineAt zn_cX12_lineAt (by decide +kernel))
theorem dX12_lineAt_13 : decode cX12_lineAt 13 = .ok (.iconst 1, 1) := zo_4 (zkb zk_cX12_lineAt zn_cX12_lineAt (by decide +kernel))
theorem dX12_lineAt_14 : decode cX12_lineAt 14 = .ok (.iand, 1) := zo_126 (zkb zk_cX12_lineAt zn_cX12_lineAt (by decide +kernel))
theorem dX12_lineAt_15 : decode cX12_lineAt 15 = .ok (.ifCond .ne 21, 3) := zo_154 (b1 := 0) (b2 := 21) (zkb3 zk_cX12_lineAt zn_cX12_lineAt (by decide +kernel)) rfl
theorem dX12_lineAt_18 : decode cX12_lineAt 18 = .ok (.aload_n 0, 1) := zo_42 (zkb zk_cX12_lineAt zn_cX12_lineAt (by decide +kernel))
theorem dX12_lineAt_19 : decode cX12_lineAt 19 = .ok (.getfield 22, 3) := zo_180 (b1 := 0) (b2 := 22) (zkb3 zk_cX12_lineAt zn_cX12_lineAt (by decide +kernel)) rfl
theorem dX12_lineAt_22 : decode cX12_lineAt 22 = .ok (.bipush 33, 2) := zo_16 (b1 := 33) (zkb2 zk_cX12_lineAt zn_cX12_lineAt (by decide +kernel)) rfl
theorem dX12_lineAt_24 : decode cX12_lineAt 24 = .ok (.iaload, 1) := zo_46 (zkb zk_cX12_lineAt zn_cX12_lineAt (by decide +kernel))
theorem dX12_lineAt_25 : decode cX12_lineAt 25 = .ok (.iconst 5, 1) := zo_8 (zkb zk_cX12_lineAt zn_cX12_lineAt (by decide +kernel))
theorem dX12_lineAt_26 : decode cX12_lineAt 26 = .ok (.iconst 2, 1) := zo_5 (zkb zk_cX12_lineAt zn_cX12_lineAt (by decide +kernel))
theorem dX12_lineAt_27 : decode cX12_lineAt 27 = .ok (.iload_n 1, 1) := zo_27 (zkb zk_cX12_lineAt zn_cX12_lineAt (by decide +kernel))
theorem dX12_lineAt_28 : decode cX12_lineAt 28 = .ok (.imul, 1) := zo_104 (zkb zk_cX12_lineAt zn_cX12_lineAt (by decide +kernel))
theorem dX12_lineAt_29 : decode cX12_lineAt 29 = .ok (.iadd, 1) := zo_96 (zkb zk_cX12_lineAt zn_cX12_lineAt (by decide +kernel))
theorem dX12_lineAt_30 : decode cX12_lineAt 30 = .ok (.ishr, 1) := zo_122 (zkb zk_cX12_lineAt zn_cX12_lineAt (by decide +kernel))
theorem dX12_lineAt_31 : decode cX12_lineAt 31 = .ok (.iconst 1, 1) := zo_4 (zkb zk_cX12_lineAt zn_cX12_lineAt (by decide +kernel))
theorem dX12_lineAt_32 : decode cX12_lineAt 32 = .ok (.iand, 1) := zo_126 (zkb zk_cX12_lineAt zn_cX12_lineAt (by decide +kernel))
theorem dX12_lineAt_33 : decode cX12_lineAt 33 = .ok (.goto 12, 3) := zo_167 (b1 := 0) (b2 := 12) (zkb3 zk_cX12_lineAt zn_cX12_lineAt (by decide +kernel)) rfl
theorem dX12_lineAt_36 : decode cX12_lineAt 36 = .ok (.aload_n 0, 1) := zo_42 (zkb zk_cX12_lineAt zn_cX12_lineAt (by decide +kernel))
theorem dX12_lineAt_37 : decode cX12_lineAt 37 = .ok (.getfield 22, 3) := zo_180 (b1 := 0) (b2 := 22) (zkb3 zk_cX12_lineAt zn_cX12_lineAt (by decide +kernel)) rfl
theorem dX12_lineAt_40 : decode cX12_lineAt 40 = .ok (.bipush 45, 2) := zo_16 (b1 := 45) (zkb2 zk_cX12_lineAt zn_cX12_lineAt (by decide +kernel)) rfl
theorem dX12_lineAt_42 : decode cX12_lineAt 42 = .ok (.iload_n 1, 1) := zo_27 (zkb zk_cX12_lineAt zn_cX12_lineAt (by decide +kernel))
theorem dX12_lineAt_43 : decode cX12_lineAt 43 = .ok (.iadd, 1) := zo_96 (zkb zk_cX12_lineAt zn_cX12_lineAt (by decide +kernel))
theorem dX12_lineAt_44 : decode cX12_lineAt 44 = .ok (.iaload, 1) := zo_46 (zkb zk_cX12_lineAt zn_cX12_lineAt (by decide +kernel))
theorem dX12_lineAt_45 : decode cX12_lineAt 45 = .ok (.ireturn, 1) := zo_172 (zkb zk_cX12_lineAt zn_cX12_lineAt (by decide +kernel))
def kn_cX12_without : Nat := 0xac7e8202781c041b0a00a780781c041b0b00a0041d
theorem zk_cX12_without : zkd cX12_without.data.toList kn_cX12_without = true := by decide +kernel
theorem zn_cX12_without : cX12_without.data.toList.length = 21 := by decide +kernel
theorem dX12_without_0 : decode cX12_without 0 = .ok (.iload_n 3, 1) := zo_29 (zkb zk_cX12_without zn_cX12_without (by decide +kernel))
theorem dX12_without_1 : decode cX12_without 1 = .ok (.iconst 1, 1) := zo_4 (zkb zk_cX12_without zn_cX12_without (by decide +kernel))
theorem dX12_without_2 : decode cX12_without 2 = .ok (.if_icmp .ne 11, 3) := zo_160 (b1 := 0) (b2 := 11) (zkb3 zk_cX12_without zn_cX12_without (by decide +kernel)) rfl
theorem dX12_without_5 : decode cX12_without 5 = .ok (.iload_n 1, 1) := zo_27 (zkb zk_cX12_without zn_cX12_without (by decide +kernel))
theorem dX12_without_6 : decode cX12_without 6 = .ok (.iconst 1, 1) := zo_4 (zkb zk_cX12_without zn_cX12_without (by decide +kernel))
theorem dX12_without_7 : decode cX12_without 7 = .ok (.iload_n 2, 1) := zo_28 (zkb zk_cX12_without zn_cX12_without (by decide +kernel))
theorem dX12_without_8 : decode cX12_without 8 = .ok (.ishl, 1) := zo_120 (zkb zk_cX12_without zn_cX12_without (by decide +kernel))
theorem dX12_without_9 : decode cX12_without 9 = .ok (.ior, 1) := zo_128 (zkb zk_cX12_without zn_cX12_without (by decide +kernel))
theorem dX12_without_10 : decode cX12_without 10 = .ok (.goto 10, 3) := zo_167 (b1 := 0) (b2 := 10) (zkb3 zk_cX12_without zn_cX12_without (by decide +kernel)) rfl
theorem dX12_without_13 : decode cX12_without 13 = .ok (.iload_n 1, 1) := zo_27 (zkb zk_cX12_without zn_cX12_without (by decide +kernel))
theorem dX12_without_14 : decode cX12_without 14 = .ok (.iconst 1, 1) := zo_4 (zkb zk_cX12_without zn_cX12_without (by decide +kernel))
theorem dX12_without_15 : decode cX12_without 15 = .ok (.iload_n 2, 1) := zo_28 (zkb zk_cX12_without zn_cX12_without (by decide +kernel))
theorem dX12_without_16 : decode cX12_without 16 = .ok (.ishl, 1) := zo_120 (zkb zk_cX12_without zn_cX12_without (by decide +kernel))
theorem dX12_without_17 : decode cX12_without 17 = .ok (.iconst (-1), 1) := zo_2 (zkb zk_cX12_without zn_cX12_without (by decide +kernel))
theorem dX12_without_18 : decode cX12_without 18 = .ok (.ixor, 1) := zo_130 (zkb zk_cX12_without zn_cX12_without (by decide +kernel))
theorem dX12_without_19 : decode cX12_without 19 = .ok (.iand, 1) := zo_126 (zkb zk_cX12_without zn_cX12_without (by decide +kernel))
theorem dX12_without_20 : decode cX12_without 20 = .ok (.ireturn, 1) := zo_172 (zkb zk_cX12_without zn_cX12_without (by decide +kernel))
def kn_cX12_port : Nat := 0xac1d0400a74f01b67e047a072e21101600b42a081d2a17009a7e042e21101600b42a3e7e8202807806102e2b101600b42a2e2a101600b42aff0011ac1d0400a74f01b67e047a06102e21101600b42a061d2a18009a7e072e21101600b42a3e4f01b64c01b6042a07101d2a3e4f01b64c01b6032a06101d2a3e8030107e82027a052e2b101600b42aff00115300991cac2ea300111600b42a0c009f056300b42a1400a0f200111bac4901b62a0700a74601b62a0a00991c1300a2c000111bac4301b62a0700a72e23101600b42a0d00991c1600a28000111bac2e601b24101600b42a0c00a7808000110600a7030700a0042e2c101600b42a40101b009a1bacff00110700a4081b0800a0056300b42a3a00a240101b3d030400a7040700a00470051b
theorem zk_cX12_port : zkd cX12_port.data.toList kn_cX12_port = true := by decide +kernel
theorem zn_cX12_port : cX12_port.data.toList.length = 290 := by decide +kernel
theorem dX12_port_0 : decode cX12_port 0 = .ok (.iload_n 1, 1) := zo_27 (zkb zk_cX12_port zn_cX12_port (by decide +kernel))
theorem dX12_port_1 : decode cX12_port 1 = .ok (.iconst 2, 1) := zo_5 (zkb zk_cX12_port zn_cX12_port (by decide +kernel))
theorem dX12_port_2 : decode cX12_port 2 = .ok (.irem, 1) := zo_112 (zkb zk_cX12_port zn_cX12_port (by decide +kernel))
theorem dX12_port_3 : decode cX12_port 3 = .ok (.iconst 1, 1) := zo_4 (zkb zk_cX12_port zn_cX12_port (by decide +kernel))
theorem dX12_port_4 : decode cX12_port 4 = .ok (.if_icmp .ne 7, 3) := zo_160 (b1 := 0) (b2 := 7) (zkb3 zk_cX12_port zn_cX12_port (by decide +kernel)) rfl
theorem dX12_port_7 : decode cX12_port 7 = .ok (.iconst 1, 1) := zo_4 (zkb zk_cX12_port zn_cX12_port (by decide +kernel))
theorem dX12_port_8 : decode cX12_port 8 = .ok (.goto 4, 3) := zo_167 (b1 := 0) (b2 := 4) (zkb3 zk_cX12_port zn_cX12_port (by decide +kernel)) rfl
theorem dX12_port_11 : decode cX12_port 11 = .ok (.iconst 0, 1) := zo_3 (zkb zk_cX12_port zn_cX12_port (by decide +kernel))
theorem dX12_port_12 : decode cX12_port 12 = .ok (.istore_n 2, 1) := zo_61 (zkb zk_cX12_port zn_cX12_port (by decide +kernel))
theorem dX12_port_13 : decode cX12_port 13 = .ok (.iload_n 1, 1) := zo_27 (zkb zk_cX12_port zn_cX12_port (by decide +kernel))
theorem dX12_port_14 : decode cX12_port 14 = .ok (.bipush 64, 2) := zo_16 (b1 := 64) (zkb2 zk_cX12_port zn_cX12_port (by decide +kernel)) rfl
theorem dX12_port_16 : decode cX12_port 16 = .ok (.if_icmp .ge 58, 3) := zo_162 (b1 := 0) (b2 := 58) (zkb3 zk_cX12_port zn_cX12_port (by decide +kernel)) rfl
theorem dX12_port_19 : decode cX12_port 19 = .ok (.aload_n 0, 1) := zo_42 (zkb zk_cX12_port zn_cX12_port (by decide +kernel))
theorem dX12_port_20 : decode cX12_port 20 = .ok (.getfield 99, 3) := zo_180 (b1 := 0) (b2 := 99) (zkb3 zk_cX12_port zn_cX12_port (by decide +kernel)) rfl
theorem dX12_port_23 : decode cX12_port 23 = .ok (.iconst 2, 1) := zo_5 (zkb zk_cX12_port zn_cX12_port (by decide +kernel))
theorem dX12_port_24 : decode cX12_port 24 = .ok (.if_icmp .ne 8, 3) := zo_160 (b1 := 0) (b2 := 8) (zkb3 zk_cX12_port zn_cX12_port (by decide +kernel)) rfl
theorem dX12_port_27 : decode cX12_port 27 = .ok (.iload_n 1, 1) := zo_27 (zkb zk_cX12_port zn_cX12_port (by decide +kernel))
theorem dX12_port_28 : decode cX12_port 28 = .ok (.iconst 5, 1) := zo_8 (zkb zk_cX12_port zn_cX12_port (by decide +kernel))
theorem dX12_port_29 : decode cX12_port 29 = .ok (.if_icmp .le 7, 3) := zo_164 (b1 := 0) (b2 := 7) (zkb3 zk_cX12_port zn_cX12_port (by decide +kernel)) rfl
theorem dX12_port_32 : decode cX12_port 32 = .ok (.sipush 255, 3) := zo_17 (b1 := 0) (b2 := 255) (zkb3 zk_cX12_port zn_cX12_port (by decide +kernel)) rfl
theorem dX12_port_35 : decode cX12_port 35 = .ok (.ireturn, 1) := zo_172 (zkb zk_cX12_port zn_cX12_port (by decide +kernel))
theorem dX12_port_36 : decode cX12_port 36 = .ok (.iload_n 1, 1) := zo_27 (zkb zk_cX12_port zn_cX12_port (by decide +kernel))
theorem dX12_port_37 : decode cX12_port 37 = .ok (.ifCond .ne 27, 3) := zo_154 (b1 := 0) (b2 := 27) (zkb3 zk_cX12_port zn_cX12_port (by decide +kernel)) rfl
theorem dX12_port_40 : decode cX12_port 40 = .ok (.bipush 64, 2) := zo_16 (b1 := 64) (zkb2 zk_cX12_port zn_cX12_port (by decide +kernel)) rfl
theorem dX12_port_42 : decode cX12_port 42 = .ok (.aload_n 0, 1) := zo_42 (zkb zk_cX12_port zn_cX12_port (by decide +kernel))
theorem dX12_port_43 : decode cX12_port 43 = .ok (.getfield 22, 3) := zo_180 (b1 := 0) (b2 := 22) (zkb3 zk_cX12_port zn_cX12_port (by decide +kernel)) rfl
theorem dX12_port_46 : decode cX12_port 46 = .ok (.bipush 44, 2) := zo_16 (b1 := 44) (zkb2 zk_cX12_port zn_cX12_port (by decide +kernel)) rfl
theorem dX12_port_48 : decode cX12_port 48 = .ok (.iaload, 1) := zo_46 (zkb zk_cX12_port zn_cX12_port (by decide +kernel))
theorem dX12_port_49 : decode cX12_port 49 = .ok (.iconst 1, 1) := zo_4 (zkb zk_cX12_port zn_cX12_port (by decide +kernel))
theorem dX12_port_50 : decode cX12_port 50 = .ok (.if_icmp .ne 7, 3) := zo_160 (b1 := 0) (b2 := 7) (zkb3 zk_cX12_port zn_cX12_port (by decide +kernel)) rfl
theorem dX12_port_53 : decode cX12_port 53 = .ok (.iconst 0, 1) := zo_3 (zkb zk_cX12_port zn_cX12_port (by decide +kernel))
theorem dX12_port_54 : decode cX12_port 54 = .ok (.goto 6, 3) := zo_167 (b1 := 0) (b2 := 6) (zkb3 zk_cX12_port zn_cX12_port (by decide +kernel)) rfl
theorem dX12_port_57 : decode cX12_port 57 = .ok (.sipush 128, 3) := zo_17 (b1 := 0) (b2 := 128) (zkb3 zk_cX12_port zn_cX12_port (by decide +kernel)) rfl
theorem dX12_port_60 : decode cX12_port 60 = .ok (.ior, 1) := zo_128 (zkb zk_cX12_port zn_cX12_port (by decide +kernel))
theorem dX12_port_61 : decode cX12_port 61 = .ok (.goto 12, 3) := zo_167 (b1 := 0) (b2 := 12) (zkb3 zk_cX12_port zn_cX12_port (by decide +kernel)) rfl
theorem dX12_port_64 : decode cX12_port 64 = .ok (.aload_n 0, 1) := zo_42 (zkb zk_cX12_port zn_cX12_port (by decide +kernel))
theorem dX12_port_65 : decode cX12_port 65 = .ok (.getfield 22, 3) := zo_180 (b1 := 0) (b2 := 22) (zkb3 zk_cX12_port zn_cX12_port (by decide +kernel)) rfl
theorem dX12_port_68 : decode cX12_port 68 = .ok (.bipush 36, 2) := zo_16 (b1 := 36) (zkb2 zk_cX12_port zn_cX12_port (by decide +kernel)) rfl
theorem dX12_port_70 : decode cX12_port 70 = .ok (.iload_n 1, 1) := zo_27 (zkb zk_cX12_port zn_cX12_port (by decide +kernel))
theorem dX12_port_71 : decode cX12_port 71 = .ok (.iadd, 1) := zo_96 (zkb zk_cX12_port zn_cX12_port (by decide +kernel))
theorem dX12_port_72 : decode cX12_port 72 = .ok (.iaload, 1) := zo_46 (zkb zk_cX12_port zn_cX12_port (by decide +kernel))
theorem dX12_port_73 : decode cX12_port 73 = .ok (.ireturn, 1) := zo_172 (zkb zk_cX12_port zn_cX12_port (by decide +kernel))
theorem dX12_port_74 : decode cX12_port 74 = .ok (.iload_n 1, 1) := zo_27 (zkb zk_cX12_port zn_cX12_port (by decide +kernel))
theorem dX12_port_75 : decode cX12_port 75 = .ok (.sipush 128, 3) := zo_17 (b1 := 0) (b2 := 128) (zkb3 zk_cX12_port zn_cX12_port (by decide +kernel)) rfl
theorem dX12_port_78 : decode cX12_port 78 = .ok (.if_icmp .ge 22, 3) := zo_162 (b1 := 0) (b2 := 22) (zkb3 zk_cX12_port zn_cX12_port (by decide +kernel)) rfl
theorem dX12_port_81 : decode cX12_port 81 = .ok (.iload_n 2, 1) := zo_28 (zkb zk_cX12_port zn_cX12_port (by decide +kernel))
theorem dX12_port_82 : decode cX12_port 82 = .ok (.ifCond .eq 13, 3) := zo_153 (b1 := 0) (b2 := 13) (zkb3 zk_cX12_port zn_cX12_port (by decide +kernel)) rfl
theorem dX12_port_85 : decode cX12_port 85 = .ok (.aload_n 0, 1) := zo_42 (zkb zk_cX12_port zn_cX12_port (by decide +kernel))
theorem dX12_port_86 : decode cX12_port 86 = .ok (.getfield 22, 3) := zo_180 (b1 := 0) (b2 := 22) (zkb3 zk_cX12_port zn_cX12_port (by decide +kernel)) rfl
theorem dX12_port_89 : decode cX12_port 89 = .ok (.bipush 35, 2) := zo_16 (b1 := 35) (zkb2 zk_cX12_port zn_cX12_port (by decide +kernel)) rfl
theorem dX12_port_91 : decode cX12_port 91 = .ok (.iaload, 1) := zo_46 (zkb zk_cX12_port zn_cX12_port (by decide +kernel))
theorem dX12_port_92 : decode cX12_port 92 = .ok (.goto 7, 3) := zo_167 (b1 := 0) (b2 := 7) (zkb3 zk_cX12_port zn_cX12_port (by decide +kernel)) rfl
theorem dX12_port_95 : decode cX12_port 95 = .ok (.aload_n 0, 1) := zo_42 (zkb zk_cX12_port zn_cX12_port (by decide +kernel))
theorem dX12_port_96 : decode cX12_port 96 = .ok (.invokevirtual 323, 3) := zo_182 (b1 := 1) (b2 := 67) (zkb3 zk_cX12_port zn_cX12_port (by decide +kernel)) rfl
theorem dX12_port_99 : decode cX12_port 99 = .ok (.ireturn, 1) := zo_172 (zkb zk_cX12_port zn_cX12_port (by decide +kernel))
theorem dX12_port_100 : decode cX12_port 100 = .ok (.iload_n 1, 1) := zo_27 (zkb zk_cX12_port zn_cX12_port (by decide +kernel))
theorem dX12_port_101 : decode cX12_port 101 = .ok (.sipush 192, 3) := zo_17 (b1 := 0) (b2 := 192) (zkb3 zk_cX12_port zn_cX12_port (by decide +kernel)) rfl
theorem dX12_port_104 : decode cX12_port 104 = .ok (.if_icmp .ge 19, 3) := zo_162 (b1 := 0) (b2 := 19) (zkb3 zk_cX12_port zn_cX12_port (by decide +kernel)) rfl
theorem dX12_port_107 : decode cX12_port 107 = .ok (.iload_n 2, 1) := zo_28 (zkb zk_cX12_port zn_cX12_port (by decide +kernel))
theorem dX12_port_108 : decode cX12_port 108 = .ok (.ifCond .eq 10, 3) := zo_153 (b1 := 0) (b2 := 10) (zkb3 zk_cX12_port zn_cX12_port (by decide +kernel)) rfl
theorem dX12_port_111 : decode cX12_port 111 = .ok (.aload_n 0, 1) := zo_42 (zkb zk_cX12_port zn_cX12_port (by decide +kernel))
theorem dX12_port_112 : decode cX12_port 112 = .ok (.invokevirtual 326, 3) := zo_182 (b1 := 1) (b2 := 70) (zkb3 zk_cX12_port zn_cX12_port (by decide +kernel)) rfl
theorem dX12_port_115 : decode cX12_port 115 = .ok (.goto 7, 3) := zo_167 (b1 := 0) (b2 := 7) (zkb3 zk_cX12_port zn_cX12_port (by decide +kernel)) rfl
theorem dX12_port_118 : decode cX12_port 118 = .ok (.aload_n 0, 1) := zo_42 (zkb zk_cX12_port zn_cX12_port (by decide +kernel))
theorem dX12_port_119 : decode cX12_port 119 = .ok (.invokevirtual 329, 3) := zo_182 (b1 := 1) (b2 := 73) (zkb3 zk_cX12_port zn_cX12_port (by decide +kernel)) rfl
theorem dX12_port_122 : decode cX12_port 122 = .ok (.ireturn, 1) := zo_172 (zkb zk_cX12_port zn_cX12_port (by decide +kernel))
theorem dX12_port_123 : decode cX12_port 123 = .ok (.iload_n 1, 1) := zo_27 (zkb zk_cX12_port zn_cX12_port (by decide +kernel))
theorem dX12_port_124 : decode cX12_port 124 = .ok (.sipush 242, 3) := zo_17 (b1 := 0) (b2 := 242) (zkb3 zk_cX12_port zn_cX12_port (by decide +kernel)) rfl
theorem dX12_port_127 : decode cX12_port 127 = .ok (.if_icmp .ne 20, 3) := zo_160 (b1 := 0) (b2 := 20) (zkb3 zk_cX12_port zn_cX12_port (by decide +kernel)) rfl
theorem dX12_port_130 : decode cX12_port 130 = .ok (.aload_n 0, 1) := zo_42 (zkb zk_cX12_port zn_cX12_port (by decide +kernel))
theorem dX12_port_131 : decode cX12_port 131 = .ok (.getfield 99, 3) := zo_180 (b1 := 0) (b2 := 99) (zkb3 zk_cX12_port zn_cX12_port (by decide +kernel)) rfl
theorem dX12_port_134 : decode cX12_port 134 = .ok (.iconst 2, 1) := zo_5 (zkb zk_cX12_port zn_cX12_port (by decide +kernel))
theorem dX12_port_135 : decode cX12_port 135 = .ok (.if_icmp .eq 12, 3) := zo_159 (b1 := 0) (b2 := 12) (zkb3 zk_cX12_port zn_cX12_port (by decide +kernel)) rfl
theorem dX12_port_138 : decode cX12_port 138 = .ok (.aload_n 0, 1) := zo_42 (zkb zk_cX12_port zn_cX12_port (by decide +kernel))
theorem dX12_port_139 : decode cX12_port 139 = .ok (.getfield 22, 3) := zo_180 (b1 := 0) (b2 := 22) (zkb3 zk_cX12_port zn_cX12_port (by decide +kernel)) rfl
theorem dX12_port_142 : decode cX12_port 142 = .ok (.sipush 163, 3) := zo_17 (b1 := 0) (b2 := 163) (zkb3 zk_cX12_port zn_cX12_port (by decide +kernel)) rfl
theorem dX12_port_145 : decode cX12_port 145 = .ok (.iaload, 1) := zo_46 (zkb zk_cX12_port zn_cX12_port (by decide +kernel))
theorem dX12_port_146 : decode cX12_port 146 = .ok (.ireturn, 1) := zo_172 (zkb zk_cX12_port zn_cX12_port (by decide +kernel))
theorem dX12_port_147 : decode cX12_port 147 = .ok (.iload_n 2, 1) := zo_28 (zkb zk_cX12_port zn_cX12_port (by decide +kernel))
theorem dX12_port_148 : decode cX12_port 148 = .ok (.ifCond .eq 83, 3) := zo_153 (b1 := 0) (b2 := 83) (zkb3 zk_cX12_port zn_cX12_port (by decide +kernel)) rfl
theorem dX12_port_151 : decode cX12_port 151 = .ok (.sipush 255, 3) := zo_17 (b1 := 0) (b2 := 255) (zkb3 zk_cX12_port zn_cX12_port (by decide +kernel)) rfl
theorem dX12_port_154 : decode cX12_port 154 = .ok (.aload_n 0, 1) := zo_42 (zkb zk_cX12_port zn_cX12_port (by decide +kernel))
theorem dX12_port_155 : decode cX12_port 155 = .ok (.getfield 22, 3) := zo_180 (b1 := 0) (b2 := 22) (zkb3 zk_cX12_port zn_cX12_port (by decide +kernel)) rfl
theorem dX12_port_158 : decode cX12_port 158 = .ok (.bipush 43, 2) := zo_16 (b1 := 43) (zkb2 zk_cX12_port zn_cX12_port (by decide +kernel)) rfl
theorem dX12_port_160 : decode cX12_port 160 = .ok (.iaload, 1) := zo_46 (zkb zk_cX12_port zn_cX12_port (by decide +kernel))
theorem dX12_port_161 : decode cX12_port 161 = .ok (.iconst 2, 1) := zo_5 (zkb zk_cX12_port zn_cX12_port (by decide +kernel))
theorem dX12_port_162 : decode cX12_port 162 = .ok (.ishr, 1) := zo_122 (zkb zk_cX12_port zn_cX12_port (by decide +kernel))
theorem dX12_port_163 : decode cX12_port 163 = .ok (.iconst (-1), 1) := zo_2 (zkb zk_cX12_port zn_cX12_port (by decide +kernel))
theorem dX12_port_164 : decode cX12_port 164 = .ok (.ixor, 1) := zo_130 (zkb zk_cX12_port zn_cX12_port (by decide +kernel))
theorem dX12_port_165 : decode cX12_port 165 = .ok (.iand, 1) := zo_126 (zkb zk_cX12_port zn_cX12_port (by decide +kernel))
theorem dX12_port_166 : decode cX12_port 166 = .ok (.bipush 48, 2) := zo_16 (b1 := 48) (zkb2 zk_cX12_port zn_cX12_port (by decide +kernel)) rfl
theorem dX12_port_168 : decode cX12_port 168 = .ok (.ior, 1) := zo_128 (zkb zk_cX12_port zn_cX12_port (by decide +kernel))
theorem dX12_port_169 : decode cX12_port 169 = .ok (.istore_n 3, 1) := zo_62 (zkb zk_cX12_port zn_cX12_port (by decide +kernel))
theorem dX12_port_170 : decode cX12_port 170 = .ok (.aload_n 0, 1) := zo_42 (zkb zk_cX12_port zn_cX12_port (by decide +kernel))
theorem dX12_port_171 : decode cX12_port 171 = .ok (.iload_n 3, 1) := zo_29 (zkb zk_cX12_port zn_cX12_port (by decide +kernel))
theorem dX12_port_172 : decode cX12_port 172 = .ok (.bipush 6, 2) := zo_16 (b1 := 6) (zkb2 zk_cX12_port zn_cX12_port (by decide +kernel)) rfl
theorem dX12_port_174 : decode cX12_port 174 = .ok (.aload_n 0, 1) := zo_42 (zkb zk_cX12_port zn_cX12_port (by decide +kernel))
theorem dX12_port_175 : decode cX12_port 175 = .ok (.iconst 0, 1) := zo_3 (zkb zk_cX12_port zn_cX12_port (by decide +kernel))
theorem dX12_port_176 : decode cX12_port 176 = .ok (.invokevirtual 332, 3) := zo_182 (b1 := 1) (b2 := 76) (zkb3 zk_cX12_port zn_cX12_port (by decide +kernel)) rfl
theorem dX12_port_179 : decode cX12_port 179 = .ok (.invokevirtual 335, 3) := zo_182 (b1 := 1) (b2 := 79) (zkb3 zk_cX12_port zn_cX12_port (by decide +kernel)) rfl
theorem dX12_port_182 : decode cX12_port 182 = .ok (.istore_n 3, 1) := zo_62 (zkb zk_cX12_port zn_cX12_port (by decide +kernel))
theorem dX12_port_183 : decode cX12_port 183 = .ok (.aload_n 0, 1) := zo_42 (zkb zk_cX12_port zn_cX12_port (by decide +kernel))
theorem dX12_port_184 : decode cX12_port 184 = .ok (.iload_n 3, 1) := zo_29 (zkb zk_cX12_port zn_cX12_port (by decide +kernel))
theorem dX12_port_185 : decode cX12_port 185 = .ok (.bipush 7, 2) := zo_16 (b1 := 7) (zkb2 zk_cX12_port zn_cX12_port (by decide +kernel)) rfl
theorem dX12_port_187 : decode cX12_port 187 = .ok (.aload_n 0, 1) := zo_42 (zkb zk_cX12_port zn_cX12_port (by decide +kernel))
theorem dX12_port_188 : decode cX12_port 188 = .ok (.iconst 1, 1) := zo_4 (zkb zk_cX12_port zn_cX12_port (by decide +kernel))
theorem dX12_port_189 : decode cX12_port 189 = .ok (.invokevirtual 332, 3) := zo_182 (b1 := 1) (b2 := 76) (zkb3 zk_cX12_port zn_cX12_port (by decide +kernel)) rfl
theorem dX12_port_192 : decode cX12_port 192 = .ok (.invokevirtual 335, 3) := zo_182 (b1 := 1) (b2 := 79) (zkb3 zk_cX12_port zn_cX12_port (by decide +kernel)) rfl
theorem dX12_port_195 : decode cX12_port 195 = .ok (.istore_n 3, 1) := zo_62 (zkb zk_cX12_port zn_cX12_port (by decide +kernel))
theorem dX12_port_196 : decode cX12_port 196 = .ok (.aload_n 0, 1) := zo_42 (zkb zk_cX12_port zn_cX12_port (by decide +kernel))
theorem dX12_port_197 : decode cX12_port 197 = .ok (.getfield 22, 3) := zo_180 (b1 := 0) (b2 := 22) (zkb3 zk_cX12_port zn_cX12_port (by decide +kernel)) rfl
theorem dX12_port_200 : decode cX12_port 200 = .ok (.bipush 33, 2) := zo_16 (b1 := 33) (zkb2 zk_cX12_port zn_cX12_port (by decide +kernel)) rfl
theorem dX12_port_202 : decode cX12_port 202 = .ok (.iaload, 1) := zo_46 (zkb zk_cX12_port zn_cX12_port (by decide +kernel))
theorem dX12_port_203 : decode cX12_port 203 = .ok (.iconst 4, 1) := zo_7 (zkb zk_cX12_port zn_cX12_port (by decide +kernel))
theorem dX12_port_204 : decode cX12_port 204 = .ok (.iand, 1) := zo_126 (zkb zk_cX12_port zn_cX12_port (by decide +kernel))
theorem dX12_port_205 : decode cX12_port 205 = .ok (.ifCond .ne 24, 3) := zo_154 (b1 := 0) (b2 := 24) (zkb3 zk_cX12_port zn_cX12_port (by decide +kernel)) rfl
theorem dX12_port_208 : decode cX12_port 208 = .ok (.aload_n 0, 1) := zo_42 (zkb zk_cX12_port zn_cX12_port (by decide +kernel))
theorem dX12_port_209 : decode cX12_port 209 = .ok (.iload_n 3, 1) := zo_29 (zkb zk_cX12_port zn_cX12_port (by decide +kernel))
theorem dX12_port_210 : decode cX12_port 210 = .ok (.iconst 3, 1) := zo_6 (zkb zk_cX12_port zn_cX12_port (by decide +kernel))
theorem dX12_port_211 : decode cX12_port 211 = .ok (.aload_n 0, 1) := zo_42 (zkb zk_cX12_port zn_cX12_port (by decide +kernel))
theorem dX12_port_212 : decode cX12_port 212 = .ok (.getfield 22, 3) := zo_180 (b1 := 0) (b2 := 22) (zkb3 zk_cX12_port zn_cX12_port (by decide +kernel)) rfl
theorem dX12_port_215 : decode cX12_port 215 = .ok (.bipush 33, 2) := zo_16 (b1 := 33) (zkb2 zk_cX12_port zn_cX12_port (by decide +kernel)) rfl
theorem dX12_port_217 : decode cX12_port 217 = .ok (.iaload, 1) := zo_46 (zkb zk_cX12_port zn_cX12_port (by decide +kernel))
theorem dX12_port_218 : decode cX12_port 218 = .ok (.bipush 6, 2) := zo_16 (b1 := 6) (zkb2 zk_cX12_port zn_cX12_port (by decide +kernel)) rfl
theorem dX12_port_220 : decode cX12_port 220 = .ok (.ishr, 1) := zo_122 (zkb zk_cX12_port zn_cX12_port (by decide +kernel))
theorem dX12_port_221 : decode cX12_port 221 = .ok (.iconst 1, 1) := zo_4 (zkb zk_cX12_port zn_cX12_port (by decide +kernel))
theorem dX12_port_222 : decode cX12_port 222 = .ok (.iand, 1) := zo_126 (zkb zk_cX12_port zn_cX12_port (by decide +kernel))
theorem dX12_port_223 : decode cX12_port 223 = .ok (.invokevirtual 335, 3) := zo_182 (b1 := 1) (b2 := 79) (zkb3 zk_cX12_port zn_cX12_port (by decide +kernel)) rfl
theorem dX12_port_226 : decode cX12_port 226 = .ok (.goto 4, 3) := zo_167 (b1 := 0) (b2 := 4) (zkb3 zk_cX12_port zn_cX12_port (by decide +kernel)) rfl
theorem dX12_port_229 : decode cX12_port 229 = .ok (.iload_n 3, 1) := zo_29 (zkb zk_cX12_port zn_cX12_port (by decide +kernel))
theorem dX12_port_230 : decode cX12_port 230 = .ok (.ireturn, 1) := zo_172 (zkb zk_cX12_port zn_cX12_port (by decide +kernel))
theorem dX12_port_231 : decode cX12_port 231 = .ok (.sipush 255, 3) := zo_17 (b1 := 0) (b2 := 255) (zkb3 zk_cX12_port zn_cX12_port (by decide +kernel)) rfl
theorem dX12_port_234 : decode cX12_port 234 = .ok (.aload_n 0, 1) := zo_42 (zkb zk_cX12_port zn_cX12_port (by decide +kernel))
theorem dX12_port_235 : decode cX12_port 235 = .ok (.getfield 22, 3) := zo_180 (b1 := 0) (b2 := 22) (zkb3 zk_cX12_port zn_cX12_port (by decide +kernel)) rfl
theorem dX12_port_238 : decode cX12_port 238 = .ok (.bipush 42, 2) := zo_16 (b1 := 42) (zkb2 zk_cX12_port zn_cX12_port (by decide +kernel)) rfl
theorem dX12_port_240 : decode cX12_port 240 = .ok (.iaload, 1) := zo_46 (zkb zk_cX12_port zn_cX12_port (by decide +kernel))
theorem dX12_port_241 : decode cX12_port 241 = .ok (.aload_n 0, 1) := zo_42 (zkb zk_cX12_port zn_cX12_port (by decide +kernel))
theorem dX12_port_242 : decode cX12_port 242 = .ok (.getfield 22, 3) := zo_180 (b1 := 0) (b2 := 22) (zkb3 zk_cX12_port zn_cX12_port (by decide +kernel)) rfl
theorem dX12_port_245 : decode cX12_port 245 = .ok (.bipush 43, 2) := zo_16 (b1 := 43) (zkb2 zk_cX12_port zn_cX12_port (by decide +kernel)) rfl
theorem dX12_port_247 : decode cX12_port 247 = .ok (.iaload, 1) := zo_46 (zkb zk_cX12_port zn_cX12_port (by decide +kernel))
theorem dX12_port_248 : decode cX12_port 248 = .ok (.bipush 6, 2) := zo_16 (b1 := 6) (zkb2 zk_cX12_port zn_cX12_port (by decide +kernel)) rfl
theorem dX12_port_250 : decode cX12_port 250 = .ok (.ishl, 1) := zo_120 (zkb zk_cX12_port zn_cX12_port (by decide +kernel))
theorem dX12_port_251 : decode cX12_port 251 = .ok (.ior, 1) := zo_128 (zkb zk_cX12_port zn_cX12_port (by decide +kernel))
theorem dX12_port_252 : decode cX12_port 252 = .ok (.iconst (-1), 1) := zo_2 (zkb zk_cX12_port zn_cX12_port (by decide +kernel))
theorem dX12_port_253 : decode cX12_port 253 = .ok (.ixor, 1) := zo_130 (zkb zk_cX12_port zn_cX12_port (by decide +kernel))
theorem dX12_port_254 : decode cX12_port 254 = .ok (.iand, 1) := zo_126 (zkb zk_cX12_port zn_cX12_port (by decide +kernel))
theorem dX12_port_255 : decode cX12_port 255 = .ok (.istore_n 3, 1) := zo_62 (zkb zk_cX12_port zn_cX12_port (by decide +kernel))
theorem dX12_port_256 : decode cX12_port 256 = .ok (.aload_n 0, 1) := zo_42 (zkb zk_cX12_port zn_cX12_port (by decide +kernel))
theorem dX12_port_257 : decode cX12_port 257 = .ok (.getfield 22, 3) := zo_180 (b1 := 0) (b2 := 22) (zkb3 zk_cX12_port zn_cX12_port (by decide +kernel)) rfl
theorem dX12_port_260 : decode cX12_port 260 = .ok (.bipush 33, 2) := zo_16 (b1 := 33) (zkb2 zk_cX12_port zn_cX12_port (by decide +kernel)) rfl
theorem dX12_port_262 : decode cX12_port 262 = .ok (.iaload, 1) := zo_46 (zkb zk_cX12_port zn_cX12_port (by decide +kernel))
theorem dX12_port_263 : decode cX12_port 263 = .ok (.iconst 1, 1) := zo_4 (zkb zk_cX12_port zn_cX12_port (by decide +kernel))
theorem dX12_port_264 : decode cX12_port 264 = .ok (.iand, 1) := zo_126 (zkb zk_cX12_port zn_cX12_port (by decide +kernel))
theorem dX12_port_265 : decode cX12_port 265 = .ok (.ifCond .ne 23, 3) := zo_154 (b1 := 0) (b2 := 23) (zkb3 zk_cX12_port zn_cX12_port (by decide +kernel)) rfl
theorem dX12_port_268 : decode cX12_port 268 = .ok (.aload_n 0, 1) := zo_42 (zkb zk_cX12_port zn_cX12_port (by decide +kernel))
theorem dX12_port_269 : decode cX12_port 269 = .ok (.iload_n 3, 1) := zo_29 (zkb zk_cX12_port zn_cX12_port (by decide +kernel))
theorem dX12_port_270 : decode cX12_port 270 = .ok (.iconst 5, 1) := zo_8 (zkb zk_cX12_port zn_cX12_port (by decide +kernel))
theorem dX12_port_271 : decode cX12_port 271 = .ok (.aload_n 0, 1) := zo_42 (zkb zk_cX12_port zn_cX12_port (by decide +kernel))
theorem dX12_port_272 : decode cX12_port 272 = .ok (.getfield 22, 3) := zo_180 (b1 := 0) (b2 := 22) (zkb3 zk_cX12_port zn_cX12_port (by decide +kernel)) rfl
theorem dX12_port_275 : decode cX12_port 275 = .ok (.bipush 33, 2) := zo_16 (b1 := 33) (zkb2 zk_cX12_port zn_cX12_port (by decide +kernel)) rfl
theorem dX12_port_277 : decode cX12_port 277 = .ok (.iaload, 1) := zo_46 (zkb zk_cX12_port zn_cX12_port (by decide +kernel))
theorem dX12_port_278 : decode cX12_port 278 = .ok (.iconst 4, 1) := zo_7 (zkb zk_cX12_port zn_cX12_port (by decide +kernel))
theorem dX12_port_279 : decode cX12_port 279 = .ok (.ishr, 1) := zo_122 (zkb zk_cX12_port zn_cX12_port (by decide +kernel))
theorem dX12_port_280 : decode cX12_port 280 = .ok (.iconst 1, 1) := zo_4 (zkb zk_cX12_port zn_cX12_port (by decide +kernel))
theorem dX12_port_281 : decode cX12_port 281 = .ok (.iand, 1) := zo_126 (zkb zk_cX12_port zn_cX12_port (by decide +kernel))
theorem dX12_port_282 : decode cX12_port 282 = .ok (.invokevirtual 335, 3) := zo_182 (b1 := 1) (b2 := 79) (zkb3 zk_cX12_port zn_cX12_port (by decide +kernel)) rfl
theorem dX12_port_285 : decode cX12_port 285 = .ok (.goto 4, 3) := zo_167 (b1 := 0) (b2 := 4) (zkb3 zk_cX12_port zn_cX12_port (by decide +kernel)) rfl
theorem dX12_port_288 : decode cX12_port 288 = .ok (.iload_n 3, 1) := zo_29 (zkb zk_cX12_port zn_cX12_port (by decide +kernel))
theorem dX12_port_289 : decode cX12_port 289 = .ok (.ireturn, 1) := zo_172 (zkb zk_cX12_port zn_cX12_port (by decide +kernel))
def kn_cX12_bit : Nat := 0xac7e047a1c2e601b2f101600b42a
theorem zk_cX12_bit : zkd cX12_bit.data.toList kn_cX12_bit = true := by decide +kernel
theorem zn_cX12_bit : cX12_bit.data.toList.length = 14 := by decide +kernel
theorem dX12_bit_0 : decode cX12_bit 0 = .ok (.aload_n 0, 1) := zo_42 (zkb zk_cX12_bit zn_cX12_bit (by decide +kernel))
theorem dX12_bit_1 : decode cX12_bit 1 = .ok (.getfield 22, 3) := zo_180 (b1 := 0) (b2 := 22) (zkb3 zk_cX12_bit zn_cX12_bit (by decide +kernel)) rfl
theorem dX12_bit_4 : decode cX12_bit 4 = .ok (.bipush 47, 2) := zo_16 (b1 := 47) (zkb2 zk_cX12_bit zn_cX12_bit (by decide +kernel)) rfl
theorem dX12_bit_6 : decode cX12_bit 6 = .ok (.iload_n 1, 1) := zo_27 (zkb zk_cX12_bit zn_cX12_bit (by decide +kernel))
theorem dX12_bit_7 : decode cX12_bit 7 = .ok (.iadd, 1) := zo_96 (zkb zk_cX12_bit zn_cX12_bit (by decide +kernel))
theorem dX12_bit_8 : decode cX12_bit 8 = .ok (.iaload, 1) := zo_46 (zkb zk_cX12_bit zn_cX12_bit (by decide +kernel))
theorem dX12_bit_9 : decode cX12_bit 9 = .ok (.iload_n 2, 1) := zo_28 (zkb zk_cX12_bit zn_cX12_bit (by decide +kernel))
theorem dX12_bit_10 : decode cX12_bit 10 = .ok (.ishr, 1) := zo_122 (zkb zk_cX12_bit zn_cX12_bit (by decide +kernel))
theorem dX12_bit_11 : decode cX12_bit 11 = .ok (.iconst 1, 1) := zo_4 (zkb zk_cX12_bit zn_cX12_bit (by decide +kernel))
theorem dX12_bit_12 : decode cX12_bit 12 = .ok (.iand, 1) := zo_126 (zkb zk_cX12_bit zn_cX12_bit (by decide +kernel))
theorem dX12_bit_13 : decode cX12_bit 13 = .ok (.ireturn, 1) := zo_172 (zkb zk_cX12_bit zn_cX12_bit (by decide +kernel))
def kn_cX12_mode : Nat := 0xac030400a7050700a0048b01b604032a1200a7060700a0048b01b606042a2000a7040700a0048b01b607042a2e00a7070700a0048b01b605032a
theorem zk_cX12_mode : zkd cX12_mode.data.toList kn_cX12_mode = true := by decide +kernel
theorem zn_cX12_mode : cX12_mode.data.toList.length = 58 := by decide +kernel
theorem dX12_mode_0 : decode cX12_mode 0 = .ok (.aload_n 0, 1) := zo_42 (zkb zk_cX12_mode zn_cX12_mode (by decide +kernel))
theorem dX12_mode_1 : decode cX12_mode 1 = .ok (.iconst 0, 1) := zo_3 (zkb zk_cX12_mode zn_cX12_mode (by decide +kernel))
theorem dX12_mode_2 : decode cX12_mode 2 = .ok (.iconst 2, 1) := zo_5 (zkb zk_cX12_mode zn_cX12_mode (by decide +kernel))
theorem dX12_mode_3 : decode cX12_mode 3 = .ok (.invokevirtual 395, 3) := zo_182 (b1 := 1) (b2 := 139) (zkb3 zk_cX12_mode zn_cX12_mode (by decide +kernel)) rfl
theorem dX12_mode_6 : decode cX12_mode 6 = .ok (.iconst 1, 1) := zo_4 (zkb zk_cX12_mode zn_cX12_mode (by decide +kernel))
theorem dX12_mode_7 : decode cX12_mode 7 = .ok (.if_icmp .ne 7, 3) := zo_160 (b1 := 0) (b2 := 7) (zkb3 zk_cX12_mode zn_cX12_mode (by decide +kernel)) rfl
theorem dX12_mode_10 : decode cX12_mode 10 = .ok (.iconst 4, 1) := zo_7 (zkb zk_cX12_mode zn_cX12_mode (by decide +kernel))
theorem dX12_mode_11 : decode cX12_mode 11 = .ok (.goto 46, 3) := zo_167 (b1 := 0) (b2 := 46) (zkb3 zk_cX12_mode zn_cX12_mode (by decide +kernel)) rfl
theorem dX12_mode_14 : decode cX12_mode 14 = .ok (.aload_n 0, 1) := zo_42 (zkb zk_cX12_mode zn_cX12_mode (by decide +kernel))
theorem dX12_mode_15 : decode cX12_mode 15 = .ok (.iconst 1, 1) := zo_4 (zkb zk_cX12_mode zn_cX12_mode (by decide +kernel))
theorem dX12_mode_16 : decode cX12_mode 16 = .ok (.iconst 4, 1) := zo_7 (zkb zk_cX12_mode zn_cX12_mode (by decide +kernel))
theorem dX12_mode_17 : decode cX12_mode 17 = .ok (.invokevirtual 395, 3) := zo_182 (b1 := 1) (b2 := 139) (zkb3 zk_cX12_mode zn_cX12_mode (by decide +kernel)) rfl
theorem dX12_mode_20 : decode cX12_mode 20 = .ok (.iconst 1, 1) := zo_4 (zkb zk_cX12_mode zn_cX12_mode (by decide +kernel))
theorem dX12_mode_21 : decode cX12_mode 21 = .ok (.if_icmp .ne 7, 3) := zo_160 (b1 := 0) (b2 := 7) (zkb3 zk_cX12_mode zn_cX12_mode (by decide +kernel)) rfl
theorem dX12_mode_24 : decode cX12_mode 24 = .ok (.iconst 1, 1) := zo_4 (zkb zk_cX12_mode zn_cX12_mode (by decide +kernel))
theorem dX12_mode_25 : decode cX12_mode 25 = .ok (.goto 32, 3) := zo_167 (b1 := 0) (b2 := 32) (zkb3 zk_cX12_mode zn_cX12_mode (by decide +kernel)) rfl
theorem dX12_mode_28 : decode cX12_mode 28 = .ok (.aload_n 0, 1) := zo_42 (zkb zk_cX12_mode zn_cX12_mode (by decide +kernel))
theorem dX12_mode_29 : decode cX12_mode 29 = .ok (.iconst 1, 1) := zo_4 (zkb zk_cX12_mode zn_cX12_mode (by decide +kernel))
theorem dX12_mode_30 : decode cX12_mode 30 = .ok (.iconst 3, 1) := zo_6 (zkb zk_cX12_mode zn_cX12_mode (by decide +kernel))
theorem dX12_mode_31 : decode cX12_mode 31 = .ok (.invokevirtual 395, 3) := zo_182 (b1 := 1) (b2 := 139) (zkb3 zk_cX12_mode zn_cX12_mode (by decide +kernel)) rfl
theorem dX12_mode_34 : decode cX12_mode 34 = .ok (.iconst 1, 1) := zo_4 (zkb zk_cX12_mode zn_cX12_mode (by decide +kernel))
theorem dX12_mode_35 : decode cX12_mode 35 = .ok (.if_icmp .ne 7, 3) := zo_160 (b1 := 0) (b2 := 7) (zkb3 zk_cX12_mode zn_cX12_mode (by decide +kernel)) rfl
theorem dX12_mode_38 : decode cX12_mode 38 = .ok (.iconst 3, 1) := zo_6 (zkb zk_cX12_mode zn_cX12_mode (by decide +kernel))
theorem dX12_mode_39 : decode cX12_mode 39 = .ok (.goto 18, 3) := zo_167 (b1 := 0) (b2 := 18) (zkb3 zk_cX12_mode zn_cX12_mode (by decide +kernel)) rfl
theorem dX12_mode_42 : decode cX12_mode 42 = .ok (.aload_n 0, 1) := zo_42 (zkb zk_cX12_mode zn_cX12_mode (by decide +kernel))
theorem dX12_mode_43 : decode cX12_mode 43 = .ok (.iconst 0, 1) := zo_3 (zkb zk_cX12_mode zn_cX12_mode (by decide +kernel))
theorem dX12_mode_44 : decode cX12_mode 44 = .ok (.iconst 1, 1) := zo_4 (zkb zk_cX12_mode zn_cX12_mode (by decide +kernel))
theorem dX12_mode_45 : decode cX12_mode 45 = .ok (.invokevirtual 395, 3) := zo_182 (b1 := 1) (b2 := 139) (zkb3 zk_cX12_mode zn_cX12_mode (by decide +kernel)) rfl
theorem dX12_mode_48 : decode cX12_mode 48 = .ok (.iconst 1, 1) := zo_4 (zkb zk_cX12_mode zn_cX12_mode (by decide +kernel))
theorem dX12_mode_49 : decode cX12_mode 49 = .ok (.if_icmp .ne 7, 3) := zo_160 (b1 := 0) (b2 := 7) (zkb3 zk_cX12_mode zn_cX12_mode (by decide +kernel)) rfl
theorem dX12_mode_52 : decode cX12_mode 52 = .ok (.iconst 2, 1) := zo_5 (zkb zk_cX12_mode zn_cX12_mode (by decide +kernel))
theorem dX12_mode_53 : decode cX12_mode 53 = .ok (.goto 4, 3) := zo_167 (b1 := 0) (b2 := 4) (zkb3 zk_cX12_mode zn_cX12_mode (by decide +kernel)) rfl
theorem dX12_mode_56 : decode cX12_mode 56 = .ok (.iconst 0, 1) := zo_3 (zkb zk_cX12_mode zn_cX12_mode (by decide +kernel))
theorem dX12_mode_57 : decode cX12_mode 57 = .ok (.ireturn, 1) := zo_172 (zkb zk_cX12_mode zn_cX12_mode (by decide +kernel))
def kn_cX12_height : Nat := 0xacf000110600a7e000110900a0048b01b607042aacc000110700a08b01b606042a8b01b607042a1200998b01b604032a1b00a0078e01b62a
theorem zk_cX12_height : zkd cX12_height.data.toList kn_cX12_height = true := by decide +kernel
theorem zn_cX12_height : cX12_height.data.toList.length = 56 := by decide +kernel
theorem dX12_height_0 : decode cX12_height 0 = .ok (.aload_n 0, 1) := zo_42 (zkb zk_cX12_height zn_cX12_height (by decide +kernel))
theorem dX12_height_1 : decode cX12_height 1 = .ok (.invokevirtual 398, 3) := zo_182 (b1 := 1) (b2 := 142) (zkb3 zk_cX12_height zn_cX12_height (by decide +kernel)) rfl
theorem dX12_height_4 : decode cX12_height 4 = .ok (.iconst 4, 1) := zo_7 (zkb zk_cX12_height zn_cX12_height (by decide +kernel))
theorem dX12_height_5 : decode cX12_height 5 = .ok (.if_icmp .ne 27, 3) := zo_160 (b1 := 0) (b2 := 27) (zkb3 zk_cX12_height zn_cX12_height (by decide +kernel)) rfl
theorem dX12_height_8 : decode cX12_height 8 = .ok (.aload_n 0, 1) := zo_42 (zkb zk_cX12_height zn_cX12_height (by decide +kernel))
theorem dX12_height_9 : decode cX12_height 9 = .ok (.iconst 0, 1) := zo_3 (zkb zk_cX12_height zn_cX12_height (by decide +kernel))
theorem dX12_height_10 : decode cX12_height 10 = .ok (.iconst 1, 1) := zo_4 (zkb zk_cX12_height zn_cX12_height (by decide +kernel))
theorem dX12_height_11 : decode cX12_height 11 = .ok (.invokevirtual 395, 3) := zo_182 (b1 := 1) (b2 := 139) (zkb3 zk_cX12_height zn_cX12_height (by decide +kernel)) rfl
theorem dX12_height_14 : decode cX12_height 14 = .ok (.ifCond .eq 18, 3) := zo_153 (b1 := 0) (b2 := 18) (zkb3 zk_cX12_height zn_cX12_height (by decide +kernel)) rfl
theorem dX12_height_17 : decode cX12_height 17 = .ok (.aload_n 0, 1) := zo_42 (zkb zk_cX12_height zn_cX12_height (by decide +kernel))
theorem dX12_height_18 : decode cX12_height 18 = .ok (.iconst 1, 1) := zo_4 (zkb zk_cX12_height zn_cX12_height (by decide +kernel))
theorem dX12_height_19 : decode cX12_height 19 = .ok (.iconst 4, 1) := zo_7 (zkb zk_cX12_height zn_cX12_height (by decide +kernel))
theorem dX12_height_20 : decode cX12_height 20 = .ok (.invokevirtual 395, 3) := zo_182 (b1 := 1) (b2 := 139) (zkb3 zk_cX12_height zn_cX12_height (by decide +kernel)) rfl
theorem dX12_height_23 : decode cX12_height 23 = .ok (.aload_n 0, 1) := zo_42 (zkb zk_cX12_height zn_cX12_height (by decide +kernel))
theorem dX12_height_24 : decode cX12_height 24 = .ok (.iconst 1, 1) := zo_4 (zkb zk_cX12_height zn_cX12_height (by decide +kernel))
theorem dX12_height_25 : decode cX12_height 25 = .ok (.iconst 3, 1) := zo_6 (zkb zk_cX12_height zn_cX12_height (by decide +kernel))
theorem dX12_height_26 : decode cX12_height 26 = .ok (.invokevirtual 395, 3) := zo_182 (b1 := 1) (b2 := 139) (zkb3 zk_cX12_height zn_cX12_height (by decide +kernel)) rfl
theorem dX12_height_29 : decode cX12_height 29 = .ok (.if_icmp .ne 7, 3) := zo_160 (b1 := 0) (b2 := 7) (zkb3 zk_cX12_height zn_cX12_height (by decide +kernel)) rfl
theorem dX12_height_32 : decode cX12_height 32 = .ok (.sipush 192, 3) := zo_17 (b1 := 0) (b2 := 192) (zkb3 zk_cX12_height zn_cX12_height (by decide +kernel)) rfl
theorem dX12_height_35 : decode cX12_height 35 = .ok (.ireturn, 1) := zo_172 (zkb zk_cX12_height zn_cX12_height (by decide +kernel))
theorem dX12_height_36 : decode cX12_height 36 = .ok (.aload_n 0, 1) := zo_42 (zkb zk_cX12_height zn_cX12_height (by decide +kernel))
theorem dX12_height_37 : decode cX12_height 37 = .ok (.iconst 1, 1) := zo_4 (zkb zk_cX12_height zn_cX12_height (by decide +kernel))
theorem dX12_height_38 : decode cX12_height 38 = .ok (.iconst 4, 1) := zo_7 (zkb zk_cX12_height zn_cX12_height (by decide +kernel))
theorem dX12_height_39 : decode cX12_height 39 = .ok (.invokevirtual 395, 3) := zo_182 (b1 := 1) (b2 := 139) (zkb3 zk_cX12_height zn_cX12_height (by decide +kernel)) rfl
theorem dX12_height_42 : decode cX12_height 42 = .ok (.iconst 1, 1) := zo_4 (zkb zk_cX12_height zn_cX12_height (by decide +kernel))
theorem dX12_height_43 : decode cX12_height 43 = .ok (.if_icmp .ne 9, 3) := zo_160 (b1 := 0) (b2 := 9) (zkb3 zk_cX12_height zn_cX12_height (by decide +kernel)) rfl
theorem dX12_height_46 : decode cX12_height 46 = .ok (.sipush 224, 3) := zo_17 (b1 := 0) (b2 := 224) (zkb3 zk_cX12_height zn_cX12_height (by decide +kernel)) rfl
theorem dX12_height_49 : decode cX12_height 49 = .ok (.goto 6, 3) := zo_167 (b1 := 0) (b2 := 6) (zkb3 zk_cX12_height zn_cX12_height (by decide +kernel)) rfl
theorem dX12_height_52 : decode cX12_height 52 = .ok (.sipush 240, 3) := zo_17 (b1 := 0) (b2 := 240) (zkb3 zk_cX12_height zn_cX12_height (by decide +kernel)) rfl
theorem dX12_height_55 : decode cX12_height 55 = .ok (.ireturn, 1) := zo_172 (zkb zk_cX12_height zn_cX12_height (by decide +kernel))
def kn_cX12_video8 : Nat := 0xac7eff0011337eff3f111b2500b42a
theorem zk_cX12_video8 : zkd cX12_video8.data.toList kn_cX12_video8 = true := by decide +kernel
theorem zn_cX12_video8 : cX12_video8.data.toList.length = 15 := by decide +kernel
theorem dX12_video8_0 : decode cX12_video8 0 = .ok (.aload_n 0, 1) := zo_42 (zkb zk_cX12_video8 zn_cX12_video8 (by decide +kernel))
theorem dX12_video8_1 : decode cX12_video8 1 = .ok (.getfield 37, 3) := zo_180 (b1 := 0) (b2 := 37) (zkb3 zk_cX12_video8 zn_cX12_video8 (by decide +kernel)) rfl
theorem dX12_video8_4 : decode cX12_video8 4 = .ok (.iload_n 1, 1) := zo_27 (zkb zk_cX12_video8 zn_cX12_video8 (by decide +kernel))
theorem dX12_video8_5 : decode cX12_video8 5 = .ok (.sipush 16383, 3) := zo_17 (b1 := 63) (b2 := 255) (zkb3 zk_cX12_video8 zn_cX12_video8 (by decide +kernel)) rfl
theorem dX12_video8_8 : decode cX12_video8 8 = .ok (.iand, 1) := zo_126 (zkb zk_cX12_video8 zn_cX12_video8 (by decide +kernel))
theorem dX12_video8_9 : decode cX12_video8 9 = .ok (.baload, 1) := zo_51 (zkb zk_cX12_video8 zn_cX12_video8 (by decide +kernel))
theorem dX12_video8_10 : decode cX12_video8 10 = .ok (.sipush 255, 3) := zo_17 (b1 := 0) (b2 := 255) (zkb3 zk_cX12_video8 zn_cX12_video8 (by decide +kernel)) rfl
theorem dX12_video8_13 : decode cX12_video8 13 = .ok (.iand, 1) := zo_126 (zkb zk_cX12_video8 zn_cX12_video8 (by decide +kernel))
theorem dX12_video8_14 : decode cX12_video8 14 = .ok (.ireturn, 1) := zo_172 (zkb zk_cX12_video8 zn_cX12_video8 (by decide +kernel))
def kn_cX12_further : Nat := 0xb14f7eff3f1160042e3a101600b42a3a101600b42a
theorem zk_cX12_further : zkd cX12_further.data.toList kn_cX12_further = true := by decide +kernel
theorem zn_cX12_further : cX12_further.data.toList.length = 21 := by decide +kernel
theorem dX12_further_0 : decode cX12_further 0 = .ok (.aload_n 0, 1) := zo_42 (zkb zk_cX12_further zn_cX12_further (by decide +kernel))
theorem dX12_further_1 : decode cX12_further 1 = .ok (.getfield 22, 3) := zo_180 (b1 := 0) (b2 := 22) (zkb3 zk_cX12_further zn_cX12_further (by decide +kernel)) rfl
theorem dX12_further_4 : decode cX12_further 4 = .ok (.bipush 58, 2) := zo_16 (b1 := 58) (zkb2 zk_cX12_further zn_cX12_further (by decide +kernel)) rfl
theorem dX12_further_6 : decode cX12_further 6 = .ok (.aload_n 0, 1) := zo_42 (zkb zk_cX12_further zn_cX12_further (by decide +kernel))
theorem dX12_further_7 : decode cX12_further 7 = .ok (.getfield 22, 3) := zo_180 (b1 := 0) (b2 := 22) (zkb3 zk_cX12_further zn_cX12_further (by decide +kernel)) rfl
theorem dX12_further_10 : decode cX12_further 10 = .ok (.bipush 58, 2) := zo_16 (b1 := 58) (zkb2 zk_cX12_further zn_cX12_further (by decide +kernel)) rfl
theorem dX12_further_12 : decode cX12_further 12 = .ok (.iaload, 1) := zo_46 (zkb zk_cX12_further zn_cX12_further (by decide +kernel))
theorem dX12_further_13 : decode cX12_further 13 = .ok (.iconst 1, 1) := zo_4 (zkb zk_cX12_further zn_cX12_further (by decide +kernel))
theorem dX12_further_14 : decode cX12_further 14 = .ok (.iadd, 1) := zo_96 (zkb zk_cX12_further zn_cX12_further (by decide +kernel))
theorem dX12_further_15 : decode cX12_further 15 = .ok (.sipush 16383, 3) := zo_17 (b1 := 63) (b2 := 255) (zkb3 zk_cX12_further zn_cX12_further (by decide +kernel)) rfl
theorem dX12_further_18 : decode cX12_further 18 = .ok (.iand, 1) := zo_126 (zkb zk_cX12_further zn_cX12_further (by decide +kernel))
theorem dX12_further_19 : decode cX12_further 19 = .ok (.iastore, 1) := zo_79 (zkb zk_cX12_further zn_cX12_further (by decide +kernel))
theorem dX12_further_20 : decode cX12_further 20 = .ok (.return_, 1) := zo_177 (zkb zk_cX12_further zn_cX12_further (by decide +kernel))
def kn_cX12_control : Nat := 0xb14f7eff00112e3a101600b42a607010101b2f101600b42a1a00a20b107010101b2300a0052e3b101600b42a2e00a79401b62a4f9101b62e3a101600b42a2a3c101600b42a1c009a2e3b101600b42a4f7a06101b3b101600b42a4f807eff00112e3a101600b42a7808107e3f101b3a101600b42a4f033d101600b42ab14f043d101600b42a4f801b7e003f112e3a101600b42a3a101600b42a20009a2e3d101600b42a
theorem zk_cX12_control : zkd cX12_control.data.toList kn_cX12_control = true := by decide +kernel
theorem zn_cX12_control : cX12_control.data.toList.length = 163 := by decide +kernel
theorem dX12_control_0 : decode cX12_control 0 = .ok (.aload_n 0, 1) := zo_42 (zkb zk_cX12_control zn_cX12_control (by decide +kernel))
theorem dX12_control_1 : decode cX12_control 1 = .ok (.getfield 22, 3) := zo_180 (b1 := 0) (b2 := 22) (zkb3 zk_cX12_control zn_cX12_control (by decide +kernel)) rfl
theorem dX12_control_4 : decode cX12_control 4 = .ok (.bipush 61, 2) := zo_16 (b1 := 61) (zkb2 zk_cX12_control zn_cX12_control (by decide +kernel)) rfl
theorem dX12_control_6 : decode cX12_control 6 = .ok (.iaload, 1) := zo_46 (zkb zk_cX12_control zn_cX12_control (by decide +kernel))
theorem dX12_control_7 : decode cX12_control 7 = .ok (.ifCond .ne 32, 3) := zo_154 (b1 := 0) (b2 := 32) (zkb3 zk_cX12_control zn_cX12_control (by decide +kernel)) rfl
theorem dX12_control_10 : decode cX12_control 10 = .ok (.aload_n 0, 1) := zo_42 (zkb zk_cX12_control zn_cX12_control (by decide +kernel))
theorem dX12_control_11 : decode cX12_control 11 = .ok (.getfield 22, 3) := zo_180 (b1 := 0) (b2 := 22) (zkb3 zk_cX12_control zn_cX12_control (by decide +kernel)) rfl
theorem dX12_control_14 : decode cX12_control 14 = .ok (.bipush 58, 2) := zo_16 (b1 := 58) (zkb2 zk_cX12_control zn_cX12_control (by decide +kernel)) rfl
theorem dX12_control_16 : decode cX12_control 16 = .ok (.aload_n 0, 1) := zo_42 (zkb zk_cX12_control zn_cX12_control (by decide +kernel))
theorem dX12_control_17 : decode cX12_control 17 = .ok (.getfield 22, 3) := zo_180 (b1 := 0) (b2 := 22) (zkb3 zk_cX12_control zn_cX12_control (by decide +kernel)) rfl
theorem dX12_control_20 : decode cX12_control 20 = .ok (.bipush 58, 2) := zo_16 (b1 := 58) (zkb2 zk_cX12_control zn_cX12_control (by decide +kernel)) rfl
theorem dX12_control_22 : decode cX12_control 22 = .ok (.iaload, 1) := zo_46 (zkb zk_cX12_control zn_cX12_control (by decide +kernel))
theorem dX12_control_23 : decode cX12_control 23 = .ok (.sipush 16128, 3) := zo_17 (b1 := 63) (b2 := 0) (zkb3 zk_cX12_control zn_cX12_control (by decide +kernel)) rfl
theorem dX12_control_26 : decode cX12_control 26 = .ok (.iand, 1) := zo_126 (zkb zk_cX12_control zn_cX12_control (by decide +kernel))
theorem dX12_control_27 : decode cX12_control 27 = .ok (.iload_n 1, 1) := zo_27 (zkb zk_cX12_control zn_cX12_control (by decide +kernel))
theorem dX12_control_28 : decode cX12_control 28 = .ok (.ior, 1) := zo_128 (zkb zk_cX12_control zn_cX12_control (by decide +kernel))
theorem dX12_control_29 : decode cX12_control 29 = .ok (.iastore, 1) := zo_79 (zkb zk_cX12_control zn_cX12_control (by decide +kernel))
theorem dX12_control_30 : decode cX12_control 30 = .ok (.aload_n 0, 1) := zo_42 (zkb zk_cX12_control zn_cX12_control (by decide +kernel))
theorem dX12_control_31 : decode cX12_control 31 = .ok (.getfield 22, 3) := zo_180 (b1 := 0) (b2 := 22) (zkb3 zk_cX12_control zn_cX12_control (by decide +kernel)) rfl
theorem dX12_control_34 : decode cX12_control 34 = .ok (.bipush 61, 2) := zo_16 (b1 := 61) (zkb2 zk_cX12_control zn_cX12_control (by decide +kernel)) rfl
theorem dX12_control_36 : decode cX12_control 36 = .ok (.iconst 1, 1) := zo_4 (zkb zk_cX12_control zn_cX12_control (by decide +kernel))
theorem dX12_control_37 : decode cX12_control 37 = .ok (.iastore, 1) := zo_79 (zkb zk_cX12_control zn_cX12_control (by decide +kernel))
theorem dX12_control_38 : decode cX12_control 38 = .ok (.return_, 1) := zo_177 (zkb zk_cX12_control zn_cX12_control (by decide +kernel))
theorem dX12_control_39 : decode cX12_control 39 = .ok (.aload_n 0, 1) := zo_42 (zkb zk_cX12_control zn_cX12_control (by decide +kernel))
theorem dX12_control_40 : decode cX12_control 40 = .ok (.getfield 22, 3) := zo_180 (b1 := 0) (b2 := 22) (zkb3 zk_cX12_control zn_cX12_control (by decide +kernel)) rfl
theorem dX12_control_43 : decode cX12_control 43 = .ok (.bipush 61, 2) := zo_16 (b1 := 61) (zkb2 zk_cX12_control zn_cX12_control (by decide +kernel)) rfl
theorem dX12_control_45 : decode cX12_control 45 = .ok (.iconst 0, 1) := zo_3 (zkb zk_cX12_control zn_cX12_control (by decide +kernel))
theorem dX12_control_46 : decode cX12_control 46 = .ok (.iastore, 1) := zo_79 (zkb zk_cX12_control zn_cX12_control (by decide +kernel))
theorem dX12_control_47 : decode cX12_control 47 = .ok (.aload_n 0, 1) := zo_42 (zkb zk_cX12_control zn_cX12_control (by decide +kernel))
theorem dX12_control_48 : decode cX12_control 48 = .ok (.getfield 22, 3) := zo_180 (b1 := 0) (b2 := 22) (zkb3 zk_cX12_control zn_cX12_control (by decide +kernel)) rfl
theorem dX12_control_51 : decode cX12_control 51 = .ok (.bipush 58, 2) := zo_16 (b1 := 58) (zkb2 zk_cX12_control zn_cX12_control (by decide +kernel)) rfl
theorem dX12_control_53 : decode cX12_control 53 = .ok (.iload_n 1, 1) := zo_27 (zkb zk_cX12_control zn_cX12_control (by decide +kernel))
theorem dX12_control_54 : decode cX12_control 54 = .ok (.bipush 63, 2) := zo_16 (b1 := 63) (zkb2 zk_cX12_control zn_cX12_control (by decide +kernel)) rfl
theorem dX12_control_56 : decode cX12_control 56 = .ok (.iand, 1) := zo_126 (zkb zk_cX12_control zn_cX12_control (by decide +kernel))
theorem dX12_control_57 : decode cX12_control 57 = .ok (.bipush 8, 2) := zo_16 (b1 := 8) (zkb2 zk_cX12_control zn_cX12_control (by decide +kernel)) rfl
theorem dX12_control_59 : decode cX12_control 59 = .ok (.ishl, 1) := zo_120 (zkb zk_cX12_control zn_cX12_control (by decide +kernel))
theorem dX12_control_60 : decode cX12_control 60 = .ok (.aload_n 0, 1) := zo_42 (zkb zk_cX12_control zn_cX12_control (by decide +kernel))
theorem dX12_control_61 : decode cX12_control 61 = .ok (.getfield 22, 3) := zo_180 (b1 := 0) (b2 := 22) (zkb3 zk_cX12_control zn_cX12_control (by decide +kernel)) rfl
theorem dX12_control_64 : decode cX12_control 64 = .ok (.bipush 58, 2) := zo_16 (b1 := 58) (zkb2 zk_cX12_control zn_cX12_control (by decide +kernel)) rfl
theorem dX12_control_66 : decode cX12_control 66 = .ok (.iaload, 1) := zo_46 (zkb zk_cX12_control zn_cX12_control (by decide +kernel))
theorem dX12_control_67 : decode cX12_control 67 = .ok (.sipush 255, 3) := zo_17 (b1 := 0) (b2 := 255) (zkb3 zk_cX12_control zn_cX12_control (by decide +kernel)) rfl
theorem dX12_control_70 : decode cX12_control 70 = .ok (.iand, 1) := zo_126 (zkb zk_cX12_control zn_cX12_control (by decide +kernel))
theorem dX12_control_71 : decode cX12_control 71 = .ok (.ior, 1) := zo_128 (zkb zk_cX12_control zn_cX12_control (by decide +kernel))
theorem dX12_control_72 : decode cX12_control 72 = .ok (.iastore, 1) := zo_79 (zkb zk_cX12_control zn_cX12_control (by decide +kernel))
theorem dX12_control_73 : decode cX12_control 73 = .ok (.aload_n 0, 1) := zo_42 (zkb zk_cX12_control zn_cX12_control (by decide +kernel))
theorem dX12_control_74 : decode cX12_control 74 = .ok (.getfield 22, 3) := zo_180 (b1 := 0) (b2 := 22) (zkb3 zk_cX12_control zn_cX12_control (by decide +kernel)) rfl
theorem dX12_control_77 : decode cX12_control 77 = .ok (.bipush 59, 2) := zo_16 (b1 := 59) (zkb2 zk_cX12_control zn_cX12_control (by decide +kernel)) rfl
theorem dX12_control_79 : decode cX12_control 79 = .ok (.iload_n 1, 1) := zo_27 (zkb zk_cX12_control zn_cX12_control (by decide +kernel))
theorem dX12_control_80 : decode cX12_control 80 = .ok (.bipush 6, 2) := zo_16 (b1 := 6) (zkb2 zk_cX12_control zn_cX12_control (by decide +kernel)) rfl
theorem dX12_control_82 : decode cX12_control 82 = .ok (.ishr, 1) := zo_122 (zkb zk_cX12_control zn_cX12_control (by decide +kernel))
theorem dX12_control_83 : decode cX12_control 83 = .ok (.iastore, 1) := zo_79 (zkb zk_cX12_control zn_cX12_control (by decide +kernel))
theorem dX12_control_84 : decode cX12_control 84 = .ok (.aload_n 0, 1) := zo_42 (zkb zk_cX12_control zn_cX12_control (by decide +kernel))
theorem dX12_control_85 : decode cX12_control 85 = .ok (.getfield 22, 3) := zo_180 (b1 := 0) (b2 := 22) (zkb3 zk_cX12_control zn_cX12_control (by decide +kernel)) rfl
theorem dX12_control_88 : decode cX12_control 88 = .ok (.bipush 59, 2) := zo_16 (b1 := 59) (zkb2 zk_cX12_control zn_cX12_control (by decide +kernel)) rfl
theorem dX12_control_90 : decode cX12_control 90 = .ok (.iaload, 1) := zo_46 (zkb zk_cX12_control zn_cX12_control (by decide +kernel))
theorem dX12_control_91 : decode cX12_control 91 = .ok (.ifCond .ne 28, 3) := zo_154 (b1 := 0) (b2 := 28) (zkb3 zk_cX12_control zn_cX12_control (by decide +kernel)) rfl
theorem dX12_control_94 : decode cX12_control 94 = .ok (.aload_n 0, 1) := zo_42 (zkb zk_cX12_control zn_cX12_control (by decide +kernel))
theorem dX12_control_95 : decode cX12_control 95 = .ok (.getfield 22, 3) := zo_180 (b1 := 0) (b2 := 22) (zkb3 zk_cX12_control zn_cX12_control (by decide +kernel)) rfl
theorem dX12_control_98 : decode cX12_control 98 = .ok (.bipush 60, 2) := zo_16 (b1 := 60) (zkb2 zk_cX12_control zn_cX12_control (by decide +kernel)) rfl
theorem dX12_control_100 : decode cX12_control 100 = .ok (.aload_n 0, 1) := zo_42 (zkb zk_cX12_control zn_cX12_control (by decide +kernel))
theorem dX12_control_101 : decode cX12_control 101 = .ok (.aload_n 0, 1) := zo_42 (zkb zk_cX12_control zn_cX12_control (by decide +kernel))
theorem dX12_control_102 : decode cX12_control 102 = .ok (.getfield 22, 3) := zo_180 (b1 := 0) (b2 := 22) (zkb3 zk_cX12_control zn_cX12_control (by decide +kernel)) rfl
theorem dX12_control_105 : decode cX12_control 105 = .ok (.bipush 58, 2) := zo_16 (b1 := 58) (zkb2 zk_cX12_control zn_cX12_control (by decide +kernel)) rfl
theorem dX12_control_107 : decode cX12_control 107 = .ok (.iaload, 1) := zo_46 (zkb zk_cX12_control zn_cX12_control (by decide +kernel))
theorem dX12_control_108 : decode cX12_control 108 = .ok (.invokevirtual 401, 3) := zo_182 (b1 := 1) (b2 := 145) (zkb3 zk_cX12_control zn_cX12_control (by decide +kernel)) rfl
theorem dX12_control_111 : decode cX12_control 111 = .ok (.iastore, 1) := zo_79 (zkb zk_cX12_control zn_cX12_control (by decide +kernel))
theorem dX12_control_112 : decode cX12_control 112 = .ok (.aload_n 0, 1) := zo_42 (zkb zk_cX12_control zn_cX12_control (by decide +kernel))
theorem dX12_control_113 : decode cX12_control 113 = .ok (.invokevirtual 404, 3) := zo_182 (b1 := 1) (b2 := 148) (zkb3 zk_cX12_control zn_cX12_control (by decide +kernel)) rfl
theorem dX12_control_116 : decode cX12_control 116 = .ok (.goto 46, 3) := zo_167 (b1 := 0) (b2 := 46) (zkb3 zk_cX12_control zn_cX12_control (by decide +kernel)) rfl
theorem dX12_control_119 : decode cX12_control 119 = .ok (.aload_n 0, 1) := zo_42 (zkb zk_cX12_control zn_cX12_control (by decide +kernel))
theorem dX12_control_120 : decode cX12_control 120 = .ok (.getfield 22, 3) := zo_180 (b1 := 0) (b2 := 22) (zkb3 zk_cX12_control zn_cX12_control (by decide +kernel)) rfl
theorem dX12_control_123 : decode cX12_control 123 = .ok (.bipush 59, 2) := zo_16 (b1 := 59) (zkb2 zk_cX12_control zn_cX12_control (by decide +kernel)) rfl
theorem dX12_control_125 : decode cX12_control 125 = .ok (.iaload, 1) := zo_46 (zkb zk_cX12_control zn_cX12_control (by decide +kernel))
theorem dX12_control_126 : decode cX12_control 126 = .ok (.iconst 2, 1) := zo_5 (zkb zk_cX12_control zn_cX12_control (by decide +kernel))
theorem dX12_control_127 : decode cX12_control 127 = .ok (.if_icmp .ne 35, 3) := zo_160 (b1 := 0) (b2 := 35) (zkb3 zk_cX12_control zn_cX12_control (by decide +kernel)) rfl
theorem dX12_control_130 : decode cX12_control 130 = .ok (.iload_n 1, 1) := zo_27 (zkb zk_cX12_control zn_cX12_control (by decide +kernel))
theorem dX12_control_131 : decode cX12_control 131 = .ok (.bipush 16, 2) := zo_16 (b1 := 16) (zkb2 zk_cX12_control zn_cX12_control (by decide +kernel)) rfl
theorem dX12_control_133 : decode cX12_control 133 = .ok (.irem, 1) := zo_112 (zkb zk_cX12_control zn_cX12_control (by decide +kernel))
theorem dX12_control_134 : decode cX12_control 134 = .ok (.bipush 11, 2) := zo_16 (b1 := 11) (zkb2 zk_cX12_control zn_cX12_control (by decide +kernel)) rfl
theorem dX12_control_136 : decode cX12_control 136 = .ok (.if_icmp .ge 26, 3) := zo_162 (b1 := 0) (b2 := 26) (zkb3 zk_cX12_control zn_cX12_control (by decide +kernel)) rfl
theorem dX12_control_139 : decode cX12_control 139 = .ok (.aload_n 0, 1) := zo_42 (zkb zk_cX12_control zn_cX12_control (by decide +kernel))
theorem dX12_control_140 : decode cX12_control 140 = .ok (.getfield 22, 3) := zo_180 (b1 := 0) (b2 := 22) (zkb3 zk_cX12_control zn_cX12_control (by decide +kernel)) rfl
theorem dX12_control_143 : decode cX12_control 143 = .ok (.bipush 47, 2) := zo_16 (b1 := 47) (zkb2 zk_cX12_control zn_cX12_control (by decide +kernel)) rfl
theorem dX12_control_145 : decode cX12_control 145 = .ok (.iload_n 1, 1) := zo_27 (zkb zk_cX12_control zn_cX12_control (by decide +kernel))
theorem dX12_control_146 : decode cX12_control 146 = .ok (.bipush 16, 2) := zo_16 (b1 := 16) (zkb2 zk_cX12_control zn_cX12_control (by decide +kernel)) rfl
theorem dX12_control_148 : decode cX12_control 148 = .ok (.irem, 1) := zo_112 (zkb zk_cX12_control zn_cX12_control (by decide +kernel))
theorem dX12_control_149 : decode cX12_control 149 = .ok (.iadd, 1) := zo_96 (zkb zk_cX12_control zn_cX12_control (by decide +kernel))
theorem dX12_control_150 : decode cX12_control 150 = .ok (.aload_n 0, 1) := zo_42 (zkb zk_cX12_control zn_cX12_control (by decide +kernel))
theorem dX12_control_151 : decode cX12_control 151 = .ok (.getfield 22, 3) := zo_180 (b1 := 0) (b2 := 22) (zkb3 zk_cX12_control zn_cX12_control (by decide +kernel)) rfl
theorem dX12_control_154 : decode cX12_control 154 = .ok (.bipush 58, 2) := zo_16 (b1 := 58) (zkb2 zk_cX12_control zn_cX12_control (by decide +kernel)) rfl
theorem dX12_control_156 : decode cX12_control 156 = .ok (.iaload, 1) := zo_46 (zkb zk_cX12_control zn_cX12_control (by decide +kernel))
theorem dX12_control_157 : decode cX12_control 157 = .ok (.sipush 255, 3) := zo_17 (b1 := 0) (b2 := 255) (zkb3 zk_cX12_control zn_cX12_control (by decide +kernel)) rfl
theorem dX12_control_160 : decode cX12_control 160 = .ok (.iand, 1) := zo_126 (zkb zk_cX12_control zn_cX12_control (by decide +kernel))
theorem dX12_control_161 : decode cX12_control 161 = .ok (.iastore, 1) := zo_79 (zkb zk_cX12_control zn_cX12_control (by decide +kernel))
theorem dX12_control_162 : decode cX12_control 162 = .ok (.return_, 1) := zo_177 (zkb zk_cX12_control zn_cX12_control (by decide +kernel))
def kn_cX12_status : Nat := 0xac1b4f033f101600b42a4f033e101600b42a4f033d101600b42a3c2e3e101600b42a
theorem zk_cX12_status : zkd cX12_status.data.toList kn_cX12_status = true := by decide +kernel
theorem zn_cX12_status : cX12_status.data.toList.length = 34 := by decide +kernel
theorem dX12_status_0 : decode cX12_status 0 = .ok (.aload_n 0, 1) := zo_42 (zkb zk_cX12_status zn_cX12_status (by decide +kernel))
theorem dX12_status_1 : decode cX12_status 1 = .ok (.getfield 22, 3) := zo_180 (b1 := 0) (b2 := 22) (zkb3 zk_cX12_status zn_cX12_status (by decide +kernel)) rfl
theorem dX12_status_4 : decode cX12_status 4 = .ok (.bipush 62, 2) := zo_16 (b1 := 62) (zkb2 zk_cX12_status zn_cX12_status (by decide +kernel)) rfl
theorem dX12_status_6 : decode cX12_status 6 = .ok (.iaload, 1) := zo_46 (zkb zk_cX12_status zn_cX12_status (by decide +kernel))
theorem dX12_status_7 : decode cX12_status 7 = .ok (.istore_n 1, 1) := zo_60 (zkb zk_cX12_status zn_cX12_status (by decide +kernel))
theorem dX12_status_8 : decode cX12_status 8 = .ok (.aload_n 0, 1) := zo_42 (zkb zk_cX12_status zn_cX12_status (by decide +kernel))
theorem dX12_status_9 : decode cX12_status 9 = .ok (.getfield 22, 3) := zo_180 (b1 := 0) (b2 := 22) (zkb3 zk_cX12_status zn_cX12_status (by decide +kernel)) rfl
theorem dX12_status_12 : decode cX12_status 12 = .ok (.bipush 61, 2) := zo_16 (b1 := 61) (zkb2 zk_cX12_status zn_cX12_status (by decide +kernel)) rfl
theorem dX12_status_14 : decode cX12_status 14 = .ok (.iconst 0, 1) := zo_3 (zkb zk_cX12_status zn_cX12_status (by decide +kernel))
theorem dX12_status_15 : decode cX12_status 15 = .ok (.iastore, 1) := zo_79 (zkb zk_cX12_status zn_cX12_status (by decide +kernel))
theorem dX12_status_16 : decode cX12_status 16 = .ok (.aload_n 0, 1) := zo_42 (zkb zk_cX12_status zn_cX12_status (by decide +kernel))
theorem dX12_status_17 : decode cX12_status 17 = .ok (.getfield 22, 3) := zo_180 (b1 := 0) (b2 := 22) (zkb3 zk_cX12_status zn_cX12_status (by decide +kernel)) rfl
theorem dX12_status_20 : decode cX12_status 20 = .ok (.bipush 62, 2) := zo_16 (b1 := 62) (zkb2 zk_cX12_status zn_cX12_status (by decide +kernel)) rfl
theorem dX12_status_22 : decode cX12_status 22 = .ok (.iconst 0, 1) := zo_3 (zkb zk_cX12_status zn_cX12_status (by decide +kernel))
theorem dX12_status_23 : decode cX12_status 23 = .ok (.iastore, 1) := zo_79 (zkb zk_cX12_status zn_cX12_status (by decide +kernel))
theorem dX12_status_24 : decode cX12_status 24 = .ok (.aload_n 0, 1) := zo_42 (zkb zk_cX12_status zn_cX12_status (by decide +kernel))
theorem dX12_status_25 : decode cX12_status 25 = .ok (.getfield 22, 3) := zo_180 (b1 := 0) (b2 := 22) (zkb3 zk_cX12_status zn_cX12_status (by decide +kernel)) rfl
theorem dX12_status_28 : decode cX12_status 28 = .ok (.bipush 63, 2) := zo_16 (b1 := 63) (zkb2 zk_cX12_status zn_cX12_status (by decide +kernel)) rfl
theorem dX12_status_30 : decode cX12_status 30 = .ok (.iconst 0, 1) := zo_3 (zkb zk_cX12_status zn_cX12_status (by decide +kernel))
theorem dX12_status_31 : decode cX12_status 31 = .ok (.iastore, 1) := zo_79 (zkb zk_cX12_status zn_cX12_status (by decide +kernel))
theorem dX12_status_32 : decode cX12_status 32 = .ok (.iload_n 1, 1) := zo_27 (zkb zk_cX12_status zn_cX12_status (by decide +kernel))
theorem dX12_status_33 : decode cX12_status 33 = .ok (.ireturn, 1) := zo_172 (zkb zk_cX12_status zn_cX12_status (by decide +kernel))
def kn_cX12_data : Nat := 0xac1b9401b62a4f9101b62e3a101600b42a2a3c101600b42a4f033d101600b42a3c2e3c101600b42a
theorem zk_cX12_data : zkd cX12_data.data.toList kn_cX12_data = true := by decide +kernel
theorem zn_cX12_data : cX12_data.data.toList.length = 40 := by decide +kernel
theorem dX12_data_0 : decode cX12_data 0 = .ok (.aload_n 0, 1) := zo_42 (zkb zk_cX12_data zn_cX12_data (by decide +kernel))
theorem dX12_data_1 : decode cX12_data 1 = .ok (.getfield 22, 3) := zo_180 (b1 := 0) (b2 := 22) (zkb3 zk_cX12_data zn_cX12_data (by decide +kernel)) rfl
theorem dX12_data_4 : decode cX12_data 4 = .ok (.bipush 60, 2) := zo_16 (b1 := 60) (zkb2 zk_cX12_data zn_cX12_data (by decide +kernel)) rfl
theorem dX12_data_6 : decode cX12_data 6 = .ok (.iaload, 1) := zo_46 (zkb zk_cX12_data zn_cX12_data (by decide +kernel))
theorem dX12_data_7 : decode cX12_data 7 = .ok (.istore_n 1, 1) := zo_60 (zkb zk_cX12_data zn_cX12_data (by decide +kernel))
theorem dX12_data_8 : decode cX12_data 8 = .ok (.aload_n 0, 1) := zo_42 (zkb zk_cX12_data zn_cX12_data (by decide +kernel))
theorem dX12_data_9 : decode cX12_data 9 = .ok (.getfield 22, 3) := zo_180 (b1 := 0) (b2 := 22) (zkb3 zk_cX12_data zn_cX12_data (by decide +kernel)) rfl
theorem dX12_data_12 : decode cX12_data 12 = .ok (.bipush 61, 2) := zo_16 (b1 := 61) (zkb2 zk_cX12_data zn_cX12_data (by decide +kernel)) rfl
theorem dX12_data_14 : decode cX12_data 14 = .ok (.iconst 0, 1) := zo_3 (zkb zk_cX12_data zn_cX12_data (by decide +kernel))
theorem dX12_data_15 : decode cX12_data 15 = .ok (.iastore, 1) := zo_79 (zkb zk_cX12_data zn_cX12_data (by decide +kernel))
theorem dX12_data_16 : decode cX12_data 16 = .ok (.aload_n 0, 1) := zo_42 (zkb zk_cX12_data zn_cX12_data (by decide +kernel))
theorem dX12_data_17 : decode cX12_data 17 = .ok (.getfield 22, 3) := zo_180 (b1 := 0) (b2 := 22) (zkb3 zk_cX12_data zn_cX12_data (by decide +kernel)) rfl
theorem dX12_data_20 : decode cX12_data 20 = .ok (.bipush 60, 2) := zo_16 (b1 := 60) (zkb2 zk_cX12_data zn_cX12_data (by decide +kernel)) rfl
theorem dX12_data_22 : decode cX12_data 22 = .ok (.aload_n 0, 1) := zo_42 (zkb zk_cX12_data zn_cX12_data (by decide +kernel))
theorem dX12_data_23 : decode cX12_data 23 = .ok (.aload_n 0, 1) := zo_42 (zkb zk_cX12_data zn_cX12_data (by decide +kernel))
theorem dX12_data_24 : decode cX12_data 24 = .ok (.getfield 22, 3) := zo_180 (b1 := 0) (b2 := 22) (zkb3 zk_cX12_data zn_cX12_data (by decide +kernel)) rfl
theorem dX12_data_27 : decode cX12_data 27 = .ok (.bipush 58, 2) := zo_16 (b1 := 58) (zkb2 zk_cX12_data zn_cX12_data (by decide +kernel)) rfl
theorem dX12_data_29 : decode cX12_data 29 = .ok (.iaload, 1) := zo_46 (zkb zk_cX12_data zn_cX12_data (by decide +kernel))
theorem dX12_data_30 : decode cX12_data 30 = .ok (.invokevirtual 401, 3) := zo_182 (b1 := 1) (b2 := 145) (zkb3 zk_cX12_data zn_cX12_data (by decide +kernel)) rfl
theorem dX12_data_33 : decode cX12_data 33 = .ok (.iastore, 1) := zo_79 (zkb zk_cX12_data zn_cX12_data (by decide +kernel))
theorem dX12_data_34 : decode cX12_data 34 = .ok (.aload_n 0, 1) := zo_42 (zkb zk_cX12_data zn_cX12_data (by decide +kernel))
theorem dX12_data_35 : decode cX12_data 35 = .ok (.invokevirtual 404, 3) := zo_182 (b1 := 1) (b2 := 148) (zkb3 zk_cX12_data zn_cX12_data (by decide +kernel)) rfl
theorem dX12_data_38 : decode cX12_data 38 = .ok (.iload_n 1, 1) := zo_27 (zkb zk_cX12_data zn_cX12_data (by decide +kernel))
theorem dX12_data_39 : decode cX12_data 39 = .ok (.ireturn, 1) := zo_172 (zkb zk_cX12_data zn_cX12_data (by decide +kernel))
def kn_cX12_dataTo : Nat := 0xb19401b62a54911b7040101c2800b42a54912e44101600b42a64047040101c2800b42a2100a74f1b44101600b42a0e009a70051c3200a754911b7020101c2800b42a11009f056300b42a4800a754911b1c2500b42a0e009f062e3b101600b42a3d2e3a101600b42a4f1b3c101600b42a4f033d101600b42a
theorem zk_cX12_dataTo : zkd cX12_dataTo.data.toList kn_cX12_dataTo = true := by decide +kernel
theorem zn_cX12_dataTo : cX12_dataTo.data.toList.length = 120 := by decide +kernel
theorem dX12_dataTo_0 : decode cX12_dataTo 0 = .ok (.aload_n 0, 1) := zo_42 (zkb zk_cX12_dataTo zn_cX12_dataTo (by decide +kernel))
theorem dX12_dataTo_1 : decode cX12_dataTo 1 = .ok (.getfield 22, 3) := zo_180 (b1 := 0) (b2 := 22) (zkb3 zk_cX12_dataTo zn_cX12_dataTo (by decide +kernel)) rfl
theorem dX12_dataTo_4 : decode cX12_dataTo 4 = .ok (.bipush 61, 2) := zo_16 (b1 := 61) (zkb2 zk_cX12_dataTo zn_cX12_dataTo (by decide +kernel)) rfl
theorem dX12_dataTo_6 : decode cX12_dataTo 6 = .ok (.iconst 0, 1) := zo_3 (zkb zk_cX12_dataTo zn_cX12_dataTo (by decide +kernel))
theorem dX12_dataTo_7 : decode cX12_dataTo 7 = .ok (.iastore, 1) := zo_79 (zkb zk_cX12_dataTo zn_cX12_dataTo (by decide +kernel))
theorem dX12_dataTo_8 : decode cX12_dataTo 8 = .ok (.aload_n 0, 1) := zo_42 (zkb zk_cX12_dataTo zn_cX12_dataTo (by decide +kernel))
theorem dX12_dataTo_9 : decode cX12_dataTo 9 = .ok (.getfield 22, 3) := zo_180 (b1 := 0) (b2 := 22) (zkb3 zk_cX12_dataTo zn_cX12_dataTo (by decide +kernel)) rfl
theorem dX12_dataTo_12 : decode cX12_dataTo 12 = .ok (.bipush 60, 2) := zo_16 (b1 := 60) (zkb2 zk_cX12_dataTo zn_cX12_dataTo (by decide +kernel)) rfl
theorem dX12_dataTo_14 : decode cX12_dataTo 14 = .ok (.iload_n 1, 1) := zo_27 (zkb zk_cX12_dataTo zn_cX12_dataTo (by decide +kernel))
theorem dX12_dataTo_15 : decode cX12_dataTo 15 = .ok (.iastore, 1) := zo_79 (zkb zk_cX12_dataTo zn_cX12_dataTo (by decide +kernel))
theorem dX12_dataTo_16 : decode cX12_dataTo 16 = .ok (.aload_n 0, 1) := zo_42 (zkb zk_cX12_dataTo zn_cX12_dataTo (by decide +kernel))
theorem dX12_dataTo_17 : decode cX12_dataTo 17 = .ok (.getfield 22, 3) := zo_180 (b1 := 0) (b2 := 22) (zkb3 zk_cX12_dataTo zn_cX12_dataTo (by decide +kernel)) rfl
theorem dX12_dataTo_20 : decode cX12_dataTo 20 = .ok (.bipush 58, 2) := zo_16 (b1 := 58) (zkb2 zk_cX12_dataTo zn_cX12_dataTo (by decide +kernel)) rfl
theorem dX12_dataTo_22 : decode cX12_dataTo 22 = .ok (.iaload, 1) := zo_46 (zkb zk_cX12_dataTo zn_cX12_dataTo (by decide +kernel))
theorem dX12_dataTo_23 : decode cX12_dataTo 23 = .ok (.istore_n 2, 1) := zo_61 (zkb zk_cX12_dataTo zn_cX12_dataTo (by decide +kernel))
theorem dX12_dataTo_24 : decode cX12_dataTo 24 = .ok (.aload_n 0, 1) := zo_42 (zkb zk_cX12_dataTo zn_cX12_dataTo (by decide +kernel))
theorem dX12_dataTo_25 : decode cX12_dataTo 25 = .ok (.getfield 22, 3) := zo_180 (b1 := 0) (b2 := 22) (zkb3 zk_cX12_dataTo zn_cX12_dataTo (by decide +kernel)) rfl
theorem dX12_dataTo_28 : decode cX12_dataTo 28 = .ok (.bipush 59, 2) := zo_16 (b1 := 59) (zkb2 zk_cX12_dataTo zn_cX12_dataTo (by decide +kernel)) rfl
theorem dX12_dataTo_30 : decode cX12_dataTo 30 = .ok (.iaload, 1) := zo_46 (zkb zk_cX12_dataTo zn_cX12_dataTo (by decide +kernel))
theorem dX12_dataTo_31 : decode cX12_dataTo 31 = .ok (.iconst 3, 1) := zo_6 (zkb zk_cX12_dataTo zn_cX12_dataTo (by decide +kernel))
theorem dX12_dataTo_32 : decode cX12_dataTo 32 = .ok (.if_icmp .eq 14, 3) := zo_159 (b1 := 0) (b2 := 14) (zkb3 zk_cX12_dataTo zn_cX12_dataTo (by decide +kernel)) rfl
theorem dX12_dataTo_35 : decode cX12_dataTo 35 = .ok (.aload_n 0, 1) := zo_42 (zkb zk_cX12_dataTo zn_cX12_dataTo (by decide +kernel))
theorem dX12_dataTo_36 : decode cX12_dataTo 36 = .ok (.getfield 37, 3) := zo_180 (b1 := 0) (b2 := 37) (zkb3 zk_cX12_dataTo zn_cX12_dataTo (by decide +kernel)) rfl
theorem dX12_dataTo_39 : decode cX12_dataTo 39 = .ok (.iload_n 2, 1) := zo_28 (zkb zk_cX12_dataTo zn_cX12_dataTo (by decide +kernel))
theorem dX12_dataTo_40 : decode cX12_dataTo 40 = .ok (.iload_n 1, 1) := zo_27 (zkb zk_cX12_dataTo zn_cX12_dataTo (by decide +kernel))
theorem dX12_dataTo_41 : decode cX12_dataTo 41 = .ok (.i2b, 1) := zo_145 (zkb zk_cX12_dataTo zn_cX12_dataTo (by decide +kernel))
theorem dX12_dataTo_42 : decode cX12_dataTo 42 = .ok (.bastore, 1) := zo_84 (zkb zk_cX12_dataTo zn_cX12_dataTo (by decide +kernel))
theorem dX12_dataTo_43 : decode cX12_dataTo 43 = .ok (.goto 72, 3) := zo_167 (b1 := 0) (b2 := 72) (zkb3 zk_cX12_dataTo zn_cX12_dataTo (by decide +kernel)) rfl
theorem dX12_dataTo_46 : decode cX12_dataTo 46 = .ok (.aload_n 0, 1) := zo_42 (zkb zk_cX12_dataTo zn_cX12_dataTo (by decide +kernel))
theorem dX12_dataTo_47 : decode cX12_dataTo 47 = .ok (.getfield 99, 3) := zo_180 (b1 := 0) (b2 := 99) (zkb3 zk_cX12_dataTo zn_cX12_dataTo (by decide +kernel)) rfl
theorem dX12_dataTo_50 : decode cX12_dataTo 50 = .ok (.iconst 2, 1) := zo_5 (zkb zk_cX12_dataTo zn_cX12_dataTo (by decide +kernel))
theorem dX12_dataTo_51 : decode cX12_dataTo 51 = .ok (.if_icmp .eq 17, 3) := zo_159 (b1 := 0) (b2 := 17) (zkb3 zk_cX12_dataTo zn_cX12_dataTo (by decide +kernel)) rfl
theorem dX12_dataTo_54 : decode cX12_dataTo 54 = .ok (.aload_n 0, 1) := zo_42 (zkb zk_cX12_dataTo zn_cX12_dataTo (by decide +kernel))
theorem dX12_dataTo_55 : decode cX12_dataTo 55 = .ok (.getfield 40, 3) := zo_180 (b1 := 0) (b2 := 40) (zkb3 zk_cX12_dataTo zn_cX12_dataTo (by decide +kernel)) rfl
theorem dX12_dataTo_58 : decode cX12_dataTo 58 = .ok (.iload_n 2, 1) := zo_28 (zkb zk_cX12_dataTo zn_cX12_dataTo (by decide +kernel))
theorem dX12_dataTo_59 : decode cX12_dataTo 59 = .ok (.bipush 32, 2) := zo_16 (b1 := 32) (zkb2 zk_cX12_dataTo zn_cX12_dataTo (by decide +kernel)) rfl
theorem dX12_dataTo_61 : decode cX12_dataTo 61 = .ok (.irem, 1) := zo_112 (zkb zk_cX12_dataTo zn_cX12_dataTo (by decide +kernel))
theorem dX12_dataTo_62 : decode cX12_dataTo 62 = .ok (.iload_n 1, 1) := zo_27 (zkb zk_cX12_dataTo zn_cX12_dataTo (by decide +kernel))
theorem dX12_dataTo_63 : decode cX12_dataTo 63 = .ok (.i2b, 1) := zo_145 (zkb zk_cX12_dataTo zn_cX12_dataTo (by decide +kernel))
theorem dX12_dataTo_64 : decode cX12_dataTo 64 = .ok (.bastore, 1) := zo_84 (zkb zk_cX12_dataTo zn_cX12_dataTo (by decide +kernel))
theorem dX12_dataTo_65 : decode cX12_dataTo 65 = .ok (.goto 50, 3) := zo_167 (b1 := 0) (b2 := 50) (zkb3 zk_cX12_dataTo zn_cX12_dataTo (by decide +kernel)) rfl
theorem dX12_dataTo_68 : decode cX12_dataTo 68 = .ok (.iload_n 2, 1) := zo_28 (zkb zk_cX12_dataTo zn_cX12_dataTo (by decide +kernel))
theorem dX12_dataTo_69 : decode cX12_dataTo 69 = .ok (.iconst 2, 1) := zo_5 (zkb zk_cX12_dataTo zn_cX12_dataTo (by decide +kernel))
theorem dX12_dataTo_70 : decode cX12_dataTo 70 = .ok (.irem, 1) := zo_112 (zkb zk_cX12_dataTo zn_cX12_dataTo (by decide +kernel))
theorem dX12_dataTo_71 : decode cX12_dataTo 71 = .ok (.ifCond .ne 14, 3) := zo_154 (b1 := 0) (b2 := 14) (zkb3 zk_cX12_dataTo zn_cX12_dataTo (by decide +kernel)) rfl
theorem dX12_dataTo_74 : decode cX12_dataTo 74 = .ok (.aload_n 0, 1) := zo_42 (zkb zk_cX12_dataTo zn_cX12_dataTo (by decide +kernel))
theorem dX12_dataTo_75 : decode cX12_dataTo 75 = .ok (.getfield 22, 3) := zo_180 (b1 := 0) (b2 := 22) (zkb3 zk_cX12_dataTo zn_cX12_dataTo (by decide +kernel)) rfl
theorem dX12_dataTo_78 : decode cX12_dataTo 78 = .ok (.bipush 68, 2) := zo_16 (b1 := 68) (zkb2 zk_cX12_dataTo zn_cX12_dataTo (by decide +kernel)) rfl
theorem dX12_dataTo_80 : decode cX12_dataTo 80 = .ok (.iload_n 1, 1) := zo_27 (zkb zk_cX12_dataTo zn_cX12_dataTo (by decide +kernel))
theorem dX12_dataTo_81 : decode cX12_dataTo 81 = .ok (.iastore, 1) := zo_79 (zkb zk_cX12_dataTo zn_cX12_dataTo (by decide +kernel))
theorem dX12_dataTo_82 : decode cX12_dataTo 82 = .ok (.goto 33, 3) := zo_167 (b1 := 0) (b2 := 33) (zkb3 zk_cX12_dataTo zn_cX12_dataTo (by decide +kernel)) rfl
theorem dX12_dataTo_85 : decode cX12_dataTo 85 = .ok (.aload_n 0, 1) := zo_42 (zkb zk_cX12_dataTo zn_cX12_dataTo (by decide +kernel))
theorem dX12_dataTo_86 : decode cX12_dataTo 86 = .ok (.getfield 40, 3) := zo_180 (b1 := 0) (b2 := 40) (zkb3 zk_cX12_dataTo zn_cX12_dataTo (by decide +kernel)) rfl
theorem dX12_dataTo_89 : decode cX12_dataTo 89 = .ok (.iload_n 2, 1) := zo_28 (zkb zk_cX12_dataTo zn_cX12_dataTo (by decide +kernel))
theorem dX12_dataTo_90 : decode cX12_dataTo 90 = .ok (.bipush 64, 2) := zo_16 (b1 := 64) (zkb2 zk_cX12_dataTo zn_cX12_dataTo (by decide +kernel)) rfl
theorem dX12_dataTo_92 : decode cX12_dataTo 92 = .ok (.irem, 1) := zo_112 (zkb zk_cX12_dataTo zn_cX12_dataTo (by decide +kernel))
theorem dX12_dataTo_93 : decode cX12_dataTo 93 = .ok (.iconst 1, 1) := zo_4 (zkb zk_cX12_dataTo zn_cX12_dataTo (by decide +kernel))
theorem dX12_dataTo_94 : decode cX12_dataTo 94 = .ok (.isub, 1) := zo_100 (zkb zk_cX12_dataTo zn_cX12_dataTo (by decide +kernel))
theorem dX12_dataTo_95 : decode cX12_dataTo 95 = .ok (.aload_n 0, 1) := zo_42 (zkb zk_cX12_dataTo zn_cX12_dataTo (by decide +kernel))
theorem dX12_dataTo_96 : decode cX12_dataTo 96 = .ok (.getfield 22, 3) := zo_180 (b1 := 0) (b2 := 22) (zkb3 zk_cX12_dataTo zn_cX12_dataTo (by decide +kernel)) rfl
theorem dX12_dataTo_99 : decode cX12_dataTo 99 = .ok (.bipush 68, 2) := zo_16 (b1 := 68) (zkb2 zk_cX12_dataTo zn_cX12_dataTo (by decide +kernel)) rfl
theorem dX12_dataTo_101 : decode cX12_dataTo 101 = .ok (.iaload, 1) := zo_46 (zkb zk_cX12_dataTo zn_cX12_dataTo (by decide +kernel))
theorem dX12_dataTo_102 : decode cX12_dataTo 102 = .ok (.i2b, 1) := zo_145 (zkb zk_cX12_dataTo zn_cX12_dataTo (by decide +kernel))
theorem dX12_dataTo_103 : decode cX12_dataTo 103 = .ok (.bastore, 1) := zo_84 (zkb zk_cX12_dataTo zn_cX12_dataTo (by decide +kernel))
theorem dX12_dataTo_104 : decode cX12_dataTo 104 = .ok (.aload_n 0, 1) := zo_42 (zkb zk_cX12_dataTo zn_cX12_dataTo (by decide +kernel))
theorem dX12_dataTo_105 : decode cX12_dataTo 105 = .ok (.getfield 40, 3) := zo_180 (b1 := 0) (b2 := 40) (zkb3 zk_cX12_dataTo zn_cX12_dataTo (by decide +kernel)) rfl
theorem dX12_dataTo_108 : decode cX12_dataTo 108 = .ok (.iload_n 2, 1) := zo_28 (zkb zk_cX12_dataTo zn_cX12_dataTo (by decide +kernel))
theorem dX12_dataTo_109 : decode cX12_dataTo 109 = .ok (.bipush 64, 2) := zo_16 (b1 := 64) (zkb2 zk_cX12_dataTo zn_cX12_dataTo (by decide +kernel)) rfl
theorem dX12_dataTo_111 : decode cX12_dataTo 111 = .ok (.irem, 1) := zo_112 (zkb zk_cX12_dataTo zn_cX12_dataTo (by decide +kernel))
theorem dX12_dataTo_112 : decode cX12_dataTo 112 = .ok (.iload_n 1, 1) := zo_27 (zkb zk_cX12_dataTo zn_cX12_dataTo (by decide +kernel))
theorem dX12_dataTo_113 : decode cX12_dataTo 113 = .ok (.i2b, 1) := zo_145 (zkb zk_cX12_dataTo zn_cX12_dataTo (by decide +kernel))
theorem dX12_dataTo_114 : decode cX12_dataTo 114 = .ok (.bastore, 1) := zo_84 (zkb zk_cX12_dataTo zn_cX12_dataTo (by decide +kernel))
theorem dX12_dataTo_115 : decode cX12_dataTo 115 = .ok (.aload_n 0, 1) := zo_42 (zkb zk_cX12_dataTo zn_cX12_dataTo (by decide +kernel))
theorem dX12_dataTo_116 : decode cX12_dataTo 116 = .ok (.invokevirtual 404, 3) := zo_182 (b1 := 1) (b2 := 148) (zkb3 zk_cX12_dataTo zn_cX12_dataTo (by decide +kernel)) rfl
theorem dX12_dataTo_119 : decode cX12_dataTo 119 = .ok (.return_, 1) := zo_177 (zkb zk_cX12_dataTo zn_cX12_dataTo (by decide +kernel))
def kn_cX12_hCount : Nat := 0xac6055101b0700a71b0700a29400111b3c6c0768062e43101600b42a
theorem zk_cX12_hCount : zkd cX12_hCount.data.toList kn_cX12_hCount = true := by decide +kernel
theorem zn_cX12_hCount : cX12_hCount.data.toList.length = 28 := by decide +kernel
theorem dX12_hCount_0 : decode cX12_hCount 0 = .ok (.aload_n 0, 1) := zo_42 (zkb zk_cX12_hCount zn_cX12_hCount (by decide +kernel))
theorem dX12_hCount_1 : decode cX12_hCount 1 = .ok (.getfield 22, 3) := zo_180 (b1 := 0) (b2 := 22) (zkb3 zk_cX12_hCount zn_cX12_hCount (by decide +kernel)) rfl
theorem dX12_hCount_4 : decode cX12_hCount 4 = .ok (.bipush 67, 2) := zo_16 (b1 := 67) (zkb2 zk_cX12_hCount zn_cX12_hCount (by decide +kernel)) rfl
theorem dX12_hCount_6 : decode cX12_hCount 6 = .ok (.iaload, 1) := zo_46 (zkb zk_cX12_hCount zn_cX12_hCount (by decide +kernel))
theorem dX12_hCount_7 : decode cX12_hCount 7 = .ok (.iconst 3, 1) := zo_6 (zkb zk_cX12_hCount zn_cX12_hCount (by decide +kernel))
theorem dX12_hCount_8 : decode cX12_hCount 8 = .ok (.imul, 1) := zo_104 (zkb zk_cX12_hCount zn_cX12_hCount (by decide +kernel))
theorem dX12_hCount_9 : decode cX12_hCount 9 = .ok (.iconst 4, 1) := zo_7 (zkb zk_cX12_hCount zn_cX12_hCount (by decide +kernel))
theorem dX12_hCount_10 : decode cX12_hCount 10 = .ok (.idiv, 1) := zo_108 (zkb zk_cX12_hCount zn_cX12_hCount (by decide +kernel))
theorem dX12_hCount_11 : decode cX12_hCount 11 = .ok (.istore_n 1, 1) := zo_60 (zkb zk_cX12_hCount zn_cX12_hCount (by decide +kernel))
theorem dX12_hCount_12 : decode cX12_hCount 12 = .ok (.iload_n 1, 1) := zo_27 (zkb zk_cX12_hCount zn_cX12_hCount (by decide +kernel))
theorem dX12_hCount_13 : decode cX12_hCount 13 = .ok (.sipush 148, 3) := zo_17 (b1 := 0) (b2 := 148) (zkb3 zk_cX12_hCount zn_cX12_hCount (by decide +kernel)) rfl
theorem dX12_hCount_16 : decode cX12_hCount 16 = .ok (.if_icmp .ge 7, 3) := zo_162 (b1 := 0) (b2 := 7) (zkb3 zk_cX12_hCount zn_cX12_hCount (by decide +kernel)) rfl
theorem dX12_hCount_19 : decode cX12_hCount 19 = .ok (.iload_n 1, 1) := zo_27 (zkb zk_cX12_hCount zn_cX12_hCount (by decide +kernel))
theorem dX12_hCount_20 : decode cX12_hCount 20 = .ok (.goto 7, 3) := zo_167 (b1 := 0) (b2 := 7) (zkb3 zk_cX12_hCount zn_cX12_hCount (by decide +kernel)) rfl
theorem dX12_hCount_23 : decode cX12_hCount 23 = .ok (.iload_n 1, 1) := zo_27 (zkb zk_cX12_hCount zn_cX12_hCount (by decide +kernel))
theorem dX12_hCount_24 : decode cX12_hCount 24 = .ok (.bipush 85, 2) := zo_16 (b1 := 85) (zkb2 zk_cX12_hCount zn_cX12_hCount (by decide +kernel)) rfl
theorem dX12_hCount_26 : decode cX12_hCount 26 = .ok (.iadd, 1) := zo_96 (zkb zk_cX12_hCount zn_cX12_hCount (by decide +kernel))
theorem dX12_hCount_27 : decode cX12_hCount 27 = .ok (.ireturn, 1) := zo_172 (zkb zk_cX12_hCount zn_cX12_hCount (by decide +kernel))
def kn_cX12_vCount : Nat := 0xac7eff00116406100500a739100800a0046300b42a1b1400a71b0700a21d1b3ee803110600a7eb00110900a0e000111c1300a7db00110900a0c000111c2000a70b01112600a70301110900a0e000111c3300a7f300110900a0c000111c2300a0046300b42a3d9701b62a3c2e42101600b42a
theorem zk_cX12_vCount : zkd cX12_vCount.data.toList kn_cX12_vCount = true := by decide +kernel
theorem zn_cX12_vCount : cX12_vCount.data.toList.length = 114 := by decide +kernel
theorem dX12_vCount_0 : decode cX12_vCount 0 = .ok (.aload_n 0, 1) := zo_42 (zkb zk_cX12_vCount zn_cX12_vCount (by decide +kernel))
theorem dX12_vCount_1 : decode cX12_vCount 1 = .ok (.getfield 22, 3) := zo_180 (b1 := 0) (b2 := 22) (zkb3 zk_cX12_vCount zn_cX12_vCount (by decide +kernel)) rfl
theorem dX12_vCount_4 : decode cX12_vCount 4 = .ok (.bipush 66, 2) := zo_16 (b1 := 66) (zkb2 zk_cX12_vCount zn_cX12_vCount (by decide +kernel)) rfl
theorem dX12_vCount_6 : decode cX12_vCount 6 = .ok (.iaload, 1) := zo_46 (zkb zk_cX12_vCount zn_cX12_vCount (by decide +kernel))
theorem dX12_vCount_7 : decode cX12_vCount 7 = .ok (.istore_n 1, 1) := zo_60 (zkb zk_cX12_vCount zn_cX12_vCount (by decide +kernel))
theorem dX12_vCount_8 : decode cX12_vCount 8 = .ok (.aload_n 0, 1) := zo_42 (zkb zk_cX12_vCount zn_cX12_vCount (by decide +kernel))
theorem dX12_vCount_9 : decode cX12_vCount 9 = .ok (.invokevirtual 407, 3) := zo_182 (b1 := 1) (b2 := 151) (zkb3 zk_cX12_vCount zn_cX12_vCount (by decide +kernel)) rfl
theorem dX12_vCount_12 : decode cX12_vCount 12 = .ok (.istore_n 2, 1) := zo_61 (zkb zk_cX12_vCount zn_cX12_vCount (by decide +kernel))
theorem dX12_vCount_13 : decode cX12_vCount 13 = .ok (.aload_n 0, 1) := zo_42 (zkb zk_cX12_vCount zn_cX12_vCount (by decide +kernel))
theorem dX12_vCount_14 : decode cX12_vCount 14 = .ok (.getfield 99, 3) := zo_180 (b1 := 0) (b2 := 99) (zkb3 zk_cX12_vCount zn_cX12_vCount (by decide +kernel)) rfl
theorem dX12_vCount_17 : decode cX12_vCount 17 = .ok (.iconst 1, 1) := zo_4 (zkb zk_cX12_vCount zn_cX12_vCount (by decide +kernel))
theorem dX12_vCount_18 : decode cX12_vCount 18 = .ok (.if_icmp .ne 35, 3) := zo_160 (b1 := 0) (b2 := 35) (zkb3 zk_cX12_vCount zn_cX12_vCount (by decide +kernel)) rfl
theorem dX12_vCount_21 : decode cX12_vCount 21 = .ok (.iload_n 2, 1) := zo_28 (zkb zk_cX12_vCount zn_cX12_vCount (by decide +kernel))
theorem dX12_vCount_22 : decode cX12_vCount 22 = .ok (.sipush 192, 3) := zo_17 (b1 := 0) (b2 := 192) (zkb3 zk_cX12_vCount zn_cX12_vCount (by decide +kernel)) rfl
theorem dX12_vCount_25 : decode cX12_vCount 25 = .ok (.if_icmp .ne 9, 3) := zo_160 (b1 := 0) (b2 := 9) (zkb3 zk_cX12_vCount zn_cX12_vCount (by decide +kernel)) rfl
theorem dX12_vCount_28 : decode cX12_vCount 28 = .ok (.sipush 243, 3) := zo_17 (b1 := 0) (b2 := 243) (zkb3 zk_cX12_vCount zn_cX12_vCount (by decide +kernel)) rfl
theorem dX12_vCount_31 : decode cX12_vCount 31 = .ok (.goto 51, 3) := zo_167 (b1 := 0) (b2 := 51) (zkb3 zk_cX12_vCount zn_cX12_vCount (by decide +kernel)) rfl
theorem dX12_vCount_34 : decode cX12_vCount 34 = .ok (.iload_n 2, 1) := zo_28 (zkb zk_cX12_vCount zn_cX12_vCount (by decide +kernel))
theorem dX12_vCount_35 : decode cX12_vCount 35 = .ok (.sipush 224, 3) := zo_17 (b1 := 0) (b2 := 224) (zkb3 zk_cX12_vCount zn_cX12_vCount (by decide +kernel)) rfl
theorem dX12_vCount_38 : decode cX12_vCount 38 = .ok (.if_icmp .ne 9, 3) := zo_160 (b1 := 0) (b2 := 9) (zkb3 zk_cX12_vCount zn_cX12_vCount (by decide +kernel)) rfl
theorem dX12_vCount_41 : decode cX12_vCount 41 = .ok (.sipush 259, 3) := zo_17 (b1 := 1) (b2 := 3) (zkb3 zk_cX12_vCount zn_cX12_vCount (by decide +kernel)) rfl
theorem dX12_vCount_44 : decode cX12_vCount 44 = .ok (.goto 38, 3) := zo_167 (b1 := 0) (b2 := 38) (zkb3 zk_cX12_vCount zn_cX12_vCount (by decide +kernel)) rfl
theorem dX12_vCount_47 : decode cX12_vCount 47 = .ok (.sipush 267, 3) := zo_17 (b1 := 1) (b2 := 11) (zkb3 zk_cX12_vCount zn_cX12_vCount (by decide +kernel)) rfl
theorem dX12_vCount_50 : decode cX12_vCount 50 = .ok (.goto 32, 3) := zo_167 (b1 := 0) (b2 := 32) (zkb3 zk_cX12_vCount zn_cX12_vCount (by decide +kernel)) rfl
theorem dX12_vCount_53 : decode cX12_vCount 53 = .ok (.iload_n 2, 1) := zo_28 (zkb zk_cX12_vCount zn_cX12_vCount (by decide +kernel))
theorem dX12_vCount_54 : decode cX12_vCount 54 = .ok (.sipush 192, 3) := zo_17 (b1 := 0) (b2 := 192) (zkb3 zk_cX12_vCount zn_cX12_vCount (by decide +kernel)) rfl
theorem dX12_vCount_57 : decode cX12_vCount 57 = .ok (.if_icmp .ne 9, 3) := zo_160 (b1 := 0) (b2 := 9) (zkb3 zk_cX12_vCount zn_cX12_vCount (by decide +kernel)) rfl
theorem dX12_vCount_60 : decode cX12_vCount 60 = .ok (.sipush 219, 3) := zo_17 (b1 := 0) (b2 := 219) (zkb3 zk_cX12_vCount zn_cX12_vCount (by decide +kernel)) rfl
theorem dX12_vCount_63 : decode cX12_vCount 63 = .ok (.goto 19, 3) := zo_167 (b1 := 0) (b2 := 19) (zkb3 zk_cX12_vCount zn_cX12_vCount (by decide +kernel)) rfl
theorem dX12_vCount_66 : decode cX12_vCount 66 = .ok (.iload_n 2, 1) := zo_28 (zkb zk_cX12_vCount zn_cX12_vCount (by decide +kernel))
theorem dX12_vCount_67 : decode cX12_vCount 67 = .ok (.sipush 224, 3) := zo_17 (b1 := 0) (b2 := 224) (zkb3 zk_cX12_vCount zn_cX12_vCount (by decide +kernel)) rfl
theorem dX12_vCount_70 : decode cX12_vCount 70 = .ok (.if_icmp .ne 9, 3) := zo_160 (b1 := 0) (b2 := 9) (zkb3 zk_cX12_vCount zn_cX12_vCount (by decide +kernel)) rfl
theorem dX12_vCount_73 : decode cX12_vCount 73 = .ok (.sipush 235, 3) := zo_17 (b1 := 0) (b2 := 235) (zkb3 zk_cX12_vCount zn_cX12_vCount (by decide +kernel)) rfl
theorem dX12_vCount_76 : decode cX12_vCount 76 = .ok (.goto 6, 3) := zo_167 (b1 := 0) (b2 := 6) (zkb3 zk_cX12_vCount zn_cX12_vCount (by decide +kernel)) rfl
theorem dX12_vCount_79 : decode cX12_vCount 79 = .ok (.sipush 1000, 3) := zo_17 (b1 := 3) (b2 := 232) (zkb3 zk_cX12_vCount zn_cX12_vCount (by decide +kernel)) rfl
theorem dX12_vCount_82 : decode cX12_vCount 82 = .ok (.istore_n 3, 1) := zo_62 (zkb zk_cX12_vCount zn_cX12_vCount (by decide +kernel))
theorem dX12_vCount_83 : decode cX12_vCount 83 = .ok (.iload_n 1, 1) := zo_27 (zkb zk_cX12_vCount zn_cX12_vCount (by decide +kernel))
theorem dX12_vCount_84 : decode cX12_vCount 84 = .ok (.iload_n 3, 1) := zo_29 (zkb zk_cX12_vCount zn_cX12_vCount (by decide +kernel))
theorem dX12_vCount_85 : decode cX12_vCount 85 = .ok (.if_icmp .ge 7, 3) := zo_162 (b1 := 0) (b2 := 7) (zkb3 zk_cX12_vCount zn_cX12_vCount (by decide +kernel)) rfl
theorem dX12_vCount_88 : decode cX12_vCount 88 = .ok (.iload_n 1, 1) := zo_27 (zkb zk_cX12_vCount zn_cX12_vCount (by decide +kernel))
theorem dX12_vCount_89 : decode cX12_vCount 89 = .ok (.goto 20, 3) := zo_167 (b1 := 0) (b2 := 20) (zkb3 zk_cX12_vCount zn_cX12_vCount (by decide +kernel)) rfl
theorem dX12_vCount_92 : decode cX12_vCount 92 = .ok (.iload_n 1, 1) := zo_27 (zkb zk_cX12_vCount zn_cX12_vCount (by decide +kernel))
theorem dX12_vCount_93 : decode cX12_vCount 93 = .ok (.aload_n 0, 1) := zo_42 (zkb zk_cX12_vCount zn_cX12_vCount (by decide +kernel))
theorem dX12_vCount_94 : decode cX12_vCount 94 = .ok (.getfield 99, 3) := zo_180 (b1 := 0) (b2 := 99) (zkb3 zk_cX12_vCount zn_cX12_vCount (by decide +kernel)) rfl
theorem dX12_vCount_97 : decode cX12_vCount 97 = .ok (.iconst 1, 1) := zo_4 (zkb zk_cX12_vCount zn_cX12_vCount (by decide +kernel))
theorem dX12_vCount_98 : decode cX12_vCount 98 = .ok (.if_icmp .ne 8, 3) := zo_160 (b1 := 0) (b2 := 8) (zkb3 zk_cX12_vCount zn_cX12_vCount (by decide +kernel)) rfl
theorem dX12_vCount_101 : decode cX12_vCount 101 = .ok (.bipush 57, 2) := zo_16 (b1 := 57) (zkb2 zk_cX12_vCount zn_cX12_vCount (by decide +kernel)) rfl
theorem dX12_vCount_103 : decode cX12_vCount 103 = .ok (.goto 5, 3) := zo_167 (b1 := 0) (b2 := 5) (zkb3 zk_cX12_vCount zn_cX12_vCount (by decide +kernel)) rfl
theorem dX12_vCount_106 : decode cX12_vCount 106 = .ok (.bipush 6, 2) := zo_16 (b1 := 6) (zkb2 zk_cX12_vCount zn_cX12_vCount (by decide +kernel)) rfl
theorem dX12_vCount_108 : decode cX12_vCount 108 = .ok (.isub, 1) := zo_100 (zkb zk_cX12_vCount zn_cX12_vCount (by decide +kernel))
theorem dX12_vCount_109 : decode cX12_vCount 109 = .ok (.sipush 255, 3) := zo_17 (b1 := 0) (b2 := 255) (zkb3 zk_cX12_vCount zn_cX12_vCount (by decide +kernel)) rfl
theorem dX12_vCount_112 : decode cX12_vCount 112 = .ok (.iand, 1) := zo_126 (zkb zk_cX12_vCount zn_cX12_vCount (by decide +kernel))
theorem dX12_vCount_113 : decode cX12_vCount 113 = .ok (.ireturn, 1) := zo_172 (zkb zk_cX12_vCount zn_cX12_vCount (by decide +kernel))
def kn_cX12_noise : Nat := 0xb14f8078077e3f101b7e0f102e601c45101600b42a1600a7807e0f101b7ef003112e601c45101600b42a1800a47f101b601c45101600b42a3a00a74f211255101600b42a4f7e07101b52101600b42a1a00a0061c5600a74f7e0f101b601c4e101600b42a1300a00470052e56101600b42a3d6c052e56101600b42a4f7e07107a071b56101600b42a1000a47f101b
theorem zk_cX12_noise : zkd cX12_noise.data.toList kn_cX12_noise = true := by decide +kernel
theorem zn_cX12_noise : cX12_noise.data.toList.length = 142 := by decide +kernel
theorem dX12_noise_0 : decode cX12_noise 0 = .ok (.iload_n 1, 1) := zo_27 (zkb zk_cX12_noise zn_cX12_noise (by decide +kernel))
theorem dX12_noise_1 : decode cX12_noise 1 = .ok (.bipush 127, 2) := zo_16 (b1 := 127) (zkb2 zk_cX12_noise zn_cX12_noise (by decide +kernel)) rfl
theorem dX12_noise_3 : decode cX12_noise 3 = .ok (.if_icmp .le 16, 3) := zo_164 (b1 := 0) (b2 := 16) (zkb3 zk_cX12_noise zn_cX12_noise (by decide +kernel)) rfl
theorem dX12_noise_6 : decode cX12_noise 6 = .ok (.aload_n 0, 1) := zo_42 (zkb zk_cX12_noise zn_cX12_noise (by decide +kernel))
theorem dX12_noise_7 : decode cX12_noise 7 = .ok (.getfield 22, 3) := zo_180 (b1 := 0) (b2 := 22) (zkb3 zk_cX12_noise zn_cX12_noise (by decide +kernel)) rfl
theorem dX12_noise_10 : decode cX12_noise 10 = .ok (.bipush 86, 2) := zo_16 (b1 := 86) (zkb2 zk_cX12_noise zn_cX12_noise (by decide +kernel)) rfl
theorem dX12_noise_12 : decode cX12_noise 12 = .ok (.iload_n 1, 1) := zo_27 (zkb zk_cX12_noise zn_cX12_noise (by decide +kernel))
theorem dX12_noise_13 : decode cX12_noise 13 = .ok (.iconst 4, 1) := zo_7 (zkb zk_cX12_noise zn_cX12_noise (by decide +kernel))
theorem dX12_noise_14 : decode cX12_noise 14 = .ok (.ishr, 1) := zo_122 (zkb zk_cX12_noise zn_cX12_noise (by decide +kernel))
theorem dX12_noise_15 : decode cX12_noise 15 = .ok (.bipush 7, 2) := zo_16 (b1 := 7) (zkb2 zk_cX12_noise zn_cX12_noise (by decide +kernel)) rfl
theorem dX12_noise_17 : decode cX12_noise 17 = .ok (.iand, 1) := zo_126 (zkb zk_cX12_noise zn_cX12_noise (by decide +kernel))
theorem dX12_noise_18 : decode cX12_noise 18 = .ok (.iastore, 1) := zo_79 (zkb zk_cX12_noise zn_cX12_noise (by decide +kernel))
theorem dX12_noise_19 : decode cX12_noise 19 = .ok (.aload_n 0, 1) := zo_42 (zkb zk_cX12_noise zn_cX12_noise (by decide +kernel))
theorem dX12_noise_20 : decode cX12_noise 20 = .ok (.getfield 22, 3) := zo_180 (b1 := 0) (b2 := 22) (zkb3 zk_cX12_noise zn_cX12_noise (by decide +kernel)) rfl
theorem dX12_noise_23 : decode cX12_noise 23 = .ok (.bipush 86, 2) := zo_16 (b1 := 86) (zkb2 zk_cX12_noise zn_cX12_noise (by decide +kernel)) rfl
theorem dX12_noise_25 : decode cX12_noise 25 = .ok (.iaload, 1) := zo_46 (zkb zk_cX12_noise zn_cX12_noise (by decide +kernel))
theorem dX12_noise_26 : decode cX12_noise 26 = .ok (.iconst 2, 1) := zo_5 (zkb zk_cX12_noise zn_cX12_noise (by decide +kernel))
theorem dX12_noise_27 : decode cX12_noise 27 = .ok (.idiv, 1) := zo_108 (zkb zk_cX12_noise zn_cX12_noise (by decide +kernel))
theorem dX12_noise_28 : decode cX12_noise 28 = .ok (.istore_n 2, 1) := zo_61 (zkb zk_cX12_noise zn_cX12_noise (by decide +kernel))
theorem dX12_noise_29 : decode cX12_noise 29 = .ok (.aload_n 0, 1) := zo_42 (zkb zk_cX12_noise zn_cX12_noise (by decide +kernel))
theorem dX12_noise_30 : decode cX12_noise 30 = .ok (.getfield 22, 3) := zo_180 (b1 := 0) (b2 := 22) (zkb3 zk_cX12_noise zn_cX12_noise (by decide +kernel)) rfl
theorem dX12_noise_33 : decode cX12_noise 33 = .ok (.bipush 86, 2) := zo_16 (b1 := 86) (zkb2 zk_cX12_noise zn_cX12_noise (by decide +kernel)) rfl
theorem dX12_noise_35 : decode cX12_noise 35 = .ok (.iaload, 1) := zo_46 (zkb zk_cX12_noise zn_cX12_noise (by decide +kernel))
theorem dX12_noise_36 : decode cX12_noise 36 = .ok (.iconst 2, 1) := zo_5 (zkb zk_cX12_noise zn_cX12_noise (by decide +kernel))
theorem dX12_noise_37 : decode cX12_noise 37 = .ok (.irem, 1) := zo_112 (zkb zk_cX12_noise zn_cX12_noise (by decide +kernel))
theorem dX12_noise_38 : decode cX12_noise 38 = .ok (.iconst 1, 1) := zo_4 (zkb zk_cX12_noise zn_cX12_noise (by decide +kernel))
theorem dX12_noise_39 : decode cX12_noise 39 = .ok (.if_icmp .ne 19, 3) := zo_160 (b1 := 0) (b2 := 19) (zkb3 zk_cX12_noise zn_cX12_noise (by decide +kernel)) rfl
theorem dX12_noise_42 : decode cX12_noise 42 = .ok (.aload_n 0, 1) := zo_42 (zkb zk_cX12_noise zn_cX12_noise (by decide +kernel))
theorem dX12_noise_43 : decode cX12_noise 43 = .ok (.getfield 22, 3) := zo_180 (b1 := 0) (b2 := 22) (zkb3 zk_cX12_noise zn_cX12_noise (by decide +kernel)) rfl
theorem dX12_noise_46 : decode cX12_noise 46 = .ok (.bipush 78, 2) := zo_16 (b1 := 78) (zkb2 zk_cX12_noise zn_cX12_noise (by decide +kernel)) rfl
theorem dX12_noise_48 : decode cX12_noise 48 = .ok (.iload_n 2, 1) := zo_28 (zkb zk_cX12_noise zn_cX12_noise (by decide +kernel))
theorem dX12_noise_49 : decode cX12_noise 49 = .ok (.iadd, 1) := zo_96 (zkb zk_cX12_noise zn_cX12_noise (by decide +kernel))
theorem dX12_noise_50 : decode cX12_noise 50 = .ok (.iload_n 1, 1) := zo_27 (zkb zk_cX12_noise zn_cX12_noise (by decide +kernel))
theorem dX12_noise_51 : decode cX12_noise 51 = .ok (.bipush 15, 2) := zo_16 (b1 := 15) (zkb2 zk_cX12_noise zn_cX12_noise (by decide +kernel)) rfl
theorem dX12_noise_53 : decode cX12_noise 53 = .ok (.iand, 1) := zo_126 (zkb zk_cX12_noise zn_cX12_noise (by decide +kernel))
theorem dX12_noise_54 : decode cX12_noise 54 = .ok (.iastore, 1) := zo_79 (zkb zk_cX12_noise zn_cX12_noise (by decide +kernel))
theorem dX12_noise_55 : decode cX12_noise 55 = .ok (.goto 86, 3) := zo_167 (b1 := 0) (b2 := 86) (zkb3 zk_cX12_noise zn_cX12_noise (by decide +kernel)) rfl
theorem dX12_noise_58 : decode cX12_noise 58 = .ok (.iload_n 2, 1) := zo_28 (zkb zk_cX12_noise zn_cX12_noise (by decide +kernel))
theorem dX12_noise_59 : decode cX12_noise 59 = .ok (.iconst 3, 1) := zo_6 (zkb zk_cX12_noise zn_cX12_noise (by decide +kernel))
theorem dX12_noise_60 : decode cX12_noise 60 = .ok (.if_icmp .ne 26, 3) := zo_160 (b1 := 0) (b2 := 26) (zkb3 zk_cX12_noise zn_cX12_noise (by decide +kernel)) rfl
theorem dX12_noise_63 : decode cX12_noise 63 = .ok (.aload_n 0, 1) := zo_42 (zkb zk_cX12_noise zn_cX12_noise (by decide +kernel))
theorem dX12_noise_64 : decode cX12_noise 64 = .ok (.getfield 22, 3) := zo_180 (b1 := 0) (b2 := 22) (zkb3 zk_cX12_noise zn_cX12_noise (by decide +kernel)) rfl
theorem dX12_noise_67 : decode cX12_noise 67 = .ok (.bipush 82, 2) := zo_16 (b1 := 82) (zkb2 zk_cX12_noise zn_cX12_noise (by decide +kernel)) rfl
theorem dX12_noise_69 : decode cX12_noise 69 = .ok (.iload_n 1, 1) := zo_27 (zkb zk_cX12_noise zn_cX12_noise (by decide +kernel))
theorem dX12_noise_70 : decode cX12_noise 70 = .ok (.bipush 7, 2) := zo_16 (b1 := 7) (zkb2 zk_cX12_noise zn_cX12_noise (by decide +kernel)) rfl
theorem dX12_noise_72 : decode cX12_noise 72 = .ok (.iand, 1) := zo_126 (zkb zk_cX12_noise zn_cX12_noise (by decide +kernel))
theorem dX12_noise_73 : decode cX12_noise 73 = .ok (.iastore, 1) := zo_79 (zkb zk_cX12_noise zn_cX12_noise (by decide +kernel))
theorem dX12_noise_74 : decode cX12_noise 74 = .ok (.aload_n 0, 1) := zo_42 (zkb zk_cX12_noise zn_cX12_noise (by decide +kernel))
theorem dX12_noise_75 : decode cX12_noise 75 = .ok (.getfield 22, 3) := zo_180 (b1 := 0) (b2 := 22) (zkb3 zk_cX12_noise zn_cX12_noise (by decide +kernel)) rfl
theorem dX12_noise_78 : decode cX12_noise 78 = .ok (.bipush 85, 2) := zo_16 (b1 := 85) (zkb2 zk_cX12_noise zn_cX12_noise (by decide +kernel)) rfl
theorem dX12_noise_80 : decode cX12_noise 80 = .ok (.ldc 33, 2) := zo_18 (b1 := 33) (zkb2 zk_cX12_noise zn_cX12_noise (by decide +kernel))
theorem dX12_noise_82 : decode cX12_noise 82 = .ok (.iastore, 1) := zo_79 (zkb zk_cX12_noise zn_cX12_noise (by decide +kernel))
theorem dX12_noise_83 : decode cX12_noise 83 = .ok (.goto 58, 3) := zo_167 (b1 := 0) (b2 := 58) (zkb3 zk_cX12_noise zn_cX12_noise (by decide +kernel)) rfl
theorem dX12_noise_86 : decode cX12_noise 86 = .ok (.aload_n 0, 1) := zo_42 (zkb zk_cX12_noise zn_cX12_noise (by decide +kernel))
theorem dX12_noise_87 : decode cX12_noise 87 = .ok (.getfield 22, 3) := zo_180 (b1 := 0) (b2 := 22) (zkb3 zk_cX12_noise zn_cX12_noise (by decide +kernel)) rfl
theorem dX12_noise_90 : decode cX12_noise 90 = .ok (.bipush 69, 2) := zo_16 (b1 := 69) (zkb2 zk_cX12_noise zn_cX12_noise (by decide +kernel)) rfl
theorem dX12_noise_92 : decode cX12_noise 92 = .ok (.iload_n 2, 1) := zo_28 (zkb zk_cX12_noise zn_cX12_noise (by decide +kernel))
theorem dX12_noise_93 : decode cX12_noise 93 = .ok (.iadd, 1) := zo_96 (zkb zk_cX12_noise zn_cX12_noise (by decide +kernel))
theorem dX12_noise_94 : decode cX12_noise 94 = .ok (.iload_n 1, 1) := zo_27 (zkb zk_cX12_noise zn_cX12_noise (by decide +kernel))
theorem dX12_noise_95 : decode cX12_noise 95 = .ok (.bipush 127, 2) := zo_16 (b1 := 127) (zkb2 zk_cX12_noise zn_cX12_noise (by decide +kernel)) rfl
theorem dX12_noise_97 : decode cX12_noise 97 = .ok (.if_icmp .le 24, 3) := zo_164 (b1 := 0) (b2 := 24) (zkb3 zk_cX12_noise zn_cX12_noise (by decide +kernel)) rfl
theorem dX12_noise_100 : decode cX12_noise 100 = .ok (.aload_n 0, 1) := zo_42 (zkb zk_cX12_noise zn_cX12_noise (by decide +kernel))
theorem dX12_noise_101 : decode cX12_noise 101 = .ok (.getfield 22, 3) := zo_180 (b1 := 0) (b2 := 22) (zkb3 zk_cX12_noise zn_cX12_noise (by decide +kernel)) rfl
theorem dX12_noise_104 : decode cX12_noise 104 = .ok (.bipush 69, 2) := zo_16 (b1 := 69) (zkb2 zk_cX12_noise zn_cX12_noise (by decide +kernel)) rfl
theorem dX12_noise_106 : decode cX12_noise 106 = .ok (.iload_n 2, 1) := zo_28 (zkb zk_cX12_noise zn_cX12_noise (by decide +kernel))
theorem dX12_noise_107 : decode cX12_noise 107 = .ok (.iadd, 1) := zo_96 (zkb zk_cX12_noise zn_cX12_noise (by decide +kernel))
theorem dX12_noise_108 : decode cX12_noise 108 = .ok (.iaload, 1) := zo_46 (zkb zk_cX12_noise zn_cX12_noise (by decide +kernel))
theorem dX12_noise_109 : decode cX12_noise 109 = .ok (.sipush 1008, 3) := zo_17 (b1 := 3) (b2 := 240) (zkb3 zk_cX12_noise zn_cX12_noise (by decide +kernel)) rfl
theorem dX12_noise_112 : decode cX12_noise 112 = .ok (.iand, 1) := zo_126 (zkb zk_cX12_noise zn_cX12_noise (by decide +kernel))
theorem dX12_noise_113 : decode cX12_noise 113 = .ok (.iload_n 1, 1) := zo_27 (zkb zk_cX12_noise zn_cX12_noise (by decide +kernel))
theorem dX12_noise_114 : decode cX12_noise 114 = .ok (.bipush 15, 2) := zo_16 (b1 := 15) (zkb2 zk_cX12_noise zn_cX12_noise (by decide +kernel)) rfl
theorem dX12_noise_116 : decode cX12_noise 116 = .ok (.iand, 1) := zo_126 (zkb zk_cX12_noise zn_cX12_noise (by decide +kernel))
theorem dX12_noise_117 : decode cX12_noise 117 = .ok (.ior, 1) := zo_128 (zkb zk_cX12_noise zn_cX12_noise (by decide +kernel))
theorem dX12_noise_118 : decode cX12_noise 118 = .ok (.goto 22, 3) := zo_167 (b1 := 0) (b2 := 22) (zkb3 zk_cX12_noise zn_cX12_noise (by decide +kernel)) rfl
theorem dX12_noise_121 : decode cX12_noise 121 = .ok (.aload_n 0, 1) := zo_42 (zkb zk_cX12_noise zn_cX12_noise (by decide +kernel))
theorem dX12_noise_122 : decode cX12_noise 122 = .ok (.getfield 22, 3) := zo_180 (b1 := 0) (b2 := 22) (zkb3 zk_cX12_noise zn_cX12_noise (by decide +kernel)) rfl
theorem dX12_noise_125 : decode cX12_noise 125 = .ok (.bipush 69, 2) := zo_16 (b1 := 69) (zkb2 zk_cX12_noise zn_cX12_noise (by decide +kernel)) rfl
theorem dX12_noise_127 : decode cX12_noise 127 = .ok (.iload_n 2, 1) := zo_28 (zkb zk_cX12_noise zn_cX12_noise (by decide +kernel))
theorem dX12_noise_128 : decode cX12_noise 128 = .ok (.iadd, 1) := zo_96 (zkb zk_cX12_noise zn_cX12_noise (by decide +kernel))
theorem dX12_noise_129 : decode cX12_noise 129 = .ok (.iaload, 1) := zo_46 (zkb zk_cX12_noise zn_cX12_noise (by decide +kernel))
theorem dX12_noise_130 : decode cX12_noise 130 = .ok (.bipush 15, 2) := zo_16 (b1 := 15) (zkb2 zk_cX12_noise zn_cX12_noise (by decide +kernel)) rfl
theorem dX12_noise_132 : decode cX12_noise 132 = .ok (.iand, 1) := zo_126 (zkb zk_cX12_noise zn_cX12_noise (by decide +kernel))
theorem dX12_noise_133 : decode cX12_noise 133 = .ok (.iload_n 1, 1) := zo_27 (zkb zk_cX12_noise zn_cX12_noise (by decide +kernel))
theorem dX12_noise_134 : decode cX12_noise 134 = .ok (.bipush 63, 2) := zo_16 (b1 := 63) (zkb2 zk_cX12_noise zn_cX12_noise (by decide +kernel)) rfl
theorem dX12_noise_136 : decode cX12_noise 136 = .ok (.iand, 1) := zo_126 (zkb zk_cX12_noise zn_cX12_noise (by decide +kernel))
theorem dX12_noise_137 : decode cX12_noise 137 = .ok (.iconst 4, 1) := zo_7 (zkb zk_cX12_noise zn_cX12_noise (by decide +kernel))
theorem dX12_noise_138 : decode cX12_noise 138 = .ok (.ishl, 1) := zo_120 (zkb zk_cX12_noise zn_cX12_noise (by decide +kernel))
theorem dX12_noise_139 : decode cX12_noise 139 = .ok (.ior, 1) := zo_128 (zkb zk_cX12_noise zn_cX12_noise (by decide +kernel))
theorem dX12_noise_140 : decode cX12_noise 140 = .ok (.iastore, 1) := zo_79 (zkb zk_cX12_noise zn_cX12_noise (by decide +kernel))
theorem dX12_noise_141 : decode cX12_noise 141 = .ok (.return_, 1) := zo_177 (zkb zk_cX12_noise zn_cX12_noise (by decide +kernel))
def rmX12_r : Room := { frames := 2, cells := 0, slots := 0, locals := 44 }
def wzX12_r : List Cond := .code yX12_r cX12_r 2 (some .int) :: wsL_law
theorem hinX12_r_X120 : ∀ w ∈ wsX120, w ∈ wzX12_r := fun w h => List.mem_cons_of_mem _ (inlX12 w h)
def fX12_r_74  (σ : zSt) (x1 : Int32) : Option (zSt × Int32) :=
  zck (zin (2 + x1) 1048) (
  some (σ, zgi σ 3 (2 + x1).toNatClampNeg))
def fX12_r_73  (σ : zSt) (s0 : Int32) : Option (zSt × Int32) :=
  some (σ, s0)
def fX12_r  (σ : zSt) (x1 : Int32) : Option (zSt × Int32) :=
  if x1 = 6 then zbi (fX12_m σ ) (fun σ1 v2 =>
  zbi (fX12_read σ1 v2) (fun σ3 v4 =>
  some (σ3, v4))) else
  if x1 = 7 then zck (zin 0 1048) (
  some (σ, zgi σ 3 (0 : Int32).toNatClampNeg)) else
  if (zgi σ 0 31) ≤ 0 then fX12_r_74 σ x1 else
  if x1 ≤ 3 then fX12_r_74 σ x1 else
  if x1 = 4 then zck (zin (zgi σ 0 31) 1048) (
  fX12_r_73 σ ((zgi σ 3 (zgi σ 0 31).toNatClampNeg) >>> ((8 : Int32) &&& 31))) else
  zck (zin (zgi σ 0 31) 1048) (
  fX12_r_73 σ ((zgi σ 3 (zgi σ 0 31).toNatClampNeg) &&& 255))
set_option maxRecDepth 20000 in
set_option maxHeartbeats 4000000 in
theorem bX12_r_74 {st : Nat → Nat} {p : Program} {l : Launch} {e : Env} {s : State} {m : MethodId} {args : Array Value} {below : List Frame} {meth : Method} {c : Code} {D : va_G} {A : Nat → Prop} {ad : Nat → Nat} {cy : Nat → ClassId} (hC : zC p m c cX12_r 2 s args wzX12_r RX12 meth (some .int))  {res : zSt × Int32} {H : Heap} {locs : List Loc} {σ : zSt} {ls : Array Slot} {x1 : Int32} (hI : zI st D (tM cy) (wM ad cy σ) A s H locs) (hl : lv_has ls 2 [(0, .ref (ad 0)), (1, .int x1)]) (hf : fX12_r_74  σ x1 = some res) : W p l e rmX12_r s m args below meth c H locs 0 0 (zQi below args s D (tM cy) (wM ad cy) A res) (F0 m 74 ls []) := by
  have hx := hC.1
  have hb := hC.2.1
  unfold fX12_r_74 at hf
  refine lv_aload_n hx hb dX12_r_74 rfl (lv_at hl 0 rfl) ?_
  refine z_get hC hI hinX12_r_X120 0 (wM_e0 ad cy σ) rfl 10 (by decide) (List.mem_cons_of_mem _ zw9_7) rfl dX12_r_75 ?_
  refine lv_iconst (v := 2) hx hb dX12_r_78 (by decide) ?_
  refine lv_iload_n hx hb dX12_r_79 rfl (lv_at hl 1 rfl) ?_
  refine lv_iadd hx hb dX12_r_80 ?_
  obtain ⟨q, hf⟩ := zck_use hf
  refine z_iald hC hI 3 2 (wM_e3 ad cy σ) (tM_t3 cy) q dX12_r_81 ?_
  exact z_ireturn hC hI hf dX12_r_82
set_option maxRecDepth 20000 in
set_option maxHeartbeats 4000000 in
theorem bX12_r_73 {st : Nat → Nat} {p : Program} {l : Launch} {e : Env} {s : State} {m : MethodId} {args : Array Value} {below : List Frame} {meth : Method} {c : Code} {D : va_G} {A : Nat → Prop} {ad : Nat → Nat} {cy : Nat → ClassId} (hC : zC p m c cX12_r 2 s args wzX12_r RX12 meth (some .int))  {res : zSt × Int32} {H : Heap} {locs : List Loc} {σ : zSt} {ls : Array Slot} {s0 : Int32} (hI : zI st D (tM cy) (wM ad cy σ) A s H locs) (hl : lv_has ls 2 []) (hf : fX12_r_73  σ s0 = some res) : W p l e rmX12_r s m args below meth c H locs 0 0 (zQi below args s D (tM cy) (wM ad cy) A res) (F0 m 73 ls [.int s0]) := by
  have hx := hC.1
  have hb := hC.2.1
  unfold fX12_r_73 at hf
  exact z_ireturn hC hI hf dX12_r_73
set_option maxRecDepth 20000 in
set_option maxHeartbeats 4000000 in
theorem bX12_r {st : Nat → Nat} {p : Program} {l : Launch} {e : Env} {s : State} {m : MethodId} {args : Array Value} {below : List Frame} {meth : Method} {c : Code} {D : va_G} {A : Nat → Prop} {ad : Nat → Nat} {cy : Nat → ClassId} (hC : zC p m c cX12_r 2 s args wzX12_r RX12 meth (some .int))  {res : zSt × Int32} {H : Heap} {locs : List Loc} {σ : zSt} {ls : Array Slot} {x1 : Int32} (hI : zI st D (tM cy) (wM ad cy σ) A s H locs) (hl : lv_has ls 2 [(0, .ref (ad 0)), (1, .int x1)]) (hf : fX12_r  σ x1 = some res) : W p l e rmX12_r s m args below meth c H locs 0 0 (zQi below args s D (tM cy) (wM ad cy) A res) (F0 m 0 ls []) := by
  have hx := hC.1
  have hb := hC.2.1
  unfold fX12_r at hf
  refine lv_iload_n hx hb dX12_r_0 rfl (lv_at hl 1 rfl) ?_
  refine lv_bipush (v := 6) hx hb dX12_r_1 (by decide) ?_
  refine lv_icmp_ne (tgt := 15) hx hb dX12_r_3 (by decide) (fun q => ?_) (fun q => ?_)
  · replace hf := zif_f q hf
    refine lv_iload_n hx hb dX12_r_15 rfl (lv_at hl 1 rfl) ?_
    refine lv_bipush (v := 7) hx hb dX12_r_16 (by decide) ?_
    refine lv_icmp_ne (tgt := 28) hx hb dX12_r_18 (by decide) (fun q => ?_) (fun q => ?_)
    · replace hf := zif_f q hf
      refine lv_aload_n hx hb dX12_r_28 rfl (lv_at hl 0 rfl) ?_
      refine z_get hC hI hinX12_r_X120 0 (wM_e0 ad cy σ) rfl 31 (by decide) (List.mem_cons_of_mem _ zw49_20) rfl dX12_r_29 ?_
      refine lv_if_le (tgt := 74) hx hb dX12_r_32 (by decide) (fun q => ?_) (fun q => ?_)
      · replace hf := zif_t q hf
        exact bX12_r_74 hC  hI hl hf
      replace hf := zif_f q hf
      refine lv_iload_n hx hb dX12_r_35 rfl (lv_at hl 1 rfl) ?_
      refine lv_iconst (v := 3) hx hb dX12_r_36 (by decide) ?_
      refine lv_icmp_le (tgt := 74) hx hb dX12_r_37 (by decide) (fun q => ?_) (fun q => ?_)
      · replace hf := zif_t q hf
        exact bX12_r_74 hC  hI hl hf
      replace hf := zif_f q hf
      refine lv_iload_n hx hb dX12_r_40 rfl (lv_at hl 1 rfl) ?_
      refine lv_iconst (v := 4) hx hb dX12_r_41 (by decide) ?_
      refine lv_icmp_ne (tgt := 60) hx hb dX12_r_42 (by decide) (fun q => ?_) (fun q => ?_)
      · replace hf := zif_f q hf
        refine lv_aload_n hx hb dX12_r_60 rfl (lv_at hl 0 rfl) ?_
        refine z_get hC hI hinX12_r_X120 0 (wM_e0 ad cy σ) rfl 10 (by decide) (List.mem_cons_of_mem _ zw9_7) rfl dX12_r_61 ?_
        refine lv_aload_n hx hb dX12_r_64 rfl (lv_at hl 0 rfl) ?_
        refine z_get hC hI hinX12_r_X120 0 (wM_e0 ad cy σ) rfl 31 (by decide) (List.mem_cons_of_mem _ zw49_20) rfl dX12_r_65 ?_
        obtain ⟨q, hf⟩ := zck_use hf
        refine z_iald hC hI 3 2 (wM_e3 ad cy σ) (tM_t3 cy) q dX12_r_68 ?_
        refine lv_sipush (v := 255) hx hb dX12_r_69 (by decide) ?_
        refine lv_iand hx hb dX12_r_72 ?_
        exact bX12_r_73 hC  hI (lv_sub hl [] rfl) hf
      replace hf := zif_t q hf
      refine lv_aload_n hx hb dX12_r_45 rfl (lv_at hl 0 rfl) ?_
      refine z_get hC hI hinX12_r_X120 0 (wM_e0 ad cy σ) rfl 10 (by decide) (List.mem_cons_of_mem _ zw9_7) rfl dX12_r_46 ?_
      refine lv_aload_n hx hb dX12_r_49 rfl (lv_at hl 0 rfl) ?_
      refine z_get hC hI hinX12_r_X120 0 (wM_e0 ad cy σ) rfl 31 (by decide) (List.mem_cons_of_mem _ zw49_20) rfl dX12_r_50 ?_
      obtain ⟨q, hf⟩ := zck_use hf
      refine z_iald hC hI 3 2 (wM_e3 ad cy σ) (tM_t3 cy) q dX12_r_53 ?_
      refine lv_bipush (v := 8) hx hb dX12_r_54 (by decide) ?_
      refine lv_ishr hx hb dX12_r_56 ?_
      refine lv_goto (tgt := 73) hx hb dX12_r_57 (by decide) ?_
      exact bX12_r_73 hC  hI (lv_sub hl [] rfl) hf
    replace hf := zif_t q hf
    refine lv_aload_n hx hb dX12_r_21 rfl (lv_at hl 0 rfl) ?_
    refine z_get hC hI hinX12_r_X120 0 (wM_e0 ad cy σ) rfl 10 (by decide) (List.mem_cons_of_mem _ zw9_7) rfl dX12_r_22 ?_
    refine lv_iconst (v := 0) hx hb dX12_r_25 (by decide) ?_
    obtain ⟨q, hf⟩ := zck_use hf
    refine z_iald hC hI 3 2 (wM_e3 ad cy σ) (tM_t3 cy) q dX12_r_26 ?_
    exact z_ireturn hC hI hf dX12_r_27
  replace hf := zif_t q hf
  refine lv_aload_n hx hb dX12_r_6 rfl (lv_at hl 0 rfl) ?_
  refine lv_aload_n hx hb dX12_r_7 rfl (lv_at hl 0 rfl) ?_
  obtain ⟨σ1, v2, g1, hf⟩ := zbi_use hf
  refine z_callVi (As := []) (rest := [.ref (ad 0)]) hC hI (cX12_m_met st l D ad cy σ  _ g1) (zgV zw53_14 zw53_15 zw53_16 zw1_5 zw53_17) rfl ⟨rfl, rfl⟩ 0 hdX12_m ⟨Nat.le_of_ble_eq_true rfl, Nat.le_of_ble_eq_true rfl⟩ rfl rfl (wM_e0 ad cy σ) rfl hl rfl (Nat.le_of_ble_eq_true rfl) dX12_r_8 ⟨Nat.zero_le _, Nat.zero_le _⟩ (fun H locs hI => ?_)
  obtain ⟨σ3, v4, g3, hf⟩ := zbi_use hf
  refine z_callVi (As := [.int v2]) (rest := []) hC hI (cX12_read_met st l D ad cy σ1 v2 _ g3) (zgV zw49_8 zw49_9 zw49_10 zw1_5 zw49_11) rfl ⟨rfl, rfl⟩ 1 hdX12_read ⟨Nat.le_of_ble_eq_true rfl, Nat.le_of_ble_eq_true rfl⟩ rfl rfl (wM_e0 ad cy σ1) rfl hl rfl (Nat.le_of_ble_eq_true rfl) dX12_r_11 ⟨Nat.zero_le _, Nat.zero_le _⟩ (fun H locs hI => ?_)
  exact z_ireturn hC hI hf dX12_r_14
set_option maxRecDepth 20000 in
theorem cX12_r_met (st : Nat → Nat) (l : Launch) (D : va_G) (ad : Nat → Nat) (cy : Nat → ClassId) (σ : zSt) (x1 : Int32) (res : zSt × Int32) (hf : fX12_r σ x1 = some res) (sz : Nat) : zMi st l yX12_r wzX12_r rmX12_r [.ref (ad 0), .int x1] D (tM cy) (wM ad cy) sz σ res :=
  zMi.of (cc := cX12_r) (maxL := 2) (ret := (some .int)) (by decide) rfl (Nat.le_of_ble_eq_true rfl) (fun p e s m args below meth c hC A hI ls hl => bX12_r hC hI hl hf)
theorem hdX12_r : yX12_r.cls = RX12 ∧ yX12_r.cls ≠ "java/lang/invoke/MethodHandle" ∧ yX12_r.cls ≠ "java/lang/invoke/VarHandle" ∧ (parseMethodDescriptor yX12_r.desc).map (fun d => d.parameters.length) = some 1 := by decide +kernel
def rmX12_rTo : Room := { frames := 2, cells := 0, slots := 0, locals := 45 }
def wzX12_rTo : List Cond := .code yX12_rTo cX12_rTo 4 none :: wsL_law
theorem hinX12_rTo_X120 : ∀ w ∈ wsX120, w ∈ wzX12_rTo := fun w h => List.mem_cons_of_mem _ (inlX12 w h)
def fX12_rTo_113  (σ : zSt)  : Option (zSt) :=
  some σ
def fX12_rTo_104  (σ : zSt) (x1 : Int32) (x3 : Int32) : Option (zSt) :=
  zck (zin (2 + x1) 1048) (zbv (zsi σ 3 ((2 + x1).toNatClampNeg) x3) (fun σ1 =>
  fX12_rTo_113 σ1))
def fX12_rTo_100  (σ : zSt) (s0 : Int32) (s1 : Int32) : Option (zSt) :=
  zck (zin s1 1048) (zbv (zsi σ 3 (s1.toNatClampNeg) s0) (fun σ2 =>
  fX12_rTo_113 σ2))
def fX12_rTo  (σ : zSt) (x1 : Int32) (x2 : Int32) : Option (zSt) :=
  zbv (x2 &&& 255) (fun v3 =>
  if x1 = 6 then zbi (fX12_m σ ) (fun σ5 v6 =>
  zbu (fX12_write σ5 v6 v3) (fun σ7 =>
  fX12_rTo_113 σ7)) else
  if x1 = 7 then zck (zin 0 1048) (zbv (zsi σ 3 ((0 : Int32).toNatClampNeg) v3) (fun σ4 =>
  fX12_rTo_113 σ4)) else
  if (zgi σ 0 31) ≤ 0 then fX12_rTo_104 σ x1 v3 else
  if x1 ≤ 3 then fX12_rTo_104 σ x1 v3 else
  if x1 = 4 then zck (zin (zgi σ 0 31) 1048) (
  fX12_rTo_100 σ ((v3 <<< ((8 : Int32) &&& 31)) ||| ((zgi σ 3 (zgi σ 0 31).toNatClampNeg) &&& 255)) (zgi σ 0 31)) else
  zck (zin (zgi σ 0 31) 1048) (
  fX12_rTo_100 σ (((zgi σ 3 (zgi σ 0 31).toNatClampNeg) &&& 65280) ||| v3) (zgi σ 0 31)))
set_option maxRecDepth 20000 in
set_option maxHeartbeats 4000000 in
theorem bX12_rTo_113 {st : Nat → Nat} {p : Program} {l : Launch} {e : Env} {s : State} {m : MethodId} {args : Array Value} {below : List Frame} {meth : Method} {c : Code} {D : va_G} {A : Nat → Prop} {ad : Nat → Nat} {cy : Nat → ClassId} (hC : zC p m c cX12_rTo 4 s args wzX12_rTo RX12 meth none)  {res : zSt} {H : Heap} {locs : List Loc} {σ : zSt} {ls : Array Slot}  (hI : zI st D (tM cy) (wM ad cy σ) A s H locs) (hl : lv_has ls 4 []) (hf : fX12_rTo_113  σ  = some res) : W p l e rmX12_rTo s m args below meth c H locs 0 0 (zQu below args s D (tM cy) (wM ad cy) A res) (F0 m 113 ls []) := by
  have hx := hC.1
  have hb := hC.2.1
  unfold fX12_rTo_113 at hf
  exact z_return hC hI hf dX12_rTo_113
set_option maxRecDepth 20000 in
set_option maxHeartbeats 4000000 in
theorem bX12_rTo_104 {st : Nat → Nat} {p : Program} {l : Launch} {e : Env} {s : State} {m : MethodId} {args : Array Value} {below : List Frame} {meth : Method} {c : Code} {D : va_G} {A : Nat → Prop} {ad : Nat → Nat} {cy : Nat → ClassId} (hC : zC p m c cX12_rTo 4 s args wzX12_rTo RX12 meth none)  {res : zSt} {H : Heap} {locs : List Loc} {σ : zSt} {ls : Array Slot} {x1 : Int32} {x3 : Int32} (hI : zI st D (tM cy) (wM ad cy σ) A s H locs) (hl : lv_has ls 4 [(0, .ref (ad 0)), (1, .int x1), (3, .int x3)]) (hf : fX12_rTo_104  σ x1 x3 = some res) : W p l e rmX12_rTo s m args below meth c H locs 0 0 (zQu below args s D (tM cy) (wM ad cy) A res) (F0 m 104 ls []) := by
  have hx := hC.1
  have hb := hC.2.1
  unfold fX12_rTo_104 at hf
  refine lv_aload_n hx hb dX12_rTo_104 rfl (lv_at hl 0 rfl) ?_
  refine z_get hC hI hinX12_rTo_X120 0 (wM_e0 ad cy σ) rfl 10 (by decide) (List.mem_cons_of_mem _ zw9_7) rfl dX12_rTo_105 ?_
  refine lv_iconst (v := 2) hx hb dX12_rTo_108 (by decide) ?_
  refine lv_iload_n hx hb dX12_rTo_109 rfl (lv_at hl 1 rfl) ?_
  refine lv_iadd hx hb dX12_rTo_110 ?_
  refine lv_iload_n hx hb dX12_rTo_111 rfl (lv_at hl 2 rfl) ?_
  obtain ⟨q, hf⟩ := zck_use hf
  obtain ⟨σ1, eσ1⟩ : ∃ z, z = zsi σ 3 ((2 + x1).toNatClampNeg) x3 := ⟨_, rfl⟩
  replace hf := zbv_use eσ1 hf
  refine z_iast hC hI 3 2 (wM_e3 ad cy σ) (tM_t3 cy) q ((wM_s3 ad cy σ _ _).trans (congrArg (wM ad cy) eσ1.symm)) dX12_rTo_112 (fun H locs hI => ?_)
  exact bX12_rTo_113 hC  hI (lv_sub hl [] rfl) hf
set_option maxRecDepth 20000 in
set_option maxHeartbeats 4000000 in
theorem bX12_rTo_100 {st : Nat → Nat} {p : Program} {l : Launch} {e : Env} {s : State} {m : MethodId} {args : Array Value} {below : List Frame} {meth : Method} {c : Code} {D : va_G} {A : Nat → Prop} {ad : Nat → Nat} {cy : Nat → ClassId} (hC : zC p m c cX12_rTo 4 s args wzX12_rTo RX12 meth none)  {res : zSt} {H : Heap} {locs : List Loc} {σ : zSt} {ls : Array Slot} {s0 : Int32} {s1 : Int32} (hI : zI st D (tM cy) (wM ad cy σ) A s H locs) (hl : lv_has ls 4 []) (hf : fX12_rTo_100  σ s0 s1 = some res) : W p l e rmX12_rTo s m args below meth c H locs 0 0 (zQu below args s D (tM cy) (wM ad cy) A res) (F0 m 100 ls [.int s0, .int s1, .ref (ad 3)]) := by
  have hx := hC.1
  have hb := hC.2.1
  unfold fX12_rTo_100 at hf
  obtain ⟨q, hf⟩ := zck_use hf
  obtain ⟨σ2, eσ2⟩ : ∃ z, z = zsi σ 3 (s1.toNatClampNeg) s0 := ⟨_, rfl⟩
  replace hf := zbv_use eσ2 hf
  refine z_iast hC hI 3 2 (wM_e3 ad cy σ) (tM_t3 cy) q ((wM_s3 ad cy σ _ _).trans (congrArg (wM ad cy) eσ2.symm)) dX12_rTo_100 (fun H locs hI => ?_)
  refine lv_goto (tgt := 113) hx hb dX12_rTo_101 (by decide) ?_
  exact bX12_rTo_113 hC  hI hl hf
set_option maxRecDepth 20000 in
set_option maxHeartbeats 4000000 in
theorem bX12_rTo {st : Nat → Nat} {p : Program} {l : Launch} {e : Env} {s : State} {m : MethodId} {args : Array Value} {below : List Frame} {meth : Method} {c : Code} {D : va_G} {A : Nat → Prop} {ad : Nat → Nat} {cy : Nat → ClassId} (hC : zC p m c cX12_rTo 4 s args wzX12_rTo RX12 meth none)  {res : zSt} {H : Heap} {locs : List Loc} {σ : zSt} {ls : Array Slot} {x1 : Int32} {x2 : Int32} (hI : zI st D (tM cy) (wM ad cy σ) A s H locs) (hl : lv_has ls 4 [(0, .ref (ad 0)), (1, .int x1), (2, .int x2)]) (hf : fX12_rTo  σ x1 x2 = some res) : W p l e rmX12_rTo s m args below meth c H locs 0 0 (zQu below args s D (tM cy) (wM ad cy) A res) (F0 m 0 ls []) := by
  have hx := hC.1
  have hb := hC.2.1
  unfold fX12_rTo at hf
  refine lv_iload_n hx hb dX12_rTo_0 rfl (lv_at hl 2 rfl) ?_
  refine lv_sipush (v := 255) hx hb dX12_rTo_1 (by decide) ?_
  refine lv_iand hx hb dX12_rTo_4 ?_
  refine lv_topi (fun v3 ev3 => ?_)
  replace hf := zbv_use ev3 hf
  refine lv_istore_n (lv' := [(3, .int v3), (0, .ref (ad 0)), (1, .int x1), (2, .int x2)]) hx hb dX12_rTo_5 rfl hl (by decide) rfl (fun ls hl => ?_)
  refine lv_iload_n hx hb dX12_rTo_6 rfl (lv_at hl 2 rfl) ?_
  refine lv_bipush (v := 6) hx hb dX12_rTo_7 (by decide) ?_
  refine lv_icmp_ne (tgt := 24) hx hb dX12_rTo_9 (by decide) (fun q => ?_) (fun q => ?_)
  · replace hf := zif_f q hf
    refine lv_iload_n hx hb dX12_rTo_24 rfl (lv_at hl 2 rfl) ?_
    refine lv_bipush (v := 7) hx hb dX12_rTo_25 (by decide) ?_
    refine lv_icmp_ne (tgt := 40) hx hb dX12_rTo_27 (by decide) (fun q => ?_) (fun q => ?_)
    · replace hf := zif_f q hf
      refine lv_aload_n hx hb dX12_rTo_40 rfl (lv_at hl 1 rfl) ?_
      refine z_get hC hI hinX12_rTo_X120 0 (wM_e0 ad cy σ) rfl 31 (by decide) (List.mem_cons_of_mem _ zw49_20) rfl dX12_rTo_41 ?_
      refine lv_if_le (tgt := 104) hx hb dX12_rTo_44 (by decide) (fun q => ?_) (fun q => ?_)
      · replace hf := zif_t q hf
        exact bX12_rTo_104 hC  hI (lv_sub hl [1, 2, 0] rfl) hf
      replace hf := zif_f q hf
      refine lv_iload_n hx hb dX12_rTo_47 rfl (lv_at hl 2 rfl) ?_
      refine lv_iconst (v := 3) hx hb dX12_rTo_48 (by decide) ?_
      refine lv_icmp_le (tgt := 104) hx hb dX12_rTo_49 (by decide) (fun q => ?_) (fun q => ?_)
      · replace hf := zif_t q hf
        exact bX12_rTo_104 hC  hI (lv_sub hl [1, 2, 0] rfl) hf
      replace hf := zif_f q hf
      refine lv_aload_n hx hb dX12_rTo_52 rfl (lv_at hl 1 rfl) ?_
      refine z_get hC hI hinX12_rTo_X120 0 (wM_e0 ad cy σ) rfl 10 (by decide) (List.mem_cons_of_mem _ zw9_7) rfl dX12_rTo_53 ?_
      refine lv_aload_n hx hb dX12_rTo_56 rfl (lv_at hl 1 rfl) ?_
      refine z_get hC hI hinX12_rTo_X120 0 (wM_e0 ad cy σ) rfl 31 (by decide) (List.mem_cons_of_mem _ zw49_20) rfl dX12_rTo_57 ?_
      refine lv_iload_n hx hb dX12_rTo_60 rfl (lv_at hl 2 rfl) ?_
      refine lv_iconst (v := 4) hx hb dX12_rTo_61 (by decide) ?_
      refine lv_icmp_ne (tgt := 86) hx hb dX12_rTo_62 (by decide) (fun q => ?_) (fun q => ?_)
      · replace hf := zif_f q hf
        refine lv_aload_n hx hb dX12_rTo_86 rfl (lv_at hl 1 rfl) ?_
        refine z_get hC hI hinX12_rTo_X120 0 (wM_e0 ad cy σ) rfl 10 (by decide) (List.mem_cons_of_mem _ zw9_7) rfl dX12_rTo_87 ?_
        refine lv_aload_n hx hb dX12_rTo_90 rfl (lv_at hl 1 rfl) ?_
        refine z_get hC hI hinX12_rTo_X120 0 (wM_e0 ad cy σ) rfl 31 (by decide) (List.mem_cons_of_mem _ zw49_20) rfl dX12_rTo_91 ?_
        obtain ⟨q, hf⟩ := zck_use hf
        refine z_iald hC hI 3 2 (wM_e3 ad cy σ) (tM_t3 cy) q dX12_rTo_94 ?_
        refine lv_ldc (v := 65280) hx hb hC.2.2.2.1 (hC.2.2.2.2.1 _ (List.mem_cons_of_mem _ zw53_13)) dX12_rTo_95 ?_
        refine lv_iand hx hb dX12_rTo_97 ?_
        refine lv_iload_n hx hb dX12_rTo_98 rfl (lv_at hl 0 rfl) ?_
        refine lv_ior hx hb dX12_rTo_99 ?_
        exact bX12_rTo_100 hC  hI (lv_sub hl [] rfl) hf
      replace hf := zif_t q hf
      refine lv_iload_n hx hb dX12_rTo_65 rfl (lv_at hl 0 rfl) ?_
      refine lv_bipush (v := 8) hx hb dX12_rTo_66 (by decide) ?_
      refine lv_ishl hx hb dX12_rTo_68 ?_
      refine lv_aload_n hx hb dX12_rTo_69 rfl (lv_at hl 1 rfl) ?_
      refine z_get hC hI hinX12_rTo_X120 0 (wM_e0 ad cy σ) rfl 10 (by decide) (List.mem_cons_of_mem _ zw9_7) rfl dX12_rTo_70 ?_
      refine lv_aload_n hx hb dX12_rTo_73 rfl (lv_at hl 1 rfl) ?_
      refine z_get hC hI hinX12_rTo_X120 0 (wM_e0 ad cy σ) rfl 31 (by decide) (List.mem_cons_of_mem _ zw49_20) rfl dX12_rTo_74 ?_
      obtain ⟨q, hf⟩ := zck_use hf
      refine z_iald hC hI 3 2 (wM_e3 ad cy σ) (tM_t3 cy) q dX12_rTo_77 ?_
      refine lv_sipush (v := 255) hx hb dX12_rTo_78 (by decide) ?_
      refine lv_iand hx hb dX12_rTo_81 ?_
      refine lv_ior hx hb dX12_rTo_82 ?_
      refine lv_goto (tgt := 100) hx hb dX12_rTo_83 (by decide) ?_
      exact bX12_rTo_100 hC  hI (lv_sub hl [] rfl) hf
    replace hf := zif_t q hf
    refine lv_aload_n hx hb dX12_rTo_30 rfl (lv_at hl 1 rfl) ?_
    refine z_get hC hI hinX12_rTo_X120 0 (wM_e0 ad cy σ) rfl 10 (by decide) (List.mem_cons_of_mem _ zw9_7) rfl dX12_rTo_31 ?_
    refine lv_iconst (v := 0) hx hb dX12_rTo_34 (by decide) ?_
    refine lv_iload_n hx hb dX12_rTo_35 rfl (lv_at hl 0 rfl) ?_
    obtain ⟨q, hf⟩ := zck_use hf
    obtain ⟨σ4, eσ4⟩ : ∃ z, z = zsi σ 3 ((0 : Int32).toNatClampNeg) v3 := ⟨_, rfl⟩
    replace hf := zbv_use eσ4 hf
    refine z_iast hC hI 3 2 (wM_e3 ad cy σ) (tM_t3 cy) q ((wM_s3 ad cy σ _ _).trans (congrArg (wM ad cy) eσ4.symm)) dX12_rTo_36 (fun H locs hI => ?_)
    refine lv_goto (tgt := 113) hx hb dX12_rTo_37 (by decide) ?_
    exact bX12_rTo_113 hC  hI (lv_sub hl [] rfl) hf
  replace hf := zif_t q hf
  refine lv_aload_n hx hb dX12_rTo_12 rfl (lv_at hl 1 rfl) ?_
  refine lv_aload_n hx hb dX12_rTo_13 rfl (lv_at hl 1 rfl) ?_
  obtain ⟨σ5, v6, g5, hf⟩ := zbi_use hf
  refine z_callVi (As := []) (rest := [.ref (ad 0)]) hC hI (cX12_m_met st l D ad cy σ  _ g5) (zgV zw53_14 zw53_15 zw53_16 zw1_5 zw53_17) rfl ⟨rfl, rfl⟩ 0 hdX12_m ⟨Nat.le_of_ble_eq_true rfl, Nat.le_of_ble_eq_true rfl⟩ rfl rfl (wM_e0 ad cy σ) rfl hl rfl (Nat.le_of_ble_eq_true rfl) dX12_rTo_14 ⟨Nat.zero_le _, Nat.zero_le _⟩ (fun H locs hI => ?_)
  refine lv_iload_n hx hb dX12_rTo_17 rfl (lv_at hl 0 rfl) ?_
  obtain ⟨σ7, g7, hf⟩ := zbu_use hf
  refine z_callVu (As := [.int v6, .int v3]) (rest := []) hC hI (cX12_write_met st l D ad cy σ5 v6 v3 _ g7) (zgV zw48_5 zw48_6 zw48_7 zw1_5 zw48_8) rfl ⟨rfl, rfl⟩ 2 hdX12_write ⟨Nat.le_of_ble_eq_true rfl, Nat.le_of_ble_eq_true rfl⟩ rfl rfl (wM_e0 ad cy σ5) rfl hl rfl (Nat.le_of_ble_eq_true rfl) dX12_rTo_18 ⟨Nat.zero_le _, Nat.zero_le _⟩ (fun H locs hI => ?_)
  refine lv_goto (tgt := 113) hx hb dX12_rTo_21 (by decide) ?_
  exact bX12_rTo_113 hC  hI (lv_sub hl [] rfl) hf
set_option maxRecDepth 20000 in
theorem cX12_rTo_met (st : Nat → Nat) (l : Launch) (D : va_G) (ad : Nat → Nat) (cy : Nat → ClassId) (σ : zSt) (x1 : Int32) (x2 : Int32) (res : zSt) (hf : fX12_rTo σ x1 x2 = some res) (sz : Nat) : zMu st l yX12_rTo wzX12_rTo rmX12_rTo [.ref (ad 0), .int x1, .int x2] D (tM cy) (wM ad cy) sz σ res :=
  zMu.of (cc := cX12_rTo) (maxL := 4) (ret := none) (by decide) rfl (Nat.le_of_ble_eq_true rfl) (fun p e s m args below meth c hC A hI ls hl => bX12_rTo hC hI hl hf)
theorem hdX12_rTo : yX12_rTo.cls = RX12 ∧ yX12_rTo.cls ≠ "java/lang/invoke/MethodHandle" ∧ yX12_rTo.cls ≠ "java/lang/invoke/VarHandle" ∧ (parseMethodDescriptor yX12_rTo.desc).map (fun d => d.parameters.length) = some 2 := by decide +kernel
def rmX12_put : Room := { frames := 0, cells := 0, slots := 0, locals := 0 }
def wzX12_put : List Cond := .code yX12_put cX12_put 3 none :: wsL_law
theorem hinX12_put_X120 : ∀ w ∈ wsX120, w ∈ wzX12_put := fun w h => List.mem_cons_of_mem _ (inlX12 w h)
def fX12_put_34  (σ : zSt) (s0 : Int32) (s1 : Int32) : Option (zSt) :=
  zck (zin s1 1048) (zbv (zsi σ 3 (s1.toNatClampNeg) s0) (fun σ1 =>
  some σ1))
def fX12_put  (σ : zSt) (x1 : Int32) (x2 : Int32) : Option (zSt) :=
  if x2 = 0 then zck (zin 1 1048) (
  fX12_put_34 σ ((zgi σ 3 (1 : Int32).toNatClampNeg) &&& ((1 <<< (x1 &&& 31)) ^^^ (-1))) 1) else
  zck (zin 1 1048) (
  fX12_put_34 σ ((zgi σ 3 (1 : Int32).toNatClampNeg) ||| (1 <<< (x1 &&& 31))) 1)
set_option maxRecDepth 20000 in
set_option maxHeartbeats 4000000 in
theorem bX12_put_34 {st : Nat → Nat} {p : Program} {l : Launch} {e : Env} {s : State} {m : MethodId} {args : Array Value} {below : List Frame} {meth : Method} {c : Code} {D : va_G} {A : Nat → Prop} {ad : Nat → Nat} {cy : Nat → ClassId} (hC : zC p m c cX12_put 3 s args wzX12_put RX12 meth none)  {res : zSt} {H : Heap} {locs : List Loc} {σ : zSt} {ls : Array Slot} {s0 : Int32} {s1 : Int32} (hI : zI st D (tM cy) (wM ad cy σ) A s H locs) (hl : lv_has ls 3 []) (hf : fX12_put_34  σ s0 s1 = some res) : W p l e rmX12_put s m args below meth c H locs 0 0 (zQu below args s D (tM cy) (wM ad cy) A res) (F0 m 34 ls [.int s0, .int s1, .ref (ad 3)]) := by
  have hx := hC.1
  have hb := hC.2.1
  unfold fX12_put_34 at hf
  obtain ⟨q, hf⟩ := zck_use hf
  obtain ⟨σ1, eσ1⟩ : ∃ z, z = zsi σ 3 (s1.toNatClampNeg) s0 := ⟨_, rfl⟩
  replace hf := zbv_use eσ1 hf
  refine z_iast hC hI 3 2 (wM_e3 ad cy σ) (tM_t3 cy) q ((wM_s3 ad cy σ _ _).trans (congrArg (wM ad cy) eσ1.symm)) dX12_put_34 (fun H locs hI => ?_)
  exact z_return hC hI hf dX12_put_35
set_option maxRecDepth 20000 in
set_option maxHeartbeats 4000000 in
theorem bX12_put {st : Nat → Nat} {p : Program} {l : Launch} {e : Env} {s : State} {m : MethodId} {args : Array Value} {below : List Frame} {meth : Method} {c : Code} {D : va_G} {A : Nat → Prop} {ad : Nat → Nat} {cy : Nat → ClassId} (hC : zC p m c cX12_put 3 s args wzX12_put RX12 meth none)  {res : zSt} {H : Heap} {locs : List Loc} {σ : zSt} {ls : Array Slot} {x1 : Int32} {x2 : Int32} (hI : zI st D (tM cy) (wM ad cy σ) A s H locs) (hl : lv_has ls 3 [(0, .ref (ad 0)), (1, .int x1), (2, .int x2)]) (hf : fX12_put  σ x1 x2 = some res) : W p l e rmX12_put s m args below meth c H locs 0 0 (zQu below args s D (tM cy) (wM ad cy) A res) (F0 m 0 ls []) := by
  have hx := hC.1
  have hb := hC.2.1
  unfold fX12_put at hf
  refine lv_aload_n hx hb dX12_put_0 rfl (lv_at hl 0 rfl) ?_
  refine z_get hC hI hinX12_put_X120 0 (wM_e0 ad cy σ) rfl 10 (by decide) (List.mem_cons_of_mem _ zw9_7) rfl dX12_put_1 ?_
  refine lv_iconst (v := 1) hx hb dX12_put_4 (by decide) ?_
  refine lv_iload_n hx hb dX12_put_5 rfl (lv_at hl 2 rfl) ?_
  refine lv_if_eq (tgt := 22) hx hb dX12_put_6 (by decide) (fun q => ?_) (fun q => ?_)
  · replace hf := zif_t q hf
    refine lv_aload_n hx hb dX12_put_22 rfl (lv_at hl 0 rfl) ?_
    refine z_get hC hI hinX12_put_X120 0 (wM_e0 ad cy σ) rfl 10 (by decide) (List.mem_cons_of_mem _ zw9_7) rfl dX12_put_23 ?_
    refine lv_iconst (v := 1) hx hb dX12_put_26 (by decide) ?_
    obtain ⟨q, hf⟩ := zck_use hf
    refine z_iald hC hI 3 2 (wM_e3 ad cy σ) (tM_t3 cy) q dX12_put_27 ?_
    refine lv_iconst (v := 1) hx hb dX12_put_28 (by decide) ?_
    refine lv_iload_n hx hb dX12_put_29 rfl (lv_at hl 1 rfl) ?_
    refine lv_ishl hx hb dX12_put_30 ?_
    refine lv_iconst (v := (-1)) hx hb dX12_put_31 (by decide) ?_
    refine lv_ixor hx hb dX12_put_32 ?_
    refine lv_iand hx hb dX12_put_33 ?_
    exact bX12_put_34 hC  hI (lv_sub hl [] rfl) hf
  replace hf := zif_f q hf
  refine lv_aload_n hx hb dX12_put_9 rfl (lv_at hl 0 rfl) ?_
  refine z_get hC hI hinX12_put_X120 0 (wM_e0 ad cy σ) rfl 10 (by decide) (List.mem_cons_of_mem _ zw9_7) rfl dX12_put_10 ?_
  refine lv_iconst (v := 1) hx hb dX12_put_13 (by decide) ?_
  obtain ⟨q, hf⟩ := zck_use hf
  refine z_iald hC hI 3 2 (wM_e3 ad cy σ) (tM_t3 cy) q dX12_put_14 ?_
  refine lv_iconst (v := 1) hx hb dX12_put_15 (by decide) ?_
  refine lv_iload_n hx hb dX12_put_16 rfl (lv_at hl 1 rfl) ?_
  refine lv_ishl hx hb dX12_put_17 ?_
  refine lv_ior hx hb dX12_put_18 ?_
  refine lv_goto (tgt := 34) hx hb dX12_put_19 (by decide) ?_
  exact bX12_put_34 hC  hI (lv_sub hl [] rfl) hf
set_option maxRecDepth 20000 in
theorem cX12_put_met (st : Nat → Nat) (l : Launch) (D : va_G) (ad : Nat → Nat) (cy : Nat → ClassId) (σ : zSt) (x1 : Int32) (x2 : Int32) (res : zSt) (hf : fX12_put σ x1 x2 = some res) (sz : Nat) : zMu st l yX12_put wzX12_put rmX12_put [.ref (ad 0), .int x1, .int x2] D (tM cy) (wM ad cy) sz σ res :=
  zMu.of (cc := cX12_put) (maxL := 3) (ret := none) (by decide) rfl (Nat.le_of_ble_eq_true rfl) (fun p e s m args below meth c hC A hI ls hl => bX12_put hC hI hl hf)
theorem hdX12_put : yX12_put.cls = RX12 ∧ yX12_put.cls ≠ "java/lang/invoke/MethodHandle" ∧ yX12_put.cls ≠ "java/lang/invoke/VarHandle" ∧ (parseMethodDescriptor yX12_put.desc).map (fun d => d.parameters.length) = some 2 := by decide +kernel
def rmX12_flag : Room := { frames := 0, cells := 0, slots := 0, locals := 0 }
def wzX12_flag : List Cond := .code yX12_flag cX12_flag 2 (some .int) :: wsL_law
theorem hinX12_flag_X120 : ∀ w ∈ wsX120, w ∈ wzX12_flag := fun w h => List.mem_cons_of_mem _ (inlX12 w h)
def fX12_flag  (σ : zSt) (x1 : Int32) : Option (zSt × Int32) :=
  zck (zin 1 1048) (
  some (σ, ((zgi σ 3 (1 : Int32).toNatClampNeg) >>> (x1 &&& 31)) &&& 1))
set_option maxRecDepth 20000 in
set_option maxHeartbeats 4000000 in
theorem bX12_flag {st : Nat → Nat} {p : Program} {l : Launch} {e : Env} {s : State} {m : MethodId} {args : Array Value} {below : List Frame} {meth : Method} {c : Code} {D : va_G} {A : Nat → Prop} {ad : Nat → Nat} {cy : Nat → ClassId} (hC : zC p m c cX12_flag 2 s args wzX12_flag RX12 meth (some .int))  {res : zSt × Int32} {H : Heap} {locs : List Loc} {σ : zSt} {ls : Array Slot} {x1 : Int32} (hI : zI st D (tM cy) (wM ad cy σ) A s H locs) (hl : lv_has ls 2 [(0, .ref (ad 0)), (1, .int x1)]) (hf : fX12_flag  σ x1 = some res) : W p l e rmX12_flag s m args below meth c H locs 0 0 (zQi below args s D (tM cy) (wM ad cy) A res) (F0 m 0 ls []) := by
  have hx := hC.1
  have hb := hC.2.1
  unfold fX12_flag at hf
  refine lv_aload_n hx hb dX12_flag_0 rfl (lv_at hl 0 rfl) ?_
  refine z_get hC hI hinX12_flag_X120 0 (wM_e0 ad cy σ) rfl 10 (by decide) (List.mem_cons_of_mem _ zw9_7) rfl dX12_flag_1 ?_
  refine lv_iconst (v := 1) hx hb dX12_flag_4 (by decide) ?_
  obtain ⟨q, hf⟩ := zck_use hf
  refine z_iald hC hI 3 2 (wM_e3 ad cy σ) (tM_t3 cy) q dX12_flag_5 ?_
  refine lv_iload_n hx hb dX12_flag_6 rfl (lv_at hl 1 rfl) ?_
  refine lv_ishr hx hb dX12_flag_7 ?_
  refine lv_iconst (v := 1) hx hb dX12_flag_8 (by decide) ?_
  refine lv_iand hx hb dX12_flag_9 ?_
  exact z_ireturn hC hI hf dX12_flag_10
set_option maxRecDepth 20000 in
theorem cX12_flag_met (st : Nat → Nat) (l : Launch) (D : va_G) (ad : Nat → Nat) (cy : Nat → ClassId) (σ : zSt) (x1 : Int32) (res : zSt × Int32) (hf : fX12_flag σ x1 = some res) (sz : Nat) : zMi st l yX12_flag wzX12_flag rmX12_flag [.ref (ad 0), .int x1] D (tM cy) (wM ad cy) sz σ res :=
  zMi.of (cc := cX12_flag) (maxL := 2) (ret := (some .int)) (by decide) rfl (Nat.le_of_ble_eq_true rfl) (fun p e s m args below meth c hC A hI ls hl => bX12_flag hC hI hl hf)
theorem hdX12_flag : yX12_flag.cls = RX12 ∧ yX12_flag.cls ≠ "java/lang/invoke/MethodHandle" ∧ yX12_flag.cls ≠ "java/lang/invoke/VarHandle" ∧ (parseMethodDescriptor yX12_flag.desc).map (fun d => d.parameters.length) = some 1 := by decide +kernel
def rmX12_xy : Room := { frames := 1, cells := 0, slots := 0, locals := 22 }
def wzX12_xy : List Cond := .code yX12_xy cX12_xy 2 none :: wsL_law
def fX12_xy_31  (σ : zSt) (s0 : Int32) (s1 : Int32) : Option (zSt) :=
  zbu (fX12_put σ s1 s0) (fun σ1 =>
  some σ1)
def fX12_xy_14  (σ : zSt) (x1 : Int32) (s0 : Int32) (s1 : Int32) : Option (zSt) :=
  zbu (fX12_put σ s1 s0) (fun σ2 =>
  if (x1 &&& 8) = 0 then fX12_xy_31 σ2 0 3 else
  fX12_xy_31 σ2 1 3)
def fX12_xy  (σ : zSt) (x1 : Int32) : Option (zSt) :=
  if (x1 &&& 32) = 0 then fX12_xy_14 σ x1 0 5 else
  fX12_xy_14 σ x1 1 5
set_option maxRecDepth 20000 in
set_option maxHeartbeats 4000000 in
theorem bX12_xy_31 {st : Nat → Nat} {p : Program} {l : Launch} {e : Env} {s : State} {m : MethodId} {args : Array Value} {below : List Frame} {meth : Method} {c : Code} {D : va_G} {A : Nat → Prop} {ad : Nat → Nat} {cy : Nat → ClassId} (hC : zC p m c cX12_xy 2 s args wzX12_xy RX12 meth none)  {res : zSt} {H : Heap} {locs : List Loc} {σ : zSt} {ls : Array Slot} {s0 : Int32} {s1 : Int32} (hI : zI st D (tM cy) (wM ad cy σ) A s H locs) (hl : lv_has ls 2 []) (hf : fX12_xy_31  σ s0 s1 = some res) : W p l e rmX12_xy s m args below meth c H locs 0 0 (zQu below args s D (tM cy) (wM ad cy) A res) (F0 m 31 ls [.int s0, .int s1, .ref (ad 0)]) := by
  have hx := hC.1
  have hb := hC.2.1
  unfold fX12_xy_31 at hf
  obtain ⟨σ1, g1, hf⟩ := zbu_use hf
  refine z_callVu (As := [.int s1, .int s0]) (rest := []) hC hI (cX12_put_met st l D ad cy σ s1 s0 _ g1) (zgV zw52_13 zw52_14 zw52_15 zw1_5 zw52_16) rfl ⟨rfl, rfl⟩ 2 hdX12_put ⟨Nat.le_of_ble_eq_true rfl, Nat.le_of_ble_eq_true rfl⟩ rfl rfl (wM_e0 ad cy σ) rfl hl rfl (Nat.le_of_ble_eq_true rfl) dX12_xy_31 ⟨Nat.zero_le _, Nat.zero_le _⟩ (fun H locs hI => ?_)
  exact z_return hC hI hf dX12_xy_34
set_option maxRecDepth 20000 in
set_option maxHeartbeats 4000000 in
theorem bX12_xy_14 {st : Nat → Nat} {p : Program} {l : Launch} {e : Env} {s : State} {m : MethodId} {args : Array Value} {below : List Frame} {meth : Method} {c : Code} {D : va_G} {A : Nat → Prop} {ad : Nat → Nat} {cy : Nat → ClassId} (hC : zC p m c cX12_xy 2 s args wzX12_xy RX12 meth none)  {res : zSt} {H : Heap} {locs : List Loc} {σ : zSt} {ls : Array Slot} {x1 : Int32} {s0 : Int32} {s1 : Int32} (hI : zI st D (tM cy) (wM ad cy σ) A s H locs) (hl : lv_has ls 2 [(0, .ref (ad 0)), (1, .int x1)]) (hf : fX12_xy_14  σ x1 s0 s1 = some res) : W p l e rmX12_xy s m args below meth c H locs 0 0 (zQu below args s D (tM cy) (wM ad cy) A res) (F0 m 14 ls [.int s0, .int s1, .ref (ad 0)]) := by
  have hx := hC.1
  have hb := hC.2.1
  unfold fX12_xy_14 at hf
  obtain ⟨σ2, g2, hf⟩ := zbu_use hf
  refine z_callVu (As := [.int s1, .int s0]) (rest := []) hC hI (cX12_put_met st l D ad cy σ s1 s0 _ g2) (zgV zw52_13 zw52_14 zw52_15 zw1_5 zw52_16) rfl ⟨rfl, rfl⟩ 2 hdX12_put ⟨Nat.le_of_ble_eq_true rfl, Nat.le_of_ble_eq_true rfl⟩ rfl rfl (wM_e0 ad cy σ) rfl hl rfl (Nat.le_of_ble_eq_true rfl) dX12_xy_14 ⟨Nat.zero_le _, Nat.zero_le _⟩ (fun H locs hI => ?_)
  refine lv_aload_n hx hb dX12_xy_17 rfl (lv_at hl 0 rfl) ?_
  refine lv_iconst (v := 3) hx hb dX12_xy_18 (by decide) ?_
  refine lv_iload_n hx hb dX12_xy_19 rfl (lv_at hl 1 rfl) ?_
  refine lv_bipush (v := 8) hx hb dX12_xy_20 (by decide) ?_
  refine lv_iand hx hb dX12_xy_22 ?_
  refine lv_if_eq (tgt := 30) hx hb dX12_xy_23 (by decide) (fun q => ?_) (fun q => ?_)
  · replace hf := zif_t q hf
    refine lv_iconst (v := 0) hx hb dX12_xy_30 (by decide) ?_
    exact bX12_xy_31 hC  hI (lv_sub hl [] rfl) hf
  replace hf := zif_f q hf
  refine lv_iconst (v := 1) hx hb dX12_xy_26 (by decide) ?_
  refine lv_goto (tgt := 31) hx hb dX12_xy_27 (by decide) ?_
  exact bX12_xy_31 hC  hI (lv_sub hl [] rfl) hf
set_option maxRecDepth 20000 in
set_option maxHeartbeats 4000000 in
theorem bX12_xy {st : Nat → Nat} {p : Program} {l : Launch} {e : Env} {s : State} {m : MethodId} {args : Array Value} {below : List Frame} {meth : Method} {c : Code} {D : va_G} {A : Nat → Prop} {ad : Nat → Nat} {cy : Nat → ClassId} (hC : zC p m c cX12_xy 2 s args wzX12_xy RX12 meth none)  {res : zSt} {H : Heap} {locs : List Loc} {σ : zSt} {ls : Array Slot} {x1 : Int32} (hI : zI st D (tM cy) (wM ad cy σ) A s H locs) (hl : lv_has ls 2 [(0, .ref (ad 0)), (1, .int x1)]) (hf : fX12_xy  σ x1 = some res) : W p l e rmX12_xy s m args below meth c H locs 0 0 (zQu below args s D (tM cy) (wM ad cy) A res) (F0 m 0 ls []) := by
  have hx := hC.1
  have hb := hC.2.1
  unfold fX12_xy at hf
  refine lv_aload_n hx hb dX12_xy_0 rfl (lv_at hl 0 rfl) ?_
  refine lv_iconst (v := 5) hx hb dX12_xy_1 (by decide) ?_
  refine lv_iload_n hx hb dX12_xy_2 rfl (lv_at hl 1 rfl) ?_
  refine lv_bipush (v := 32) hx hb dX12_xy_3 (by decide) ?_
  refine lv_iand hx hb dX12_xy_5 ?_
  refine lv_if_eq (tgt := 13) hx hb dX12_xy_6 (by decide) (fun q => ?_) (fun q => ?_)
  · replace hf := zif_t q hf
    refine lv_iconst (v := 0) hx hb dX12_xy_13 (by decide) ?_
    exact bX12_xy_14 hC  hI hl hf
  replace hf := zif_f q hf
  refine lv_iconst (v := 1) hx hb dX12_xy_9 (by decide) ?_
  refine lv_goto (tgt := 14) hx hb dX12_xy_10 (by decide) ?_
  exact bX12_xy_14 hC  hI hl hf
set_option maxRecDepth 20000 in
theorem cX12_xy_met (st : Nat → Nat) (l : Launch) (D : va_G) (ad : Nat → Nat) (cy : Nat → ClassId) (σ : zSt) (x1 : Int32) (res : zSt) (hf : fX12_xy σ x1 = some res) (sz : Nat) : zMu st l yX12_xy wzX12_xy rmX12_xy [.ref (ad 0), .int x1] D (tM cy) (wM ad cy) sz σ res :=
  zMu.of (cc := cX12_xy) (maxL := 2) (ret := none) (by decide) rfl (Nat.le_of_ble_eq_true rfl) (fun p e s m args below meth c hC A hI ls hl => bX12_xy hC hI hl hf)
theorem hdX12_xy : yX12_xy.cls = RX12 ∧ yX12_xy.cls ≠ "java/lang/invoke/MethodHandle" ∧ yX12_xy.cls ≠ "java/lang/invoke/VarHandle" ∧ (parseMethodDescriptor yX12_xy.desc).map (fun d => d.parameters.length) = some 1 := by decide +kernel
def rmX12_by : Room := { frames := 2, cells := 0, slots := 0, locals := 43 }
def wzX12_by : List Cond := .code yX12_by cX12_by 2 none :: wsL_law
def fX12_by_31  (σ : zSt) (x1 : Int32) (s0 : Int32) (s1 : Int32) : Option (zSt) :=
  zbu (fX12_put σ s1 s0) (fun σ1 =>
  zbu (fX12_xy σ1 x1) (fun σ2 =>
  some σ2))
def fX12_by_16  (σ : zSt) (x1 : Int32) (s0 : Int32) (s1 : Int32) : Option (zSt) :=
  zbu (fX12_put σ s1 s0) (fun σ3 =>
  if x1 = 0 then fX12_by_31 σ3 x1 1 6 else
  fX12_by_31 σ3 x1 0 6)
def fX12_by  (σ : zSt) (x1 : Int32) : Option (zSt) :=
  if (x1 &&& 128) = 0 then fX12_by_16 σ x1 0 7 else
  fX12_by_16 σ x1 1 7
set_option maxRecDepth 20000 in
set_option maxHeartbeats 4000000 in
theorem bX12_by_31 {st : Nat → Nat} {p : Program} {l : Launch} {e : Env} {s : State} {m : MethodId} {args : Array Value} {below : List Frame} {meth : Method} {c : Code} {D : va_G} {A : Nat → Prop} {ad : Nat → Nat} {cy : Nat → ClassId} (hC : zC p m c cX12_by 2 s args wzX12_by RX12 meth none)  {res : zSt} {H : Heap} {locs : List Loc} {σ : zSt} {ls : Array Slot} {x1 : Int32} {s0 : Int32} {s1 : Int32} (hI : zI st D (tM cy) (wM ad cy σ) A s H locs) (hl : lv_has ls 2 [(0, .ref (ad 0)), (1, .int x1)]) (hf : fX12_by_31  σ x1 s0 s1 = some res) : W p l e rmX12_by s m args below meth c H locs 0 0 (zQu below args s D (tM cy) (wM ad cy) A res) (F0 m 31 ls [.int s0, .int s1, .ref (ad 0)]) := by
  have hx := hC.1
  have hb := hC.2.1
  unfold fX12_by_31 at hf
  obtain ⟨σ1, g1, hf⟩ := zbu_use hf
  refine z_callVu (As := [.int s1, .int s0]) (rest := []) hC hI (cX12_put_met st l D ad cy σ s1 s0 _ g1) (zgV zw52_13 zw52_14 zw52_15 zw1_5 zw52_16) rfl ⟨rfl, rfl⟩ 2 hdX12_put ⟨Nat.le_of_ble_eq_true rfl, Nat.le_of_ble_eq_true rfl⟩ rfl rfl (wM_e0 ad cy σ) rfl hl rfl (Nat.le_of_ble_eq_true rfl) dX12_by_31 ⟨Nat.zero_le _, Nat.zero_le _⟩ (fun H locs hI => ?_)
  refine lv_aload_n hx hb dX12_by_34 rfl (lv_at hl 0 rfl) ?_
  refine lv_iload_n hx hb dX12_by_35 rfl (lv_at hl 1 rfl) ?_
  obtain ⟨σ2, g2, hf⟩ := zbu_use hf
  refine z_callVu (As := [.int x1]) (rest := []) hC hI (cX12_xy_met st l D ad cy σ1 x1 _ g2) (zgV zw52_17 zw52_18 zw52_19 zw1_5 zw52_20) rfl ⟨rfl, rfl⟩ 1 hdX12_xy ⟨Nat.le_of_ble_eq_true rfl, Nat.le_of_ble_eq_true rfl⟩ rfl rfl (wM_e0 ad cy σ1) rfl hl rfl (Nat.le_of_ble_eq_true rfl) dX12_by_36 ⟨Nat.zero_le _, Nat.zero_le _⟩ (fun H locs hI => ?_)
  exact z_return hC hI hf dX12_by_39
set_option maxRecDepth 20000 in
set_option maxHeartbeats 4000000 in
theorem bX12_by_16 {st : Nat → Nat} {p : Program} {l : Launch} {e : Env} {s : State} {m : MethodId} {args : Array Value} {below : List Frame} {meth : Method} {c : Code} {D : va_G} {A : Nat → Prop} {ad : Nat → Nat} {cy : Nat → ClassId} (hC : zC p m c cX12_by 2 s args wzX12_by RX12 meth none)  {res : zSt} {H : Heap} {locs : List Loc} {σ : zSt} {ls : Array Slot} {x1 : Int32} {s0 : Int32} {s1 : Int32} (hI : zI st D (tM cy) (wM ad cy σ) A s H locs) (hl : lv_has ls 2 [(0, .ref (ad 0)), (1, .int x1)]) (hf : fX12_by_16  σ x1 s0 s1 = some res) : W p l e rmX12_by s m args below meth c H locs 0 0 (zQu below args s D (tM cy) (wM ad cy) A res) (F0 m 16 ls [.int s0, .int s1, .ref (ad 0)]) := by
  have hx := hC.1
  have hb := hC.2.1
  unfold fX12_by_16 at hf
  obtain ⟨σ3, g3, hf⟩ := zbu_use hf
  refine z_callVu (As := [.int s1, .int s0]) (rest := []) hC hI (cX12_put_met st l D ad cy σ s1 s0 _ g3) (zgV zw52_13 zw52_14 zw52_15 zw1_5 zw52_16) rfl ⟨rfl, rfl⟩ 2 hdX12_put ⟨Nat.le_of_ble_eq_true rfl, Nat.le_of_ble_eq_true rfl⟩ rfl rfl (wM_e0 ad cy σ) rfl hl rfl (Nat.le_of_ble_eq_true rfl) dX12_by_16 ⟨Nat.zero_le _, Nat.zero_le _⟩ (fun H locs hI => ?_)
  refine lv_aload_n hx hb dX12_by_19 rfl (lv_at hl 0 rfl) ?_
  refine lv_bipush (v := 6) hx hb dX12_by_20 (by decide) ?_
  refine lv_iload_n hx hb dX12_by_22 rfl (lv_at hl 1 rfl) ?_
  refine lv_if_ne (tgt := 30) hx hb dX12_by_23 (by decide) (fun q => ?_) (fun q => ?_)
  · replace hf := zif_f q hf
    refine lv_iconst (v := 0) hx hb dX12_by_30 (by decide) ?_
    exact bX12_by_31 hC  hI hl hf
  replace hf := zif_t q hf
  refine lv_iconst (v := 1) hx hb dX12_by_26 (by decide) ?_
  refine lv_goto (tgt := 31) hx hb dX12_by_27 (by decide) ?_
  exact bX12_by_31 hC  hI hl hf
set_option maxRecDepth 20000 in
set_option maxHeartbeats 4000000 in
theorem bX12_by {st : Nat → Nat} {p : Program} {l : Launch} {e : Env} {s : State} {m : MethodId} {args : Array Value} {below : List Frame} {meth : Method} {c : Code} {D : va_G} {A : Nat → Prop} {ad : Nat → Nat} {cy : Nat → ClassId} (hC : zC p m c cX12_by 2 s args wzX12_by RX12 meth none)  {res : zSt} {H : Heap} {locs : List Loc} {σ : zSt} {ls : Array Slot} {x1 : Int32} (hI : zI st D (tM cy) (wM ad cy σ) A s H locs) (hl : lv_has ls 2 [(0, .ref (ad 0)), (1, .int x1)]) (hf : fX12_by  σ x1 = some res) : W p l e rmX12_by s m args below meth c H locs 0 0 (zQu below args s D (tM cy) (wM ad cy) A res) (F0 m 0 ls []) := by
  have hx := hC.1
  have hb := hC.2.1
  unfold fX12_by at hf
  refine lv_aload_n hx hb dX12_by_0 rfl (lv_at hl 0 rfl) ?_
  refine lv_bipush (v := 7) hx hb dX12_by_1 (by decide) ?_
  refine lv_iload_n hx hb dX12_by_3 rfl (lv_at hl 1 rfl) ?_
  refine lv_sipush (v := 128) hx hb dX12_by_4 (by decide) ?_
  refine lv_iand hx hb dX12_by_7 ?_
  refine lv_if_eq (tgt := 15) hx hb dX12_by_8 (by decide) (fun q => ?_) (fun q => ?_)
  · replace hf := zif_t q hf
    refine lv_iconst (v := 0) hx hb dX12_by_15 (by decide) ?_
    exact bX12_by_16 hC  hI hl hf
  replace hf := zif_f q hf
  refine lv_iconst (v := 1) hx hb dX12_by_11 (by decide) ?_
  refine lv_goto (tgt := 16) hx hb dX12_by_12 (by decide) ?_
  exact bX12_by_16 hC  hI hl hf
set_option maxRecDepth 20000 in
theorem cX12_by_met (st : Nat → Nat) (l : Launch) (D : va_G) (ad : Nat → Nat) (cy : Nat → ClassId) (σ : zSt) (x1 : Int32) (res : zSt) (hf : fX12_by σ x1 = some res) (sz : Nat) : zMu st l yX12_by wzX12_by rmX12_by [.ref (ad 0), .int x1] D (tM cy) (wM ad cy) sz σ res :=
  zMu.of (cc := cX12_by) (maxL := 2) (ret := none) (by decide) rfl (Nat.le_of_ble_eq_true rfl) (fun p e s m args below meth c hC A hI ls hl => bX12_by hC hI hl hf)
theorem hdX12_by : yX12_by.cls = RX12 ∧ yX12_by.cls ≠ "java/lang/invoke/MethodHandle" ∧ yX12_by.cls ≠ "java/lang/invoke/VarHandle" ∧ (parseMethodDescriptor yX12_by.desc).map (fun d => d.parameters.length) = some 1 := by decide +kernel
def rmX12_isEven : Room := { frames := 0, cells := 0, slots := 0, locals := 0 }
def wzX12_isEven : List Cond := .code yX12_isEven cX12_isEven 3 (some .boolean) :: wsL_law
def fX12_isEven_35  (σ : zSt) (s0 : Int32) : Option (zSt × Int32) :=
  zck (zbo s0) (some (σ, s0))
def fX12_isEven_4_body (k4 : zSt → Int32 → Int32 → Int32 → Option (zSt × Int32)) (σ : zSt) (x0 : Int32) (x1 : Int32) (x2 : Int32) : Option (zSt × Int32) :=
  if 8 ≤ x2 then zck (decide (¬ 2 = 0)) (
  if (zrem x1 2) = 0 then fX12_isEven_35 σ 1 else
  fX12_isEven_35 σ 0) else
  zbv (x1 + ((x0 >>> (x2 &&& 31)) &&& 1)) (fun v1 =>
  zbv (x2 + 1) (fun v2 =>
  k4 σ x0 v1 v2))
def fX12_isEven_4  : Nat → zSt → Int32 → Int32 → Int32 → Option (zSt × Int32)
  | 0, _, _, _, _ => none
  | n + 1, σ, x0, x1, x2 => fX12_isEven_4_body (fX12_isEven_4  n) σ x0 x1 x2
def fX12_isEven  (σ : zSt) (x0 : Int32) : Option (zSt × Int32) :=
  fX12_isEven_4 zfuel σ x0 0 0
set_option maxRecDepth 20000 in
set_option maxHeartbeats 4000000 in
theorem bX12_isEven_35 {st : Nat → Nat} {p : Program} {l : Launch} {e : Env} {s : State} {m : MethodId} {args : Array Value} {below : List Frame} {meth : Method} {c : Code} {D : va_G} {A : Nat → Prop} {ad : Nat → Nat} {cy : Nat → ClassId} (hC : zC p m c cX12_isEven 3 s args wzX12_isEven RX12 meth (some .boolean))  {res : zSt × Int32} {H : Heap} {locs : List Loc} {σ : zSt} {ls : Array Slot} {s0 : Int32} (hI : zI st D (tM cy) (wM ad cy σ) A s H locs) (hl : lv_has ls 3 []) (hf : fX12_isEven_35  σ s0 = some res) : W p l e rmX12_isEven s m args below meth c H locs 0 0 (zQi below args s D (tM cy) (wM ad cy) A res) (F0 m 35 ls [.int s0]) := by
  have hx := hC.1
  have hb := hC.2.1
  unfold fX12_isEven_35 at hf
  obtain ⟨q, hf⟩ := zck_use hf
  exact z_zreturn hC hI (zbo_n q) hf dX12_isEven_35
set_option maxRecDepth 20000 in
set_option maxHeartbeats 4000000 in
theorem bX12_isEven_4_body {st : Nat → Nat} {p : Program} {l : Launch} {e : Env} {s : State} {m : MethodId} {args : Array Value} {below : List Frame} {meth : Method} {c : Code} {D : va_G} {A : Nat → Prop} {ad : Nat → Nat} {cy : Nat → ClassId} (hC : zC p m c cX12_isEven 3 s args wzX12_isEven RX12 meth (some .boolean)) {k4 : zSt → Int32 → Int32 → Int32 → Option (zSt × Int32)} {res : zSt × Int32} (hk4 : ∀ (H : Heap) (locs : List Loc) (σ : zSt) (ls : Array Slot) (x0 : Int32) (x1 : Int32) (x2 : Int32), zI st D (tM cy) (wM ad cy σ) A s H locs → lv_has ls 3 [(0, .int x0), (1, .int x1), (2, .int x2)] → k4 σ x0 x1 x2 = some res → W p l e rmX12_isEven s m args below meth c H locs 0 0 (zQi below args s D (tM cy) (wM ad cy) A res) (F0 m 4 ls [])) {H : Heap} {locs : List Loc} {σ : zSt} {ls : Array Slot} {x0 : Int32} {x1 : Int32} {x2 : Int32} (hI : zI st D (tM cy) (wM ad cy σ) A s H locs) (hl : lv_has ls 3 [(0, .int x0), (1, .int x1), (2, .int x2)]) (hf : fX12_isEven_4_body k4 σ x0 x1 x2 = some res) : W p l e rmX12_isEven s m args below meth c H locs 0 0 (zQi below args s D (tM cy) (wM ad cy) A res) (F0 m 4 ls []) := by
  have hx := hC.1
  have hb := hC.2.1
  unfold fX12_isEven_4_body at hf
  refine lv_iload_n hx hb dX12_isEven_4 rfl (lv_at hl 2 rfl) ?_
  refine lv_bipush (v := 8) hx hb dX12_isEven_5 (by decide) ?_
  refine lv_icmp_ge (tgt := 24) hx hb dX12_isEven_7 (by decide) (fun q => ?_) (fun q => ?_)
  · replace hf := zif_t q hf
    refine lv_iload_n hx hb dX12_isEven_24 rfl (lv_at hl 1 rfl) ?_
    refine lv_iconst (v := 2) hx hb dX12_isEven_25 (by decide) ?_
    obtain ⟨q, hf⟩ := zck_use hf
    refine z_irem hx hb dX12_isEven_26 (of_decide_eq_true q) ?_
    refine lv_if_ne (tgt := 34) hx hb dX12_isEven_27 (by decide) (fun q => ?_) (fun q => ?_)
    · replace hf := zif_f q hf
      refine lv_iconst (v := 0) hx hb dX12_isEven_34 (by decide) ?_
      exact bX12_isEven_35 hC  hI (lv_sub hl [] rfl) hf
    replace hf := zif_t q hf
    refine lv_iconst (v := 1) hx hb dX12_isEven_30 (by decide) ?_
    refine lv_goto (tgt := 35) hx hb dX12_isEven_31 (by decide) ?_
    exact bX12_isEven_35 hC  hI (lv_sub hl [] rfl) hf
  replace hf := zif_f q hf
  refine lv_iload_n hx hb dX12_isEven_10 rfl (lv_at hl 1 rfl) ?_
  refine lv_iload_n hx hb dX12_isEven_11 rfl (lv_at hl 0 rfl) ?_
  refine lv_iload_n hx hb dX12_isEven_12 rfl (lv_at hl 2 rfl) ?_
  refine lv_ishr hx hb dX12_isEven_13 ?_
  refine lv_iconst (v := 1) hx hb dX12_isEven_14 (by decide) ?_
  refine lv_iand hx hb dX12_isEven_15 ?_
  refine lv_iadd hx hb dX12_isEven_16 ?_
  refine lv_topi (fun v1 ev1 => ?_)
  replace hf := zbv_use ev1 hf
  refine lv_istore_n (lv' := [(1, .int v1), (0, .int x0), (2, .int x2)]) hx hb dX12_isEven_17 rfl hl (by decide) rfl (fun ls hl => ?_)
  obtain ⟨v2, ev2⟩ : ∃ z : Int32, z = x2 + 1 := ⟨_, rfl⟩
  replace hf := zbv_use ev2 hf
  refine lv_iinc (v := v2) (lv' := [(2, .int v2), (1, .int v1), (0, .int x0)]) hx hb dX12_isEven_18 hl (k := 2) rfl (by rw [ev2]; rfl) (by decide) rfl (fun ls hl => ?_)
  refine lv_goto (tgt := 4) hx hb dX12_isEven_21 (by decide) ?_
  exact hk4 _ _ _ _ _ _ _ hI (lv_sub hl [2, 1, 0] rfl) hf
theorem blX12_isEven_4 {st : Nat → Nat} {p : Program} {l : Launch} {e : Env} {s : State} {m : MethodId} {args : Array Value} {below : List Frame} {meth : Method} {c : Code} {D : va_G} {A : Nat → Prop} {ad : Nat → Nat} {cy : Nat → ClassId} (hC : zC p m c cX12_isEven 3 s args wzX12_isEven RX12 meth (some .boolean))  {res : zSt × Int32} : ∀ (n : Nat) (H : Heap) (locs : List Loc) (σ : zSt) (ls : Array Slot) (x0 : Int32) (x1 : Int32) (x2 : Int32), zI st D (tM cy) (wM ad cy σ) A s H locs → lv_has ls 3 [(0, .int x0), (1, .int x1), (2, .int x2)] → fX12_isEven_4  n σ x0 x1 x2 = some res → W p l e rmX12_isEven s m args below meth c H locs 0 0 (zQi below args s D (tM cy) (wM ad cy) A res) (F0 m 4 ls []) := by
  intro n
  induction n with
  | zero => intro H locs σ ls x0 x1 x2 hI hl hf; cases hf
  | succ n ih => intro H locs σ ls x0 x1 x2 hI hl hf; exact bX12_isEven_4_body hC ih hI hl hf
set_option maxRecDepth 20000 in
set_option maxHeartbeats 4000000 in
theorem bX12_isEven {st : Nat → Nat} {p : Program} {l : Launch} {e : Env} {s : State} {m : MethodId} {args : Array Value} {below : List Frame} {meth : Method} {c : Code} {D : va_G} {A : Nat → Prop} {ad : Nat → Nat} {cy : Nat → ClassId} (hC : zC p m c cX12_isEven 3 s args wzX12_isEven RX12 meth (some .boolean))  {res : zSt × Int32} {H : Heap} {locs : List Loc} {σ : zSt} {ls : Array Slot} {x0 : Int32} (hI : zI st D (tM cy) (wM ad cy σ) A s H locs) (hl : lv_has ls 3 [(0, .int x0)]) (hf : fX12_isEven  σ x0 = some res) : W p l e rmX12_isEven s m args below meth c H locs 0 0 (zQi below args s D (tM cy) (wM ad cy) A res) (F0 m 0 ls []) := by
  have hx := hC.1
  have hb := hC.2.1
  unfold fX12_isEven at hf
  refine lv_iconst (v := 0) hx hb dX12_isEven_0 (by decide) ?_
  refine lv_istore_n (lv' := [(1, .int 0), (0, .int x0)]) hx hb dX12_isEven_1 rfl hl (by decide) rfl (fun ls hl => ?_)
  refine lv_iconst (v := 0) hx hb dX12_isEven_2 (by decide) ?_
  refine lv_istore_n (lv' := [(2, .int 0), (1, .int 0), (0, .int x0)]) hx hb dX12_isEven_3 rfl hl (by decide) rfl (fun ls hl => ?_)
  exact blX12_isEven_4 hC  zfuel _ _ _ _ _ _ _ hI (lv_sub hl [2, 1, 0] rfl) hf
set_option maxRecDepth 20000 in
theorem cX12_isEven_met (st : Nat → Nat) (l : Launch) (D : va_G) (ad : Nat → Nat) (cy : Nat → ClassId) (σ : zSt) (x0 : Int32) (res : zSt × Int32) (hf : fX12_isEven σ x0 = some res) (sz : Nat) : zMi st l yX12_isEven wzX12_isEven rmX12_isEven [.int x0] D (tM cy) (wM ad cy) sz σ res :=
  zMi.of (cc := cX12_isEven) (maxL := 3) (ret := (some .boolean)) (by decide) rfl (Nat.le_of_ble_eq_true rfl) (fun p e s m args below meth c hC A hI ls hl => bX12_isEven hC hI hl hf)
theorem hdX12_isEven : yX12_isEven.cls ≠ "java/lang/invoke/MethodHandle" ∧ yX12_isEven.cls ≠ "java/lang/invoke/VarHandle" ∧ (parseMethodDescriptor yX12_isEven.desc).map (fun d => d.parameters.length) = some 1 := by decide +kernel
def rmX12_cc : Room := { frames := 1, cells := 0, slots := 0, locals := 21 }
def wzX12_cc : List Cond := .code yX12_cc cX12_cc 2 (some .boolean) :: wsL_law
def fX12_cc_64  (σ : zSt) (s0 : Int32) : Option (zSt × Int32) :=
  zck (zbo s0) (some (σ, s0))
def fX12_cc_56  (σ : zSt) (s0 : Int32) (s1 : Int32) : Option (zSt × Int32) :=
  if s1 = s0 then fX12_cc_64 σ 1 else
  fX12_cc_64 σ 0
def fX12_cc_44  (σ : zSt) (x1 : Int32) (s0 : Int32) : Option (zSt × Int32) :=
  zck (decide (¬ 2 = 0)) (
  if (zrem x1 2) = 1 then fX12_cc_56 σ 1 s0 else
  fX12_cc_56 σ 0 s0)
def fX12_cc_32  (σ : zSt) (x1 : Int32) (s0 : Int32) : Option (zSt × Int32) :=
  zbi (fX12_flag σ s0) (fun σ1 v2 =>
  if v2 = 1 then fX12_cc_44 σ1 x1 1 else
  fX12_cc_44 σ1 x1 0)
def fX12_cc  (σ : zSt) (x1 : Int32) : Option (zSt × Int32) :=
  if 2 ≤ x1 then if 4 ≤ x1 then if 6 ≤ x1 then fX12_cc_32 σ x1 7 else
  fX12_cc_32 σ x1 2 else
  fX12_cc_32 σ x1 0 else
  fX12_cc_32 σ x1 6
set_option maxRecDepth 20000 in
set_option maxHeartbeats 4000000 in
theorem bX12_cc_64 {st : Nat → Nat} {p : Program} {l : Launch} {e : Env} {s : State} {m : MethodId} {args : Array Value} {below : List Frame} {meth : Method} {c : Code} {D : va_G} {A : Nat → Prop} {ad : Nat → Nat} {cy : Nat → ClassId} (hC : zC p m c cX12_cc 2 s args wzX12_cc RX12 meth (some .boolean))  {res : zSt × Int32} {H : Heap} {locs : List Loc} {σ : zSt} {ls : Array Slot} {s0 : Int32} (hI : zI st D (tM cy) (wM ad cy σ) A s H locs) (hl : lv_has ls 2 []) (hf : fX12_cc_64  σ s0 = some res) : W p l e rmX12_cc s m args below meth c H locs 0 0 (zQi below args s D (tM cy) (wM ad cy) A res) (F0 m 64 ls [.int s0]) := by
  have hx := hC.1
  have hb := hC.2.1
  unfold fX12_cc_64 at hf
  obtain ⟨q, hf⟩ := zck_use hf
  exact z_zreturn hC hI (zbo_n q) hf dX12_cc_64
set_option maxRecDepth 20000 in
set_option maxHeartbeats 4000000 in
theorem bX12_cc_56 {st : Nat → Nat} {p : Program} {l : Launch} {e : Env} {s : State} {m : MethodId} {args : Array Value} {below : List Frame} {meth : Method} {c : Code} {D : va_G} {A : Nat → Prop} {ad : Nat → Nat} {cy : Nat → ClassId} (hC : zC p m c cX12_cc 2 s args wzX12_cc RX12 meth (some .boolean))  {res : zSt × Int32} {H : Heap} {locs : List Loc} {σ : zSt} {ls : Array Slot} {s0 : Int32} {s1 : Int32} (hI : zI st D (tM cy) (wM ad cy σ) A s H locs) (hl : lv_has ls 2 []) (hf : fX12_cc_56  σ s0 s1 = some res) : W p l e rmX12_cc s m args below meth c H locs 0 0 (zQi below args s D (tM cy) (wM ad cy) A res) (F0 m 56 ls [.int s0, .int s1]) := by
  have hx := hC.1
  have hb := hC.2.1
  unfold fX12_cc_56 at hf
  refine lv_icmp_ne (tgt := 63) hx hb dX12_cc_56 (by decide) (fun q => ?_) (fun q => ?_)
  · replace hf := zif_f q hf
    refine lv_iconst (v := 0) hx hb dX12_cc_63 (by decide) ?_
    exact bX12_cc_64 hC  hI hl hf
  replace hf := zif_t q hf
  refine lv_iconst (v := 1) hx hb dX12_cc_59 (by decide) ?_
  refine lv_goto (tgt := 64) hx hb dX12_cc_60 (by decide) ?_
  exact bX12_cc_64 hC  hI hl hf
set_option maxRecDepth 20000 in
set_option maxHeartbeats 4000000 in
theorem bX12_cc_44 {st : Nat → Nat} {p : Program} {l : Launch} {e : Env} {s : State} {m : MethodId} {args : Array Value} {below : List Frame} {meth : Method} {c : Code} {D : va_G} {A : Nat → Prop} {ad : Nat → Nat} {cy : Nat → ClassId} (hC : zC p m c cX12_cc 2 s args wzX12_cc RX12 meth (some .boolean))  {res : zSt × Int32} {H : Heap} {locs : List Loc} {σ : zSt} {ls : Array Slot} {x1 : Int32} {s0 : Int32} (hI : zI st D (tM cy) (wM ad cy σ) A s H locs) (hl : lv_has ls 2 [(1, .int x1)]) (hf : fX12_cc_44  σ x1 s0 = some res) : W p l e rmX12_cc s m args below meth c H locs 0 0 (zQi below args s D (tM cy) (wM ad cy) A res) (F0 m 44 ls [.int s0]) := by
  have hx := hC.1
  have hb := hC.2.1
  unfold fX12_cc_44 at hf
  refine lv_iload_n hx hb dX12_cc_44 rfl (lv_at hl 0 rfl) ?_
  refine lv_iconst (v := 2) hx hb dX12_cc_45 (by decide) ?_
  obtain ⟨q, hf⟩ := zck_use hf
  refine z_irem hx hb dX12_cc_46 (of_decide_eq_true q) ?_
  refine lv_iconst (v := 1) hx hb dX12_cc_47 (by decide) ?_
  refine lv_icmp_ne (tgt := 55) hx hb dX12_cc_48 (by decide) (fun q => ?_) (fun q => ?_)
  · replace hf := zif_f q hf
    refine lv_iconst (v := 0) hx hb dX12_cc_55 (by decide) ?_
    exact bX12_cc_56 hC  hI (lv_sub hl [] rfl) hf
  replace hf := zif_t q hf
  refine lv_iconst (v := 1) hx hb dX12_cc_51 (by decide) ?_
  refine lv_goto (tgt := 56) hx hb dX12_cc_52 (by decide) ?_
  exact bX12_cc_56 hC  hI (lv_sub hl [] rfl) hf
set_option maxRecDepth 20000 in
set_option maxHeartbeats 4000000 in
theorem bX12_cc_32 {st : Nat → Nat} {p : Program} {l : Launch} {e : Env} {s : State} {m : MethodId} {args : Array Value} {below : List Frame} {meth : Method} {c : Code} {D : va_G} {A : Nat → Prop} {ad : Nat → Nat} {cy : Nat → ClassId} (hC : zC p m c cX12_cc 2 s args wzX12_cc RX12 meth (some .boolean))  {res : zSt × Int32} {H : Heap} {locs : List Loc} {σ : zSt} {ls : Array Slot} {x1 : Int32} {s0 : Int32} (hI : zI st D (tM cy) (wM ad cy σ) A s H locs) (hl : lv_has ls 2 [(1, .int x1)]) (hf : fX12_cc_32  σ x1 s0 = some res) : W p l e rmX12_cc s m args below meth c H locs 0 0 (zQi below args s D (tM cy) (wM ad cy) A res) (F0 m 32 ls [.int s0, .ref (ad 0)]) := by
  have hx := hC.1
  have hb := hC.2.1
  unfold fX12_cc_32 at hf
  obtain ⟨σ1, v2, g1, hf⟩ := zbi_use hf
  refine z_callVi (As := [.int s0]) (rest := []) hC hI (cX12_flag_met st l D ad cy σ s0 _ g1) (zgV zw51_1 zw51_2 zw51_3 zw1_5 zw51_4) rfl ⟨rfl, rfl⟩ 1 hdX12_flag ⟨Nat.le_of_ble_eq_true rfl, Nat.le_of_ble_eq_true rfl⟩ rfl rfl (wM_e0 ad cy σ) rfl hl rfl (Nat.le_of_ble_eq_true rfl) dX12_cc_32 ⟨Nat.zero_le _, Nat.zero_le _⟩ (fun H locs hI => ?_)
  refine lv_iconst (v := 1) hx hb dX12_cc_35 (by decide) ?_
  refine lv_icmp_ne (tgt := 43) hx hb dX12_cc_36 (by decide) (fun q => ?_) (fun q => ?_)
  · replace hf := zif_f q hf
    refine lv_iconst (v := 0) hx hb dX12_cc_43 (by decide) ?_
    exact bX12_cc_44 hC  hI hl hf
  replace hf := zif_t q hf
  refine lv_iconst (v := 1) hx hb dX12_cc_39 (by decide) ?_
  refine lv_goto (tgt := 44) hx hb dX12_cc_40 (by decide) ?_
  exact bX12_cc_44 hC  hI hl hf
set_option maxRecDepth 20000 in
set_option maxHeartbeats 4000000 in
theorem bX12_cc {st : Nat → Nat} {p : Program} {l : Launch} {e : Env} {s : State} {m : MethodId} {args : Array Value} {below : List Frame} {meth : Method} {c : Code} {D : va_G} {A : Nat → Prop} {ad : Nat → Nat} {cy : Nat → ClassId} (hC : zC p m c cX12_cc 2 s args wzX12_cc RX12 meth (some .boolean))  {res : zSt × Int32} {H : Heap} {locs : List Loc} {σ : zSt} {ls : Array Slot} {x1 : Int32} (hI : zI st D (tM cy) (wM ad cy σ) A s H locs) (hl : lv_has ls 2 [(0, .ref (ad 0)), (1, .int x1)]) (hf : fX12_cc  σ x1 = some res) : W p l e rmX12_cc s m args below meth c H locs 0 0 (zQi below args s D (tM cy) (wM ad cy) A res) (F0 m 0 ls []) := by
  have hx := hC.1
  have hb := hC.2.1
  unfold fX12_cc at hf
  refine lv_aload_n hx hb dX12_cc_0 rfl (lv_at hl 0 rfl) ?_
  refine lv_iload_n hx hb dX12_cc_1 rfl (lv_at hl 1 rfl) ?_
  refine lv_iconst (v := 2) hx hb dX12_cc_2 (by decide) ?_
  refine lv_icmp_ge (tgt := 11) hx hb dX12_cc_3 (by decide) (fun q => ?_) (fun q => ?_)
  · replace hf := zif_t q hf
    refine lv_iload_n hx hb dX12_cc_11 rfl (lv_at hl 1 rfl) ?_
    refine lv_iconst (v := 4) hx hb dX12_cc_12 (by decide) ?_
    refine lv_icmp_ge (tgt := 20) hx hb dX12_cc_13 (by decide) (fun q => ?_) (fun q => ?_)
    · replace hf := zif_t q hf
      refine lv_iload_n hx hb dX12_cc_20 rfl (lv_at hl 1 rfl) ?_
      refine lv_bipush (v := 6) hx hb dX12_cc_21 (by decide) ?_
      refine lv_icmp_ge (tgt := 30) hx hb dX12_cc_23 (by decide) (fun q => ?_) (fun q => ?_)
      · replace hf := zif_t q hf
        refine lv_bipush (v := 7) hx hb dX12_cc_30 (by decide) ?_
        exact bX12_cc_32 hC  hI (lv_sub hl [1] rfl) hf
      replace hf := zif_f q hf
      refine lv_iconst (v := 2) hx hb dX12_cc_26 (by decide) ?_
      refine lv_goto (tgt := 32) hx hb dX12_cc_27 (by decide) ?_
      exact bX12_cc_32 hC  hI (lv_sub hl [1] rfl) hf
    replace hf := zif_f q hf
    refine lv_iconst (v := 0) hx hb dX12_cc_16 (by decide) ?_
    refine lv_goto (tgt := 32) hx hb dX12_cc_17 (by decide) ?_
    exact bX12_cc_32 hC  hI (lv_sub hl [1] rfl) hf
  replace hf := zif_f q hf
  refine lv_bipush (v := 6) hx hb dX12_cc_6 (by decide) ?_
  refine lv_goto (tgt := 32) hx hb dX12_cc_8 (by decide) ?_
  exact bX12_cc_32 hC  hI (lv_sub hl [1] rfl) hf
set_option maxRecDepth 20000 in
theorem cX12_cc_met (st : Nat → Nat) (l : Launch) (D : va_G) (ad : Nat → Nat) (cy : Nat → ClassId) (σ : zSt) (x1 : Int32) (res : zSt × Int32) (hf : fX12_cc σ x1 = some res) (sz : Nat) : zMi st l yX12_cc wzX12_cc rmX12_cc [.ref (ad 0), .int x1] D (tM cy) (wM ad cy) sz σ res :=
  zMi.of (cc := cX12_cc) (maxL := 2) (ret := (some .boolean)) (by decide) rfl (Nat.le_of_ble_eq_true rfl) (fun p e s m args below meth c hC A hI ls hl => bX12_cc hC hI hl hf)
theorem hdX12_cc : yX12_cc.cls = RX12 ∧ yX12_cc.cls ≠ "java/lang/invoke/MethodHandle" ∧ yX12_cc.cls ≠ "java/lang/invoke/VarHandle" ∧ (parseMethodDescriptor yX12_cc.desc).map (fun d => d.parameters.length) = some 1 := by decide +kernel
def rmX12_push : Room := { frames := 2, cells := 0, slots := 0, locals := 45 }
def wzX12_push : List Cond := .code yX12_push cX12_push 2 none :: wsL_law
theorem hinX12_push_X120 : ∀ w ∈ wsX120, w ∈ wzX12_push := fun w h => List.mem_cons_of_mem _ (inlX12 w h)
def fX12_push  (σ : zSt) (x1 : Int32) : Option (zSt) :=
  zck (zin 18 1048) (
  zck (zin 18 1048) (zbv (zsi σ 3 ((18 : Int32).toNatClampNeg) (((zgi σ 3 (18 : Int32).toNatClampNeg) - 1) &&& 65535)) (fun σ1 =>
  zck (zin 18 1048) (
  zbu (fX12_write σ1 (zgi σ1 3 (18 : Int32).toNatClampNeg) (x1 >>> ((8 : Int32) &&& 31))) (fun σ2 =>
  zck (zin 18 1048) (
  zck (zin 18 1048) (zbv (zsi σ2 3 ((18 : Int32).toNatClampNeg) (((zgi σ2 3 (18 : Int32).toNatClampNeg) - 1) &&& 65535)) (fun σ3 =>
  zck (zin 18 1048) (
  zbu (fX12_write σ3 (zgi σ3 3 (18 : Int32).toNatClampNeg) x1) (fun σ4 =>
  some σ4))))))))))
set_option maxRecDepth 20000 in
set_option maxHeartbeats 4000000 in
theorem bX12_push {st : Nat → Nat} {p : Program} {l : Launch} {e : Env} {s : State} {m : MethodId} {args : Array Value} {below : List Frame} {meth : Method} {c : Code} {D : va_G} {A : Nat → Prop} {ad : Nat → Nat} {cy : Nat → ClassId} (hC : zC p m c cX12_push 2 s args wzX12_push RX12 meth none)  {res : zSt} {H : Heap} {locs : List Loc} {σ : zSt} {ls : Array Slot} {x1 : Int32} (hI : zI st D (tM cy) (wM ad cy σ) A s H locs) (hl : lv_has ls 2 [(0, .ref (ad 0)), (1, .int x1)]) (hf : fX12_push  σ x1 = some res) : W p l e rmX12_push s m args below meth c H locs 0 0 (zQu below args s D (tM cy) (wM ad cy) A res) (F0 m 0 ls []) := by
  have hx := hC.1
  have hb := hC.2.1
  unfold fX12_push at hf
  refine lv_aload_n hx hb dX12_push_0 rfl (lv_at hl 0 rfl) ?_
  refine z_get hC hI hinX12_push_X120 0 (wM_e0 ad cy σ) rfl 10 (by decide) (List.mem_cons_of_mem _ zw9_7) rfl dX12_push_1 ?_
  refine lv_bipush (v := 18) hx hb dX12_push_4 (by decide) ?_
  refine lv_aload_n hx hb dX12_push_6 rfl (lv_at hl 0 rfl) ?_
  refine z_get hC hI hinX12_push_X120 0 (wM_e0 ad cy σ) rfl 10 (by decide) (List.mem_cons_of_mem _ zw9_7) rfl dX12_push_7 ?_
  refine lv_bipush (v := 18) hx hb dX12_push_10 (by decide) ?_
  obtain ⟨q, hf⟩ := zck_use hf
  refine z_iald hC hI 3 2 (wM_e3 ad cy σ) (tM_t3 cy) q dX12_push_12 ?_
  refine lv_iconst (v := 1) hx hb dX12_push_13 (by decide) ?_
  refine lv_isub hx hb dX12_push_14 ?_
  refine lv_ldc (v := 65535) hx hb hC.2.2.2.1 (hC.2.2.2.2.1 _ (List.mem_cons_of_mem _ zw16_11)) dX12_push_15 ?_
  refine lv_iand hx hb dX12_push_17 ?_
  obtain ⟨q, hf⟩ := zck_use hf
  obtain ⟨σ1, eσ1⟩ : ∃ z, z = zsi σ 3 ((18 : Int32).toNatClampNeg) (((zgi σ 3 (18 : Int32).toNatClampNeg) - 1) &&& 65535) := ⟨_, rfl⟩
  replace hf := zbv_use eσ1 hf
  refine z_iast hC hI 3 2 (wM_e3 ad cy σ) (tM_t3 cy) q ((wM_s3 ad cy σ _ _).trans (congrArg (wM ad cy) eσ1.symm)) dX12_push_18 (fun H locs hI => ?_)
  refine lv_aload_n hx hb dX12_push_19 rfl (lv_at hl 0 rfl) ?_
  refine lv_aload_n hx hb dX12_push_20 rfl (lv_at hl 0 rfl) ?_
  refine z_get hC hI hinX12_push_X120 0 (wM_e0 ad cy σ1) rfl 10 (by decide) (List.mem_cons_of_mem _ zw9_7) rfl dX12_push_21 ?_
  refine lv_bipush (v := 18) hx hb dX12_push_24 (by decide) ?_
  obtain ⟨q, hf⟩ := zck_use hf
  refine z_iald hC hI 3 2 (wM_e3 ad cy σ1) (tM_t3 cy) q dX12_push_26 ?_
  refine lv_iload_n hx hb dX12_push_27 rfl (lv_at hl 1 rfl) ?_
  refine lv_bipush (v := 8) hx hb dX12_push_28 (by decide) ?_
  refine lv_ishr hx hb dX12_push_30 ?_
  obtain ⟨σ2, g2, hf⟩ := zbu_use hf
  refine z_callVu (As := [.int (zgi σ1 3 (18 : Int32).toNatClampNeg), .int (x1 >>> ((8 : Int32) &&& 31))]) (rest := []) hC hI (cX12_write_met st l D ad cy σ1 (zgi σ1 3 (18 : Int32).toNatClampNeg) (x1 >>> ((8 : Int32) &&& 31)) _ g2) (zgV zw48_5 zw48_6 zw48_7 zw1_5 zw48_8) rfl ⟨rfl, rfl⟩ 2 hdX12_write ⟨Nat.le_of_ble_eq_true rfl, Nat.le_of_ble_eq_true rfl⟩ rfl rfl (wM_e0 ad cy σ1) rfl hl rfl (Nat.le_of_ble_eq_true rfl) dX12_push_31 ⟨Nat.zero_le _, Nat.zero_le _⟩ (fun H locs hI => ?_)
  refine lv_aload_n hx hb dX12_push_34 rfl (lv_at hl 0 rfl) ?_
  refine z_get hC hI hinX12_push_X120 0 (wM_e0 ad cy σ2) rfl 10 (by decide) (List.mem_cons_of_mem _ zw9_7) rfl dX12_push_35 ?_
  refine lv_bipush (v := 18) hx hb dX12_push_38 (by decide) ?_
  refine lv_aload_n hx hb dX12_push_40 rfl (lv_at hl 0 rfl) ?_
  refine z_get hC hI hinX12_push_X120 0 (wM_e0 ad cy σ2) rfl 10 (by decide) (List.mem_cons_of_mem _ zw9_7) rfl dX12_push_41 ?_
  refine lv_bipush (v := 18) hx hb dX12_push_44 (by decide) ?_
  obtain ⟨q, hf⟩ := zck_use hf
  refine z_iald hC hI 3 2 (wM_e3 ad cy σ2) (tM_t3 cy) q dX12_push_46 ?_
  refine lv_iconst (v := 1) hx hb dX12_push_47 (by decide) ?_
  refine lv_isub hx hb dX12_push_48 ?_
  refine lv_ldc (v := 65535) hx hb hC.2.2.2.1 (hC.2.2.2.2.1 _ (List.mem_cons_of_mem _ zw16_11)) dX12_push_49 ?_
  refine lv_iand hx hb dX12_push_51 ?_
  obtain ⟨q, hf⟩ := zck_use hf
  obtain ⟨σ3, eσ3⟩ : ∃ z, z = zsi σ2 3 ((18 : Int32).toNatClampNeg) (((zgi σ2 3 (18 : Int32).toNatClampNeg) - 1) &&& 65535) := ⟨_, rfl⟩
  replace hf := zbv_use eσ3 hf
  refine z_iast hC hI 3 2 (wM_e3 ad cy σ2) (tM_t3 cy) q ((wM_s3 ad cy σ2 _ _).trans (congrArg (wM ad cy) eσ3.symm)) dX12_push_52 (fun H locs hI => ?_)
  refine lv_aload_n hx hb dX12_push_53 rfl (lv_at hl 0 rfl) ?_
  refine lv_aload_n hx hb dX12_push_54 rfl (lv_at hl 0 rfl) ?_
  refine z_get hC hI hinX12_push_X120 0 (wM_e0 ad cy σ3) rfl 10 (by decide) (List.mem_cons_of_mem _ zw9_7) rfl dX12_push_55 ?_
  refine lv_bipush (v := 18) hx hb dX12_push_58 (by decide) ?_
  obtain ⟨q, hf⟩ := zck_use hf
  refine z_iald hC hI 3 2 (wM_e3 ad cy σ3) (tM_t3 cy) q dX12_push_60 ?_
  refine lv_iload_n hx hb dX12_push_61 rfl (lv_at hl 1 rfl) ?_
  obtain ⟨σ4, g4, hf⟩ := zbu_use hf
  refine z_callVu (As := [.int (zgi σ3 3 (18 : Int32).toNatClampNeg), .int x1]) (rest := []) hC hI (cX12_write_met st l D ad cy σ3 (zgi σ3 3 (18 : Int32).toNatClampNeg) x1 _ g4) (zgV zw48_5 zw48_6 zw48_7 zw1_5 zw48_8) rfl ⟨rfl, rfl⟩ 2 hdX12_write ⟨Nat.le_of_ble_eq_true rfl, Nat.le_of_ble_eq_true rfl⟩ rfl rfl (wM_e0 ad cy σ3) rfl hl rfl (Nat.le_of_ble_eq_true rfl) dX12_push_62 ⟨Nat.zero_le _, Nat.zero_le _⟩ (fun H locs hI => ?_)
  exact z_return hC hI hf dX12_push_65
set_option maxRecDepth 20000 in
theorem cX12_push_met (st : Nat → Nat) (l : Launch) (D : va_G) (ad : Nat → Nat) (cy : Nat → ClassId) (σ : zSt) (x1 : Int32) (res : zSt) (hf : fX12_push σ x1 = some res) (sz : Nat) : zMu st l yX12_push wzX12_push rmX12_push [.ref (ad 0), .int x1] D (tM cy) (wM ad cy) sz σ res :=
  zMu.of (cc := cX12_push) (maxL := 2) (ret := none) (by decide) rfl (Nat.le_of_ble_eq_true rfl) (fun p e s m args below meth c hC A hI ls hl => bX12_push hC hI hl hf)
theorem hdX12_push : yX12_push.cls = RX12 ∧ yX12_push.cls ≠ "java/lang/invoke/MethodHandle" ∧ yX12_push.cls ≠ "java/lang/invoke/VarHandle" ∧ (parseMethodDescriptor yX12_push.desc).map (fun d => d.parameters.length) = some 1 := by decide +kernel
def rmX12_pop : Room := { frames := 2, cells := 0, slots := 0, locals := 44 }
def wzX12_pop : List Cond := .code yX12_pop cX12_pop 2 (some .int) :: wsL_law
theorem hinX12_pop_X120 : ∀ w ∈ wsX120, w ∈ wzX12_pop := fun w h => List.mem_cons_of_mem _ (inlX12 w h)
def fX12_pop  (σ : zSt)  : Option (zSt × Int32) :=
  zck (zin 18 1048) (
  zbi (fX12_read σ (zgi σ 3 (18 : Int32).toNatClampNeg)) (fun σ1 v2 =>
  zck (zin 18 1048) (
  zck (zin 18 1048) (zbv (zsi σ1 3 ((18 : Int32).toNatClampNeg) (((zgi σ1 3 (18 : Int32).toNatClampNeg) + 1) &&& 65535)) (fun σ3 =>
  zck (zin 18 1048) (
  zbi (fX12_read σ3 (zgi σ3 3 (18 : Int32).toNatClampNeg)) (fun σ4 v5 =>
  zbv (v2 ||| (v5 <<< ((8 : Int32) &&& 31))) (fun v6 =>
  zck (zin 18 1048) (
  zck (zin 18 1048) (zbv (zsi σ4 3 ((18 : Int32).toNatClampNeg) (((zgi σ4 3 (18 : Int32).toNatClampNeg) + 1) &&& 65535)) (fun σ7 =>
  some (σ7, v6))))))))))))
set_option maxRecDepth 20000 in
set_option maxHeartbeats 4000000 in
theorem bX12_pop {st : Nat → Nat} {p : Program} {l : Launch} {e : Env} {s : State} {m : MethodId} {args : Array Value} {below : List Frame} {meth : Method} {c : Code} {D : va_G} {A : Nat → Prop} {ad : Nat → Nat} {cy : Nat → ClassId} (hC : zC p m c cX12_pop 2 s args wzX12_pop RX12 meth (some .int))  {res : zSt × Int32} {H : Heap} {locs : List Loc} {σ : zSt} {ls : Array Slot}  (hI : zI st D (tM cy) (wM ad cy σ) A s H locs) (hl : lv_has ls 2 [(0, .ref (ad 0))]) (hf : fX12_pop  σ  = some res) : W p l e rmX12_pop s m args below meth c H locs 0 0 (zQi below args s D (tM cy) (wM ad cy) A res) (F0 m 0 ls []) := by
  have hx := hC.1
  have hb := hC.2.1
  unfold fX12_pop at hf
  refine lv_aload_n hx hb dX12_pop_0 rfl (lv_at hl 0 rfl) ?_
  refine lv_aload_n hx hb dX12_pop_1 rfl (lv_at hl 0 rfl) ?_
  refine z_get hC hI hinX12_pop_X120 0 (wM_e0 ad cy σ) rfl 10 (by decide) (List.mem_cons_of_mem _ zw9_7) rfl dX12_pop_2 ?_
  refine lv_bipush (v := 18) hx hb dX12_pop_5 (by decide) ?_
  obtain ⟨q, hf⟩ := zck_use hf
  refine z_iald hC hI 3 2 (wM_e3 ad cy σ) (tM_t3 cy) q dX12_pop_7 ?_
  obtain ⟨σ1, v2, g1, hf⟩ := zbi_use hf
  refine z_callVi (As := [.int (zgi σ 3 (18 : Int32).toNatClampNeg)]) (rest := []) hC hI (cX12_read_met st l D ad cy σ (zgi σ 3 (18 : Int32).toNatClampNeg) _ g1) (zgV zw49_8 zw49_9 zw49_10 zw1_5 zw49_11) rfl ⟨rfl, rfl⟩ 1 hdX12_read ⟨Nat.le_of_ble_eq_true rfl, Nat.le_of_ble_eq_true rfl⟩ rfl rfl (wM_e0 ad cy σ) rfl hl rfl (Nat.le_of_ble_eq_true rfl) dX12_pop_8 ⟨Nat.zero_le _, Nat.zero_le _⟩ (fun H locs hI => ?_)
  refine lv_istore_n (lv' := [(1, .int v2), (0, .ref (ad 0))]) hx hb dX12_pop_11 rfl hl (by decide) rfl (fun ls hl => ?_)
  refine lv_aload_n hx hb dX12_pop_12 rfl (lv_at hl 1 rfl) ?_
  refine z_get hC hI hinX12_pop_X120 0 (wM_e0 ad cy σ1) rfl 10 (by decide) (List.mem_cons_of_mem _ zw9_7) rfl dX12_pop_13 ?_
  refine lv_bipush (v := 18) hx hb dX12_pop_16 (by decide) ?_
  refine lv_aload_n hx hb dX12_pop_18 rfl (lv_at hl 1 rfl) ?_
  refine z_get hC hI hinX12_pop_X120 0 (wM_e0 ad cy σ1) rfl 10 (by decide) (List.mem_cons_of_mem _ zw9_7) rfl dX12_pop_19 ?_
  refine lv_bipush (v := 18) hx hb dX12_pop_22 (by decide) ?_
  obtain ⟨q, hf⟩ := zck_use hf
  refine z_iald hC hI 3 2 (wM_e3 ad cy σ1) (tM_t3 cy) q dX12_pop_24 ?_
  refine lv_iconst (v := 1) hx hb dX12_pop_25 (by decide) ?_
  refine lv_iadd hx hb dX12_pop_26 ?_
  refine lv_ldc (v := 65535) hx hb hC.2.2.2.1 (hC.2.2.2.2.1 _ (List.mem_cons_of_mem _ zw16_11)) dX12_pop_27 ?_
  refine lv_iand hx hb dX12_pop_29 ?_
  obtain ⟨q, hf⟩ := zck_use hf
  obtain ⟨σ3, eσ3⟩ : ∃ z, z = zsi σ1 3 ((18 : Int32).toNatClampNeg) (((zgi σ1 3 (18 : Int32).toNatClampNeg) + 1) &&& 65535) := ⟨_, rfl⟩
  replace hf := zbv_use eσ3 hf
  refine z_iast hC hI 3 2 (wM_e3 ad cy σ1) (tM_t3 cy) q ((wM_s3 ad cy σ1 _ _).trans (congrArg (wM ad cy) eσ3.symm)) dX12_pop_30 (fun H locs hI => ?_)
  refine lv_iload_n hx hb dX12_pop_31 rfl (lv_at hl 0 rfl) ?_
  refine lv_aload_n hx hb dX12_pop_32 rfl (lv_at hl 1 rfl) ?_
  refine lv_aload_n hx hb dX12_pop_33 rfl (lv_at hl 1 rfl) ?_
  refine z_get hC hI hinX12_pop_X120 0 (wM_e0 ad cy σ3) rfl 10 (by decide) (List.mem_cons_of_mem _ zw9_7) rfl dX12_pop_34 ?_
  refine lv_bipush (v := 18) hx hb dX12_pop_37 (by decide) ?_
  obtain ⟨q, hf⟩ := zck_use hf
  refine z_iald hC hI 3 2 (wM_e3 ad cy σ3) (tM_t3 cy) q dX12_pop_39 ?_
  obtain ⟨σ4, v5, g4, hf⟩ := zbi_use hf
  refine z_callVi (As := [.int (zgi σ3 3 (18 : Int32).toNatClampNeg)]) (rest := [.int v2]) hC hI (cX12_read_met st l D ad cy σ3 (zgi σ3 3 (18 : Int32).toNatClampNeg) _ g4) (zgV zw49_8 zw49_9 zw49_10 zw1_5 zw49_11) rfl ⟨rfl, rfl⟩ 1 hdX12_read ⟨Nat.le_of_ble_eq_true rfl, Nat.le_of_ble_eq_true rfl⟩ rfl rfl (wM_e0 ad cy σ3) rfl hl rfl (Nat.le_of_ble_eq_true rfl) dX12_pop_40 ⟨Nat.zero_le _, Nat.zero_le _⟩ (fun H locs hI => ?_)
  refine lv_bipush (v := 8) hx hb dX12_pop_43 (by decide) ?_
  refine lv_ishl hx hb dX12_pop_45 ?_
  refine lv_ior hx hb dX12_pop_46 ?_
  refine lv_topi (fun v6 ev6 => ?_)
  replace hf := zbv_use ev6 hf
  refine lv_istore_n (lv' := [(1, .int v6), (0, .ref (ad 0))]) hx hb dX12_pop_47 rfl hl (by decide) rfl (fun ls hl => ?_)
  refine lv_aload_n hx hb dX12_pop_48 rfl (lv_at hl 1 rfl) ?_
  refine z_get hC hI hinX12_pop_X120 0 (wM_e0 ad cy σ4) rfl 10 (by decide) (List.mem_cons_of_mem _ zw9_7) rfl dX12_pop_49 ?_
  refine lv_bipush (v := 18) hx hb dX12_pop_52 (by decide) ?_
  refine lv_aload_n hx hb dX12_pop_54 rfl (lv_at hl 1 rfl) ?_
  refine z_get hC hI hinX12_pop_X120 0 (wM_e0 ad cy σ4) rfl 10 (by decide) (List.mem_cons_of_mem _ zw9_7) rfl dX12_pop_55 ?_
  refine lv_bipush (v := 18) hx hb dX12_pop_58 (by decide) ?_
  obtain ⟨q, hf⟩ := zck_use hf
  refine z_iald hC hI 3 2 (wM_e3 ad cy σ4) (tM_t3 cy) q dX12_pop_60 ?_
  refine lv_iconst (v := 1) hx hb dX12_pop_61 (by decide) ?_
  refine lv_iadd hx hb dX12_pop_62 ?_
  refine lv_ldc (v := 65535) hx hb hC.2.2.2.1 (hC.2.2.2.2.1 _ (List.mem_cons_of_mem _ zw16_11)) dX12_pop_63 ?_
  refine lv_iand hx hb dX12_pop_65 ?_
  obtain ⟨q, hf⟩ := zck_use hf
  obtain ⟨σ7, eσ7⟩ : ∃ z, z = zsi σ4 3 ((18 : Int32).toNatClampNeg) (((zgi σ4 3 (18 : Int32).toNatClampNeg) + 1) &&& 65535) := ⟨_, rfl⟩
  replace hf := zbv_use eσ7 hf
  refine z_iast hC hI 3 2 (wM_e3 ad cy σ4) (tM_t3 cy) q ((wM_s3 ad cy σ4 _ _).trans (congrArg (wM ad cy) eσ7.symm)) dX12_pop_66 (fun H locs hI => ?_)
  refine lv_iload_n hx hb dX12_pop_67 rfl (lv_at hl 0 rfl) ?_
  exact z_ireturn hC hI hf dX12_pop_68
set_option maxRecDepth 20000 in
theorem cX12_pop_met (st : Nat → Nat) (l : Launch) (D : va_G) (ad : Nat → Nat) (cy : Nat → ClassId) (σ : zSt)  (res : zSt × Int32) (hf : fX12_pop σ  = some res) (sz : Nat) : zMi st l yX12_pop wzX12_pop rmX12_pop [.ref (ad 0)] D (tM cy) (wM ad cy) sz σ res :=
  zMi.of (cc := cX12_pop) (maxL := 2) (ret := (some .int)) (by decide) rfl (Nat.le_of_ble_eq_true rfl) (fun p e s m args below meth c hC A hI ls hl => bX12_pop hC hI hl hf)
theorem hdX12_pop : yX12_pop.cls = RX12 ∧ yX12_pop.cls ≠ "java/lang/invoke/MethodHandle" ∧ yX12_pop.cls ≠ "java/lang/invoke/VarHandle" ∧ (parseMethodDescriptor yX12_pop.desc).map (fun d => d.parameters.length) = some 0 := by decide +kernel
def rmX12_grows : Room := { frames := 0, cells := 0, slots := 0, locals := 0 }
def wzX12_grows : List Cond := .code yX12_grows cX12_grows 1 none :: wsL_law
theorem hinX12_grows_X120 : ∀ w ∈ wsX120, w ∈ wzX12_grows := fun w h => List.mem_cons_of_mem _ (inlX12 w h)
def fX12_grows  (σ : zSt)  : Option (zSt) :=
  zck (zin 22 1048) (
  zck (zin 22 1048) (
  zck (zin 22 1048) (zbv (zsi σ 3 ((22 : Int32).toNatClampNeg) (((zgi σ 3 (22 : Int32).toNatClampNeg) &&& 128) ||| (((zgi σ 3 (22 : Int32).toNatClampNeg) + 1) &&& 127))) (fun σ1 =>
  some σ1))))
set_option maxRecDepth 20000 in
set_option maxHeartbeats 4000000 in
theorem bX12_grows {st : Nat → Nat} {p : Program} {l : Launch} {e : Env} {s : State} {m : MethodId} {args : Array Value} {below : List Frame} {meth : Method} {c : Code} {D : va_G} {A : Nat → Prop} {ad : Nat → Nat} {cy : Nat → ClassId} (hC : zC p m c cX12_grows 1 s args wzX12_grows RX12 meth none)  {res : zSt} {H : Heap} {locs : List Loc} {σ : zSt} {ls : Array Slot}  (hI : zI st D (tM cy) (wM ad cy σ) A s H locs) (hl : lv_has ls 1 [(0, .ref (ad 0))]) (hf : fX12_grows  σ  = some res) : W p l e rmX12_grows s m args below meth c H locs 0 0 (zQu below args s D (tM cy) (wM ad cy) A res) (F0 m 0 ls []) := by
  have hx := hC.1
  have hb := hC.2.1
  unfold fX12_grows at hf
  refine lv_aload_n hx hb dX12_grows_0 rfl (lv_at hl 0 rfl) ?_
  refine z_get hC hI hinX12_grows_X120 0 (wM_e0 ad cy σ) rfl 10 (by decide) (List.mem_cons_of_mem _ zw9_7) rfl dX12_grows_1 ?_
  refine lv_bipush (v := 22) hx hb dX12_grows_4 (by decide) ?_
  refine lv_aload_n hx hb dX12_grows_6 rfl (lv_at hl 0 rfl) ?_
  refine z_get hC hI hinX12_grows_X120 0 (wM_e0 ad cy σ) rfl 10 (by decide) (List.mem_cons_of_mem _ zw9_7) rfl dX12_grows_7 ?_
  refine lv_bipush (v := 22) hx hb dX12_grows_10 (by decide) ?_
  obtain ⟨q, hf⟩ := zck_use hf
  refine z_iald hC hI 3 2 (wM_e3 ad cy σ) (tM_t3 cy) q dX12_grows_12 ?_
  refine lv_sipush (v := 128) hx hb dX12_grows_13 (by decide) ?_
  refine lv_iand hx hb dX12_grows_16 ?_
  refine lv_aload_n hx hb dX12_grows_17 rfl (lv_at hl 0 rfl) ?_
  refine z_get hC hI hinX12_grows_X120 0 (wM_e0 ad cy σ) rfl 10 (by decide) (List.mem_cons_of_mem _ zw9_7) rfl dX12_grows_18 ?_
  refine lv_bipush (v := 22) hx hb dX12_grows_21 (by decide) ?_
  obtain ⟨q, hf⟩ := zck_use hf
  refine z_iald hC hI 3 2 (wM_e3 ad cy σ) (tM_t3 cy) q dX12_grows_23 ?_
  refine lv_iconst (v := 1) hx hb dX12_grows_24 (by decide) ?_
  refine lv_iadd hx hb dX12_grows_25 ?_
  refine lv_bipush (v := 127) hx hb dX12_grows_26 (by decide) ?_
  refine lv_iand hx hb dX12_grows_28 ?_
  refine lv_ior hx hb dX12_grows_29 ?_
  obtain ⟨q, hf⟩ := zck_use hf
  obtain ⟨σ1, eσ1⟩ : ∃ z, z = zsi σ 3 ((22 : Int32).toNatClampNeg) (((zgi σ 3 (22 : Int32).toNatClampNeg) &&& 128) ||| (((zgi σ 3 (22 : Int32).toNatClampNeg) + 1) &&& 127)) := ⟨_, rfl⟩
  replace hf := zbv_use eσ1 hf
  refine z_iast hC hI 3 2 (wM_e3 ad cy σ) (tM_t3 cy) q ((wM_s3 ad cy σ _ _).trans (congrArg (wM ad cy) eσ1.symm)) dX12_grows_30 (fun H locs hI => ?_)
  exact z_return hC hI hf dX12_grows_31
set_option maxRecDepth 20000 in
theorem cX12_grows_met (st : Nat → Nat) (l : Launch) (D : va_G) (ad : Nat → Nat) (cy : Nat → ClassId) (σ : zSt)  (res : zSt) (hf : fX12_grows σ  = some res) (sz : Nat) : zMu st l yX12_grows wzX12_grows rmX12_grows [.ref (ad 0)] D (tM cy) (wM ad cy) sz σ res :=
  zMu.of (cc := cX12_grows) (maxL := 1) (ret := none) (by decide) rfl (Nat.le_of_ble_eq_true rfl) (fun p e s m args below meth c hC A hI ls hl => bX12_grows hC hI hl hf)
theorem hdX12_grows : yX12_grows.cls = RX12 ∧ yX12_grows.cls ≠ "java/lang/invoke/MethodHandle" ∧ yX12_grows.cls ≠ "java/lang/invoke/VarHandle" ∧ (parseMethodDescriptor yX12_grows.desc).map (fun d => d.parameters.length) = some 0 := by decide +kernel
def rmX12_next : Room := { frames := 2, cells := 0, slots := 0, locals := 44 }
def wzX12_next : List Cond := .code yX12_next cX12_next 2 (some .int) :: wsL_law
theorem hinX12_next_X120 : ∀ w ∈ wsX120, w ∈ wzX12_next := fun w h => List.mem_cons_of_mem _ (inlX12 w h)
def fX12_next  (σ : zSt)  : Option (zSt × Int32) :=
  zck (zin 19 1048) (
  zbi (fX12_read σ (zgi σ 3 (19 : Int32).toNatClampNeg)) (fun σ1 v2 =>
  zck (zin 19 1048) (
  zck (zin 19 1048) (zbv (zsi σ1 3 ((19 : Int32).toNatClampNeg) (((zgi σ1 3 (19 : Int32).toNatClampNeg) + 1) &&& 65535)) (fun σ3 =>
  some (σ3, v2))))))
set_option maxRecDepth 20000 in
set_option maxHeartbeats 4000000 in
theorem bX12_next {st : Nat → Nat} {p : Program} {l : Launch} {e : Env} {s : State} {m : MethodId} {args : Array Value} {below : List Frame} {meth : Method} {c : Code} {D : va_G} {A : Nat → Prop} {ad : Nat → Nat} {cy : Nat → ClassId} (hC : zC p m c cX12_next 2 s args wzX12_next RX12 meth (some .int))  {res : zSt × Int32} {H : Heap} {locs : List Loc} {σ : zSt} {ls : Array Slot}  (hI : zI st D (tM cy) (wM ad cy σ) A s H locs) (hl : lv_has ls 2 [(0, .ref (ad 0))]) (hf : fX12_next  σ  = some res) : W p l e rmX12_next s m args below meth c H locs 0 0 (zQi below args s D (tM cy) (wM ad cy) A res) (F0 m 0 ls []) := by
  have hx := hC.1
  have hb := hC.2.1
  unfold fX12_next at hf
  refine lv_aload_n hx hb dX12_next_0 rfl (lv_at hl 0 rfl) ?_
  refine lv_aload_n hx hb dX12_next_1 rfl (lv_at hl 0 rfl) ?_
  refine z_get hC hI hinX12_next_X120 0 (wM_e0 ad cy σ) rfl 10 (by decide) (List.mem_cons_of_mem _ zw9_7) rfl dX12_next_2 ?_
  refine lv_bipush (v := 19) hx hb dX12_next_5 (by decide) ?_
  obtain ⟨q, hf⟩ := zck_use hf
  refine z_iald hC hI 3 2 (wM_e3 ad cy σ) (tM_t3 cy) q dX12_next_7 ?_
  obtain ⟨σ1, v2, g1, hf⟩ := zbi_use hf
  refine z_callVi (As := [.int (zgi σ 3 (19 : Int32).toNatClampNeg)]) (rest := []) hC hI (cX12_read_met st l D ad cy σ (zgi σ 3 (19 : Int32).toNatClampNeg) _ g1) (zgV zw49_8 zw49_9 zw49_10 zw1_5 zw49_11) rfl ⟨rfl, rfl⟩ 1 hdX12_read ⟨Nat.le_of_ble_eq_true rfl, Nat.le_of_ble_eq_true rfl⟩ rfl rfl (wM_e0 ad cy σ) rfl hl rfl (Nat.le_of_ble_eq_true rfl) dX12_next_8 ⟨Nat.zero_le _, Nat.zero_le _⟩ (fun H locs hI => ?_)
  refine lv_istore_n (lv' := [(1, .int v2), (0, .ref (ad 0))]) hx hb dX12_next_11 rfl hl (by decide) rfl (fun ls hl => ?_)
  refine lv_aload_n hx hb dX12_next_12 rfl (lv_at hl 1 rfl) ?_
  refine z_get hC hI hinX12_next_X120 0 (wM_e0 ad cy σ1) rfl 10 (by decide) (List.mem_cons_of_mem _ zw9_7) rfl dX12_next_13 ?_
  refine lv_bipush (v := 19) hx hb dX12_next_16 (by decide) ?_
  refine lv_aload_n hx hb dX12_next_18 rfl (lv_at hl 1 rfl) ?_
  refine z_get hC hI hinX12_next_X120 0 (wM_e0 ad cy σ1) rfl 10 (by decide) (List.mem_cons_of_mem _ zw9_7) rfl dX12_next_19 ?_
  refine lv_bipush (v := 19) hx hb dX12_next_22 (by decide) ?_
  obtain ⟨q, hf⟩ := zck_use hf
  refine z_iald hC hI 3 2 (wM_e3 ad cy σ1) (tM_t3 cy) q dX12_next_24 ?_
  refine lv_iconst (v := 1) hx hb dX12_next_25 (by decide) ?_
  refine lv_iadd hx hb dX12_next_26 ?_
  refine lv_ldc (v := 65535) hx hb hC.2.2.2.1 (hC.2.2.2.2.1 _ (List.mem_cons_of_mem _ zw16_11)) dX12_next_27 ?_
  refine lv_iand hx hb dX12_next_29 ?_
  obtain ⟨q, hf⟩ := zck_use hf
  obtain ⟨σ3, eσ3⟩ : ∃ z, z = zsi σ1 3 ((19 : Int32).toNatClampNeg) (((zgi σ1 3 (19 : Int32).toNatClampNeg) + 1) &&& 65535) := ⟨_, rfl⟩
  replace hf := zbv_use eσ3 hf
  refine z_iast hC hI 3 2 (wM_e3 ad cy σ1) (tM_t3 cy) q ((wM_s3 ad cy σ1 _ _).trans (congrArg (wM ad cy) eσ3.symm)) dX12_next_30 (fun H locs hI => ?_)
  refine lv_iload_n hx hb dX12_next_31 rfl (lv_at hl 0 rfl) ?_
  exact z_ireturn hC hI hf dX12_next_32
set_option maxRecDepth 20000 in
theorem cX12_next_met (st : Nat → Nat) (l : Launch) (D : va_G) (ad : Nat → Nat) (cy : Nat → ClassId) (σ : zSt)  (res : zSt × Int32) (hf : fX12_next σ  = some res) (sz : Nat) : zMi st l yX12_next wzX12_next rmX12_next [.ref (ad 0)] D (tM cy) (wM ad cy) sz σ res :=
  zMi.of (cc := cX12_next) (maxL := 2) (ret := (some .int)) (by decide) rfl (Nat.le_of_ble_eq_true rfl) (fun p e s m args below meth c hC A hI ls hl => bX12_next hC hI hl hf)
theorem hdX12_next : yX12_next.cls = RX12 ∧ yX12_next.cls ≠ "java/lang/invoke/MethodHandle" ∧ yX12_next.cls ≠ "java/lang/invoke/VarHandle" ∧ (parseMethodDescriptor yX12_next.desc).map (fun d => d.parameters.length) = some 0 := by decide +kernel
def rmX12_fetch : Room := { frames := 3, cells := 0, slots := 0, locals := 65 }
def wzX12_fetch : List Cond := .code yX12_fetch cX12_fetch 2 (some .int) :: wsL_law
def fX12_fetch  (σ : zSt)  : Option (zSt × Int32) :=
  zbi (fX12_next σ ) (fun σ1 v2 =>
  zbu (fX12_grows σ1 ) (fun σ3 =>
  some (σ3, v2)))
set_option maxRecDepth 20000 in
set_option maxHeartbeats 4000000 in
theorem bX12_fetch {st : Nat → Nat} {p : Program} {l : Launch} {e : Env} {s : State} {m : MethodId} {args : Array Value} {below : List Frame} {meth : Method} {c : Code} {D : va_G} {A : Nat → Prop} {ad : Nat → Nat} {cy : Nat → ClassId} (hC : zC p m c cX12_fetch 2 s args wzX12_fetch RX12 meth (some .int))  {res : zSt × Int32} {H : Heap} {locs : List Loc} {σ : zSt} {ls : Array Slot}  (hI : zI st D (tM cy) (wM ad cy σ) A s H locs) (hl : lv_has ls 2 [(0, .ref (ad 0))]) (hf : fX12_fetch  σ  = some res) : W p l e rmX12_fetch s m args below meth c H locs 0 0 (zQi below args s D (tM cy) (wM ad cy) A res) (F0 m 0 ls []) := by
  have hx := hC.1
  have hb := hC.2.1
  unfold fX12_fetch at hf
  refine lv_aload_n hx hb dX12_fetch_0 rfl (lv_at hl 0 rfl) ?_
  obtain ⟨σ1, v2, g1, hf⟩ := zbi_use hf
  refine z_callVi (As := []) (rest := []) hC hI (cX12_next_met st l D ad cy σ  _ g1) (zgV zw50_2 zw50_3 zw50_4 zw1_5 zw50_5) rfl ⟨rfl, rfl⟩ 0 hdX12_next ⟨Nat.le_of_ble_eq_true rfl, Nat.le_of_ble_eq_true rfl⟩ rfl rfl (wM_e0 ad cy σ) rfl hl rfl (Nat.le_of_ble_eq_true rfl) dX12_fetch_1 ⟨Nat.zero_le _, Nat.zero_le _⟩ (fun H locs hI => ?_)
  refine lv_istore_n (lv' := [(1, .int v2), (0, .ref (ad 0))]) hx hb dX12_fetch_4 rfl hl (by decide) rfl (fun ls hl => ?_)
  refine lv_aload_n hx hb dX12_fetch_5 rfl (lv_at hl 1 rfl) ?_
  obtain ⟨σ3, g3, hf⟩ := zbu_use hf
  refine z_callVu (As := []) (rest := []) hC hI (cX12_grows_met st l D ad cy σ1  _ g3) (zgV zw47_17 zw47_18 zw47_19 zw1_5 zw47_20) rfl ⟨rfl, rfl⟩ 0 hdX12_grows ⟨Nat.le_of_ble_eq_true rfl, Nat.le_of_ble_eq_true rfl⟩ rfl rfl (wM_e0 ad cy σ1) rfl hl rfl (Nat.le_of_ble_eq_true rfl) dX12_fetch_6 ⟨Nat.zero_le _, Nat.zero_le _⟩ (fun H locs hI => ?_)
  refine lv_iload_n hx hb dX12_fetch_9 rfl (lv_at hl 0 rfl) ?_
  exact z_ireturn hC hI hf dX12_fetch_10
set_option maxRecDepth 20000 in
theorem cX12_fetch_met (st : Nat → Nat) (l : Launch) (D : va_G) (ad : Nat → Nat) (cy : Nat → ClassId) (σ : zSt)  (res : zSt × Int32) (hf : fX12_fetch σ  = some res) (sz : Nat) : zMi st l yX12_fetch wzX12_fetch rmX12_fetch [.ref (ad 0)] D (tM cy) (wM ad cy) sz σ res :=
  zMi.of (cc := cX12_fetch) (maxL := 2) (ret := (some .int)) (by decide) rfl (Nat.le_of_ble_eq_true rfl) (fun p e s m args below meth c hC A hI ls hl => bX12_fetch hC hI hl hf)
theorem hdX12_fetch : yX12_fetch.cls = RX12 ∧ yX12_fetch.cls ≠ "java/lang/invoke/MethodHandle" ∧ yX12_fetch.cls ≠ "java/lang/invoke/VarHandle" ∧ (parseMethodDescriptor yX12_fetch.desc).map (fun d => d.parameters.length) = some 0 := by decide +kernel
def rmX12_nextWord : Room := { frames := 3, cells := 0, slots := 0, locals := 65 }
def wzX12_nextWord : List Cond := .code yX12_nextWord cX12_nextWord 2 (some .int) :: wsL_law
def fX12_nextWord  (σ : zSt)  : Option (zSt × Int32) :=
  zbi (fX12_next σ ) (fun σ1 v2 =>
  zbi (fX12_next σ1 ) (fun σ3 v4 =>
  some (σ3, v2 ||| (v4 <<< ((8 : Int32) &&& 31)))))
set_option maxRecDepth 20000 in
set_option maxHeartbeats 4000000 in
theorem bX12_nextWord {st : Nat → Nat} {p : Program} {l : Launch} {e : Env} {s : State} {m : MethodId} {args : Array Value} {below : List Frame} {meth : Method} {c : Code} {D : va_G} {A : Nat → Prop} {ad : Nat → Nat} {cy : Nat → ClassId} (hC : zC p m c cX12_nextWord 2 s args wzX12_nextWord RX12 meth (some .int))  {res : zSt × Int32} {H : Heap} {locs : List Loc} {σ : zSt} {ls : Array Slot}  (hI : zI st D (tM cy) (wM ad cy σ) A s H locs) (hl : lv_has ls 2 [(0, .ref (ad 0))]) (hf : fX12_nextWord  σ  = some res) : W p l e rmX12_nextWord s m args below meth c H locs 0 0 (zQi below args s D (tM cy) (wM ad cy) A res) (F0 m 0 ls []) := by
  have hx := hC.1
  have hb := hC.2.1
  unfold fX12_nextWord at hf
  refine lv_aload_n hx hb dX12_nextWord_0 rfl (lv_at hl 0 rfl) ?_
  obtain ⟨σ1, v2, g1, hf⟩ := zbi_use hf
  refine z_callVi (As := []) (rest := []) hC hI (cX12_next_met st l D ad cy σ  _ g1) (zgV zw50_2 zw50_3 zw50_4 zw1_5 zw50_5) rfl ⟨rfl, rfl⟩ 0 hdX12_next ⟨Nat.le_of_ble_eq_true rfl, Nat.le_of_ble_eq_true rfl⟩ rfl rfl (wM_e0 ad cy σ) rfl hl rfl (Nat.le_of_ble_eq_true rfl) dX12_nextWord_1 ⟨Nat.zero_le _, Nat.zero_le _⟩ (fun H locs hI => ?_)
  refine lv_istore_n (lv' := [(1, .int v2), (0, .ref (ad 0))]) hx hb dX12_nextWord_4 rfl hl (by decide) rfl (fun ls hl => ?_)
  refine lv_iload_n hx hb dX12_nextWord_5 rfl (lv_at hl 0 rfl) ?_
  refine lv_aload_n hx hb dX12_nextWord_6 rfl (lv_at hl 1 rfl) ?_
  obtain ⟨σ3, v4, g3, hf⟩ := zbi_use hf
  refine z_callVi (As := []) (rest := [.int v2]) hC hI (cX12_next_met st l D ad cy σ1  _ g3) (zgV zw50_2 zw50_3 zw50_4 zw1_5 zw50_5) rfl ⟨rfl, rfl⟩ 0 hdX12_next ⟨Nat.le_of_ble_eq_true rfl, Nat.le_of_ble_eq_true rfl⟩ rfl rfl (wM_e0 ad cy σ1) rfl hl rfl (Nat.le_of_ble_eq_true rfl) dX12_nextWord_7 ⟨Nat.zero_le _, Nat.zero_le _⟩ (fun H locs hI => ?_)
  refine lv_bipush (v := 8) hx hb dX12_nextWord_10 (by decide) ?_
  refine lv_ishl hx hb dX12_nextWord_12 ?_
  refine lv_ior hx hb dX12_nextWord_13 ?_
  exact z_ireturn hC hI hf dX12_nextWord_14
set_option maxRecDepth 20000 in
theorem cX12_nextWord_met (st : Nat → Nat) (l : Launch) (D : va_G) (ad : Nat → Nat) (cy : Nat → ClassId) (σ : zSt)  (res : zSt × Int32) (hf : fX12_nextWord σ  = some res) (sz : Nat) : zMi st l yX12_nextWord wzX12_nextWord rmX12_nextWord [.ref (ad 0)] D (tM cy) (wM ad cy) sz σ res :=
  zMi.of (cc := cX12_nextWord) (maxL := 2) (ret := (some .int)) (by decide) rfl (Nat.le_of_ble_eq_true rfl) (fun p e s m args below meth c hC A hI ls hl => bX12_nextWord hC hI hl hf)
theorem hdX12_nextWord : yX12_nextWord.cls = RX12 ∧ yX12_nextWord.cls ≠ "java/lang/invoke/MethodHandle" ∧ yX12_nextWord.cls ≠ "java/lang/invoke/VarHandle" ∧ (parseMethodDescriptor yX12_nextWord.desc).map (fun d => d.parameters.length) = some 0 := by decide +kernel
def rmX12_signed : Room := { frames := 0, cells := 0, slots := 0, locals := 0 }
def wzX12_signed : List Cond := .code yX12_signed cX12_signed 1 (some .int) :: wsL_law
def fX12_signed_16  (σ : zSt) (s0 : Int32) : Option (zSt × Int32) :=
  some (σ, s0)
def fX12_signed  (σ : zSt) (x0 : Int32) : Option (zSt × Int32) :=
  if 128 ≤ x0 then fX12_signed_16 σ (x0 - 256) else
  fX12_signed_16 σ x0
set_option maxRecDepth 20000 in
set_option maxHeartbeats 4000000 in
theorem bX12_signed_16 {st : Nat → Nat} {p : Program} {l : Launch} {e : Env} {s : State} {m : MethodId} {args : Array Value} {below : List Frame} {meth : Method} {c : Code} {D : va_G} {A : Nat → Prop} {ad : Nat → Nat} {cy : Nat → ClassId} (hC : zC p m c cX12_signed 1 s args wzX12_signed RX12 meth (some .int))  {res : zSt × Int32} {H : Heap} {locs : List Loc} {σ : zSt} {ls : Array Slot} {s0 : Int32} (hI : zI st D (tM cy) (wM ad cy σ) A s H locs) (hl : lv_has ls 1 []) (hf : fX12_signed_16  σ s0 = some res) : W p l e rmX12_signed s m args below meth c H locs 0 0 (zQi below args s D (tM cy) (wM ad cy) A res) (F0 m 16 ls [.int s0]) := by
  have hx := hC.1
  have hb := hC.2.1
  unfold fX12_signed_16 at hf
  exact z_ireturn hC hI hf dX12_signed_16
set_option maxRecDepth 20000 in
set_option maxHeartbeats 4000000 in
theorem bX12_signed {st : Nat → Nat} {p : Program} {l : Launch} {e : Env} {s : State} {m : MethodId} {args : Array Value} {below : List Frame} {meth : Method} {c : Code} {D : va_G} {A : Nat → Prop} {ad : Nat → Nat} {cy : Nat → ClassId} (hC : zC p m c cX12_signed 1 s args wzX12_signed RX12 meth (some .int))  {res : zSt × Int32} {H : Heap} {locs : List Loc} {σ : zSt} {ls : Array Slot} {x0 : Int32} (hI : zI st D (tM cy) (wM ad cy σ) A s H locs) (hl : lv_has ls 1 [(0, .int x0)]) (hf : fX12_signed  σ x0 = some res) : W p l e rmX12_signed s m args below meth c H locs 0 0 (zQi below args s D (tM cy) (wM ad cy) A res) (F0 m 0 ls []) := by
  have hx := hC.1
  have hb := hC.2.1
  unfold fX12_signed at hf
  refine lv_iload_n hx hb dX12_signed_0 rfl (lv_at hl 0 rfl) ?_
  refine lv_sipush (v := 128) hx hb dX12_signed_1 (by decide) ?_
  refine lv_icmp_ge (tgt := 11) hx hb dX12_signed_4 (by decide) (fun q => ?_) (fun q => ?_)
  · replace hf := zif_t q hf
    refine lv_iload_n hx hb dX12_signed_11 rfl (lv_at hl 0 rfl) ?_
    refine lv_sipush (v := 256) hx hb dX12_signed_12 (by decide) ?_
    refine lv_isub hx hb dX12_signed_15 ?_
    exact bX12_signed_16 hC  hI (lv_sub hl [] rfl) hf
  replace hf := zif_f q hf
  refine lv_iload_n hx hb dX12_signed_7 rfl (lv_at hl 0 rfl) ?_
  refine lv_goto (tgt := 16) hx hb dX12_signed_8 (by decide) ?_
  exact bX12_signed_16 hC  hI (lv_sub hl [] rfl) hf
set_option maxRecDepth 20000 in
theorem cX12_signed_met (st : Nat → Nat) (l : Launch) (D : va_G) (ad : Nat → Nat) (cy : Nat → ClassId) (σ : zSt) (x0 : Int32) (res : zSt × Int32) (hf : fX12_signed σ x0 = some res) (sz : Nat) : zMi st l yX12_signed wzX12_signed rmX12_signed [.int x0] D (tM cy) (wM ad cy) sz σ res :=
  zMi.of (cc := cX12_signed) (maxL := 1) (ret := (some .int)) (by decide) rfl (Nat.le_of_ble_eq_true rfl) (fun p e s m args below meth c hC A hI ls hl => bX12_signed hC hI hl hf)
theorem hdX12_signed : yX12_signed.cls ≠ "java/lang/invoke/MethodHandle" ∧ yX12_signed.cls ≠ "java/lang/invoke/VarHandle" ∧ (parseMethodDescriptor yX12_signed.desc).map (fun d => d.parameters.length) = some 1 := by decide +kernel
def rmX12_call : Room := { frames := 3, cells := 0, slots := 0, locals := 66 }
def wzX12_call : List Cond := .code yX12_call cX12_call 2 none :: wsL_law
theorem hinX12_call_X120 : ∀ w ∈ wsX120, w ∈ wzX12_call := fun w h => List.mem_cons_of_mem _ (inlX12 w h)
def fX12_call  (σ : zSt) (x1 : Int32) : Option (zSt) :=
  zck (zin 19 1048) (
  zbu (fX12_push σ (zgi σ 3 (19 : Int32).toNatClampNeg)) (fun σ1 =>
  zck (zin 19 1048) (zbv (zsi σ1 3 ((19 : Int32).toNatClampNeg) x1) (fun σ2 =>
  zck (zin 20 1048) (zbv (zsi σ2 3 ((20 : Int32).toNatClampNeg) x1) (fun σ3 =>
  some σ3))))))
set_option maxRecDepth 20000 in
set_option maxHeartbeats 4000000 in
theorem bX12_call {st : Nat → Nat} {p : Program} {l : Launch} {e : Env} {s : State} {m : MethodId} {args : Array Value} {below : List Frame} {meth : Method} {c : Code} {D : va_G} {A : Nat → Prop} {ad : Nat → Nat} {cy : Nat → ClassId} (hC : zC p m c cX12_call 2 s args wzX12_call RX12 meth none)  {res : zSt} {H : Heap} {locs : List Loc} {σ : zSt} {ls : Array Slot} {x1 : Int32} (hI : zI st D (tM cy) (wM ad cy σ) A s H locs) (hl : lv_has ls 2 [(0, .ref (ad 0)), (1, .int x1)]) (hf : fX12_call  σ x1 = some res) : W p l e rmX12_call s m args below meth c H locs 0 0 (zQu below args s D (tM cy) (wM ad cy) A res) (F0 m 0 ls []) := by
  have hx := hC.1
  have hb := hC.2.1
  unfold fX12_call at hf
  refine lv_aload_n hx hb dX12_call_0 rfl (lv_at hl 0 rfl) ?_
  refine lv_aload_n hx hb dX12_call_1 rfl (lv_at hl 0 rfl) ?_
  refine z_get hC hI hinX12_call_X120 0 (wM_e0 ad cy σ) rfl 10 (by decide) (List.mem_cons_of_mem _ zw9_7) rfl dX12_call_2 ?_
  refine lv_bipush (v := 19) hx hb dX12_call_5 (by decide) ?_
  obtain ⟨q, hf⟩ := zck_use hf
  refine z_iald hC hI 3 2 (wM_e3 ad cy σ) (tM_t3 cy) q dX12_call_7 ?_
  obtain ⟨σ1, g1, hf⟩ := zbu_use hf
  refine z_callVu (As := [.int (zgi σ 3 (19 : Int32).toNatClampNeg)]) (rest := []) hC hI (cX12_push_met st l D ad cy σ (zgi σ 3 (19 : Int32).toNatClampNeg) _ g1) (zgV zw48_1 zw48_2 zw48_3 zw1_5 zw48_4) rfl ⟨rfl, rfl⟩ 1 hdX12_push ⟨Nat.le_of_ble_eq_true rfl, Nat.le_of_ble_eq_true rfl⟩ rfl rfl (wM_e0 ad cy σ) rfl hl rfl (Nat.le_of_ble_eq_true rfl) dX12_call_8 ⟨Nat.zero_le _, Nat.zero_le _⟩ (fun H locs hI => ?_)
  refine lv_aload_n hx hb dX12_call_11 rfl (lv_at hl 0 rfl) ?_
  refine z_get hC hI hinX12_call_X120 0 (wM_e0 ad cy σ1) rfl 10 (by decide) (List.mem_cons_of_mem _ zw9_7) rfl dX12_call_12 ?_
  refine lv_bipush (v := 19) hx hb dX12_call_15 (by decide) ?_
  refine lv_iload_n hx hb dX12_call_17 rfl (lv_at hl 1 rfl) ?_
  obtain ⟨q, hf⟩ := zck_use hf
  obtain ⟨σ2, eσ2⟩ : ∃ z, z = zsi σ1 3 ((19 : Int32).toNatClampNeg) x1 := ⟨_, rfl⟩
  replace hf := zbv_use eσ2 hf
  refine z_iast hC hI 3 2 (wM_e3 ad cy σ1) (tM_t3 cy) q ((wM_s3 ad cy σ1 _ _).trans (congrArg (wM ad cy) eσ2.symm)) dX12_call_18 (fun H locs hI => ?_)
  refine lv_aload_n hx hb dX12_call_19 rfl (lv_at hl 0 rfl) ?_
  refine z_get hC hI hinX12_call_X120 0 (wM_e0 ad cy σ2) rfl 10 (by decide) (List.mem_cons_of_mem _ zw9_7) rfl dX12_call_20 ?_
  refine lv_bipush (v := 20) hx hb dX12_call_23 (by decide) ?_
  refine lv_iload_n hx hb dX12_call_25 rfl (lv_at hl 1 rfl) ?_
  obtain ⟨q, hf⟩ := zck_use hf
  obtain ⟨σ3, eσ3⟩ : ∃ z, z = zsi σ2 3 ((20 : Int32).toNatClampNeg) x1 := ⟨_, rfl⟩
  replace hf := zbv_use eσ3 hf
  refine z_iast hC hI 3 2 (wM_e3 ad cy σ2) (tM_t3 cy) q ((wM_s3 ad cy σ2 _ _).trans (congrArg (wM ad cy) eσ3.symm)) dX12_call_26 (fun H locs hI => ?_)
  exact z_return hC hI hf dX12_call_27
set_option maxRecDepth 20000 in
theorem cX12_call_met (st : Nat → Nat) (l : Launch) (D : va_G) (ad : Nat → Nat) (cy : Nat → ClassId) (σ : zSt) (x1 : Int32) (res : zSt) (hf : fX12_call σ x1 = some res) (sz : Nat) : zMu st l yX12_call wzX12_call rmX12_call [.ref (ad 0), .int x1] D (tM cy) (wM ad cy) sz σ res :=
  zMu.of (cc := cX12_call) (maxL := 2) (ret := none) (by decide) rfl (Nat.le_of_ble_eq_true rfl) (fun p e s m args below meth c hC A hI ls hl => bX12_call hC hI hl hf)
theorem hdX12_call : yX12_call.cls = RX12 ∧ yX12_call.cls ≠ "java/lang/invoke/MethodHandle" ∧ yX12_call.cls ≠ "java/lang/invoke/VarHandle" ∧ (parseMethodDescriptor yX12_call.desc).map (fun d => d.parameters.length) = some 1 := by decide +kernel
def rmX12_change : Room := { frames := 0, cells := 0, slots := 0, locals := 0 }
def wzX12_change : List Cond := .code yX12_change cX12_change 4 none :: wsL_law
theorem hinX12_change_X120 : ∀ w ∈ wsX120, w ∈ wzX12_change := fun w h => List.mem_cons_of_mem _ (inlX12 w h)
def fX12_change  (σ : zSt) (x1 : Int32) (x2 : Int32) : Option (zSt) :=
  zck (zin x1 1048) (
  zbv (zgi σ 3 x1.toNatClampNeg) (fun v1 =>
  zck (zin x2 1048) (
  zck (zin x1 1048) (zbv (zsi σ 3 (x1.toNatClampNeg) (zgi σ 3 x2.toNatClampNeg)) (fun σ2 =>
  zck (zin x2 1048) (zbv (zsi σ2 3 (x2.toNatClampNeg) v1) (fun σ3 =>
  some σ3)))))))
set_option maxRecDepth 20000 in
set_option maxHeartbeats 4000000 in
theorem bX12_change {st : Nat → Nat} {p : Program} {l : Launch} {e : Env} {s : State} {m : MethodId} {args : Array Value} {below : List Frame} {meth : Method} {c : Code} {D : va_G} {A : Nat → Prop} {ad : Nat → Nat} {cy : Nat → ClassId} (hC : zC p m c cX12_change 4 s args wzX12_change RX12 meth none)  {res : zSt} {H : Heap} {locs : List Loc} {σ : zSt} {ls : Array Slot} {x1 : Int32} {x2 : Int32} (hI : zI st D (tM cy) (wM ad cy σ) A s H locs) (hl : lv_has ls 4 [(0, .ref (ad 0)), (1, .int x1), (2, .int x2)]) (hf : fX12_change  σ x1 x2 = some res) : W p l e rmX12_change s m args below meth c H locs 0 0 (zQu below args s D (tM cy) (wM ad cy) A res) (F0 m 0 ls []) := by
  have hx := hC.1
  have hb := hC.2.1
  unfold fX12_change at hf
  refine lv_aload_n hx hb dX12_change_0 rfl (lv_at hl 0 rfl) ?_
  refine z_get hC hI hinX12_change_X120 0 (wM_e0 ad cy σ) rfl 10 (by decide) (List.mem_cons_of_mem _ zw9_7) rfl dX12_change_1 ?_
  refine lv_iload_n hx hb dX12_change_4 rfl (lv_at hl 1 rfl) ?_
  obtain ⟨q, hf⟩ := zck_use hf
  refine z_iald hC hI 3 2 (wM_e3 ad cy σ) (tM_t3 cy) q dX12_change_5 ?_
  refine lv_topi (fun v1 ev1 => ?_)
  replace hf := zbv_use ev1 hf
  refine lv_istore_n (lv' := [(3, .int v1), (0, .ref (ad 0)), (1, .int x1), (2, .int x2)]) hx hb dX12_change_6 rfl hl (by decide) rfl (fun ls hl => ?_)
  refine lv_aload_n hx hb dX12_change_7 rfl (lv_at hl 1 rfl) ?_
  refine z_get hC hI hinX12_change_X120 0 (wM_e0 ad cy σ) rfl 10 (by decide) (List.mem_cons_of_mem _ zw9_7) rfl dX12_change_8 ?_
  refine lv_iload_n hx hb dX12_change_11 rfl (lv_at hl 2 rfl) ?_
  refine lv_aload_n hx hb dX12_change_12 rfl (lv_at hl 1 rfl) ?_
  refine z_get hC hI hinX12_change_X120 0 (wM_e0 ad cy σ) rfl 10 (by decide) (List.mem_cons_of_mem _ zw9_7) rfl dX12_change_13 ?_
  refine lv_iload_n hx hb dX12_change_16 rfl (lv_at hl 3 rfl) ?_
  obtain ⟨q, hf⟩ := zck_use hf
  refine z_iald hC hI 3 2 (wM_e3 ad cy σ) (tM_t3 cy) q dX12_change_17 ?_
  obtain ⟨q, hf⟩ := zck_use hf
  obtain ⟨σ2, eσ2⟩ : ∃ z, z = zsi σ 3 (x1.toNatClampNeg) (zgi σ 3 x2.toNatClampNeg) := ⟨_, rfl⟩
  replace hf := zbv_use eσ2 hf
  refine z_iast hC hI 3 2 (wM_e3 ad cy σ) (tM_t3 cy) q ((wM_s3 ad cy σ _ _).trans (congrArg (wM ad cy) eσ2.symm)) dX12_change_18 (fun H locs hI => ?_)
  refine lv_aload_n hx hb dX12_change_19 rfl (lv_at hl 1 rfl) ?_
  refine z_get hC hI hinX12_change_X120 0 (wM_e0 ad cy σ2) rfl 10 (by decide) (List.mem_cons_of_mem _ zw9_7) rfl dX12_change_20 ?_
  refine lv_iload_n hx hb dX12_change_23 rfl (lv_at hl 3 rfl) ?_
  refine lv_iload_n hx hb dX12_change_24 rfl (lv_at hl 0 rfl) ?_
  obtain ⟨q, hf⟩ := zck_use hf
  obtain ⟨σ3, eσ3⟩ : ∃ z, z = zsi σ2 3 (x2.toNatClampNeg) v1 := ⟨_, rfl⟩
  replace hf := zbv_use eσ3 hf
  refine z_iast hC hI 3 2 (wM_e3 ad cy σ2) (tM_t3 cy) q ((wM_s3 ad cy σ2 _ _).trans (congrArg (wM ad cy) eσ3.symm)) dX12_change_25 (fun H locs hI => ?_)
  exact z_return hC hI hf dX12_change_26
set_option maxRecDepth 20000 in
theorem cX12_change_met (st : Nat → Nat) (l : Launch) (D : va_G) (ad : Nat → Nat) (cy : Nat → ClassId) (σ : zSt) (x1 : Int32) (x2 : Int32) (res : zSt) (hf : fX12_change σ x1 x2 = some res) (sz : Nat) : zMu st l yX12_change wzX12_change rmX12_change [.ref (ad 0), .int x1, .int x2] D (tM cy) (wM ad cy) sz σ res :=
  zMu.of (cc := cX12_change) (maxL := 4) (ret := none) (by decide) rfl (Nat.le_of_ble_eq_true rfl) (fun p e s m args below meth c hC A hI ls hl => bX12_change hC hI hl hf)
theorem hdX12_change : yX12_change.cls = RX12 ∧ yX12_change.cls ≠ "java/lang/invoke/MethodHandle" ∧ yX12_change.cls ≠ "java/lang/invoke/VarHandle" ∧ (parseMethodDescriptor yX12_change.desc).map (fun d => d.parameters.length) = some 2 := by decide +kernel
def rmX12_bit : Room := { frames := 0, cells := 0, slots := 0, locals := 0 }
def wzX12_bit : List Cond := .code yX12_bit cX12_bit 3 (some .int) :: wsL_law
theorem hinX12_bit_X120 : ∀ w ∈ wsX120, w ∈ wzX12_bit := fun w h => List.mem_cons_of_mem _ (inlX12 w h)
def fX12_bit  (σ : zSt) (x1 : Int32) (x2 : Int32) : Option (zSt × Int32) :=
  zck (zin (47 + x1) 1048) (
  some (σ, ((zgi σ 3 (47 + x1).toNatClampNeg) >>> (x2 &&& 31)) &&& 1))
set_option maxRecDepth 20000 in
set_option maxHeartbeats 4000000 in
theorem bX12_bit {st : Nat → Nat} {p : Program} {l : Launch} {e : Env} {s : State} {m : MethodId} {args : Array Value} {below : List Frame} {meth : Method} {c : Code} {D : va_G} {A : Nat → Prop} {ad : Nat → Nat} {cy : Nat → ClassId} (hC : zC p m c cX12_bit 3 s args wzX12_bit RX12 meth (some .int))  {res : zSt × Int32} {H : Heap} {locs : List Loc} {σ : zSt} {ls : Array Slot} {x1 : Int32} {x2 : Int32} (hI : zI st D (tM cy) (wM ad cy σ) A s H locs) (hl : lv_has ls 3 [(0, .ref (ad 0)), (1, .int x1), (2, .int x2)]) (hf : fX12_bit  σ x1 x2 = some res) : W p l e rmX12_bit s m args below meth c H locs 0 0 (zQi below args s D (tM cy) (wM ad cy) A res) (F0 m 0 ls []) := by
  have hx := hC.1
  have hb := hC.2.1
  unfold fX12_bit at hf
  refine lv_aload_n hx hb dX12_bit_0 rfl (lv_at hl 0 rfl) ?_
  refine z_get hC hI hinX12_bit_X120 0 (wM_e0 ad cy σ) rfl 10 (by decide) (List.mem_cons_of_mem _ zw9_7) rfl dX12_bit_1 ?_
  refine lv_bipush (v := 47) hx hb dX12_bit_4 (by decide) ?_
  refine lv_iload_n hx hb dX12_bit_6 rfl (lv_at hl 1 rfl) ?_
  refine lv_iadd hx hb dX12_bit_7 ?_
  obtain ⟨q, hf⟩ := zck_use hf
  refine z_iald hC hI 3 2 (wM_e3 ad cy σ) (tM_t3 cy) q dX12_bit_8 ?_
  refine lv_iload_n hx hb dX12_bit_9 rfl (lv_at hl 2 rfl) ?_
  refine lv_ishr hx hb dX12_bit_10 ?_
  refine lv_iconst (v := 1) hx hb dX12_bit_11 (by decide) ?_
  refine lv_iand hx hb dX12_bit_12 ?_
  exact z_ireturn hC hI hf dX12_bit_13
set_option maxRecDepth 20000 in
theorem cX12_bit_met (st : Nat → Nat) (l : Launch) (D : va_G) (ad : Nat → Nat) (cy : Nat → ClassId) (σ : zSt) (x1 : Int32) (x2 : Int32) (res : zSt × Int32) (hf : fX12_bit σ x1 x2 = some res) (sz : Nat) : zMi st l yX12_bit wzX12_bit rmX12_bit [.ref (ad 0), .int x1, .int x2] D (tM cy) (wM ad cy) sz σ res :=
  zMi.of (cc := cX12_bit) (maxL := 3) (ret := (some .int)) (by decide) rfl (Nat.le_of_ble_eq_true rfl) (fun p e s m args below meth c hC A hI ls hl => bX12_bit hC hI hl hf)
theorem hdX12_bit : yX12_bit.cls = RX12 ∧ yX12_bit.cls ≠ "java/lang/invoke/MethodHandle" ∧ yX12_bit.cls ≠ "java/lang/invoke/VarHandle" ∧ (parseMethodDescriptor yX12_bit.desc).map (fun d => d.parameters.length) = some 2 := by decide +kernel
def rmX12_mode : Room := { frames := 1, cells := 0, slots := 0, locals := 22 }
def wzX12_mode : List Cond := .code yX12_mode cX12_mode 1 (some .int) :: wsL_law
def fX12_mode_57  (σ : zSt) (s0 : Int32) : Option (zSt × Int32) :=
  some (σ, s0)
def fX12_mode  (σ : zSt)  : Option (zSt × Int32) :=
  zbi (fX12_bit σ 0 2) (fun σ1 v2 =>
  if v2 = 1 then fX12_mode_57 σ1 4 else
  zbi (fX12_bit σ1 1 4) (fun σ3 v4 =>
  if v4 = 1 then fX12_mode_57 σ3 1 else
  zbi (fX12_bit σ3 1 3) (fun σ5 v6 =>
  if v6 = 1 then fX12_mode_57 σ5 3 else
  zbi (fX12_bit σ5 0 1) (fun σ7 v8 =>
  if v8 = 1 then fX12_mode_57 σ7 2 else
  fX12_mode_57 σ7 0))))
set_option maxRecDepth 20000 in
set_option maxHeartbeats 4000000 in
theorem bX12_mode_57 {st : Nat → Nat} {p : Program} {l : Launch} {e : Env} {s : State} {m : MethodId} {args : Array Value} {below : List Frame} {meth : Method} {c : Code} {D : va_G} {A : Nat → Prop} {ad : Nat → Nat} {cy : Nat → ClassId} (hC : zC p m c cX12_mode 1 s args wzX12_mode RX12 meth (some .int))  {res : zSt × Int32} {H : Heap} {locs : List Loc} {σ : zSt} {ls : Array Slot} {s0 : Int32} (hI : zI st D (tM cy) (wM ad cy σ) A s H locs) (hl : lv_has ls 1 []) (hf : fX12_mode_57  σ s0 = some res) : W p l e rmX12_mode s m args below meth c H locs 0 0 (zQi below args s D (tM cy) (wM ad cy) A res) (F0 m 57 ls [.int s0]) := by
  have hx := hC.1
  have hb := hC.2.1
  unfold fX12_mode_57 at hf
  exact z_ireturn hC hI hf dX12_mode_57
set_option maxRecDepth 20000 in
set_option maxHeartbeats 4000000 in
theorem bX12_mode {st : Nat → Nat} {p : Program} {l : Launch} {e : Env} {s : State} {m : MethodId} {args : Array Value} {below : List Frame} {meth : Method} {c : Code} {D : va_G} {A : Nat → Prop} {ad : Nat → Nat} {cy : Nat → ClassId} (hC : zC p m c cX12_mode 1 s args wzX12_mode RX12 meth (some .int))  {res : zSt × Int32} {H : Heap} {locs : List Loc} {σ : zSt} {ls : Array Slot}  (hI : zI st D (tM cy) (wM ad cy σ) A s H locs) (hl : lv_has ls 1 [(0, .ref (ad 0))]) (hf : fX12_mode  σ  = some res) : W p l e rmX12_mode s m args below meth c H locs 0 0 (zQi below args s D (tM cy) (wM ad cy) A res) (F0 m 0 ls []) := by
  have hx := hC.1
  have hb := hC.2.1
  unfold fX12_mode at hf
  refine lv_aload_n hx hb dX12_mode_0 rfl (lv_at hl 0 rfl) ?_
  refine lv_iconst (v := 0) hx hb dX12_mode_1 (by decide) ?_
  refine lv_iconst (v := 2) hx hb dX12_mode_2 (by decide) ?_
  obtain ⟨σ1, v2, g1, hf⟩ := zbi_use hf
  refine z_callVi (As := [.int 0, .int 2]) (rest := []) hC hI (cX12_bit_met st l D ad cy σ 0 2 _ g1) (zgV zw49_0 zw49_1 zw49_2 zw1_5 zw49_3) rfl ⟨rfl, rfl⟩ 2 hdX12_bit ⟨Nat.le_of_ble_eq_true rfl, Nat.le_of_ble_eq_true rfl⟩ rfl rfl (wM_e0 ad cy σ) rfl hl rfl (Nat.le_of_ble_eq_true rfl) dX12_mode_3 ⟨Nat.zero_le _, Nat.zero_le _⟩ (fun H locs hI => ?_)
  refine lv_iconst (v := 1) hx hb dX12_mode_6 (by decide) ?_
  refine lv_icmp_ne (tgt := 14) hx hb dX12_mode_7 (by decide) (fun q => ?_) (fun q => ?_)
  · replace hf := zif_f q hf
    refine lv_aload_n hx hb dX12_mode_14 rfl (lv_at hl 0 rfl) ?_
    refine lv_iconst (v := 1) hx hb dX12_mode_15 (by decide) ?_
    refine lv_iconst (v := 4) hx hb dX12_mode_16 (by decide) ?_
    obtain ⟨σ3, v4, g3, hf⟩ := zbi_use hf
    refine z_callVi (As := [.int 1, .int 4]) (rest := []) hC hI (cX12_bit_met st l D ad cy σ1 1 4 _ g3) (zgV zw49_0 zw49_1 zw49_2 zw1_5 zw49_3) rfl ⟨rfl, rfl⟩ 2 hdX12_bit ⟨Nat.le_of_ble_eq_true rfl, Nat.le_of_ble_eq_true rfl⟩ rfl rfl (wM_e0 ad cy σ1) rfl hl rfl (Nat.le_of_ble_eq_true rfl) dX12_mode_17 ⟨Nat.zero_le _, Nat.zero_le _⟩ (fun H locs hI => ?_)
    refine lv_iconst (v := 1) hx hb dX12_mode_20 (by decide) ?_
    refine lv_icmp_ne (tgt := 28) hx hb dX12_mode_21 (by decide) (fun q => ?_) (fun q => ?_)
    · replace hf := zif_f q hf
      refine lv_aload_n hx hb dX12_mode_28 rfl (lv_at hl 0 rfl) ?_
      refine lv_iconst (v := 1) hx hb dX12_mode_29 (by decide) ?_
      refine lv_iconst (v := 3) hx hb dX12_mode_30 (by decide) ?_
      obtain ⟨σ5, v6, g5, hf⟩ := zbi_use hf
      refine z_callVi (As := [.int 1, .int 3]) (rest := []) hC hI (cX12_bit_met st l D ad cy σ3 1 3 _ g5) (zgV zw49_0 zw49_1 zw49_2 zw1_5 zw49_3) rfl ⟨rfl, rfl⟩ 2 hdX12_bit ⟨Nat.le_of_ble_eq_true rfl, Nat.le_of_ble_eq_true rfl⟩ rfl rfl (wM_e0 ad cy σ3) rfl hl rfl (Nat.le_of_ble_eq_true rfl) dX12_mode_31 ⟨Nat.zero_le _, Nat.zero_le _⟩ (fun H locs hI => ?_)
      refine lv_iconst (v := 1) hx hb dX12_mode_34 (by decide) ?_
      refine lv_icmp_ne (tgt := 42) hx hb dX12_mode_35 (by decide) (fun q => ?_) (fun q => ?_)
      · replace hf := zif_f q hf
        refine lv_aload_n hx hb dX12_mode_42 rfl (lv_at hl 0 rfl) ?_
        refine lv_iconst (v := 0) hx hb dX12_mode_43 (by decide) ?_
        refine lv_iconst (v := 1) hx hb dX12_mode_44 (by decide) ?_
        obtain ⟨σ7, v8, g7, hf⟩ := zbi_use hf
        refine z_callVi (As := [.int 0, .int 1]) (rest := []) hC hI (cX12_bit_met st l D ad cy σ5 0 1 _ g7) (zgV zw49_0 zw49_1 zw49_2 zw1_5 zw49_3) rfl ⟨rfl, rfl⟩ 2 hdX12_bit ⟨Nat.le_of_ble_eq_true rfl, Nat.le_of_ble_eq_true rfl⟩ rfl rfl (wM_e0 ad cy σ5) rfl hl rfl (Nat.le_of_ble_eq_true rfl) dX12_mode_45 ⟨Nat.zero_le _, Nat.zero_le _⟩ (fun H locs hI => ?_)
        refine lv_iconst (v := 1) hx hb dX12_mode_48 (by decide) ?_
        refine lv_icmp_ne (tgt := 56) hx hb dX12_mode_49 (by decide) (fun q => ?_) (fun q => ?_)
        · replace hf := zif_f q hf
          refine lv_iconst (v := 0) hx hb dX12_mode_56 (by decide) ?_
          exact bX12_mode_57 hC  hI (lv_sub hl [] rfl) hf
        replace hf := zif_t q hf
        refine lv_iconst (v := 2) hx hb dX12_mode_52 (by decide) ?_
        refine lv_goto (tgt := 57) hx hb dX12_mode_53 (by decide) ?_
        exact bX12_mode_57 hC  hI (lv_sub hl [] rfl) hf
      replace hf := zif_t q hf
      refine lv_iconst (v := 3) hx hb dX12_mode_38 (by decide) ?_
      refine lv_goto (tgt := 57) hx hb dX12_mode_39 (by decide) ?_
      exact bX12_mode_57 hC  hI (lv_sub hl [] rfl) hf
    replace hf := zif_t q hf
    refine lv_iconst (v := 1) hx hb dX12_mode_24 (by decide) ?_
    refine lv_goto (tgt := 57) hx hb dX12_mode_25 (by decide) ?_
    exact bX12_mode_57 hC  hI (lv_sub hl [] rfl) hf
  replace hf := zif_t q hf
  refine lv_iconst (v := 4) hx hb dX12_mode_10 (by decide) ?_
  refine lv_goto (tgt := 57) hx hb dX12_mode_11 (by decide) ?_
  exact bX12_mode_57 hC  hI (lv_sub hl [] rfl) hf
set_option maxRecDepth 20000 in
theorem cX12_mode_met (st : Nat → Nat) (l : Launch) (D : va_G) (ad : Nat → Nat) (cy : Nat → ClassId) (σ : zSt)  (res : zSt × Int32) (hf : fX12_mode σ  = some res) (sz : Nat) : zMi st l yX12_mode wzX12_mode rmX12_mode [.ref (ad 0)] D (tM cy) (wM ad cy) sz σ res :=
  zMi.of (cc := cX12_mode) (maxL := 1) (ret := (some .int)) (by decide) rfl (Nat.le_of_ble_eq_true rfl) (fun p e s m args below meth c hC A hI ls hl => bX12_mode hC hI hl hf)
theorem hdX12_mode : yX12_mode.cls = RX12 ∧ yX12_mode.cls ≠ "java/lang/invoke/MethodHandle" ∧ yX12_mode.cls ≠ "java/lang/invoke/VarHandle" ∧ (parseMethodDescriptor yX12_mode.desc).map (fun d => d.parameters.length) = some 0 := by decide +kernel
def rmX12_height : Room := { frames := 2, cells := 0, slots := 0, locals := 42 }
def wzX12_height : List Cond := .code yX12_height cX12_height 1 (some .int) :: wsL_law
def fX12_height_32  (σ : zSt)  : Option (zSt × Int32) :=
  some (σ, 192)
def fX12_height_55  (σ : zSt) (s0 : Int32) : Option (zSt × Int32) :=
  some (σ, s0)
def fX12_height  (σ : zSt)  : Option (zSt × Int32) :=
  zbi (fX12_mode σ ) (fun σ1 v2 =>
  if v2 = 4 then zbi (fX12_bit σ1 0 1) (fun σ3 v4 =>
  if v4 = 0 then fX12_height_32 σ3 else
  zbi (fX12_bit σ3 1 4) (fun σ5 v6 =>
  zbi (fX12_bit σ5 1 3) (fun σ7 v8 =>
  if v6 = v8 then fX12_height_32 σ7 else
  zbi (fX12_bit σ7 1 4) (fun σ9 v10 =>
  if v10 = 1 then fX12_height_55 σ9 224 else
  fX12_height_55 σ9 240)))) else
  fX12_height_32 σ1)
set_option maxRecDepth 20000 in
set_option maxHeartbeats 4000000 in
theorem bX12_height_32 {st : Nat → Nat} {p : Program} {l : Launch} {e : Env} {s : State} {m : MethodId} {args : Array Value} {below : List Frame} {meth : Method} {c : Code} {D : va_G} {A : Nat → Prop} {ad : Nat → Nat} {cy : Nat → ClassId} (hC : zC p m c cX12_height 1 s args wzX12_height RX12 meth (some .int))  {res : zSt × Int32} {H : Heap} {locs : List Loc} {σ : zSt} {ls : Array Slot}  (hI : zI st D (tM cy) (wM ad cy σ) A s H locs) (hl : lv_has ls 1 []) (hf : fX12_height_32  σ  = some res) : W p l e rmX12_height s m args below meth c H locs 0 0 (zQi below args s D (tM cy) (wM ad cy) A res) (F0 m 32 ls []) := by
  have hx := hC.1
  have hb := hC.2.1
  unfold fX12_height_32 at hf
  refine lv_sipush (v := 192) hx hb dX12_height_32 (by decide) ?_
  exact z_ireturn hC hI hf dX12_height_35
set_option maxRecDepth 20000 in
set_option maxHeartbeats 4000000 in
theorem bX12_height_55 {st : Nat → Nat} {p : Program} {l : Launch} {e : Env} {s : State} {m : MethodId} {args : Array Value} {below : List Frame} {meth : Method} {c : Code} {D : va_G} {A : Nat → Prop} {ad : Nat → Nat} {cy : Nat → ClassId} (hC : zC p m c cX12_height 1 s args wzX12_height RX12 meth (some .int))  {res : zSt × Int32} {H : Heap} {locs : List Loc} {σ : zSt} {ls : Array Slot} {s0 : Int32} (hI : zI st D (tM cy) (wM ad cy σ) A s H locs) (hl : lv_has ls 1 []) (hf : fX12_height_55  σ s0 = some res) : W p l e rmX12_height s m args below meth c H locs 0 0 (zQi below args s D (tM cy) (wM ad cy) A res) (F0 m 55 ls [.int s0]) := by
  have hx := hC.1
  have hb := hC.2.1
  unfold fX12_height_55 at hf
  exact z_ireturn hC hI hf dX12_height_55
set_option maxRecDepth 20000 in
set_option maxHeartbeats 4000000 in
theorem bX12_height {st : Nat → Nat} {p : Program} {l : Launch} {e : Env} {s : State} {m : MethodId} {args : Array Value} {below : List Frame} {meth : Method} {c : Code} {D : va_G} {A : Nat → Prop} {ad : Nat → Nat} {cy : Nat → ClassId} (hC : zC p m c cX12_height 1 s args wzX12_height RX12 meth (some .int))  {res : zSt × Int32} {H : Heap} {locs : List Loc} {σ : zSt} {ls : Array Slot}  (hI : zI st D (tM cy) (wM ad cy σ) A s H locs) (hl : lv_has ls 1 [(0, .ref (ad 0))]) (hf : fX12_height  σ  = some res) : W p l e rmX12_height s m args below meth c H locs 0 0 (zQi below args s D (tM cy) (wM ad cy) A res) (F0 m 0 ls []) := by
  have hx := hC.1
  have hb := hC.2.1
  unfold fX12_height at hf
  refine lv_aload_n hx hb dX12_height_0 rfl (lv_at hl 0 rfl) ?_
  obtain ⟨σ1, v2, g1, hf⟩ := zbi_use hf
  refine z_callVi (As := []) (rest := []) hC hI (cX12_mode_met st l D ad cy σ  _ g1) (zgV zw57_6 zw57_7 zw57_8 zw1_5 zw57_9) rfl ⟨rfl, rfl⟩ 0 hdX12_mode ⟨Nat.le_of_ble_eq_true rfl, Nat.le_of_ble_eq_true rfl⟩ rfl rfl (wM_e0 ad cy σ) rfl hl rfl (Nat.le_of_ble_eq_true rfl) dX12_height_1 ⟨Nat.zero_le _, Nat.zero_le _⟩ (fun H locs hI => ?_)
  refine lv_iconst (v := 4) hx hb dX12_height_4 (by decide) ?_
  refine lv_icmp_ne (tgt := 32) hx hb dX12_height_5 (by decide) (fun q => ?_) (fun q => ?_)
  · replace hf := zif_f q hf
    exact bX12_height_32 hC  hI (lv_sub hl [] rfl) hf
  replace hf := zif_t q hf
  refine lv_aload_n hx hb dX12_height_8 rfl (lv_at hl 0 rfl) ?_
  refine lv_iconst (v := 0) hx hb dX12_height_9 (by decide) ?_
  refine lv_iconst (v := 1) hx hb dX12_height_10 (by decide) ?_
  obtain ⟨σ3, v4, g3, hf⟩ := zbi_use hf
  refine z_callVi (As := [.int 0, .int 1]) (rest := []) hC hI (cX12_bit_met st l D ad cy σ1 0 1 _ g3) (zgV zw49_0 zw49_1 zw49_2 zw1_5 zw49_3) rfl ⟨rfl, rfl⟩ 2 hdX12_bit ⟨Nat.le_of_ble_eq_true rfl, Nat.le_of_ble_eq_true rfl⟩ rfl rfl (wM_e0 ad cy σ1) rfl hl rfl (Nat.le_of_ble_eq_true rfl) dX12_height_11 ⟨Nat.zero_le _, Nat.zero_le _⟩ (fun H locs hI => ?_)
  refine lv_if_eq (tgt := 32) hx hb dX12_height_14 (by decide) (fun q => ?_) (fun q => ?_)
  · replace hf := zif_t q hf
    exact bX12_height_32 hC  hI (lv_sub hl [] rfl) hf
  replace hf := zif_f q hf
  refine lv_aload_n hx hb dX12_height_17 rfl (lv_at hl 0 rfl) ?_
  refine lv_iconst (v := 1) hx hb dX12_height_18 (by decide) ?_
  refine lv_iconst (v := 4) hx hb dX12_height_19 (by decide) ?_
  obtain ⟨σ5, v6, g5, hf⟩ := zbi_use hf
  refine z_callVi (As := [.int 1, .int 4]) (rest := []) hC hI (cX12_bit_met st l D ad cy σ3 1 4 _ g5) (zgV zw49_0 zw49_1 zw49_2 zw1_5 zw49_3) rfl ⟨rfl, rfl⟩ 2 hdX12_bit ⟨Nat.le_of_ble_eq_true rfl, Nat.le_of_ble_eq_true rfl⟩ rfl rfl (wM_e0 ad cy σ3) rfl hl rfl (Nat.le_of_ble_eq_true rfl) dX12_height_20 ⟨Nat.zero_le _, Nat.zero_le _⟩ (fun H locs hI => ?_)
  refine lv_aload_n hx hb dX12_height_23 rfl (lv_at hl 0 rfl) ?_
  refine lv_iconst (v := 1) hx hb dX12_height_24 (by decide) ?_
  refine lv_iconst (v := 3) hx hb dX12_height_25 (by decide) ?_
  obtain ⟨σ7, v8, g7, hf⟩ := zbi_use hf
  refine z_callVi (As := [.int 1, .int 3]) (rest := [.int v6]) hC hI (cX12_bit_met st l D ad cy σ5 1 3 _ g7) (zgV zw49_0 zw49_1 zw49_2 zw1_5 zw49_3) rfl ⟨rfl, rfl⟩ 2 hdX12_bit ⟨Nat.le_of_ble_eq_true rfl, Nat.le_of_ble_eq_true rfl⟩ rfl rfl (wM_e0 ad cy σ5) rfl hl rfl (Nat.le_of_ble_eq_true rfl) dX12_height_26 ⟨Nat.zero_le _, Nat.zero_le _⟩ (fun H locs hI => ?_)
  refine lv_icmp_ne (tgt := 36) hx hb dX12_height_29 (by decide) (fun q => ?_) (fun q => ?_)
  · replace hf := zif_f q hf
    refine lv_aload_n hx hb dX12_height_36 rfl (lv_at hl 0 rfl) ?_
    refine lv_iconst (v := 1) hx hb dX12_height_37 (by decide) ?_
    refine lv_iconst (v := 4) hx hb dX12_height_38 (by decide) ?_
    obtain ⟨σ9, v10, g9, hf⟩ := zbi_use hf
    refine z_callVi (As := [.int 1, .int 4]) (rest := []) hC hI (cX12_bit_met st l D ad cy σ7 1 4 _ g9) (zgV zw49_0 zw49_1 zw49_2 zw1_5 zw49_3) rfl ⟨rfl, rfl⟩ 2 hdX12_bit ⟨Nat.le_of_ble_eq_true rfl, Nat.le_of_ble_eq_true rfl⟩ rfl rfl (wM_e0 ad cy σ7) rfl hl rfl (Nat.le_of_ble_eq_true rfl) dX12_height_39 ⟨Nat.zero_le _, Nat.zero_le _⟩ (fun H locs hI => ?_)
    refine lv_iconst (v := 1) hx hb dX12_height_42 (by decide) ?_
    refine lv_icmp_ne (tgt := 52) hx hb dX12_height_43 (by decide) (fun q => ?_) (fun q => ?_)
    · replace hf := zif_f q hf
      refine lv_sipush (v := 240) hx hb dX12_height_52 (by decide) ?_
      exact bX12_height_55 hC  hI (lv_sub hl [] rfl) hf
    replace hf := zif_t q hf
    refine lv_sipush (v := 224) hx hb dX12_height_46 (by decide) ?_
    refine lv_goto (tgt := 55) hx hb dX12_height_49 (by decide) ?_
    exact bX12_height_55 hC  hI (lv_sub hl [] rfl) hf
  replace hf := zif_t q hf
  exact bX12_height_32 hC  hI (lv_sub hl [] rfl) hf
set_option maxRecDepth 20000 in
theorem cX12_height_met (st : Nat → Nat) (l : Launch) (D : va_G) (ad : Nat → Nat) (cy : Nat → ClassId) (σ : zSt)  (res : zSt × Int32) (hf : fX12_height σ  = some res) (sz : Nat) : zMi st l yX12_height wzX12_height rmX12_height [.ref (ad 0)] D (tM cy) (wM ad cy) sz σ res :=
  zMi.of (cc := cX12_height) (maxL := 1) (ret := (some .int)) (by decide) rfl (Nat.le_of_ble_eq_true rfl) (fun p e s m args below meth c hC A hI ls hl => bX12_height hC hI hl hf)
theorem hdX12_height : yX12_height.cls = RX12 ∧ yX12_height.cls ≠ "java/lang/invoke/MethodHandle" ∧ yX12_height.cls ≠ "java/lang/invoke/VarHandle" ∧ (parseMethodDescriptor yX12_height.desc).map (fun d => d.parameters.length) = some 0 := by decide +kernel
def rmX12_vCount : Room := { frames := 3, cells := 0, slots := 0, locals := 62 }
def wzX12_vCount : List Cond := .code yX12_vCount cX12_vCount 4 (some .int) :: wsL_law
theorem hinX12_vCount_X120 : ∀ w ∈ wsX120, w ∈ wzX12_vCount := fun w h => List.mem_cons_of_mem _ (inlX12 w h)
def fX12_vCount_109  (σ : zSt) (s0 : Int32) : Option (zSt × Int32) :=
  some (σ, s0 &&& 255)
def fX12_vCount_108  (σ : zSt) (s0 : Int32) (s1 : Int32) : Option (zSt × Int32) :=
  fX12_vCount_109 σ (s1 - s0)
def fX12_vCount_82  (σ : zSt) (x1 : Int32) (s0 : Int32) : Option (zSt × Int32) :=
  if s0 ≤ x1 then if (zgi σ 0 3) = 1 then fX12_vCount_108 σ 57 x1 else
  fX12_vCount_108 σ 6 x1 else
  fX12_vCount_109 σ x1
def fX12_vCount  (σ : zSt)  : Option (zSt × Int32) :=
  zck (zin 66 1048) (
  zbv (zgi σ 3 (66 : Int32).toNatClampNeg) (fun v1 =>
  zbi (fX12_height σ ) (fun σ2 v3 =>
  if (zgi σ2 0 3) = 1 then if v3 = 192 then fX12_vCount_82 σ2 v1 243 else
  if v3 = 224 then fX12_vCount_82 σ2 v1 259 else
  fX12_vCount_82 σ2 v1 267 else
  if v3 = 192 then fX12_vCount_82 σ2 v1 219 else
  if v3 = 224 then fX12_vCount_82 σ2 v1 235 else
  fX12_vCount_82 σ2 v1 1000)))
set_option maxRecDepth 20000 in
set_option maxHeartbeats 4000000 in
theorem bX12_vCount_109 {st : Nat → Nat} {p : Program} {l : Launch} {e : Env} {s : State} {m : MethodId} {args : Array Value} {below : List Frame} {meth : Method} {c : Code} {D : va_G} {A : Nat → Prop} {ad : Nat → Nat} {cy : Nat → ClassId} (hC : zC p m c cX12_vCount 4 s args wzX12_vCount RX12 meth (some .int))  {res : zSt × Int32} {H : Heap} {locs : List Loc} {σ : zSt} {ls : Array Slot} {s0 : Int32} (hI : zI st D (tM cy) (wM ad cy σ) A s H locs) (hl : lv_has ls 4 []) (hf : fX12_vCount_109  σ s0 = some res) : W p l e rmX12_vCount s m args below meth c H locs 0 0 (zQi below args s D (tM cy) (wM ad cy) A res) (F0 m 109 ls [.int s0]) := by
  have hx := hC.1
  have hb := hC.2.1
  unfold fX12_vCount_109 at hf
  refine lv_sipush (v := 255) hx hb dX12_vCount_109 (by decide) ?_
  refine lv_iand hx hb dX12_vCount_112 ?_
  exact z_ireturn hC hI hf dX12_vCount_113
set_option maxRecDepth 20000 in
set_option maxHeartbeats 4000000 in
theorem bX12_vCount_108 {st : Nat → Nat} {p : Program} {l : Launch} {e : Env} {s : State} {m : MethodId} {args : Array Value} {below : List Frame} {meth : Method} {c : Code} {D : va_G} {A : Nat → Prop} {ad : Nat → Nat} {cy : Nat → ClassId} (hC : zC p m c cX12_vCount 4 s args wzX12_vCount RX12 meth (some .int))  {res : zSt × Int32} {H : Heap} {locs : List Loc} {σ : zSt} {ls : Array Slot} {s0 : Int32} {s1 : Int32} (hI : zI st D (tM cy) (wM ad cy σ) A s H locs) (hl : lv_has ls 4 []) (hf : fX12_vCount_108  σ s0 s1 = some res) : W p l e rmX12_vCount s m args below meth c H locs 0 0 (zQi below args s D (tM cy) (wM ad cy) A res) (F0 m 108 ls [.int s0, .int s1]) := by
  have hx := hC.1
  have hb := hC.2.1
  unfold fX12_vCount_108 at hf
  refine lv_isub hx hb dX12_vCount_108 ?_
  exact bX12_vCount_109 hC  hI hl hf
set_option maxRecDepth 20000 in
set_option maxHeartbeats 4000000 in
theorem bX12_vCount_82 {st : Nat → Nat} {p : Program} {l : Launch} {e : Env} {s : State} {m : MethodId} {args : Array Value} {below : List Frame} {meth : Method} {c : Code} {D : va_G} {A : Nat → Prop} {ad : Nat → Nat} {cy : Nat → ClassId} (hC : zC p m c cX12_vCount 4 s args wzX12_vCount RX12 meth (some .int))  {res : zSt × Int32} {H : Heap} {locs : List Loc} {σ : zSt} {ls : Array Slot} {x1 : Int32} {s0 : Int32} (hI : zI st D (tM cy) (wM ad cy σ) A s H locs) (hl : lv_has ls 4 [(0, .ref (ad 0)), (1, .int x1)]) (hf : fX12_vCount_82  σ x1 s0 = some res) : W p l e rmX12_vCount s m args below meth c H locs 0 0 (zQi below args s D (tM cy) (wM ad cy) A res) (F0 m 82 ls [.int s0]) := by
  have hx := hC.1
  have hb := hC.2.1
  unfold fX12_vCount_82 at hf
  refine lv_istore_n (lv' := [(3, .int s0), (0, .ref (ad 0)), (1, .int x1)]) hx hb dX12_vCount_82 rfl hl (by decide) rfl (fun ls hl => ?_)
  refine lv_iload_n hx hb dX12_vCount_83 rfl (lv_at hl 2 rfl) ?_
  refine lv_iload_n hx hb dX12_vCount_84 rfl (lv_at hl 0 rfl) ?_
  refine lv_icmp_ge (tgt := 92) hx hb dX12_vCount_85 (by decide) (fun q => ?_) (fun q => ?_)
  · replace hf := zif_t q hf
    refine lv_iload_n hx hb dX12_vCount_92 rfl (lv_at hl 2 rfl) ?_
    refine lv_aload_n hx hb dX12_vCount_93 rfl (lv_at hl 1 rfl) ?_
    refine z_get hC hI hinX12_vCount_X120 0 (wM_e0 ad cy σ) rfl 3 (by decide) (List.mem_cons_of_mem _ zw10_10) rfl dX12_vCount_94 ?_
    refine lv_iconst (v := 1) hx hb dX12_vCount_97 (by decide) ?_
    refine lv_icmp_ne (tgt := 106) hx hb dX12_vCount_98 (by decide) (fun q => ?_) (fun q => ?_)
    · replace hf := zif_f q hf
      refine lv_bipush (v := 6) hx hb dX12_vCount_106 (by decide) ?_
      exact bX12_vCount_108 hC  hI (lv_sub hl [] rfl) hf
    replace hf := zif_t q hf
    refine lv_bipush (v := 57) hx hb dX12_vCount_101 (by decide) ?_
    refine lv_goto (tgt := 108) hx hb dX12_vCount_103 (by decide) ?_
    exact bX12_vCount_108 hC  hI (lv_sub hl [] rfl) hf
  replace hf := zif_f q hf
  refine lv_iload_n hx hb dX12_vCount_88 rfl (lv_at hl 2 rfl) ?_
  refine lv_goto (tgt := 109) hx hb dX12_vCount_89 (by decide) ?_
  exact bX12_vCount_109 hC  hI (lv_sub hl [] rfl) hf
set_option maxRecDepth 20000 in
set_option maxHeartbeats 4000000 in
theorem bX12_vCount {st : Nat → Nat} {p : Program} {l : Launch} {e : Env} {s : State} {m : MethodId} {args : Array Value} {below : List Frame} {meth : Method} {c : Code} {D : va_G} {A : Nat → Prop} {ad : Nat → Nat} {cy : Nat → ClassId} (hC : zC p m c cX12_vCount 4 s args wzX12_vCount RX12 meth (some .int))  {res : zSt × Int32} {H : Heap} {locs : List Loc} {σ : zSt} {ls : Array Slot}  (hI : zI st D (tM cy) (wM ad cy σ) A s H locs) (hl : lv_has ls 4 [(0, .ref (ad 0))]) (hf : fX12_vCount  σ  = some res) : W p l e rmX12_vCount s m args below meth c H locs 0 0 (zQi below args s D (tM cy) (wM ad cy) A res) (F0 m 0 ls []) := by
  have hx := hC.1
  have hb := hC.2.1
  unfold fX12_vCount at hf
  refine lv_aload_n hx hb dX12_vCount_0 rfl (lv_at hl 0 rfl) ?_
  refine z_get hC hI hinX12_vCount_X120 0 (wM_e0 ad cy σ) rfl 10 (by decide) (List.mem_cons_of_mem _ zw9_7) rfl dX12_vCount_1 ?_
  refine lv_bipush (v := 66) hx hb dX12_vCount_4 (by decide) ?_
  obtain ⟨q, hf⟩ := zck_use hf
  refine z_iald hC hI 3 2 (wM_e3 ad cy σ) (tM_t3 cy) q dX12_vCount_6 ?_
  refine lv_topi (fun v1 ev1 => ?_)
  replace hf := zbv_use ev1 hf
  refine lv_istore_n (lv' := [(1, .int v1), (0, .ref (ad 0))]) hx hb dX12_vCount_7 rfl hl (by decide) rfl (fun ls hl => ?_)
  refine lv_aload_n hx hb dX12_vCount_8 rfl (lv_at hl 1 rfl) ?_
  obtain ⟨σ2, v3, g2, hf⟩ := zbi_use hf
  refine z_callVi (As := []) (rest := []) hC hI (cX12_height_met st l D ad cy σ  _ g2) (zgV zw57_2 zw57_3 zw57_4 zw1_5 zw57_5) rfl ⟨rfl, rfl⟩ 0 hdX12_height ⟨Nat.le_of_ble_eq_true rfl, Nat.le_of_ble_eq_true rfl⟩ rfl rfl (wM_e0 ad cy σ) rfl hl rfl (Nat.le_of_ble_eq_true rfl) dX12_vCount_9 ⟨Nat.zero_le _, Nat.zero_le _⟩ (fun H locs hI => ?_)
  refine lv_istore_n (lv' := [(2, .int v3), (1, .int v1), (0, .ref (ad 0))]) hx hb dX12_vCount_12 rfl hl (by decide) rfl (fun ls hl => ?_)
  refine lv_aload_n hx hb dX12_vCount_13 rfl (lv_at hl 2 rfl) ?_
  refine z_get hC hI hinX12_vCount_X120 0 (wM_e0 ad cy σ2) rfl 3 (by decide) (List.mem_cons_of_mem _ zw10_10) rfl dX12_vCount_14 ?_
  refine lv_iconst (v := 1) hx hb dX12_vCount_17 (by decide) ?_
  refine lv_icmp_ne (tgt := 53) hx hb dX12_vCount_18 (by decide) (fun q => ?_) (fun q => ?_)
  · replace hf := zif_f q hf
    refine lv_iload_n hx hb dX12_vCount_53 rfl (lv_at hl 0 rfl) ?_
    refine lv_sipush (v := 192) hx hb dX12_vCount_54 (by decide) ?_
    refine lv_icmp_ne (tgt := 66) hx hb dX12_vCount_57 (by decide) (fun q => ?_) (fun q => ?_)
    · replace hf := zif_f q hf
      refine lv_iload_n hx hb dX12_vCount_66 rfl (lv_at hl 0 rfl) ?_
      refine lv_sipush (v := 224) hx hb dX12_vCount_67 (by decide) ?_
      refine lv_icmp_ne (tgt := 79) hx hb dX12_vCount_70 (by decide) (fun q => ?_) (fun q => ?_)
      · replace hf := zif_f q hf
        refine lv_sipush (v := 1000) hx hb dX12_vCount_79 (by decide) ?_
        exact bX12_vCount_82 hC  hI (lv_sub hl [2, 1] rfl) hf
      replace hf := zif_t q hf
      refine lv_sipush (v := 235) hx hb dX12_vCount_73 (by decide) ?_
      refine lv_goto (tgt := 82) hx hb dX12_vCount_76 (by decide) ?_
      exact bX12_vCount_82 hC  hI (lv_sub hl [2, 1] rfl) hf
    replace hf := zif_t q hf
    refine lv_sipush (v := 219) hx hb dX12_vCount_60 (by decide) ?_
    refine lv_goto (tgt := 82) hx hb dX12_vCount_63 (by decide) ?_
    exact bX12_vCount_82 hC  hI (lv_sub hl [2, 1] rfl) hf
  replace hf := zif_t q hf
  refine lv_iload_n hx hb dX12_vCount_21 rfl (lv_at hl 0 rfl) ?_
  refine lv_sipush (v := 192) hx hb dX12_vCount_22 (by decide) ?_
  refine lv_icmp_ne (tgt := 34) hx hb dX12_vCount_25 (by decide) (fun q => ?_) (fun q => ?_)
  · replace hf := zif_f q hf
    refine lv_iload_n hx hb dX12_vCount_34 rfl (lv_at hl 0 rfl) ?_
    refine lv_sipush (v := 224) hx hb dX12_vCount_35 (by decide) ?_
    refine lv_icmp_ne (tgt := 47) hx hb dX12_vCount_38 (by decide) (fun q => ?_) (fun q => ?_)
    · replace hf := zif_f q hf
      refine lv_sipush (v := 267) hx hb dX12_vCount_47 (by decide) ?_
      refine lv_goto (tgt := 82) hx hb dX12_vCount_50 (by decide) ?_
      exact bX12_vCount_82 hC  hI (lv_sub hl [2, 1] rfl) hf
    replace hf := zif_t q hf
    refine lv_sipush (v := 259) hx hb dX12_vCount_41 (by decide) ?_
    refine lv_goto (tgt := 82) hx hb dX12_vCount_44 (by decide) ?_
    exact bX12_vCount_82 hC  hI (lv_sub hl [2, 1] rfl) hf
  replace hf := zif_t q hf
  refine lv_sipush (v := 243) hx hb dX12_vCount_28 (by decide) ?_
  refine lv_goto (tgt := 82) hx hb dX12_vCount_31 (by decide) ?_
  exact bX12_vCount_82 hC  hI (lv_sub hl [2, 1] rfl) hf
set_option maxRecDepth 20000 in
theorem cX12_vCount_met (st : Nat → Nat) (l : Launch) (D : va_G) (ad : Nat → Nat) (cy : Nat → ClassId) (σ : zSt)  (res : zSt × Int32) (hf : fX12_vCount σ  = some res) (sz : Nat) : zMi st l yX12_vCount wzX12_vCount rmX12_vCount [.ref (ad 0)] D (tM cy) (wM ad cy) sz σ res :=
  zMi.of (cc := cX12_vCount) (maxL := 4) (ret := (some .int)) (by decide) rfl (Nat.le_of_ble_eq_true rfl) (fun p e s m args below meth c hC A hI ls hl => bX12_vCount hC hI hl hf)
theorem hdX12_vCount : yX12_vCount.cls = RX12 ∧ yX12_vCount.cls ≠ "java/lang/invoke/MethodHandle" ∧ yX12_vCount.cls ≠ "java/lang/invoke/VarHandle" ∧ (parseMethodDescriptor yX12_vCount.desc).map (fun d => d.parameters.length) = some 0 := by decide +kernel
def rmX12_status : Room := { frames := 0, cells := 0, slots := 0, locals := 0 }
def wzX12_status : List Cond := .code yX12_status cX12_status 2 (some .int) :: wsL_law
theorem hinX12_status_X120 : ∀ w ∈ wsX120, w ∈ wzX12_status := fun w h => List.mem_cons_of_mem _ (inlX12 w h)
def fX12_status  (σ : zSt)  : Option (zSt × Int32) :=
  zck (zin 62 1048) (
  zbv (zgi σ 3 (62 : Int32).toNatClampNeg) (fun v1 =>
  zck (zin 61 1048) (zbv (zsi σ 3 ((61 : Int32).toNatClampNeg) 0) (fun σ2 =>
  zck (zin 62 1048) (zbv (zsi σ2 3 ((62 : Int32).toNatClampNeg) 0) (fun σ3 =>
  zck (zin 63 1048) (zbv (zsi σ3 3 ((63 : Int32).toNatClampNeg) 0) (fun σ4 =>
  some (σ4, v1)))))))))
set_option maxRecDepth 20000 in
set_option maxHeartbeats 4000000 in
theorem bX12_status {st : Nat → Nat} {p : Program} {l : Launch} {e : Env} {s : State} {m : MethodId} {args : Array Value} {below : List Frame} {meth : Method} {c : Code} {D : va_G} {A : Nat → Prop} {ad : Nat → Nat} {cy : Nat → ClassId} (hC : zC p m c cX12_status 2 s args wzX12_status RX12 meth (some .int))  {res : zSt × Int32} {H : Heap} {locs : List Loc} {σ : zSt} {ls : Array Slot}  (hI : zI st D (tM cy) (wM ad cy σ) A s H locs) (hl : lv_has ls 2 [(0, .ref (ad 0))]) (hf : fX12_status  σ  = some res) : W p l e rmX12_status s m args below meth c H locs 0 0 (zQi below args s D (tM cy) (wM ad cy) A res) (F0 m 0 ls []) := by
  have hx := hC.1
  have hb := hC.2.1
  unfold fX12_status at hf
  refine lv_aload_n hx hb dX12_status_0 rfl (lv_at hl 0 rfl) ?_
  refine z_get hC hI hinX12_status_X120 0 (wM_e0 ad cy σ) rfl 10 (by decide) (List.mem_cons_of_mem _ zw9_7) rfl dX12_status_1 ?_
  refine lv_bipush (v := 62) hx hb dX12_status_4 (by decide) ?_
  obtain ⟨q, hf⟩ := zck_use hf
  refine z_iald hC hI 3 2 (wM_e3 ad cy σ) (tM_t3 cy) q dX12_status_6 ?_
  refine lv_topi (fun v1 ev1 => ?_)
  replace hf := zbv_use ev1 hf
  refine lv_istore_n (lv' := [(1, .int v1), (0, .ref (ad 0))]) hx hb dX12_status_7 rfl hl (by decide) rfl (fun ls hl => ?_)
  refine lv_aload_n hx hb dX12_status_8 rfl (lv_at hl 1 rfl) ?_
  refine z_get hC hI hinX12_status_X120 0 (wM_e0 ad cy σ) rfl 10 (by decide) (List.mem_cons_of_mem _ zw9_7) rfl dX12_status_9 ?_
  refine lv_bipush (v := 61) hx hb dX12_status_12 (by decide) ?_
  refine lv_iconst (v := 0) hx hb dX12_status_14 (by decide) ?_
  obtain ⟨q, hf⟩ := zck_use hf
  obtain ⟨σ2, eσ2⟩ : ∃ z, z = zsi σ 3 ((61 : Int32).toNatClampNeg) 0 := ⟨_, rfl⟩
  replace hf := zbv_use eσ2 hf
  refine z_iast hC hI 3 2 (wM_e3 ad cy σ) (tM_t3 cy) q ((wM_s3 ad cy σ _ _).trans (congrArg (wM ad cy) eσ2.symm)) dX12_status_15 (fun H locs hI => ?_)
  refine lv_aload_n hx hb dX12_status_16 rfl (lv_at hl 1 rfl) ?_
  refine z_get hC hI hinX12_status_X120 0 (wM_e0 ad cy σ2) rfl 10 (by decide) (List.mem_cons_of_mem _ zw9_7) rfl dX12_status_17 ?_
  refine lv_bipush (v := 62) hx hb dX12_status_20 (by decide) ?_
  refine lv_iconst (v := 0) hx hb dX12_status_22 (by decide) ?_
  obtain ⟨q, hf⟩ := zck_use hf
  obtain ⟨σ3, eσ3⟩ : ∃ z, z = zsi σ2 3 ((62 : Int32).toNatClampNeg) 0 := ⟨_, rfl⟩
  replace hf := zbv_use eσ3 hf
  refine z_iast hC hI 3 2 (wM_e3 ad cy σ2) (tM_t3 cy) q ((wM_s3 ad cy σ2 _ _).trans (congrArg (wM ad cy) eσ3.symm)) dX12_status_23 (fun H locs hI => ?_)
  refine lv_aload_n hx hb dX12_status_24 rfl (lv_at hl 1 rfl) ?_
  refine z_get hC hI hinX12_status_X120 0 (wM_e0 ad cy σ3) rfl 10 (by decide) (List.mem_cons_of_mem _ zw9_7) rfl dX12_status_25 ?_
  refine lv_bipush (v := 63) hx hb dX12_status_28 (by decide) ?_
  refine lv_iconst (v := 0) hx hb dX12_status_30 (by decide) ?_
  obtain ⟨q, hf⟩ := zck_use hf
  obtain ⟨σ4, eσ4⟩ : ∃ z, z = zsi σ3 3 ((63 : Int32).toNatClampNeg) 0 := ⟨_, rfl⟩
  replace hf := zbv_use eσ4 hf
  refine z_iast hC hI 3 2 (wM_e3 ad cy σ3) (tM_t3 cy) q ((wM_s3 ad cy σ3 _ _).trans (congrArg (wM ad cy) eσ4.symm)) dX12_status_31 (fun H locs hI => ?_)
  refine lv_iload_n hx hb dX12_status_32 rfl (lv_at hl 0 rfl) ?_
  exact z_ireturn hC hI hf dX12_status_33
set_option maxRecDepth 20000 in
theorem cX12_status_met (st : Nat → Nat) (l : Launch) (D : va_G) (ad : Nat → Nat) (cy : Nat → ClassId) (σ : zSt)  (res : zSt × Int32) (hf : fX12_status σ  = some res) (sz : Nat) : zMi st l yX12_status wzX12_status rmX12_status [.ref (ad 0)] D (tM cy) (wM ad cy) sz σ res :=
  zMi.of (cc := cX12_status) (maxL := 2) (ret := (some .int)) (by decide) rfl (Nat.le_of_ble_eq_true rfl) (fun p e s m args below meth c hC A hI ls hl => bX12_status hC hI hl hf)
theorem hdX12_status : yX12_status.cls = RX12 ∧ yX12_status.cls ≠ "java/lang/invoke/MethodHandle" ∧ yX12_status.cls ≠ "java/lang/invoke/VarHandle" ∧ (parseMethodDescriptor yX12_status.desc).map (fun d => d.parameters.length) = some 0 := by decide +kernel
def rmX12_video8 : Room := { frames := 0, cells := 0, slots := 0, locals := 0 }
def wzX12_video8 : List Cond := .code yX12_video8 cX12_video8 2 (some .int) :: wsL_law
theorem hinX12_video8_X120 : ∀ w ∈ wsX120, w ∈ wzX12_video8 := fun w h => List.mem_cons_of_mem _ (inlX12 w h)
def fX12_video8  (σ : zSt) (x1 : Int32) : Option (zSt × Int32) :=
  zck (zin (x1 &&& 16383) 16384) (
  some (σ, (zgi σ 7 (x1 &&& 16383).toNatClampNeg) &&& 255))
set_option maxRecDepth 20000 in
set_option maxHeartbeats 4000000 in
theorem bX12_video8 {st : Nat → Nat} {p : Program} {l : Launch} {e : Env} {s : State} {m : MethodId} {args : Array Value} {below : List Frame} {meth : Method} {c : Code} {D : va_G} {A : Nat → Prop} {ad : Nat → Nat} {cy : Nat → ClassId} (hC : zC p m c cX12_video8 2 s args wzX12_video8 RX12 meth (some .int))  {res : zSt × Int32} {H : Heap} {locs : List Loc} {σ : zSt} {ls : Array Slot} {x1 : Int32} (hI : zI st D (tM cy) (wM ad cy σ) A s H locs) (hl : lv_has ls 2 [(0, .ref (ad 0)), (1, .int x1)]) (hf : fX12_video8  σ x1 = some res) : W p l e rmX12_video8 s m args below meth c H locs 0 0 (zQi below args s D (tM cy) (wM ad cy) A res) (F0 m 0 ls []) := by
  have hx := hC.1
  have hb := hC.2.1
  unfold fX12_video8 at hf
  refine lv_aload_n hx hb dX12_video8_0 rfl (lv_at hl 0 rfl) ?_
  refine z_get hC hI hinX12_video8_X120 0 (wM_e0 ad cy σ) rfl 14 (by decide) (List.mem_cons_of_mem _ zw9_12) rfl dX12_video8_1 ?_
  refine lv_iload_n hx hb dX12_video8_4 rfl (lv_at hl 1 rfl) ?_
  refine lv_sipush (v := 16383) hx hb dX12_video8_5 (by decide) ?_
  refine lv_iand hx hb dX12_video8_8 ?_
  obtain ⟨q, hf⟩ := zck_use hf
  refine z_bald hC hI 7 6 (wM_e7 ad cy σ) (tM_t7 cy) q dX12_video8_9 ?_
  refine lv_sipush (v := 255) hx hb dX12_video8_10 (by decide) ?_
  refine lv_iand hx hb dX12_video8_13 ?_
  exact z_ireturn hC hI hf dX12_video8_14
set_option maxRecDepth 20000 in
theorem cX12_video8_met (st : Nat → Nat) (l : Launch) (D : va_G) (ad : Nat → Nat) (cy : Nat → ClassId) (σ : zSt) (x1 : Int32) (res : zSt × Int32) (hf : fX12_video8 σ x1 = some res) (sz : Nat) : zMi st l yX12_video8 wzX12_video8 rmX12_video8 [.ref (ad 0), .int x1] D (tM cy) (wM ad cy) sz σ res :=
  zMi.of (cc := cX12_video8) (maxL := 2) (ret := (some .int)) (by decide) rfl (Nat.le_of_ble_eq_true rfl) (fun p e s m args below meth c hC A hI ls hl => bX12_video8 hC hI hl hf)
theorem hdX12_video8 : yX12_video8.cls = RX12 ∧ yX12_video8.cls ≠ "java/lang/invoke/MethodHandle" ∧ yX12_video8.cls ≠ "java/lang/invoke/VarHandle" ∧ (parseMethodDescriptor yX12_video8.desc).map (fun d => d.parameters.length) = some 1 := by decide +kernel
def rmX12_further : Room := { frames := 0, cells := 0, slots := 0, locals := 0 }
def wzX12_further : List Cond := .code yX12_further cX12_further 1 none :: wsL_law
theorem hinX12_further_X120 : ∀ w ∈ wsX120, w ∈ wzX12_further := fun w h => List.mem_cons_of_mem _ (inlX12 w h)
def fX12_further  (σ : zSt)  : Option (zSt) :=
  zck (zin 58 1048) (
  zck (zin 58 1048) (zbv (zsi σ 3 ((58 : Int32).toNatClampNeg) (((zgi σ 3 (58 : Int32).toNatClampNeg) + 1) &&& 16383)) (fun σ1 =>
  some σ1)))
set_option maxRecDepth 20000 in
set_option maxHeartbeats 4000000 in
theorem bX12_further {st : Nat → Nat} {p : Program} {l : Launch} {e : Env} {s : State} {m : MethodId} {args : Array Value} {below : List Frame} {meth : Method} {c : Code} {D : va_G} {A : Nat → Prop} {ad : Nat → Nat} {cy : Nat → ClassId} (hC : zC p m c cX12_further 1 s args wzX12_further RX12 meth none)  {res : zSt} {H : Heap} {locs : List Loc} {σ : zSt} {ls : Array Slot}  (hI : zI st D (tM cy) (wM ad cy σ) A s H locs) (hl : lv_has ls 1 [(0, .ref (ad 0))]) (hf : fX12_further  σ  = some res) : W p l e rmX12_further s m args below meth c H locs 0 0 (zQu below args s D (tM cy) (wM ad cy) A res) (F0 m 0 ls []) := by
  have hx := hC.1
  have hb := hC.2.1
  unfold fX12_further at hf
  refine lv_aload_n hx hb dX12_further_0 rfl (lv_at hl 0 rfl) ?_
  refine z_get hC hI hinX12_further_X120 0 (wM_e0 ad cy σ) rfl 10 (by decide) (List.mem_cons_of_mem _ zw9_7) rfl dX12_further_1 ?_
  refine lv_bipush (v := 58) hx hb dX12_further_4 (by decide) ?_
  refine lv_aload_n hx hb dX12_further_6 rfl (lv_at hl 0 rfl) ?_
  refine z_get hC hI hinX12_further_X120 0 (wM_e0 ad cy σ) rfl 10 (by decide) (List.mem_cons_of_mem _ zw9_7) rfl dX12_further_7 ?_
  refine lv_bipush (v := 58) hx hb dX12_further_10 (by decide) ?_
  obtain ⟨q, hf⟩ := zck_use hf
  refine z_iald hC hI 3 2 (wM_e3 ad cy σ) (tM_t3 cy) q dX12_further_12 ?_
  refine lv_iconst (v := 1) hx hb dX12_further_13 (by decide) ?_
  refine lv_iadd hx hb dX12_further_14 ?_
  refine lv_sipush (v := 16383) hx hb dX12_further_15 (by decide) ?_
  refine lv_iand hx hb dX12_further_18 ?_
  obtain ⟨q, hf⟩ := zck_use hf
  obtain ⟨σ1, eσ1⟩ : ∃ z, z = zsi σ 3 ((58 : Int32).toNatClampNeg) (((zgi σ 3 (58 : Int32).toNatClampNeg) + 1) &&& 16383) := ⟨_, rfl⟩
  replace hf := zbv_use eσ1 hf
  refine z_iast hC hI 3 2 (wM_e3 ad cy σ) (tM_t3 cy) q ((wM_s3 ad cy σ _ _).trans (congrArg (wM ad cy) eσ1.symm)) dX12_further_19 (fun H locs hI => ?_)
  exact z_return hC hI hf dX12_further_20
set_option maxRecDepth 20000 in
theorem cX12_further_met (st : Nat → Nat) (l : Launch) (D : va_G) (ad : Nat → Nat) (cy : Nat → ClassId) (σ : zSt)  (res : zSt) (hf : fX12_further σ  = some res) (sz : Nat) : zMu st l yX12_further wzX12_further rmX12_further [.ref (ad 0)] D (tM cy) (wM ad cy) sz σ res :=
  zMu.of (cc := cX12_further) (maxL := 1) (ret := none) (by decide) rfl (Nat.le_of_ble_eq_true rfl) (fun p e s m args below meth c hC A hI ls hl => bX12_further hC hI hl hf)
theorem hdX12_further : yX12_further.cls = RX12 ∧ yX12_further.cls ≠ "java/lang/invoke/MethodHandle" ∧ yX12_further.cls ≠ "java/lang/invoke/VarHandle" ∧ (parseMethodDescriptor yX12_further.desc).map (fun d => d.parameters.length) = some 0 := by decide +kernel
def rmX12_data : Room := { frames := 1, cells := 0, slots := 0, locals := 21 }
def wzX12_data : List Cond := .code yX12_data cX12_data 2 (some .int) :: wsL_law
theorem hinX12_data_X120 : ∀ w ∈ wsX120, w ∈ wzX12_data := fun w h => List.mem_cons_of_mem _ (inlX12 w h)
def fX12_data  (σ : zSt)  : Option (zSt × Int32) :=
  zck (zin 60 1048) (
  zbv (zgi σ 3 (60 : Int32).toNatClampNeg) (fun v1 =>
  zck (zin 61 1048) (zbv (zsi σ 3 ((61 : Int32).toNatClampNeg) 0) (fun σ2 =>
  zck (zin 58 1048) (
  zbi (fX12_video8 σ2 (zgi σ2 3 (58 : Int32).toNatClampNeg)) (fun σ3 v4 =>
  zck (zin 60 1048) (zbv (zsi σ3 3 ((60 : Int32).toNatClampNeg) v4) (fun σ5 =>
  zbu (fX12_further σ5 ) (fun σ6 =>
  some (σ6, v1))))))))))
set_option maxRecDepth 20000 in
set_option maxHeartbeats 4000000 in
theorem bX12_data {st : Nat → Nat} {p : Program} {l : Launch} {e : Env} {s : State} {m : MethodId} {args : Array Value} {below : List Frame} {meth : Method} {c : Code} {D : va_G} {A : Nat → Prop} {ad : Nat → Nat} {cy : Nat → ClassId} (hC : zC p m c cX12_data 2 s args wzX12_data RX12 meth (some .int))  {res : zSt × Int32} {H : Heap} {locs : List Loc} {σ : zSt} {ls : Array Slot}  (hI : zI st D (tM cy) (wM ad cy σ) A s H locs) (hl : lv_has ls 2 [(0, .ref (ad 0))]) (hf : fX12_data  σ  = some res) : W p l e rmX12_data s m args below meth c H locs 0 0 (zQi below args s D (tM cy) (wM ad cy) A res) (F0 m 0 ls []) := by
  have hx := hC.1
  have hb := hC.2.1
  unfold fX12_data at hf
  refine lv_aload_n hx hb dX12_data_0 rfl (lv_at hl 0 rfl) ?_
  refine z_get hC hI hinX12_data_X120 0 (wM_e0 ad cy σ) rfl 10 (by decide) (List.mem_cons_of_mem _ zw9_7) rfl dX12_data_1 ?_
  refine lv_bipush (v := 60) hx hb dX12_data_4 (by decide) ?_
  obtain ⟨q, hf⟩ := zck_use hf
  refine z_iald hC hI 3 2 (wM_e3 ad cy σ) (tM_t3 cy) q dX12_data_6 ?_
  refine lv_topi (fun v1 ev1 => ?_)
  replace hf := zbv_use ev1 hf
  refine lv_istore_n (lv' := [(1, .int v1), (0, .ref (ad 0))]) hx hb dX12_data_7 rfl hl (by decide) rfl (fun ls hl => ?_)
  refine lv_aload_n hx hb dX12_data_8 rfl (lv_at hl 1 rfl) ?_
  refine z_get hC hI hinX12_data_X120 0 (wM_e0 ad cy σ) rfl 10 (by decide) (List.mem_cons_of_mem _ zw9_7) rfl dX12_data_9 ?_
  refine lv_bipush (v := 61) hx hb dX12_data_12 (by decide) ?_
  refine lv_iconst (v := 0) hx hb dX12_data_14 (by decide) ?_
  obtain ⟨q, hf⟩ := zck_use hf
  obtain ⟨σ2, eσ2⟩ : ∃ z, z = zsi σ 3 ((61 : Int32).toNatClampNeg) 0 := ⟨_, rfl⟩
  replace hf := zbv_use eσ2 hf
  refine z_iast hC hI 3 2 (wM_e3 ad cy σ) (tM_t3 cy) q ((wM_s3 ad cy σ _ _).trans (congrArg (wM ad cy) eσ2.symm)) dX12_data_15 (fun H locs hI => ?_)
  refine lv_aload_n hx hb dX12_data_16 rfl (lv_at hl 1 rfl) ?_
  refine z_get hC hI hinX12_data_X120 0 (wM_e0 ad cy σ2) rfl 10 (by decide) (List.mem_cons_of_mem _ zw9_7) rfl dX12_data_17 ?_
  refine lv_bipush (v := 60) hx hb dX12_data_20 (by decide) ?_
  refine lv_aload_n hx hb dX12_data_22 rfl (lv_at hl 1 rfl) ?_
  refine lv_aload_n hx hb dX12_data_23 rfl (lv_at hl 1 rfl) ?_
  refine z_get hC hI hinX12_data_X120 0 (wM_e0 ad cy σ2) rfl 10 (by decide) (List.mem_cons_of_mem _ zw9_7) rfl dX12_data_24 ?_
  refine lv_bipush (v := 58) hx hb dX12_data_27 (by decide) ?_
  obtain ⟨q, hf⟩ := zck_use hf
  refine z_iald hC hI 3 2 (wM_e3 ad cy σ2) (tM_t3 cy) q dX12_data_29 ?_
  obtain ⟨σ3, v4, g3, hf⟩ := zbi_use hf
  refine z_callVi (As := [.int (zgi σ2 3 (58 : Int32).toNatClampNeg)]) (rest := [.int 60, .ref (ad 3)]) hC hI (cX12_video8_met st l D ad cy σ2 (zgi σ2 3 (58 : Int32).toNatClampNeg) _ g3) (zgV zw56_6 zw56_7 zw56_8 zw1_5 zw56_9) rfl ⟨rfl, rfl⟩ 1 hdX12_video8 ⟨Nat.le_of_ble_eq_true rfl, Nat.le_of_ble_eq_true rfl⟩ rfl rfl (wM_e0 ad cy σ2) rfl hl rfl (Nat.le_of_ble_eq_true rfl) dX12_data_30 ⟨Nat.zero_le _, Nat.zero_le _⟩ (fun H locs hI => ?_)
  obtain ⟨q, hf⟩ := zck_use hf
  obtain ⟨σ5, eσ5⟩ : ∃ z, z = zsi σ3 3 ((60 : Int32).toNatClampNeg) v4 := ⟨_, rfl⟩
  replace hf := zbv_use eσ5 hf
  refine z_iast hC hI 3 2 (wM_e3 ad cy σ3) (tM_t3 cy) q ((wM_s3 ad cy σ3 _ _).trans (congrArg (wM ad cy) eσ5.symm)) dX12_data_33 (fun H locs hI => ?_)
  refine lv_aload_n hx hb dX12_data_34 rfl (lv_at hl 1 rfl) ?_
  obtain ⟨σ6, g6, hf⟩ := zbu_use hf
  refine z_callVu (As := []) (rest := []) hC hI (cX12_further_met st l D ad cy σ5  _ g6) (zgV zw56_10 zw56_11 zw56_12 zw1_5 zw56_13) rfl ⟨rfl, rfl⟩ 0 hdX12_further ⟨Nat.le_of_ble_eq_true rfl, Nat.le_of_ble_eq_true rfl⟩ rfl rfl (wM_e0 ad cy σ5) rfl hl rfl (Nat.le_of_ble_eq_true rfl) dX12_data_35 ⟨Nat.zero_le _, Nat.zero_le _⟩ (fun H locs hI => ?_)
  refine lv_iload_n hx hb dX12_data_38 rfl (lv_at hl 0 rfl) ?_
  exact z_ireturn hC hI hf dX12_data_39
set_option maxRecDepth 20000 in
theorem cX12_data_met (st : Nat → Nat) (l : Launch) (D : va_G) (ad : Nat → Nat) (cy : Nat → ClassId) (σ : zSt)  (res : zSt × Int32) (hf : fX12_data σ  = some res) (sz : Nat) : zMi st l yX12_data wzX12_data rmX12_data [.ref (ad 0)] D (tM cy) (wM ad cy) sz σ res :=
  zMi.of (cc := cX12_data) (maxL := 2) (ret := (some .int)) (by decide) rfl (Nat.le_of_ble_eq_true rfl) (fun p e s m args below meth c hC A hI ls hl => bX12_data hC hI hl hf)
theorem hdX12_data : yX12_data.cls = RX12 ∧ yX12_data.cls ≠ "java/lang/invoke/MethodHandle" ∧ yX12_data.cls ≠ "java/lang/invoke/VarHandle" ∧ (parseMethodDescriptor yX12_data.desc).map (fun d => d.parameters.length) = some 0 := by decide +kernel
def rmX12_lineAt : Room := { frames := 0, cells := 0, slots := 0, locals := 0 }
def wzX12_lineAt : List Cond := .code yX12_lineAt cX12_lineAt 2 (some .int) :: wsL_law
theorem hinX12_lineAt_X120 : ∀ w ∈ wsX120, w ∈ wzX12_lineAt := fun w h => List.mem_cons_of_mem _ (inlX12 w h)
def fX12_lineAt_45  (σ : zSt) (s0 : Int32) : Option (zSt × Int32) :=
  some (σ, s0)
def fX12_lineAt  (σ : zSt) (x1 : Int32) : Option (zSt × Int32) :=
  zck (zin 33 1048) (
  if (((zgi σ 3 (33 : Int32).toNatClampNeg) >>> ((1 + (2 * x1)) &&& 31)) &&& 1) = 0 then zck (zin 33 1048) (
  fX12_lineAt_45 σ (((zgi σ 3 (33 : Int32).toNatClampNeg) >>> ((5 + (2 * x1)) &&& 31)) &&& 1)) else
  zck (zin (45 + x1) 1048) (
  fX12_lineAt_45 σ (zgi σ 3 (45 + x1).toNatClampNeg)))
set_option maxRecDepth 20000 in
set_option maxHeartbeats 4000000 in
theorem bX12_lineAt_45 {st : Nat → Nat} {p : Program} {l : Launch} {e : Env} {s : State} {m : MethodId} {args : Array Value} {below : List Frame} {meth : Method} {c : Code} {D : va_G} {A : Nat → Prop} {ad : Nat → Nat} {cy : Nat → ClassId} (hC : zC p m c cX12_lineAt 2 s args wzX12_lineAt RX12 meth (some .int))  {res : zSt × Int32} {H : Heap} {locs : List Loc} {σ : zSt} {ls : Array Slot} {s0 : Int32} (hI : zI st D (tM cy) (wM ad cy σ) A s H locs) (hl : lv_has ls 2 []) (hf : fX12_lineAt_45  σ s0 = some res) : W p l e rmX12_lineAt s m args below meth c H locs 0 0 (zQi below args s D (tM cy) (wM ad cy) A res) (F0 m 45 ls [.int s0]) := by
  have hx := hC.1
  have hb := hC.2.1
  unfold fX12_lineAt_45 at hf
  exact z_ireturn hC hI hf dX12_lineAt_45
set_option maxRecDepth 20000 in
set_option maxHeartbeats 4000000 in
theorem bX12_lineAt {st : Nat → Nat} {p : Program} {l : Launch} {e : Env} {s : State} {m : MethodId} {args : Array Value} {below : List Frame} {meth : Method} {c : Code} {D : va_G} {A : Nat → Prop} {ad : Nat → Nat} {cy : Nat → ClassId} (hC : zC p m c cX12_lineAt 2 s args wzX12_lineAt RX12 meth (some .int))  {res : zSt × Int32} {H : Heap} {locs : List Loc} {σ : zSt} {ls : Array Slot} {x1 : Int32} (hI : zI st D (tM cy) (wM ad cy σ) A s H locs) (hl : lv_has ls 2 [(0, .ref (ad 0)), (1, .int x1)]) (hf : fX12_lineAt  σ x1 = some res) : W p l e rmX12_lineAt s m args below meth c H locs 0 0 (zQi below args s D (tM cy) (wM ad cy) A res) (F0 m 0 ls []) := by
  have hx := hC.1
  have hb := hC.2.1
  unfold fX12_lineAt at hf
  refine lv_aload_n hx hb dX12_lineAt_0 rfl (lv_at hl 0 rfl) ?_
  refine z_get hC hI hinX12_lineAt_X120 0 (wM_e0 ad cy σ) rfl 10 (by decide) (List.mem_cons_of_mem _ zw9_7) rfl dX12_lineAt_1 ?_
  refine lv_bipush (v := 33) hx hb dX12_lineAt_4 (by decide) ?_
  obtain ⟨q, hf⟩ := zck_use hf
  refine z_iald hC hI 3 2 (wM_e3 ad cy σ) (tM_t3 cy) q dX12_lineAt_6 ?_
  refine lv_iconst (v := 1) hx hb dX12_lineAt_7 (by decide) ?_
  refine lv_iconst (v := 2) hx hb dX12_lineAt_8 (by decide) ?_
  refine lv_iload_n hx hb dX12_lineAt_9 rfl (lv_at hl 1 rfl) ?_
  refine lv_imul hx hb dX12_lineAt_10 ?_
  refine lv_iadd hx hb dX12_lineAt_11 ?_
  refine lv_ishr hx hb dX12_lineAt_12 ?_
  refine lv_iconst (v := 1) hx hb dX12_lineAt_13 (by decide) ?_
  refine lv_iand hx hb dX12_lineAt_14 ?_
  refine lv_if_ne (tgt := 36) hx hb dX12_lineAt_15 (by decide) (fun q => ?_) (fun q => ?_)
  · replace hf := zif_f q hf
    refine lv_aload_n hx hb dX12_lineAt_36 rfl (lv_at hl 0 rfl) ?_
    refine z_get hC hI hinX12_lineAt_X120 0 (wM_e0 ad cy σ) rfl 10 (by decide) (List.mem_cons_of_mem _ zw9_7) rfl dX12_lineAt_37 ?_
    refine lv_bipush (v := 45) hx hb dX12_lineAt_40 (by decide) ?_
    refine lv_iload_n hx hb dX12_lineAt_42 rfl (lv_at hl 1 rfl) ?_
    refine lv_iadd hx hb dX12_lineAt_43 ?_
    obtain ⟨q, hf⟩ := zck_use hf
    refine z_iald hC hI 3 2 (wM_e3 ad cy σ) (tM_t3 cy) q dX12_lineAt_44 ?_
    exact bX12_lineAt_45 hC  hI (lv_sub hl [] rfl) hf
  replace hf := zif_t q hf
  refine lv_aload_n hx hb dX12_lineAt_18 rfl (lv_at hl 0 rfl) ?_
  refine z_get hC hI hinX12_lineAt_X120 0 (wM_e0 ad cy σ) rfl 10 (by decide) (List.mem_cons_of_mem _ zw9_7) rfl dX12_lineAt_19 ?_
  refine lv_bipush (v := 33) hx hb dX12_lineAt_22 (by decide) ?_
  obtain ⟨q, hf⟩ := zck_use hf
  refine z_iald hC hI 3 2 (wM_e3 ad cy σ) (tM_t3 cy) q dX12_lineAt_24 ?_
  refine lv_iconst (v := 5) hx hb dX12_lineAt_25 (by decide) ?_
  refine lv_iconst (v := 2) hx hb dX12_lineAt_26 (by decide) ?_
  refine lv_iload_n hx hb dX12_lineAt_27 rfl (lv_at hl 1 rfl) ?_
  refine lv_imul hx hb dX12_lineAt_28 ?_
  refine lv_iadd hx hb dX12_lineAt_29 ?_
  refine lv_ishr hx hb dX12_lineAt_30 ?_
  refine lv_iconst (v := 1) hx hb dX12_lineAt_31 (by decide) ?_
  refine lv_iand hx hb dX12_lineAt_32 ?_
  refine lv_goto (tgt := 45) hx hb dX12_lineAt_33 (by decide) ?_
  exact bX12_lineAt_45 hC  hI (lv_sub hl [] rfl) hf
set_option maxRecDepth 20000 in
theorem cX12_lineAt_met (st : Nat → Nat) (l : Launch) (D : va_G) (ad : Nat → Nat) (cy : Nat → ClassId) (σ : zSt) (x1 : Int32) (res : zSt × Int32) (hf : fX12_lineAt σ x1 = some res) (sz : Nat) : zMi st l yX12_lineAt wzX12_lineAt rmX12_lineAt [.ref (ad 0), .int x1] D (tM cy) (wM ad cy) sz σ res :=
  zMi.of (cc := cX12_lineAt) (maxL := 2) (ret := (some .int)) (by decide) rfl (Nat.le_of_ble_eq_true rfl) (fun p e s m args below meth c hC A hI ls hl => bX12_lineAt hC hI hl hf)
theorem hdX12_lineAt : yX12_lineAt.cls = RX12 ∧ yX12_lineAt.cls ≠ "java/lang/invoke/MethodHandle" ∧ yX12_lineAt.cls ≠ "java/lang/invoke/VarHandle" ∧ (parseMethodDescriptor yX12_lineAt.desc).map (fun d => d.parameters.length) = some 1 := by decide +kernel
def rmX12_without : Room := { frames := 0, cells := 0, slots := 0, locals := 0 }
def wzX12_without : List Cond := .code yX12_without cX12_without 4 (some .int) :: wsL_law
def fX12_without_20  (σ : zSt) (s0 : Int32) : Option (zSt × Int32) :=
  some (σ, s0)
def fX12_without  (σ : zSt) (x1 : Int32) (x2 : Int32) (x3 : Int32) : Option (zSt × Int32) :=
  if x3 = 1 then fX12_without_20 σ (x1 ||| (1 <<< (x2 &&& 31))) else
  fX12_without_20 σ (x1 &&& ((1 <<< (x2 &&& 31)) ^^^ (-1)))
set_option maxRecDepth 20000 in
set_option maxHeartbeats 4000000 in
theorem bX12_without_20 {st : Nat → Nat} {p : Program} {l : Launch} {e : Env} {s : State} {m : MethodId} {args : Array Value} {below : List Frame} {meth : Method} {c : Code} {D : va_G} {A : Nat → Prop} {ad : Nat → Nat} {cy : Nat → ClassId} (hC : zC p m c cX12_without 4 s args wzX12_without RX12 meth (some .int))  {res : zSt × Int32} {H : Heap} {locs : List Loc} {σ : zSt} {ls : Array Slot} {s0 : Int32} (hI : zI st D (tM cy) (wM ad cy σ) A s H locs) (hl : lv_has ls 4 []) (hf : fX12_without_20  σ s0 = some res) : W p l e rmX12_without s m args below meth c H locs 0 0 (zQi below args s D (tM cy) (wM ad cy) A res) (F0 m 20 ls [.int s0]) := by
  have hx := hC.1
  have hb := hC.2.1
  unfold fX12_without_20 at hf
  exact z_ireturn hC hI hf dX12_without_20
set_option maxRecDepth 20000 in
set_option maxHeartbeats 4000000 in
theorem bX12_without {st : Nat → Nat} {p : Program} {l : Launch} {e : Env} {s : State} {m : MethodId} {args : Array Value} {below : List Frame} {meth : Method} {c : Code} {D : va_G} {A : Nat → Prop} {ad : Nat → Nat} {cy : Nat → ClassId} (hC : zC p m c cX12_without 4 s args wzX12_without RX12 meth (some .int))  {res : zSt × Int32} {H : Heap} {locs : List Loc} {σ : zSt} {ls : Array Slot} {x1 : Int32} {x2 : Int32} {x3 : Int32} (hI : zI st D (tM cy) (wM ad cy σ) A s H locs) (hl : lv_has ls 4 [(0, .ref (ad 0)), (1, .int x1), (2, .int x2), (3, .int x3)]) (hf : fX12_without  σ x1 x2 x3 = some res) : W p l e rmX12_without s m args below meth c H locs 0 0 (zQi below args s D (tM cy) (wM ad cy) A res) (F0 m 0 ls []) := by
  have hx := hC.1
  have hb := hC.2.1
  unfold fX12_without at hf
  refine lv_iload_n hx hb dX12_without_0 rfl (lv_at hl 3 rfl) ?_
  refine lv_iconst (v := 1) hx hb dX12_without_1 (by decide) ?_
  refine lv_icmp_ne (tgt := 13) hx hb dX12_without_2 (by decide) (fun q => ?_) (fun q => ?_)
  · replace hf := zif_f q hf
    refine lv_iload_n hx hb dX12_without_13 rfl (lv_at hl 1 rfl) ?_
    refine lv_iconst (v := 1) hx hb dX12_without_14 (by decide) ?_
    refine lv_iload_n hx hb dX12_without_15 rfl (lv_at hl 2 rfl) ?_
    refine lv_ishl hx hb dX12_without_16 ?_
    refine lv_iconst (v := (-1)) hx hb dX12_without_17 (by decide) ?_
    refine lv_ixor hx hb dX12_without_18 ?_
    refine lv_iand hx hb dX12_without_19 ?_
    exact bX12_without_20 hC  hI (lv_sub hl [] rfl) hf
  replace hf := zif_t q hf
  refine lv_iload_n hx hb dX12_without_5 rfl (lv_at hl 1 rfl) ?_
  refine lv_iconst (v := 1) hx hb dX12_without_6 (by decide) ?_
  refine lv_iload_n hx hb dX12_without_7 rfl (lv_at hl 2 rfl) ?_
  refine lv_ishl hx hb dX12_without_8 ?_
  refine lv_ior hx hb dX12_without_9 ?_
  refine lv_goto (tgt := 20) hx hb dX12_without_10 (by decide) ?_
  exact bX12_without_20 hC  hI (lv_sub hl [] rfl) hf
set_option maxRecDepth 20000 in
theorem cX12_without_met (st : Nat → Nat) (l : Launch) (D : va_G) (ad : Nat → Nat) (cy : Nat → ClassId) (σ : zSt) (x1 : Int32) (x2 : Int32) (x3 : Int32) (res : zSt × Int32) (hf : fX12_without σ x1 x2 x3 = some res) (sz : Nat) : zMi st l yX12_without wzX12_without rmX12_without [.ref (ad 0), .int x1, .int x2, .int x3] D (tM cy) (wM ad cy) sz σ res :=
  zMi.of (cc := cX12_without) (maxL := 4) (ret := (some .int)) (by decide) rfl (Nat.le_of_ble_eq_true rfl) (fun p e s m args below meth c hC A hI ls hl => bX12_without hC hI hl hf)
theorem hdX12_without : yX12_without.cls = RX12 ∧ yX12_without.cls ≠ "java/lang/invoke/MethodHandle" ∧ yX12_without.cls ≠ "java/lang/invoke/VarHandle" ∧ (parseMethodDescriptor yX12_without.desc).map (fun d => d.parameters.length) = some 3 := by decide +kernel
def rmX12_port : Room := { frames := 4, cells := 0, slots := 0, locals := 85 }
def wzX12_port : List Cond := .code yX12_port cX12_port 4 (some .int) :: wsL_law
theorem hinX12_port_X120 : ∀ w ∈ wsX120, w ∈ wzX12_port := fun w h => List.mem_cons_of_mem _ (inlX12 w h)
def fX12_port_32  (σ : zSt)  : Option (zSt × Int32) :=
  some (σ, 255)
def fX12_port_73  (σ : zSt) (s0 : Int32) : Option (zSt × Int32) :=
  some (σ, s0)
def fX12_port_60  (σ : zSt) (s0 : Int32) (s1 : Int32) : Option (zSt × Int32) :=
  fX12_port_73 σ (s1 ||| s0)
def fX12_port_99  (σ : zSt) (s0 : Int32) : Option (zSt × Int32) :=
  some (σ, s0)
def fX12_port_122  (σ : zSt) (s0 : Int32) : Option (zSt × Int32) :=
  some (σ, s0)
def fX12_port_230  (σ : zSt) (s0 : Int32) : Option (zSt × Int32) :=
  some (σ, s0)
def fX12_port_289  (σ : zSt) (s0 : Int32) : Option (zSt × Int32) :=
  some (σ, s0)
def fX12_port_147  (σ : zSt) (x2 : Int32) : Option (zSt × Int32) :=
  if x2 = 0 then zck (zin 42 1048) (
  zck (zin 43 1048) (
  zbv (255 &&& (((zgi σ 3 (42 : Int32).toNatClampNeg) ||| ((zgi σ 3 (43 : Int32).toNatClampNeg) <<< ((6 : Int32) &&& 31))) ^^^ (-1))) (fun v1 =>
  zck (zin 33 1048) (
  if ((zgi σ 3 (33 : Int32).toNatClampNeg) &&& 1) = 0 then zck (zin 33 1048) (
  zbi (fX12_without σ v1 5 (((zgi σ 3 (33 : Int32).toNatClampNeg) >>> ((4 : Int32) &&& 31)) &&& 1)) (fun σ2 v3 =>
  fX12_port_289 σ2 v3)) else
  fX12_port_289 σ v1)))) else
  zck (zin 43 1048) (
  zbv ((255 &&& (((zgi σ 3 (43 : Int32).toNatClampNeg) >>> ((2 : Int32) &&& 31)) ^^^ (-1))) ||| 48) (fun v4 =>
  zbi (fX12_lineAt σ 0) (fun σ5 v6 =>
  zbi (fX12_without σ5 v4 6 v6) (fun σ7 v8 =>
  zbi (fX12_lineAt σ7 1) (fun σ9 v10 =>
  zbi (fX12_without σ9 v8 7 v10) (fun σ11 v12 =>
  zck (zin 33 1048) (
  if ((zgi σ11 3 (33 : Int32).toNatClampNeg) &&& 4) = 0 then zck (zin 33 1048) (
  zbi (fX12_without σ11 v12 3 (((zgi σ11 3 (33 : Int32).toNatClampNeg) >>> ((6 : Int32) &&& 31)) &&& 1)) (fun σ13 v14 =>
  fX12_port_230 σ13 v14)) else
  fX12_port_230 σ11 v12)))))))
def fX12_port_12  (σ : zSt) (x1 : Int32) (s0 : Int32) : Option (zSt × Int32) :=
  if 64 ≤ x1 then if 128 ≤ x1 then if 192 ≤ x1 then if x1 = 242 then if (zgi σ 0 3) = 2 then fX12_port_147 σ s0 else
  zck (zin 163 1048) (
  some (σ, zgi σ 3 (163 : Int32).toNatClampNeg)) else
  fX12_port_147 σ s0 else
  if s0 = 0 then zbi (fX12_data σ ) (fun σ15 v16 =>
  fX12_port_122 σ15 v16) else
  zbi (fX12_status σ ) (fun σ17 v18 =>
  fX12_port_122 σ17 v18) else
  if s0 = 0 then zbi (fX12_vCount σ ) (fun σ19 v20 =>
  fX12_port_99 σ19 v20) else
  zck (zin 35 1048) (
  fX12_port_99 σ (zgi σ 3 (35 : Int32).toNatClampNeg)) else
  if (zgi σ 0 3) = 2 then if x1 ≤ 5 then if x1 = 0 then zck (zin 44 1048) (
  if (zgi σ 3 (44 : Int32).toNatClampNeg) = 1 then fX12_port_60 σ 0 64 else
  fX12_port_60 σ 128 64) else
  zck (zin (36 + x1) 1048) (
  fX12_port_73 σ (zgi σ 3 (36 + x1).toNatClampNeg)) else
  fX12_port_32 σ else
  fX12_port_32 σ
def fX12_port  (σ : zSt) (x1 : Int32) : Option (zSt × Int32) :=
  zck (decide (¬ 2 = 0)) (
  if (zrem x1 2) = 1 then fX12_port_12 σ x1 1 else
  fX12_port_12 σ x1 0)
set_option maxRecDepth 20000 in
set_option maxHeartbeats 4000000 in
theorem bX12_port_32 {st : Nat → Nat} {p : Program} {l : Launch} {e : Env} {s : State} {m : MethodId} {args : Array Value} {below : List Frame} {meth : Method} {c : Code} {D : va_G} {A : Nat → Prop} {ad : Nat → Nat} {cy : Nat → ClassId} (hC : zC p m c cX12_port 4 s args wzX12_port RX12 meth (some .int))  {res : zSt × Int32} {H : Heap} {locs : List Loc} {σ : zSt} {ls : Array Slot}  (hI : zI st D (tM cy) (wM ad cy σ) A s H locs) (hl : lv_has ls 4 []) (hf : fX12_port_32  σ  = some res) : W p l e rmX12_port s m args below meth c H locs 0 0 (zQi below args s D (tM cy) (wM ad cy) A res) (F0 m 32 ls []) := by
  have hx := hC.1
  have hb := hC.2.1
  unfold fX12_port_32 at hf
  refine lv_sipush (v := 255) hx hb dX12_port_32 (by decide) ?_
  exact z_ireturn hC hI hf dX12_port_35
set_option maxRecDepth 20000 in
set_option maxHeartbeats 4000000 in
theorem bX12_port_73 {st : Nat → Nat} {p : Program} {l : Launch} {e : Env} {s : State} {m : MethodId} {args : Array Value} {below : List Frame} {meth : Method} {c : Code} {D : va_G} {A : Nat → Prop} {ad : Nat → Nat} {cy : Nat → ClassId} (hC : zC p m c cX12_port 4 s args wzX12_port RX12 meth (some .int))  {res : zSt × Int32} {H : Heap} {locs : List Loc} {σ : zSt} {ls : Array Slot} {s0 : Int32} (hI : zI st D (tM cy) (wM ad cy σ) A s H locs) (hl : lv_has ls 4 []) (hf : fX12_port_73  σ s0 = some res) : W p l e rmX12_port s m args below meth c H locs 0 0 (zQi below args s D (tM cy) (wM ad cy) A res) (F0 m 73 ls [.int s0]) := by
  have hx := hC.1
  have hb := hC.2.1
  unfold fX12_port_73 at hf
  exact z_ireturn hC hI hf dX12_port_73
set_option maxRecDepth 20000 in
set_option maxHeartbeats 4000000 in
theorem bX12_port_60 {st : Nat → Nat} {p : Program} {l : Launch} {e : Env} {s : State} {m : MethodId} {args : Array Value} {below : List Frame} {meth : Method} {c : Code} {D : va_G} {A : Nat → Prop} {ad : Nat → Nat} {cy : Nat → ClassId} (hC : zC p m c cX12_port 4 s args wzX12_port RX12 meth (some .int))  {res : zSt × Int32} {H : Heap} {locs : List Loc} {σ : zSt} {ls : Array Slot} {s0 : Int32} {s1 : Int32} (hI : zI st D (tM cy) (wM ad cy σ) A s H locs) (hl : lv_has ls 4 []) (hf : fX12_port_60  σ s0 s1 = some res) : W p l e rmX12_port s m args below meth c H locs 0 0 (zQi below args s D (tM cy) (wM ad cy) A res) (F0 m 60 ls [.int s0, .int s1]) := by
  have hx := hC.1
  have hb := hC.2.1
  unfold fX12_port_60 at hf
  refine lv_ior hx hb dX12_port_60 ?_
  refine lv_goto (tgt := 73) hx hb dX12_port_61 (by decide) ?_
  exact bX12_port_73 hC  hI hl hf
set_option maxRecDepth 20000 in
set_option maxHeartbeats 4000000 in
theorem bX12_port_99 {st : Nat → Nat} {p : Program} {l : Launch} {e : Env} {s : State} {m : MethodId} {args : Array Value} {below : List Frame} {meth : Method} {c : Code} {D : va_G} {A : Nat → Prop} {ad : Nat → Nat} {cy : Nat → ClassId} (hC : zC p m c cX12_port 4 s args wzX12_port RX12 meth (some .int))  {res : zSt × Int32} {H : Heap} {locs : List Loc} {σ : zSt} {ls : Array Slot} {s0 : Int32} (hI : zI st D (tM cy) (wM ad cy σ) A s H locs) (hl : lv_has ls 4 []) (hf : fX12_port_99  σ s0 = some res) : W p l e rmX12_port s m args below meth c H locs 0 0 (zQi below args s D (tM cy) (wM ad cy) A res) (F0 m 99 ls [.int s0]) := by
  have hx := hC.1
  have hb := hC.2.1
  unfold fX12_port_99 at hf
  exact z_ireturn hC hI hf dX12_port_99
set_option maxRecDepth 20000 in
set_option maxHeartbeats 4000000 in
theorem bX12_port_122 {st : Nat → Nat} {p : Program} {l : Launch} {e : Env} {s : State} {m : MethodId} {args : Array Value} {below : List Frame} {meth : Method} {c : Code} {D : va_G} {A : Nat → Prop} {ad : Nat → Nat} {cy : Nat → ClassId} (hC : zC p m c cX12_port 4 s args wzX12_port RX12 meth (some .int))  {res : zSt × Int32} {H : Heap} {locs : List Loc} {σ : zSt} {ls : Array Slot} {s0 : Int32} (hI : zI st D (tM cy) (wM ad cy σ) A s H locs) (hl : lv_has ls 4 []) (hf : fX12_port_122  σ s0 = some res) : W p l e rmX12_port s m args below meth c H locs 0 0 (zQi below args s D (tM cy) (wM ad cy) A res) (F0 m 122 ls [.int s0]) := by
  have hx := hC.1
  have hb := hC.2.1
  unfold fX12_port_122 at hf
  exact z_ireturn hC hI hf dX12_port_122
set_option maxRecDepth 20000 in
set_option maxHeartbeats 4000000 in
theorem bX12_port_230 {st : Nat → Nat} {p : Program} {l : Launch} {e : Env} {s : State} {m : MethodId} {args : Array Value} {below : List Frame} {meth : Method} {c : Code} {D : va_G} {A : Nat → Prop} {ad : Nat → Nat} {cy : Nat → ClassId} (hC : zC p m c cX12_port 4 s args wzX12_port RX12 meth (some .int))  {res : zSt × Int32} {H : Heap} {locs : List Loc} {σ : zSt} {ls : Array Slot} {s0 : Int32} (hI : zI st D (tM cy) (wM ad cy σ) A s H locs) (hl : lv_has ls 4 []) (hf : fX12_port_230  σ s0 = some res) : W p l e rmX12_port s m args below meth c H locs 0 0 (zQi below args s D (tM cy) (wM ad cy) A res) (F0 m 230 ls [.int s0]) := by
  have hx := hC.1
  have hb := hC.2.1
  unfold fX12_port_230 at hf
  exact z_ireturn hC hI hf dX12_port_230
set_option maxRecDepth 20000 in
set_option maxHeartbeats 4000000 in
theorem bX12_port_289 {st : Nat → Nat} {p : Program} {l : Launch} {e : Env} {s : State} {m : MethodId} {args : Array Value} {below : List Frame} {meth : Method} {c : Code} {D : va_G} {A : Nat → Prop} {ad : Nat → Nat} {cy : Nat → ClassId} (hC : zC p m c cX12_port 4 s args wzX12_port RX12 meth (some .int))  {res : zSt × Int32} {H : Heap} {locs : List Loc} {σ : zSt} {ls : Array Slot} {s0 : Int32} (hI : zI st D (tM cy) (wM ad cy σ) A s H locs) (hl : lv_has ls 4 []) (hf : fX12_port_289  σ s0 = some res) : W p l e rmX12_port s m args below meth c H locs 0 0 (zQi below args s D (tM cy) (wM ad cy) A res) (F0 m 289 ls [.int s0]) := by
  have hx := hC.1
  have hb := hC.2.1
  unfold fX12_port_289 at hf
  exact z_ireturn hC hI hf dX12_port_289
set_option maxRecDepth 20000 in
set_option maxHeartbeats 4000000 in
theorem bX12_port_147 {st : Nat → Nat} {p : Program} {l : Launch} {e : Env} {s : State} {m : MethodId} {args : Array Value} {below : List Frame} {meth : Method} {c : Code} {D : va_G} {A : Nat → Prop} {ad : Nat → Nat} {cy : Nat → ClassId} (hC : zC p m c cX12_port 4 s args wzX12_port RX12 meth (some .int))  {res : zSt × Int32} {H : Heap} {locs : List Loc} {σ : zSt} {ls : Array Slot} {x2 : Int32} (hI : zI st D (tM cy) (wM ad cy σ) A s H locs) (hl : lv_has ls 4 [(0, .ref (ad 0)), (2, .int x2)]) (hf : fX12_port_147  σ x2 = some res) : W p l e rmX12_port s m args below meth c H locs 0 0 (zQi below args s D (tM cy) (wM ad cy) A res) (F0 m 147 ls []) := by
  have hx := hC.1
  have hb := hC.2.1
  unfold fX12_port_147 at hf
  refine lv_iload_n hx hb dX12_port_147 rfl (lv_at hl 1 rfl) ?_
  refine lv_if_eq (tgt := 231) hx hb dX12_port_148 (by decide) (fun q => ?_) (fun q => ?_)
  · replace hf := zif_t q hf
    refine lv_sipush (v := 255) hx hb dX12_port_231 (by decide) ?_
    refine lv_aload_n hx hb dX12_port_234 rfl (lv_at hl 0 rfl) ?_
    refine z_get hC hI hinX12_port_X120 0 (wM_e0 ad cy σ) rfl 10 (by decide) (List.mem_cons_of_mem _ zw9_7) rfl dX12_port_235 ?_
    refine lv_bipush (v := 42) hx hb dX12_port_238 (by decide) ?_
    obtain ⟨q, hf⟩ := zck_use hf
    refine z_iald hC hI 3 2 (wM_e3 ad cy σ) (tM_t3 cy) q dX12_port_240 ?_
    refine lv_aload_n hx hb dX12_port_241 rfl (lv_at hl 0 rfl) ?_
    refine z_get hC hI hinX12_port_X120 0 (wM_e0 ad cy σ) rfl 10 (by decide) (List.mem_cons_of_mem _ zw9_7) rfl dX12_port_242 ?_
    refine lv_bipush (v := 43) hx hb dX12_port_245 (by decide) ?_
    obtain ⟨q, hf⟩ := zck_use hf
    refine z_iald hC hI 3 2 (wM_e3 ad cy σ) (tM_t3 cy) q dX12_port_247 ?_
    refine lv_bipush (v := 6) hx hb dX12_port_248 (by decide) ?_
    refine lv_ishl hx hb dX12_port_250 ?_
    refine lv_ior hx hb dX12_port_251 ?_
    refine lv_iconst (v := (-1)) hx hb dX12_port_252 (by decide) ?_
    refine lv_ixor hx hb dX12_port_253 ?_
    refine lv_iand hx hb dX12_port_254 ?_
    refine lv_topi (fun v1 ev1 => ?_)
    replace hf := zbv_use ev1 hf
    refine lv_istore_n (lv' := [(3, .int v1), (0, .ref (ad 0)), (2, .int x2)]) hx hb dX12_port_255 rfl hl (by decide) rfl (fun ls hl => ?_)
    refine lv_aload_n hx hb dX12_port_256 rfl (lv_at hl 1 rfl) ?_
    refine z_get hC hI hinX12_port_X120 0 (wM_e0 ad cy σ) rfl 10 (by decide) (List.mem_cons_of_mem _ zw9_7) rfl dX12_port_257 ?_
    refine lv_bipush (v := 33) hx hb dX12_port_260 (by decide) ?_
    obtain ⟨q, hf⟩ := zck_use hf
    refine z_iald hC hI 3 2 (wM_e3 ad cy σ) (tM_t3 cy) q dX12_port_262 ?_
    refine lv_iconst (v := 1) hx hb dX12_port_263 (by decide) ?_
    refine lv_iand hx hb dX12_port_264 ?_
    refine lv_if_ne (tgt := 288) hx hb dX12_port_265 (by decide) (fun q => ?_) (fun q => ?_)
    · replace hf := zif_f q hf
      refine lv_iload_n hx hb dX12_port_288 rfl (lv_at hl 0 rfl) ?_
      exact bX12_port_289 hC  hI (lv_sub hl [] rfl) hf
    replace hf := zif_t q hf
    refine lv_aload_n hx hb dX12_port_268 rfl (lv_at hl 1 rfl) ?_
    refine lv_iload_n hx hb dX12_port_269 rfl (lv_at hl 0 rfl) ?_
    refine lv_iconst (v := 5) hx hb dX12_port_270 (by decide) ?_
    refine lv_aload_n hx hb dX12_port_271 rfl (lv_at hl 1 rfl) ?_
    refine z_get hC hI hinX12_port_X120 0 (wM_e0 ad cy σ) rfl 10 (by decide) (List.mem_cons_of_mem _ zw9_7) rfl dX12_port_272 ?_
    refine lv_bipush (v := 33) hx hb dX12_port_275 (by decide) ?_
    obtain ⟨q, hf⟩ := zck_use hf
    refine z_iald hC hI 3 2 (wM_e3 ad cy σ) (tM_t3 cy) q dX12_port_277 ?_
    refine lv_iconst (v := 4) hx hb dX12_port_278 (by decide) ?_
    refine lv_ishr hx hb dX12_port_279 ?_
    refine lv_iconst (v := 1) hx hb dX12_port_280 (by decide) ?_
    refine lv_iand hx hb dX12_port_281 ?_
    obtain ⟨σ2, v3, g2, hf⟩ := zbi_use hf
    refine z_callVi (As := [.int v1, .int 5, .int (((zgi σ 3 (33 : Int32).toNatClampNeg) >>> ((4 : Int32) &&& 31)) &&& 1)]) (rest := []) hC hI (cX12_without_met st l D ad cy σ v1 5 (((zgi σ 3 (33 : Int32).toNatClampNeg) >>> ((4 : Int32) &&& 31)) &&& 1) _ g2) (zgV zw57_18 zw57_19 zw57_20 zw1_5 zw57_21) rfl ⟨rfl, rfl⟩ 3 hdX12_without ⟨Nat.le_of_ble_eq_true rfl, Nat.le_of_ble_eq_true rfl⟩ rfl rfl (wM_e0 ad cy σ) rfl hl rfl (Nat.le_of_ble_eq_true rfl) dX12_port_282 ⟨Nat.zero_le _, Nat.zero_le _⟩ (fun H locs hI => ?_)
    refine lv_goto (tgt := 289) hx hb dX12_port_285 (by decide) ?_
    exact bX12_port_289 hC  hI (lv_sub hl [] rfl) hf
  replace hf := zif_f q hf
  refine lv_sipush (v := 255) hx hb dX12_port_151 (by decide) ?_
  refine lv_aload_n hx hb dX12_port_154 rfl (lv_at hl 0 rfl) ?_
  refine z_get hC hI hinX12_port_X120 0 (wM_e0 ad cy σ) rfl 10 (by decide) (List.mem_cons_of_mem _ zw9_7) rfl dX12_port_155 ?_
  refine lv_bipush (v := 43) hx hb dX12_port_158 (by decide) ?_
  obtain ⟨q, hf⟩ := zck_use hf
  refine z_iald hC hI 3 2 (wM_e3 ad cy σ) (tM_t3 cy) q dX12_port_160 ?_
  refine lv_iconst (v := 2) hx hb dX12_port_161 (by decide) ?_
  refine lv_ishr hx hb dX12_port_162 ?_
  refine lv_iconst (v := (-1)) hx hb dX12_port_163 (by decide) ?_
  refine lv_ixor hx hb dX12_port_164 ?_
  refine lv_iand hx hb dX12_port_165 ?_
  refine lv_bipush (v := 48) hx hb dX12_port_166 (by decide) ?_
  refine lv_ior hx hb dX12_port_168 ?_
  refine lv_topi (fun v4 ev4 => ?_)
  replace hf := zbv_use ev4 hf
  refine lv_istore_n (lv' := [(3, .int v4), (0, .ref (ad 0)), (2, .int x2)]) hx hb dX12_port_169 rfl hl (by decide) rfl (fun ls hl => ?_)
  refine lv_aload_n hx hb dX12_port_170 rfl (lv_at hl 1 rfl) ?_
  refine lv_iload_n hx hb dX12_port_171 rfl (lv_at hl 0 rfl) ?_
  refine lv_bipush (v := 6) hx hb dX12_port_172 (by decide) ?_
  refine lv_aload_n hx hb dX12_port_174 rfl (lv_at hl 1 rfl) ?_
  refine lv_iconst (v := 0) hx hb dX12_port_175 (by decide) ?_
  obtain ⟨σ5, v6, g5, hf⟩ := zbi_use hf
  refine z_callVi (As := [.int 0]) (rest := [.int 6, .int v4, .ref (ad 0)]) hC hI (cX12_lineAt_met st l D ad cy σ 0 _ g5) (zgV zw55_14 zw55_15 zw55_16 zw1_5 zw55_17) rfl ⟨rfl, rfl⟩ 1 hdX12_lineAt ⟨Nat.le_of_ble_eq_true rfl, Nat.le_of_ble_eq_true rfl⟩ rfl rfl (wM_e0 ad cy σ) rfl hl rfl (Nat.le_of_ble_eq_true rfl) dX12_port_176 ⟨Nat.zero_le _, Nat.zero_le _⟩ (fun H locs hI => ?_)
  obtain ⟨σ7, v8, g7, hf⟩ := zbi_use hf
  refine z_callVi (As := [.int v4, .int 6, .int v6]) (rest := []) hC hI (cX12_without_met st l D ad cy σ5 v4 6 v6 _ g7) (zgV zw57_18 zw57_19 zw57_20 zw1_5 zw57_21) rfl ⟨rfl, rfl⟩ 3 hdX12_without ⟨Nat.le_of_ble_eq_true rfl, Nat.le_of_ble_eq_true rfl⟩ rfl rfl (wM_e0 ad cy σ5) rfl hl rfl (Nat.le_of_ble_eq_true rfl) dX12_port_179 ⟨Nat.zero_le _, Nat.zero_le _⟩ (fun H locs hI => ?_)
  refine lv_istore_n (lv' := [(3, .int v8), (0, .ref (ad 0)), (2, .int x2)]) hx hb dX12_port_182 rfl hl (by decide) rfl (fun ls hl => ?_)
  refine lv_aload_n hx hb dX12_port_183 rfl (lv_at hl 1 rfl) ?_
  refine lv_iload_n hx hb dX12_port_184 rfl (lv_at hl 0 rfl) ?_
  refine lv_bipush (v := 7) hx hb dX12_port_185 (by decide) ?_
  refine lv_aload_n hx hb dX12_port_187 rfl (lv_at hl 1 rfl) ?_
  refine lv_iconst (v := 1) hx hb dX12_port_188 (by decide) ?_
  obtain ⟨σ9, v10, g9, hf⟩ := zbi_use hf
  refine z_callVi (As := [.int 1]) (rest := [.int 7, .int v8, .ref (ad 0)]) hC hI (cX12_lineAt_met st l D ad cy σ7 1 _ g9) (zgV zw55_14 zw55_15 zw55_16 zw1_5 zw55_17) rfl ⟨rfl, rfl⟩ 1 hdX12_lineAt ⟨Nat.le_of_ble_eq_true rfl, Nat.le_of_ble_eq_true rfl⟩ rfl rfl (wM_e0 ad cy σ7) rfl hl rfl (Nat.le_of_ble_eq_true rfl) dX12_port_189 ⟨Nat.zero_le _, Nat.zero_le _⟩ (fun H locs hI => ?_)
  obtain ⟨σ11, v12, g11, hf⟩ := zbi_use hf
  refine z_callVi (As := [.int v8, .int 7, .int v10]) (rest := []) hC hI (cX12_without_met st l D ad cy σ9 v8 7 v10 _ g11) (zgV zw57_18 zw57_19 zw57_20 zw1_5 zw57_21) rfl ⟨rfl, rfl⟩ 3 hdX12_without ⟨Nat.le_of_ble_eq_true rfl, Nat.le_of_ble_eq_true rfl⟩ rfl rfl (wM_e0 ad cy σ9) rfl hl rfl (Nat.le_of_ble_eq_true rfl) dX12_port_192 ⟨Nat.zero_le _, Nat.zero_le _⟩ (fun H locs hI => ?_)
  refine lv_istore_n (lv' := [(3, .int v12), (0, .ref (ad 0)), (2, .int x2)]) hx hb dX12_port_195 rfl hl (by decide) rfl (fun ls hl => ?_)
  refine lv_aload_n hx hb dX12_port_196 rfl (lv_at hl 1 rfl) ?_
  refine z_get hC hI hinX12_port_X120 0 (wM_e0 ad cy σ11) rfl 10 (by decide) (List.mem_cons_of_mem _ zw9_7) rfl dX12_port_197 ?_
  refine lv_bipush (v := 33) hx hb dX12_port_200 (by decide) ?_
  obtain ⟨q, hf⟩ := zck_use hf
  refine z_iald hC hI 3 2 (wM_e3 ad cy σ11) (tM_t3 cy) q dX12_port_202 ?_
  refine lv_iconst (v := 4) hx hb dX12_port_203 (by decide) ?_
  refine lv_iand hx hb dX12_port_204 ?_
  refine lv_if_ne (tgt := 229) hx hb dX12_port_205 (by decide) (fun q => ?_) (fun q => ?_)
  · replace hf := zif_f q hf
    refine lv_iload_n hx hb dX12_port_229 rfl (lv_at hl 0 rfl) ?_
    exact bX12_port_230 hC  hI (lv_sub hl [] rfl) hf
  replace hf := zif_t q hf
  refine lv_aload_n hx hb dX12_port_208 rfl (lv_at hl 1 rfl) ?_
  refine lv_iload_n hx hb dX12_port_209 rfl (lv_at hl 0 rfl) ?_
  refine lv_iconst (v := 3) hx hb dX12_port_210 (by decide) ?_
  refine lv_aload_n hx hb dX12_port_211 rfl (lv_at hl 1 rfl) ?_
  refine z_get hC hI hinX12_port_X120 0 (wM_e0 ad cy σ11) rfl 10 (by decide) (List.mem_cons_of_mem _ zw9_7) rfl dX12_port_212 ?_
  refine lv_bipush (v := 33) hx hb dX12_port_215 (by decide) ?_
  obtain ⟨q, hf⟩ := zck_use hf
  refine z_iald hC hI 3 2 (wM_e3 ad cy σ11) (tM_t3 cy) q dX12_port_217 ?_
  refine lv_bipush (v := 6) hx hb dX12_port_218 (by decide) ?_
  refine lv_ishr hx hb dX12_port_220 ?_
  refine lv_iconst (v := 1) hx hb dX12_port_221 (by decide) ?_
  refine lv_iand hx hb dX12_port_222 ?_
  obtain ⟨σ13, v14, g13, hf⟩ := zbi_use hf
  refine z_callVi (As := [.int v12, .int 3, .int (((zgi σ11 3 (33 : Int32).toNatClampNeg) >>> ((6 : Int32) &&& 31)) &&& 1)]) (rest := []) hC hI (cX12_without_met st l D ad cy σ11 v12 3 (((zgi σ11 3 (33 : Int32).toNatClampNeg) >>> ((6 : Int32) &&& 31)) &&& 1) _ g13) (zgV zw57_18 zw57_19 zw57_20 zw1_5 zw57_21) rfl ⟨rfl, rfl⟩ 3 hdX12_without ⟨Nat.le_of_ble_eq_true rfl, Nat.le_of_ble_eq_true rfl⟩ rfl rfl (wM_e0 ad cy σ11) rfl hl rfl (Nat.le_of_ble_eq_true rfl) dX12_port_223 ⟨Nat.zero_le _, Nat.zero_le _⟩ (fun H locs hI => ?_)
  refine lv_goto (tgt := 230) hx hb dX12_port_226 (by decide) ?_
  exact bX12_port_230 hC  hI (lv_sub hl [] rfl) hf
set_option maxRecDepth 20000 in
set_option maxHeartbeats 4000000 in
theorem bX12_port_12 {st : Nat → Nat} {p : Program} {l : Launch} {e : Env} {s : State} {m : MethodId} {args : Array Value} {below : List Frame} {meth : Method} {c : Code} {D : va_G} {A : Nat → Prop} {ad : Nat → Nat} {cy : Nat → ClassId} (hC : zC p m c cX12_port 4 s args wzX12_port RX12 meth (some .int))  {res : zSt × Int32} {H : Heap} {locs : List Loc} {σ : zSt} {ls : Array Slot} {x1 : Int32} {s0 : Int32} (hI : zI st D (tM cy) (wM ad cy σ) A s H locs) (hl : lv_has ls 4 [(0, .ref (ad 0)), (1, .int x1)]) (hf : fX12_port_12  σ x1 s0 = some res) : W p l e rmX12_port s m args below meth c H locs 0 0 (zQi below args s D (tM cy) (wM ad cy) A res) (F0 m 12 ls [.int s0]) := by
  have hx := hC.1
  have hb := hC.2.1
  unfold fX12_port_12 at hf
  refine lv_istore_n (lv' := [(2, .int s0), (0, .ref (ad 0)), (1, .int x1)]) hx hb dX12_port_12 rfl hl (by decide) rfl (fun ls hl => ?_)
  refine lv_iload_n hx hb dX12_port_13 rfl (lv_at hl 2 rfl) ?_
  refine lv_bipush (v := 64) hx hb dX12_port_14 (by decide) ?_
  refine lv_icmp_ge (tgt := 74) hx hb dX12_port_16 (by decide) (fun q => ?_) (fun q => ?_)
  · replace hf := zif_t q hf
    refine lv_iload_n hx hb dX12_port_74 rfl (lv_at hl 2 rfl) ?_
    refine lv_sipush (v := 128) hx hb dX12_port_75 (by decide) ?_
    refine lv_icmp_ge (tgt := 100) hx hb dX12_port_78 (by decide) (fun q => ?_) (fun q => ?_)
    · replace hf := zif_t q hf
      refine lv_iload_n hx hb dX12_port_100 rfl (lv_at hl 2 rfl) ?_
      refine lv_sipush (v := 192) hx hb dX12_port_101 (by decide) ?_
      refine lv_icmp_ge (tgt := 123) hx hb dX12_port_104 (by decide) (fun q => ?_) (fun q => ?_)
      · replace hf := zif_t q hf
        refine lv_iload_n hx hb dX12_port_123 rfl (lv_at hl 2 rfl) ?_
        refine lv_sipush (v := 242) hx hb dX12_port_124 (by decide) ?_
        refine lv_icmp_ne (tgt := 147) hx hb dX12_port_127 (by decide) (fun q => ?_) (fun q => ?_)
        · replace hf := zif_f q hf
          exact bX12_port_147 hC  hI (lv_sub hl [1, 0] rfl) hf
        replace hf := zif_t q hf
        refine lv_aload_n hx hb dX12_port_130 rfl (lv_at hl 1 rfl) ?_
        refine z_get hC hI hinX12_port_X120 0 (wM_e0 ad cy σ) rfl 3 (by decide) (List.mem_cons_of_mem _ zw10_10) rfl dX12_port_131 ?_
        refine lv_iconst (v := 2) hx hb dX12_port_134 (by decide) ?_
        refine lv_icmp_eq (tgt := 147) hx hb dX12_port_135 (by decide) (fun q => ?_) (fun q => ?_)
        · replace hf := zif_t q hf
          exact bX12_port_147 hC  hI (lv_sub hl [1, 0] rfl) hf
        replace hf := zif_f q hf
        refine lv_aload_n hx hb dX12_port_138 rfl (lv_at hl 1 rfl) ?_
        refine z_get hC hI hinX12_port_X120 0 (wM_e0 ad cy σ) rfl 10 (by decide) (List.mem_cons_of_mem _ zw9_7) rfl dX12_port_139 ?_
        refine lv_sipush (v := 163) hx hb dX12_port_142 (by decide) ?_
        obtain ⟨q, hf⟩ := zck_use hf
        refine z_iald hC hI 3 2 (wM_e3 ad cy σ) (tM_t3 cy) q dX12_port_145 ?_
        exact z_ireturn hC hI hf dX12_port_146
      replace hf := zif_f q hf
      refine lv_iload_n hx hb dX12_port_107 rfl (lv_at hl 0 rfl) ?_
      refine lv_if_eq (tgt := 118) hx hb dX12_port_108 (by decide) (fun q => ?_) (fun q => ?_)
      · replace hf := zif_t q hf
        refine lv_aload_n hx hb dX12_port_118 rfl (lv_at hl 1 rfl) ?_
        obtain ⟨σ15, v16, g15, hf⟩ := zbi_use hf
        refine z_callVi (As := []) (rest := []) hC hI (cX12_data_met st l D ad cy σ  _ g15) (zgV zw57_14 zw57_15 zw57_16 zw1_5 zw57_17) rfl ⟨rfl, rfl⟩ 0 hdX12_data ⟨Nat.le_of_ble_eq_true rfl, Nat.le_of_ble_eq_true rfl⟩ rfl rfl (wM_e0 ad cy σ) rfl hl rfl (Nat.le_of_ble_eq_true rfl) dX12_port_119 ⟨Nat.zero_le _, Nat.zero_le _⟩ (fun H locs hI => ?_)
        exact bX12_port_122 hC  hI (lv_sub hl [] rfl) hf
      replace hf := zif_f q hf
      refine lv_aload_n hx hb dX12_port_111 rfl (lv_at hl 1 rfl) ?_
      obtain ⟨σ17, v18, g17, hf⟩ := zbi_use hf
      refine z_callVi (As := []) (rest := []) hC hI (cX12_status_met st l D ad cy σ  _ g17) (zgV zw57_10 zw57_11 zw57_12 zw1_5 zw57_13) rfl ⟨rfl, rfl⟩ 0 hdX12_status ⟨Nat.le_of_ble_eq_true rfl, Nat.le_of_ble_eq_true rfl⟩ rfl rfl (wM_e0 ad cy σ) rfl hl rfl (Nat.le_of_ble_eq_true rfl) dX12_port_112 ⟨Nat.zero_le _, Nat.zero_le _⟩ (fun H locs hI => ?_)
      refine lv_goto (tgt := 122) hx hb dX12_port_115 (by decide) ?_
      exact bX12_port_122 hC  hI (lv_sub hl [] rfl) hf
    replace hf := zif_f q hf
    refine lv_iload_n hx hb dX12_port_81 rfl (lv_at hl 0 rfl) ?_
    refine lv_if_eq (tgt := 95) hx hb dX12_port_82 (by decide) (fun q => ?_) (fun q => ?_)
    · replace hf := zif_t q hf
      refine lv_aload_n hx hb dX12_port_95 rfl (lv_at hl 1 rfl) ?_
      obtain ⟨σ19, v20, g19, hf⟩ := zbi_use hf
      refine z_callVi (As := []) (rest := []) hC hI (cX12_vCount_met st l D ad cy σ  _ g19) (zgV zw56_22 zw56_23 zw57_0 zw1_5 zw57_1) rfl ⟨rfl, rfl⟩ 0 hdX12_vCount ⟨Nat.le_of_ble_eq_true rfl, Nat.le_of_ble_eq_true rfl⟩ rfl rfl (wM_e0 ad cy σ) rfl hl rfl (Nat.le_of_ble_eq_true rfl) dX12_port_96 ⟨Nat.zero_le _, Nat.zero_le _⟩ (fun H locs hI => ?_)
      exact bX12_port_99 hC  hI (lv_sub hl [] rfl) hf
    replace hf := zif_f q hf
    refine lv_aload_n hx hb dX12_port_85 rfl (lv_at hl 1 rfl) ?_
    refine z_get hC hI hinX12_port_X120 0 (wM_e0 ad cy σ) rfl 10 (by decide) (List.mem_cons_of_mem _ zw9_7) rfl dX12_port_86 ?_
    refine lv_bipush (v := 35) hx hb dX12_port_89 (by decide) ?_
    obtain ⟨q, hf⟩ := zck_use hf
    refine z_iald hC hI 3 2 (wM_e3 ad cy σ) (tM_t3 cy) q dX12_port_91 ?_
    refine lv_goto (tgt := 99) hx hb dX12_port_92 (by decide) ?_
    exact bX12_port_99 hC  hI (lv_sub hl [] rfl) hf
  replace hf := zif_f q hf
  refine lv_aload_n hx hb dX12_port_19 rfl (lv_at hl 1 rfl) ?_
  refine z_get hC hI hinX12_port_X120 0 (wM_e0 ad cy σ) rfl 3 (by decide) (List.mem_cons_of_mem _ zw10_10) rfl dX12_port_20 ?_
  refine lv_iconst (v := 2) hx hb dX12_port_23 (by decide) ?_
  refine lv_icmp_ne (tgt := 32) hx hb dX12_port_24 (by decide) (fun q => ?_) (fun q => ?_)
  · replace hf := zif_f q hf
    exact bX12_port_32 hC  hI (lv_sub hl [] rfl) hf
  replace hf := zif_t q hf
  refine lv_iload_n hx hb dX12_port_27 rfl (lv_at hl 2 rfl) ?_
  refine lv_iconst (v := 5) hx hb dX12_port_28 (by decide) ?_
  refine lv_icmp_le (tgt := 36) hx hb dX12_port_29 (by decide) (fun q => ?_) (fun q => ?_)
  · replace hf := zif_t q hf
    refine lv_iload_n hx hb dX12_port_36 rfl (lv_at hl 2 rfl) ?_
    refine lv_if_ne (tgt := 64) hx hb dX12_port_37 (by decide) (fun q => ?_) (fun q => ?_)
    · replace hf := zif_f q hf
      refine lv_aload_n hx hb dX12_port_64 rfl (lv_at hl 1 rfl) ?_
      refine z_get hC hI hinX12_port_X120 0 (wM_e0 ad cy σ) rfl 10 (by decide) (List.mem_cons_of_mem _ zw9_7) rfl dX12_port_65 ?_
      refine lv_bipush (v := 36) hx hb dX12_port_68 (by decide) ?_
      refine lv_iload_n hx hb dX12_port_70 rfl (lv_at hl 2 rfl) ?_
      refine lv_iadd hx hb dX12_port_71 ?_
      obtain ⟨q, hf⟩ := zck_use hf
      refine z_iald hC hI 3 2 (wM_e3 ad cy σ) (tM_t3 cy) q dX12_port_72 ?_
      exact bX12_port_73 hC  hI (lv_sub hl [] rfl) hf
    replace hf := zif_t q hf
    refine lv_bipush (v := 64) hx hb dX12_port_40 (by decide) ?_
    refine lv_aload_n hx hb dX12_port_42 rfl (lv_at hl 1 rfl) ?_
    refine z_get hC hI hinX12_port_X120 0 (wM_e0 ad cy σ) rfl 10 (by decide) (List.mem_cons_of_mem _ zw9_7) rfl dX12_port_43 ?_
    refine lv_bipush (v := 44) hx hb dX12_port_46 (by decide) ?_
    obtain ⟨q, hf⟩ := zck_use hf
    refine z_iald hC hI 3 2 (wM_e3 ad cy σ) (tM_t3 cy) q dX12_port_48 ?_
    refine lv_iconst (v := 1) hx hb dX12_port_49 (by decide) ?_
    refine lv_icmp_ne (tgt := 57) hx hb dX12_port_50 (by decide) (fun q => ?_) (fun q => ?_)
    · replace hf := zif_f q hf
      refine lv_sipush (v := 128) hx hb dX12_port_57 (by decide) ?_
      exact bX12_port_60 hC  hI (lv_sub hl [] rfl) hf
    replace hf := zif_t q hf
    refine lv_iconst (v := 0) hx hb dX12_port_53 (by decide) ?_
    refine lv_goto (tgt := 60) hx hb dX12_port_54 (by decide) ?_
    exact bX12_port_60 hC  hI (lv_sub hl [] rfl) hf
  replace hf := zif_f q hf
  exact bX12_port_32 hC  hI (lv_sub hl [] rfl) hf
set_option maxRecDepth 20000 in
set_option maxHeartbeats 4000000 in
theorem bX12_port {st : Nat → Nat} {p : Program} {l : Launch} {e : Env} {s : State} {m : MethodId} {args : Array Value} {below : List Frame} {meth : Method} {c : Code} {D : va_G} {A : Nat → Prop} {ad : Nat → Nat} {cy : Nat → ClassId} (hC : zC p m c cX12_port 4 s args wzX12_port RX12 meth (some .int))  {res : zSt × Int32} {H : Heap} {locs : List Loc} {σ : zSt} {ls : Array Slot} {x1 : Int32} (hI : zI st D (tM cy) (wM ad cy σ) A s H locs) (hl : lv_has ls 4 [(0, .ref (ad 0)), (1, .int x1)]) (hf : fX12_port  σ x1 = some res) : W p l e rmX12_port s m args below meth c H locs 0 0 (zQi below args s D (tM cy) (wM ad cy) A res) (F0 m 0 ls []) := by
  have hx := hC.1
  have hb := hC.2.1
  unfold fX12_port at hf
  refine lv_iload_n hx hb dX12_port_0 rfl (lv_at hl 1 rfl) ?_
  refine lv_iconst (v := 2) hx hb dX12_port_1 (by decide) ?_
  obtain ⟨q, hf⟩ := zck_use hf
  refine z_irem hx hb dX12_port_2 (of_decide_eq_true q) ?_
  refine lv_iconst (v := 1) hx hb dX12_port_3 (by decide) ?_
  refine lv_icmp_ne (tgt := 11) hx hb dX12_port_4 (by decide) (fun q => ?_) (fun q => ?_)
  · replace hf := zif_f q hf
    refine lv_iconst (v := 0) hx hb dX12_port_11 (by decide) ?_
    exact bX12_port_12 hC  hI hl hf
  replace hf := zif_t q hf
  refine lv_iconst (v := 1) hx hb dX12_port_7 (by decide) ?_
  refine lv_goto (tgt := 12) hx hb dX12_port_8 (by decide) ?_
  exact bX12_port_12 hC  hI hl hf
set_option maxRecDepth 20000 in
theorem cX12_port_met (st : Nat → Nat) (l : Launch) (D : va_G) (ad : Nat → Nat) (cy : Nat → ClassId) (σ : zSt) (x1 : Int32) (res : zSt × Int32) (hf : fX12_port σ x1 = some res) (sz : Nat) : zMi st l yX12_port wzX12_port rmX12_port [.ref (ad 0), .int x1] D (tM cy) (wM ad cy) sz σ res :=
  zMi.of (cc := cX12_port) (maxL := 4) (ret := (some .int)) (by decide) rfl (Nat.le_of_ble_eq_true rfl) (fun p e s m args below meth c hC A hI ls hl => bX12_port hC hI hl hf)
theorem hdX12_port : yX12_port.cls = RX12 ∧ yX12_port.cls ≠ "java/lang/invoke/MethodHandle" ∧ yX12_port.cls ≠ "java/lang/invoke/VarHandle" ∧ (parseMethodDescriptor yX12_port.desc).map (fun d => d.parameters.length) = some 1 := by decide +kernel
def rmX12_hCount : Room := { frames := 0, cells := 0, slots := 0, locals := 0 }
def wzX12_hCount : List Cond := .code yX12_hCount cX12_hCount 2 (some .int) :: wsL_law
theorem hinX12_hCount_X120 : ∀ w ∈ wsX120, w ∈ wzX12_hCount := fun w h => List.mem_cons_of_mem _ (inlX12 w h)
def fX12_hCount_27  (σ : zSt) (s0 : Int32) : Option (zSt × Int32) :=
  some (σ, s0)
def fX12_hCount  (σ : zSt)  : Option (zSt × Int32) :=
  zck (zin 67 1048) (
  zck (decide (¬ 4 = 0)) (
  zbv (((zgi σ 3 (67 : Int32).toNatClampNeg) * 3) / 4) (fun v1 =>
  if 148 ≤ v1 then fX12_hCount_27 σ (v1 + 85) else
  fX12_hCount_27 σ v1)))
set_option maxRecDepth 20000 in
set_option maxHeartbeats 4000000 in
theorem bX12_hCount_27 {st : Nat → Nat} {p : Program} {l : Launch} {e : Env} {s : State} {m : MethodId} {args : Array Value} {below : List Frame} {meth : Method} {c : Code} {D : va_G} {A : Nat → Prop} {ad : Nat → Nat} {cy : Nat → ClassId} (hC : zC p m c cX12_hCount 2 s args wzX12_hCount RX12 meth (some .int))  {res : zSt × Int32} {H : Heap} {locs : List Loc} {σ : zSt} {ls : Array Slot} {s0 : Int32} (hI : zI st D (tM cy) (wM ad cy σ) A s H locs) (hl : lv_has ls 2 []) (hf : fX12_hCount_27  σ s0 = some res) : W p l e rmX12_hCount s m args below meth c H locs 0 0 (zQi below args s D (tM cy) (wM ad cy) A res) (F0 m 27 ls [.int s0]) := by
  have hx := hC.1
  have hb := hC.2.1
  unfold fX12_hCount_27 at hf
  exact z_ireturn hC hI hf dX12_hCount_27
set_option maxRecDepth 20000 in
set_option maxHeartbeats 4000000 in
theorem bX12_hCount {st : Nat → Nat} {p : Program} {l : Launch} {e : Env} {s : State} {m : MethodId} {args : Array Value} {below : List Frame} {meth : Method} {c : Code} {D : va_G} {A : Nat → Prop} {ad : Nat → Nat} {cy : Nat → ClassId} (hC : zC p m c cX12_hCount 2 s args wzX12_hCount RX12 meth (some .int))  {res : zSt × Int32} {H : Heap} {locs : List Loc} {σ : zSt} {ls : Array Slot}  (hI : zI st D (tM cy) (wM ad cy σ) A s H locs) (hl : lv_has ls 2 [(0, .ref (ad 0))]) (hf : fX12_hCount  σ  = some res) : W p l e rmX12_hCount s m args below meth c H locs 0 0 (zQi below args s D (tM cy) (wM ad cy) A res) (F0 m 0 ls []) := by
  have hx := hC.1
  have hb := hC.2.1
  unfold fX12_hCount at hf
  refine lv_aload_n hx hb dX12_hCount_0 rfl (lv_at hl 0 rfl) ?_
  refine z_get hC hI hinX12_hCount_X120 0 (wM_e0 ad cy σ) rfl 10 (by decide) (List.mem_cons_of_mem _ zw9_7) rfl dX12_hCount_1 ?_
  refine lv_bipush (v := 67) hx hb dX12_hCount_4 (by decide) ?_
  obtain ⟨q, hf⟩ := zck_use hf
  refine z_iald hC hI 3 2 (wM_e3 ad cy σ) (tM_t3 cy) q dX12_hCount_6 ?_
  refine lv_iconst (v := 3) hx hb dX12_hCount_7 (by decide) ?_
  refine lv_imul hx hb dX12_hCount_8 ?_
  refine lv_iconst (v := 4) hx hb dX12_hCount_9 (by decide) ?_
  obtain ⟨q, hf⟩ := zck_use hf
  refine lv_idiv hx hb dX12_hCount_10 (of_decide_eq_true q) ?_
  refine lv_topi (fun v1 ev1 => ?_)
  replace hf := zbv_use ev1 hf
  refine lv_istore_n (lv' := [(1, .int v1), (0, .ref (ad 0))]) hx hb dX12_hCount_11 rfl hl (by decide) rfl (fun ls hl => ?_)
  refine lv_iload_n hx hb dX12_hCount_12 rfl (lv_at hl 0 rfl) ?_
  refine lv_sipush (v := 148) hx hb dX12_hCount_13 (by decide) ?_
  refine lv_icmp_ge (tgt := 23) hx hb dX12_hCount_16 (by decide) (fun q => ?_) (fun q => ?_)
  · replace hf := zif_t q hf
    refine lv_iload_n hx hb dX12_hCount_23 rfl (lv_at hl 0 rfl) ?_
    refine lv_bipush (v := 85) hx hb dX12_hCount_24 (by decide) ?_
    refine lv_iadd hx hb dX12_hCount_26 ?_
    exact bX12_hCount_27 hC  hI (lv_sub hl [] rfl) hf
  replace hf := zif_f q hf
  refine lv_iload_n hx hb dX12_hCount_19 rfl (lv_at hl 0 rfl) ?_
  refine lv_goto (tgt := 27) hx hb dX12_hCount_20 (by decide) ?_
  exact bX12_hCount_27 hC  hI (lv_sub hl [] rfl) hf
set_option maxRecDepth 20000 in
theorem cX12_hCount_met (st : Nat → Nat) (l : Launch) (D : va_G) (ad : Nat → Nat) (cy : Nat → ClassId) (σ : zSt)  (res : zSt × Int32) (hf : fX12_hCount σ  = some res) (sz : Nat) : zMi st l yX12_hCount wzX12_hCount rmX12_hCount [.ref (ad 0)] D (tM cy) (wM ad cy) sz σ res :=
  zMi.of (cc := cX12_hCount) (maxL := 2) (ret := (some .int)) (by decide) rfl (Nat.le_of_ble_eq_true rfl) (fun p e s m args below meth c hC A hI ls hl => bX12_hCount hC hI hl hf)
theorem hdX12_hCount : yX12_hCount.cls = RX12 ∧ yX12_hCount.cls ≠ "java/lang/invoke/MethodHandle" ∧ yX12_hCount.cls ≠ "java/lang/invoke/VarHandle" ∧ (parseMethodDescriptor yX12_hCount.desc).map (fun d => d.parameters.length) = some 0 := by decide +kernel
def rmX12_noise : Room := { frames := 0, cells := 0, slots := 0, locals := 0 }
def wzX12_noise : List Cond := .code yX12_noise cX12_noise 3 none :: wsL_law
theorem hinX12_noise_X120 : ∀ w ∈ wsX120, w ∈ wzX12_noise := fun w h => List.mem_cons_of_mem _ (inlX12 w h)
def fX12_noise_141  (σ : zSt)  : Option (zSt) :=
  some σ
def fX12_noise_140  (σ : zSt) (s0 : Int32) (s1 : Int32) : Option (zSt) :=
  zck (zin s1 1048) (zbv (zsi σ 3 (s1.toNatClampNeg) s0) (fun σ1 =>
  fX12_noise_141 σ1))
def fX12_noise_19  (σ : zSt) (x1 : Int32) : Option (zSt) :=
  zck (zin 86 1048) (
  zck (decide (¬ 2 = 0)) (
  zbv ((zgi σ 3 (86 : Int32).toNatClampNeg) / 2) (fun v2 =>
  zck (zin 86 1048) (
  zck (decide (¬ 2 = 0)) (
  if (zrem (zgi σ 3 (86 : Int32).toNatClampNeg) 2) = 1 then zck (zin (78 + v2) 1048) (zbv (zsi σ 3 ((78 + v2).toNatClampNeg) (x1 &&& 15)) (fun σ5 =>
  fX12_noise_141 σ5)) else
  if v2 = 3 then zck (zin 82 1048) (zbv (zsi σ 3 ((82 : Int32).toNatClampNeg) (x1 &&& 7)) (fun σ3 =>
  zck (zin 85 1048) (zbv (zsi σ3 3 ((85 : Int32).toNatClampNeg) 32768) (fun σ4 =>
  fX12_noise_141 σ4)))) else
  if x1 ≤ 127 then zck (zin (69 + v2) 1048) (
  fX12_noise_140 σ (((zgi σ 3 (69 + v2).toNatClampNeg) &&& 15) ||| ((x1 &&& 63) <<< ((4 : Int32) &&& 31))) (69 + v2)) else
  zck (zin (69 + v2) 1048) (
  fX12_noise_140 σ (((zgi σ 3 (69 + v2).toNatClampNeg) &&& 1008) ||| (x1 &&& 15)) (69 + v2)))))))
def fX12_noise  (σ : zSt) (x1 : Int32) : Option (zSt) :=
  if x1 ≤ 127 then fX12_noise_19 σ x1 else
  zck (zin 86 1048) (zbv (zsi σ 3 ((86 : Int32).toNatClampNeg) ((x1 >>> ((4 : Int32) &&& 31)) &&& 7)) (fun σ6 =>
  fX12_noise_19 σ6 x1))
set_option maxRecDepth 20000 in
set_option maxHeartbeats 4000000 in
theorem bX12_noise_141 {st : Nat → Nat} {p : Program} {l : Launch} {e : Env} {s : State} {m : MethodId} {args : Array Value} {below : List Frame} {meth : Method} {c : Code} {D : va_G} {A : Nat → Prop} {ad : Nat → Nat} {cy : Nat → ClassId} (hC : zC p m c cX12_noise 3 s args wzX12_noise RX12 meth none)  {res : zSt} {H : Heap} {locs : List Loc} {σ : zSt} {ls : Array Slot}  (hI : zI st D (tM cy) (wM ad cy σ) A s H locs) (hl : lv_has ls 3 []) (hf : fX12_noise_141  σ  = some res) : W p l e rmX12_noise s m args below meth c H locs 0 0 (zQu below args s D (tM cy) (wM ad cy) A res) (F0 m 141 ls []) := by
  have hx := hC.1
  have hb := hC.2.1
  unfold fX12_noise_141 at hf
  exact z_return hC hI hf dX12_noise_141
set_option maxRecDepth 20000 in
set_option maxHeartbeats 4000000 in
theorem bX12_noise_140 {st : Nat → Nat} {p : Program} {l : Launch} {e : Env} {s : State} {m : MethodId} {args : Array Value} {below : List Frame} {meth : Method} {c : Code} {D : va_G} {A : Nat → Prop} {ad : Nat → Nat} {cy : Nat → ClassId} (hC : zC p m c cX12_noise 3 s args wzX12_noise RX12 meth none)  {res : zSt} {H : Heap} {locs : List Loc} {σ : zSt} {ls : Array Slot} {s0 : Int32} {s1 : Int32} (hI : zI st D (tM cy) (wM ad cy σ) A s H locs) (hl : lv_has ls 3 []) (hf : fX12_noise_140  σ s0 s1 = some res) : W p l e rmX12_noise s m args below meth c H locs 0 0 (zQu below args s D (tM cy) (wM ad cy) A res) (F0 m 140 ls [.int s0, .int s1, .ref (ad 3)]) := by
  have hx := hC.1
  have hb := hC.2.1
  unfold fX12_noise_140 at hf
  obtain ⟨q, hf⟩ := zck_use hf
  obtain ⟨σ1, eσ1⟩ : ∃ z, z = zsi σ 3 (s1.toNatClampNeg) s0 := ⟨_, rfl⟩
  replace hf := zbv_use eσ1 hf
  refine z_iast hC hI 3 2 (wM_e3 ad cy σ) (tM_t3 cy) q ((wM_s3 ad cy σ _ _).trans (congrArg (wM ad cy) eσ1.symm)) dX12_noise_140 (fun H locs hI => ?_)
  exact bX12_noise_141 hC  hI hl hf
set_option maxRecDepth 20000 in
set_option maxHeartbeats 4000000 in
theorem bX12_noise_19 {st : Nat → Nat} {p : Program} {l : Launch} {e : Env} {s : State} {m : MethodId} {args : Array Value} {below : List Frame} {meth : Method} {c : Code} {D : va_G} {A : Nat → Prop} {ad : Nat → Nat} {cy : Nat → ClassId} (hC : zC p m c cX12_noise 3 s args wzX12_noise RX12 meth none)  {res : zSt} {H : Heap} {locs : List Loc} {σ : zSt} {ls : Array Slot} {x1 : Int32} (hI : zI st D (tM cy) (wM ad cy σ) A s H locs) (hl : lv_has ls 3 [(0, .ref (ad 0)), (1, .int x1)]) (hf : fX12_noise_19  σ x1 = some res) : W p l e rmX12_noise s m args below meth c H locs 0 0 (zQu below args s D (tM cy) (wM ad cy) A res) (F0 m 19 ls []) := by
  have hx := hC.1
  have hb := hC.2.1
  unfold fX12_noise_19 at hf
  refine lv_aload_n hx hb dX12_noise_19 rfl (lv_at hl 0 rfl) ?_
  refine z_get hC hI hinX12_noise_X120 0 (wM_e0 ad cy σ) rfl 10 (by decide) (List.mem_cons_of_mem _ zw9_7) rfl dX12_noise_20 ?_
  refine lv_bipush (v := 86) hx hb dX12_noise_23 (by decide) ?_
  obtain ⟨q, hf⟩ := zck_use hf
  refine z_iald hC hI 3 2 (wM_e3 ad cy σ) (tM_t3 cy) q dX12_noise_25 ?_
  refine lv_iconst (v := 2) hx hb dX12_noise_26 (by decide) ?_
  obtain ⟨q, hf⟩ := zck_use hf
  refine lv_idiv hx hb dX12_noise_27 (of_decide_eq_true q) ?_
  refine lv_topi (fun v2 ev2 => ?_)
  replace hf := zbv_use ev2 hf
  refine lv_istore_n (lv' := [(2, .int v2), (0, .ref (ad 0)), (1, .int x1)]) hx hb dX12_noise_28 rfl hl (by decide) rfl (fun ls hl => ?_)
  refine lv_aload_n hx hb dX12_noise_29 rfl (lv_at hl 1 rfl) ?_
  refine z_get hC hI hinX12_noise_X120 0 (wM_e0 ad cy σ) rfl 10 (by decide) (List.mem_cons_of_mem _ zw9_7) rfl dX12_noise_30 ?_
  refine lv_bipush (v := 86) hx hb dX12_noise_33 (by decide) ?_
  obtain ⟨q, hf⟩ := zck_use hf
  refine z_iald hC hI 3 2 (wM_e3 ad cy σ) (tM_t3 cy) q dX12_noise_35 ?_
  refine lv_iconst (v := 2) hx hb dX12_noise_36 (by decide) ?_
  obtain ⟨q, hf⟩ := zck_use hf
  refine z_irem hx hb dX12_noise_37 (of_decide_eq_true q) ?_
  refine lv_iconst (v := 1) hx hb dX12_noise_38 (by decide) ?_
  refine lv_icmp_ne (tgt := 58) hx hb dX12_noise_39 (by decide) (fun q => ?_) (fun q => ?_)
  · replace hf := zif_f q hf
    refine lv_iload_n hx hb dX12_noise_58 rfl (lv_at hl 0 rfl) ?_
    refine lv_iconst (v := 3) hx hb dX12_noise_59 (by decide) ?_
    refine lv_icmp_ne (tgt := 86) hx hb dX12_noise_60 (by decide) (fun q => ?_) (fun q => ?_)
    · replace hf := zif_f q hf
      refine lv_aload_n hx hb dX12_noise_86 rfl (lv_at hl 1 rfl) ?_
      refine z_get hC hI hinX12_noise_X120 0 (wM_e0 ad cy σ) rfl 10 (by decide) (List.mem_cons_of_mem _ zw9_7) rfl dX12_noise_87 ?_
      refine lv_bipush (v := 69) hx hb dX12_noise_90 (by decide) ?_
      refine lv_iload_n hx hb dX12_noise_92 rfl (lv_at hl 0 rfl) ?_
      refine lv_iadd hx hb dX12_noise_93 ?_
      refine lv_iload_n hx hb dX12_noise_94 rfl (lv_at hl 2 rfl) ?_
      refine lv_bipush (v := 127) hx hb dX12_noise_95 (by decide) ?_
      refine lv_icmp_le (tgt := 121) hx hb dX12_noise_97 (by decide) (fun q => ?_) (fun q => ?_)
      · replace hf := zif_t q hf
        refine lv_aload_n hx hb dX12_noise_121 rfl (lv_at hl 1 rfl) ?_
        refine z_get hC hI hinX12_noise_X120 0 (wM_e0 ad cy σ) rfl 10 (by decide) (List.mem_cons_of_mem _ zw9_7) rfl dX12_noise_122 ?_
        refine lv_bipush (v := 69) hx hb dX12_noise_125 (by decide) ?_
        refine lv_iload_n hx hb dX12_noise_127 rfl (lv_at hl 0 rfl) ?_
        refine lv_iadd hx hb dX12_noise_128 ?_
        obtain ⟨q, hf⟩ := zck_use hf
        refine z_iald hC hI 3 2 (wM_e3 ad cy σ) (tM_t3 cy) q dX12_noise_129 ?_
        refine lv_bipush (v := 15) hx hb dX12_noise_130 (by decide) ?_
        refine lv_iand hx hb dX12_noise_132 ?_
        refine lv_iload_n hx hb dX12_noise_133 rfl (lv_at hl 2 rfl) ?_
        refine lv_bipush (v := 63) hx hb dX12_noise_134 (by decide) ?_
        refine lv_iand hx hb dX12_noise_136 ?_
        refine lv_iconst (v := 4) hx hb dX12_noise_137 (by decide) ?_
        refine lv_ishl hx hb dX12_noise_138 ?_
        refine lv_ior hx hb dX12_noise_139 ?_
        exact bX12_noise_140 hC  hI (lv_sub hl [] rfl) hf
      replace hf := zif_f q hf
      refine lv_aload_n hx hb dX12_noise_100 rfl (lv_at hl 1 rfl) ?_
      refine z_get hC hI hinX12_noise_X120 0 (wM_e0 ad cy σ) rfl 10 (by decide) (List.mem_cons_of_mem _ zw9_7) rfl dX12_noise_101 ?_
      refine lv_bipush (v := 69) hx hb dX12_noise_104 (by decide) ?_
      refine lv_iload_n hx hb dX12_noise_106 rfl (lv_at hl 0 rfl) ?_
      refine lv_iadd hx hb dX12_noise_107 ?_
      obtain ⟨q, hf⟩ := zck_use hf
      refine z_iald hC hI 3 2 (wM_e3 ad cy σ) (tM_t3 cy) q dX12_noise_108 ?_
      refine lv_sipush (v := 1008) hx hb dX12_noise_109 (by decide) ?_
      refine lv_iand hx hb dX12_noise_112 ?_
      refine lv_iload_n hx hb dX12_noise_113 rfl (lv_at hl 2 rfl) ?_
      refine lv_bipush (v := 15) hx hb dX12_noise_114 (by decide) ?_
      refine lv_iand hx hb dX12_noise_116 ?_
      refine lv_ior hx hb dX12_noise_117 ?_
      refine lv_goto (tgt := 140) hx hb dX12_noise_118 (by decide) ?_
      exact bX12_noise_140 hC  hI (lv_sub hl [] rfl) hf
    replace hf := zif_t q hf
    refine lv_aload_n hx hb dX12_noise_63 rfl (lv_at hl 1 rfl) ?_
    refine z_get hC hI hinX12_noise_X120 0 (wM_e0 ad cy σ) rfl 10 (by decide) (List.mem_cons_of_mem _ zw9_7) rfl dX12_noise_64 ?_
    refine lv_bipush (v := 82) hx hb dX12_noise_67 (by decide) ?_
    refine lv_iload_n hx hb dX12_noise_69 rfl (lv_at hl 2 rfl) ?_
    refine lv_bipush (v := 7) hx hb dX12_noise_70 (by decide) ?_
    refine lv_iand hx hb dX12_noise_72 ?_
    obtain ⟨q, hf⟩ := zck_use hf
    obtain ⟨σ3, eσ3⟩ : ∃ z, z = zsi σ 3 ((82 : Int32).toNatClampNeg) (x1 &&& 7) := ⟨_, rfl⟩
    replace hf := zbv_use eσ3 hf
    refine z_iast hC hI 3 2 (wM_e3 ad cy σ) (tM_t3 cy) q ((wM_s3 ad cy σ _ _).trans (congrArg (wM ad cy) eσ3.symm)) dX12_noise_73 (fun H locs hI => ?_)
    refine lv_aload_n hx hb dX12_noise_74 rfl (lv_at hl 1 rfl) ?_
    refine z_get hC hI hinX12_noise_X120 0 (wM_e0 ad cy σ3) rfl 10 (by decide) (List.mem_cons_of_mem _ zw9_7) rfl dX12_noise_75 ?_
    refine lv_bipush (v := 85) hx hb dX12_noise_78 (by decide) ?_
    refine lv_ldc (v := 32768) hx hb hC.2.2.2.1 (hC.2.2.2.2.1 _ (List.mem_cons_of_mem _ zw9_10)) dX12_noise_80 ?_
    obtain ⟨q, hf⟩ := zck_use hf
    obtain ⟨σ4, eσ4⟩ : ∃ z, z = zsi σ3 3 ((85 : Int32).toNatClampNeg) 32768 := ⟨_, rfl⟩
    replace hf := zbv_use eσ4 hf
    refine z_iast hC hI 3 2 (wM_e3 ad cy σ3) (tM_t3 cy) q ((wM_s3 ad cy σ3 _ _).trans (congrArg (wM ad cy) eσ4.symm)) dX12_noise_82 (fun H locs hI => ?_)
    refine lv_goto (tgt := 141) hx hb dX12_noise_83 (by decide) ?_
    exact bX12_noise_141 hC  hI (lv_sub hl [] rfl) hf
  replace hf := zif_t q hf
  refine lv_aload_n hx hb dX12_noise_42 rfl (lv_at hl 1 rfl) ?_
  refine z_get hC hI hinX12_noise_X120 0 (wM_e0 ad cy σ) rfl 10 (by decide) (List.mem_cons_of_mem _ zw9_7) rfl dX12_noise_43 ?_
  refine lv_bipush (v := 78) hx hb dX12_noise_46 (by decide) ?_
  refine lv_iload_n hx hb dX12_noise_48 rfl (lv_at hl 0 rfl) ?_
  refine lv_iadd hx hb dX12_noise_49 ?_
  refine lv_iload_n hx hb dX12_noise_50 rfl (lv_at hl 2 rfl) ?_
  refine lv_bipush (v := 15) hx hb dX12_noise_51 (by decide) ?_
  refine lv_iand hx hb dX12_noise_53 ?_
  obtain ⟨q, hf⟩ := zck_use hf
  obtain ⟨σ5, eσ5⟩ : ∃ z, z = zsi σ 3 ((78 + v2).toNatClampNeg) (x1 &&& 15) := ⟨_, rfl⟩
  replace hf := zbv_use eσ5 hf
  refine z_iast hC hI 3 2 (wM_e3 ad cy σ) (tM_t3 cy) q ((wM_s3 ad cy σ _ _).trans (congrArg (wM ad cy) eσ5.symm)) dX12_noise_54 (fun H locs hI => ?_)
  refine lv_goto (tgt := 141) hx hb dX12_noise_55 (by decide) ?_
  exact bX12_noise_141 hC  hI (lv_sub hl [] rfl) hf
set_option maxRecDepth 20000 in
set_option maxHeartbeats 4000000 in
theorem bX12_noise {st : Nat → Nat} {p : Program} {l : Launch} {e : Env} {s : State} {m : MethodId} {args : Array Value} {below : List Frame} {meth : Method} {c : Code} {D : va_G} {A : Nat → Prop} {ad : Nat → Nat} {cy : Nat → ClassId} (hC : zC p m c cX12_noise 3 s args wzX12_noise RX12 meth none)  {res : zSt} {H : Heap} {locs : List Loc} {σ : zSt} {ls : Array Slot} {x1 : Int32} (hI : zI st D (tM cy) (wM ad cy σ) A s H locs) (hl : lv_has ls 3 [(0, .ref (ad 0)), (1, .int x1)]) (hf : fX12_noise  σ x1 = some res) : W p l e rmX12_noise s m args below meth c H locs 0 0 (zQu below args s D (tM cy) (wM ad cy) A res) (F0 m 0 ls []) := by
  have hx := hC.1
  have hb := hC.2.1
  unfold fX12_noise at hf
  refine lv_iload_n hx hb dX12_noise_0 rfl (lv_at hl 1 rfl) ?_
  refine lv_bipush (v := 127) hx hb dX12_noise_1 (by decide) ?_
  refine lv_icmp_le (tgt := 19) hx hb dX12_noise_3 (by decide) (fun q => ?_) (fun q => ?_)
  · replace hf := zif_t q hf
    exact bX12_noise_19 hC  hI hl hf
  replace hf := zif_f q hf
  refine lv_aload_n hx hb dX12_noise_6 rfl (lv_at hl 0 rfl) ?_
  refine z_get hC hI hinX12_noise_X120 0 (wM_e0 ad cy σ) rfl 10 (by decide) (List.mem_cons_of_mem _ zw9_7) rfl dX12_noise_7 ?_
  refine lv_bipush (v := 86) hx hb dX12_noise_10 (by decide) ?_
  refine lv_iload_n hx hb dX12_noise_12 rfl (lv_at hl 1 rfl) ?_
  refine lv_iconst (v := 4) hx hb dX12_noise_13 (by decide) ?_
  refine lv_ishr hx hb dX12_noise_14 ?_
  refine lv_bipush (v := 7) hx hb dX12_noise_15 (by decide) ?_
  refine lv_iand hx hb dX12_noise_17 ?_
  obtain ⟨q, hf⟩ := zck_use hf
  obtain ⟨σ6, eσ6⟩ : ∃ z, z = zsi σ 3 ((86 : Int32).toNatClampNeg) ((x1 >>> ((4 : Int32) &&& 31)) &&& 7) := ⟨_, rfl⟩
  replace hf := zbv_use eσ6 hf
  refine z_iast hC hI 3 2 (wM_e3 ad cy σ) (tM_t3 cy) q ((wM_s3 ad cy σ _ _).trans (congrArg (wM ad cy) eσ6.symm)) dX12_noise_18 (fun H locs hI => ?_)
  exact bX12_noise_19 hC  hI hl hf
set_option maxRecDepth 20000 in
theorem cX12_noise_met (st : Nat → Nat) (l : Launch) (D : va_G) (ad : Nat → Nat) (cy : Nat → ClassId) (σ : zSt) (x1 : Int32) (res : zSt) (hf : fX12_noise σ x1 = some res) (sz : Nat) : zMu st l yX12_noise wzX12_noise rmX12_noise [.ref (ad 0), .int x1] D (tM cy) (wM ad cy) sz σ res :=
  zMu.of (cc := cX12_noise) (maxL := 3) (ret := none) (by decide) rfl (Nat.le_of_ble_eq_true rfl) (fun p e s m args below meth c hC A hI ls hl => bX12_noise hC hI hl hf)
theorem hdX12_noise : yX12_noise.cls = RX12 ∧ yX12_noise.cls ≠ "java/lang/invoke/MethodHandle" ∧ yX12_noise.cls ≠ "java/lang/invoke/VarHandle" ∧ (parseMethodDescriptor yX12_noise.desc).map (fun d => d.parameters.length) = some 1 := by decide +kernel
def rmX12_control : Room := { frames := 1, cells := 0, slots := 0, locals := 21 }
def wzX12_control : List Cond := .code yX12_control cX12_control 2 none :: wsL_law
theorem hinX12_control_X120 : ∀ w ∈ wsX120, w ∈ wzX12_control := fun w h => List.mem_cons_of_mem _ (inlX12 w h)
def fX12_control_162  (σ : zSt)  : Option (zSt) :=
  some σ
def fX12_control  (σ : zSt) (x1 : Int32) : Option (zSt) :=
  zck (zin 61 1048) (
  if (zgi σ 3 (61 : Int32).toNatClampNeg) = 0 then zck (zin 58 1048) (
  zck (zin 58 1048) (zbv (zsi σ 3 ((58 : Int32).toNatClampNeg) (((zgi σ 3 (58 : Int32).toNatClampNeg) &&& 16128) ||| x1)) (fun σ9 =>
  zck (zin 61 1048) (zbv (zsi σ9 3 ((61 : Int32).toNatClampNeg) 1) (fun σ10 =>
  some σ10))))) else
  zck (zin 61 1048) (zbv (zsi σ 3 ((61 : Int32).toNatClampNeg) 0) (fun σ1 =>
  zck (zin 58 1048) (
  zck (zin 58 1048) (zbv (zsi σ1 3 ((58 : Int32).toNatClampNeg) (((x1 &&& 63) <<< ((8 : Int32) &&& 31)) ||| ((zgi σ1 3 (58 : Int32).toNatClampNeg) &&& 255))) (fun σ2 =>
  zck (zin 59 1048) (zbv (zsi σ2 3 ((59 : Int32).toNatClampNeg) (x1 >>> ((6 : Int32) &&& 31))) (fun σ3 =>
  zck (zin 59 1048) (
  if (zgi σ3 3 (59 : Int32).toNatClampNeg) = 0 then zck (zin 58 1048) (
  zbi (fX12_video8 σ3 (zgi σ3 3 (58 : Int32).toNatClampNeg)) (fun σ5 v6 =>
  zck (zin 60 1048) (zbv (zsi σ5 3 ((60 : Int32).toNatClampNeg) v6) (fun σ7 =>
  zbu (fX12_further σ7 ) (fun σ8 =>
  fX12_control_162 σ8))))) else
  zck (zin 59 1048) (
  if (zgi σ3 3 (59 : Int32).toNatClampNeg) = 2 then zck (decide (¬ 16 = 0)) (
  if 11 ≤ (zrem x1 16) then fX12_control_162 σ3 else
  zck (decide (¬ 16 = 0)) (
  zck (zin 58 1048) (
  zck (zin (47 + (zrem x1 16)) 1048) (zbv (zsi σ3 3 ((47 + (zrem x1 16)).toNatClampNeg) ((zgi σ3 3 (58 : Int32).toNatClampNeg) &&& 255)) (fun σ4 =>
  fX12_control_162 σ4))))) else
  fX12_control_162 σ3))))))))))
set_option maxRecDepth 20000 in
set_option maxHeartbeats 4000000 in
theorem bX12_control_162 {st : Nat → Nat} {p : Program} {l : Launch} {e : Env} {s : State} {m : MethodId} {args : Array Value} {below : List Frame} {meth : Method} {c : Code} {D : va_G} {A : Nat → Prop} {ad : Nat → Nat} {cy : Nat → ClassId} (hC : zC p m c cX12_control 2 s args wzX12_control RX12 meth none)  {res : zSt} {H : Heap} {locs : List Loc} {σ : zSt} {ls : Array Slot}  (hI : zI st D (tM cy) (wM ad cy σ) A s H locs) (hl : lv_has ls 2 []) (hf : fX12_control_162  σ  = some res) : W p l e rmX12_control s m args below meth c H locs 0 0 (zQu below args s D (tM cy) (wM ad cy) A res) (F0 m 162 ls []) := by
  have hx := hC.1
  have hb := hC.2.1
  unfold fX12_control_162 at hf
  exact z_return hC hI hf dX12_control_162
set_option maxRecDepth 20000 in
set_option maxHeartbeats 4000000 in
theorem bX12_control {st : Nat → Nat} {p : Program} {l : Launch} {e : Env} {s : State} {m : MethodId} {args : Array Value} {below : List Frame} {meth : Method} {c : Code} {D : va_G} {A : Nat → Prop} {ad : Nat → Nat} {cy : Nat → ClassId} (hC : zC p m c cX12_control 2 s args wzX12_control RX12 meth none)  {res : zSt} {H : Heap} {locs : List Loc} {σ : zSt} {ls : Array Slot} {x1 : Int32} (hI : zI st D (tM cy) (wM ad cy σ) A s H locs) (hl : lv_has ls 2 [(0, .ref (ad 0)), (1, .int x1)]) (hf : fX12_control  σ x1 = some res) : W p l e rmX12_control s m args below meth c H locs 0 0 (zQu below args s D (tM cy) (wM ad cy) A res) (F0 m 0 ls []) := by
  have hx := hC.1
  have hb := hC.2.1
  unfold fX12_control at hf
  refine lv_aload_n hx hb dX12_control_0 rfl (lv_at hl 0 rfl) ?_
  refine z_get hC hI hinX12_control_X120 0 (wM_e0 ad cy σ) rfl 10 (by decide) (List.mem_cons_of_mem _ zw9_7) rfl dX12_control_1 ?_
  refine lv_bipush (v := 61) hx hb dX12_control_4 (by decide) ?_
  obtain ⟨q, hf⟩ := zck_use hf
  refine z_iald hC hI 3 2 (wM_e3 ad cy σ) (tM_t3 cy) q dX12_control_6 ?_
  refine lv_if_ne (tgt := 39) hx hb dX12_control_7 (by decide) (fun q => ?_) (fun q => ?_)
  · replace hf := zif_f q hf
    refine lv_aload_n hx hb dX12_control_39 rfl (lv_at hl 0 rfl) ?_
    refine z_get hC hI hinX12_control_X120 0 (wM_e0 ad cy σ) rfl 10 (by decide) (List.mem_cons_of_mem _ zw9_7) rfl dX12_control_40 ?_
    refine lv_bipush (v := 61) hx hb dX12_control_43 (by decide) ?_
    refine lv_iconst (v := 0) hx hb dX12_control_45 (by decide) ?_
    obtain ⟨q, hf⟩ := zck_use hf
    obtain ⟨σ1, eσ1⟩ : ∃ z, z = zsi σ 3 ((61 : Int32).toNatClampNeg) 0 := ⟨_, rfl⟩
    replace hf := zbv_use eσ1 hf
    refine z_iast hC hI 3 2 (wM_e3 ad cy σ) (tM_t3 cy) q ((wM_s3 ad cy σ _ _).trans (congrArg (wM ad cy) eσ1.symm)) dX12_control_46 (fun H locs hI => ?_)
    refine lv_aload_n hx hb dX12_control_47 rfl (lv_at hl 0 rfl) ?_
    refine z_get hC hI hinX12_control_X120 0 (wM_e0 ad cy σ1) rfl 10 (by decide) (List.mem_cons_of_mem _ zw9_7) rfl dX12_control_48 ?_
    refine lv_bipush (v := 58) hx hb dX12_control_51 (by decide) ?_
    refine lv_iload_n hx hb dX12_control_53 rfl (lv_at hl 1 rfl) ?_
    refine lv_bipush (v := 63) hx hb dX12_control_54 (by decide) ?_
    refine lv_iand hx hb dX12_control_56 ?_
    refine lv_bipush (v := 8) hx hb dX12_control_57 (by decide) ?_
    refine lv_ishl hx hb dX12_control_59 ?_
    refine lv_aload_n hx hb dX12_control_60 rfl (lv_at hl 0 rfl) ?_
    refine z_get hC hI hinX12_control_X120 0 (wM_e0 ad cy σ1) rfl 10 (by decide) (List.mem_cons_of_mem _ zw9_7) rfl dX12_control_61 ?_
    refine lv_bipush (v := 58) hx hb dX12_control_64 (by decide) ?_
    obtain ⟨q, hf⟩ := zck_use hf
    refine z_iald hC hI 3 2 (wM_e3 ad cy σ1) (tM_t3 cy) q dX12_control_66 ?_
    refine lv_sipush (v := 255) hx hb dX12_control_67 (by decide) ?_
    refine lv_iand hx hb dX12_control_70 ?_
    refine lv_ior hx hb dX12_control_71 ?_
    obtain ⟨q, hf⟩ := zck_use hf
    obtain ⟨σ2, eσ2⟩ : ∃ z, z = zsi σ1 3 ((58 : Int32).toNatClampNeg) (((x1 &&& 63) <<< ((8 : Int32) &&& 31)) ||| ((zgi σ1 3 (58 : Int32).toNatClampNeg) &&& 255)) := ⟨_, rfl⟩
    replace hf := zbv_use eσ2 hf
    refine z_iast hC hI 3 2 (wM_e3 ad cy σ1) (tM_t3 cy) q ((wM_s3 ad cy σ1 _ _).trans (congrArg (wM ad cy) eσ2.symm)) dX12_control_72 (fun H locs hI => ?_)
    refine lv_aload_n hx hb dX12_control_73 rfl (lv_at hl 0 rfl) ?_
    refine z_get hC hI hinX12_control_X120 0 (wM_e0 ad cy σ2) rfl 10 (by decide) (List.mem_cons_of_mem _ zw9_7) rfl dX12_control_74 ?_
    refine lv_bipush (v := 59) hx hb dX12_control_77 (by decide) ?_
    refine lv_iload_n hx hb dX12_control_79 rfl (lv_at hl 1 rfl) ?_
    refine lv_bipush (v := 6) hx hb dX12_control_80 (by decide) ?_
    refine lv_ishr hx hb dX12_control_82 ?_
    obtain ⟨q, hf⟩ := zck_use hf
    obtain ⟨σ3, eσ3⟩ : ∃ z, z = zsi σ2 3 ((59 : Int32).toNatClampNeg) (x1 >>> ((6 : Int32) &&& 31)) := ⟨_, rfl⟩
    replace hf := zbv_use eσ3 hf
    refine z_iast hC hI 3 2 (wM_e3 ad cy σ2) (tM_t3 cy) q ((wM_s3 ad cy σ2 _ _).trans (congrArg (wM ad cy) eσ3.symm)) dX12_control_83 (fun H locs hI => ?_)
    refine lv_aload_n hx hb dX12_control_84 rfl (lv_at hl 0 rfl) ?_
    refine z_get hC hI hinX12_control_X120 0 (wM_e0 ad cy σ3) rfl 10 (by decide) (List.mem_cons_of_mem _ zw9_7) rfl dX12_control_85 ?_
    refine lv_bipush (v := 59) hx hb dX12_control_88 (by decide) ?_
    obtain ⟨q, hf⟩ := zck_use hf
    refine z_iald hC hI 3 2 (wM_e3 ad cy σ3) (tM_t3 cy) q dX12_control_90 ?_
    refine lv_if_ne (tgt := 119) hx hb dX12_control_91 (by decide) (fun q => ?_) (fun q => ?_)
    · replace hf := zif_f q hf
      refine lv_aload_n hx hb dX12_control_119 rfl (lv_at hl 0 rfl) ?_
      refine z_get hC hI hinX12_control_X120 0 (wM_e0 ad cy σ3) rfl 10 (by decide) (List.mem_cons_of_mem _ zw9_7) rfl dX12_control_120 ?_
      refine lv_bipush (v := 59) hx hb dX12_control_123 (by decide) ?_
      obtain ⟨q, hf⟩ := zck_use hf
      refine z_iald hC hI 3 2 (wM_e3 ad cy σ3) (tM_t3 cy) q dX12_control_125 ?_
      refine lv_iconst (v := 2) hx hb dX12_control_126 (by decide) ?_
      refine lv_icmp_ne (tgt := 162) hx hb dX12_control_127 (by decide) (fun q => ?_) (fun q => ?_)
      · replace hf := zif_f q hf
        exact bX12_control_162 hC  hI (lv_sub hl [] rfl) hf
      replace hf := zif_t q hf
      refine lv_iload_n hx hb dX12_control_130 rfl (lv_at hl 1 rfl) ?_
      refine lv_bipush (v := 16) hx hb dX12_control_131 (by decide) ?_
      obtain ⟨q, hf⟩ := zck_use hf
      refine z_irem hx hb dX12_control_133 (of_decide_eq_true q) ?_
      refine lv_bipush (v := 11) hx hb dX12_control_134 (by decide) ?_
      refine lv_icmp_ge (tgt := 162) hx hb dX12_control_136 (by decide) (fun q => ?_) (fun q => ?_)
      · replace hf := zif_t q hf
        exact bX12_control_162 hC  hI (lv_sub hl [] rfl) hf
      replace hf := zif_f q hf
      refine lv_aload_n hx hb dX12_control_139 rfl (lv_at hl 0 rfl) ?_
      refine z_get hC hI hinX12_control_X120 0 (wM_e0 ad cy σ3) rfl 10 (by decide) (List.mem_cons_of_mem _ zw9_7) rfl dX12_control_140 ?_
      refine lv_bipush (v := 47) hx hb dX12_control_143 (by decide) ?_
      refine lv_iload_n hx hb dX12_control_145 rfl (lv_at hl 1 rfl) ?_
      refine lv_bipush (v := 16) hx hb dX12_control_146 (by decide) ?_
      obtain ⟨q, hf⟩ := zck_use hf
      refine z_irem hx hb dX12_control_148 (of_decide_eq_true q) ?_
      refine lv_iadd hx hb dX12_control_149 ?_
      refine lv_aload_n hx hb dX12_control_150 rfl (lv_at hl 0 rfl) ?_
      refine z_get hC hI hinX12_control_X120 0 (wM_e0 ad cy σ3) rfl 10 (by decide) (List.mem_cons_of_mem _ zw9_7) rfl dX12_control_151 ?_
      refine lv_bipush (v := 58) hx hb dX12_control_154 (by decide) ?_
      obtain ⟨q, hf⟩ := zck_use hf
      refine z_iald hC hI 3 2 (wM_e3 ad cy σ3) (tM_t3 cy) q dX12_control_156 ?_
      refine lv_sipush (v := 255) hx hb dX12_control_157 (by decide) ?_
      refine lv_iand hx hb dX12_control_160 ?_
      obtain ⟨q, hf⟩ := zck_use hf
      obtain ⟨σ4, eσ4⟩ : ∃ z, z = zsi σ3 3 ((47 + (zrem x1 16)).toNatClampNeg) ((zgi σ3 3 (58 : Int32).toNatClampNeg) &&& 255) := ⟨_, rfl⟩
      replace hf := zbv_use eσ4 hf
      refine z_iast hC hI 3 2 (wM_e3 ad cy σ3) (tM_t3 cy) q ((wM_s3 ad cy σ3 _ _).trans (congrArg (wM ad cy) eσ4.symm)) dX12_control_161 (fun H locs hI => ?_)
      exact bX12_control_162 hC  hI (lv_sub hl [] rfl) hf
    replace hf := zif_t q hf
    refine lv_aload_n hx hb dX12_control_94 rfl (lv_at hl 0 rfl) ?_
    refine z_get hC hI hinX12_control_X120 0 (wM_e0 ad cy σ3) rfl 10 (by decide) (List.mem_cons_of_mem _ zw9_7) rfl dX12_control_95 ?_
    refine lv_bipush (v := 60) hx hb dX12_control_98 (by decide) ?_
    refine lv_aload_n hx hb dX12_control_100 rfl (lv_at hl 0 rfl) ?_
    refine lv_aload_n hx hb dX12_control_101 rfl (lv_at hl 0 rfl) ?_
    refine z_get hC hI hinX12_control_X120 0 (wM_e0 ad cy σ3) rfl 10 (by decide) (List.mem_cons_of_mem _ zw9_7) rfl dX12_control_102 ?_
    refine lv_bipush (v := 58) hx hb dX12_control_105 (by decide) ?_
    obtain ⟨q, hf⟩ := zck_use hf
    refine z_iald hC hI 3 2 (wM_e3 ad cy σ3) (tM_t3 cy) q dX12_control_107 ?_
    obtain ⟨σ5, v6, g5, hf⟩ := zbi_use hf
    refine z_callVi (As := [.int (zgi σ3 3 (58 : Int32).toNatClampNeg)]) (rest := [.int 60, .ref (ad 3)]) hC hI (cX12_video8_met st l D ad cy σ3 (zgi σ3 3 (58 : Int32).toNatClampNeg) _ g5) (zgV zw56_6 zw56_7 zw56_8 zw1_5 zw56_9) rfl ⟨rfl, rfl⟩ 1 hdX12_video8 ⟨Nat.le_of_ble_eq_true rfl, Nat.le_of_ble_eq_true rfl⟩ rfl rfl (wM_e0 ad cy σ3) rfl hl rfl (Nat.le_of_ble_eq_true rfl) dX12_control_108 ⟨Nat.zero_le _, Nat.zero_le _⟩ (fun H locs hI => ?_)
    obtain ⟨q, hf⟩ := zck_use hf
    obtain ⟨σ7, eσ7⟩ : ∃ z, z = zsi σ5 3 ((60 : Int32).toNatClampNeg) v6 := ⟨_, rfl⟩
    replace hf := zbv_use eσ7 hf
    refine z_iast hC hI 3 2 (wM_e3 ad cy σ5) (tM_t3 cy) q ((wM_s3 ad cy σ5 _ _).trans (congrArg (wM ad cy) eσ7.symm)) dX12_control_111 (fun H locs hI => ?_)
    refine lv_aload_n hx hb dX12_control_112 rfl (lv_at hl 0 rfl) ?_
    obtain ⟨σ8, g8, hf⟩ := zbu_use hf
    refine z_callVu (As := []) (rest := []) hC hI (cX12_further_met st l D ad cy σ7  _ g8) (zgV zw56_10 zw56_11 zw56_12 zw1_5 zw56_13) rfl ⟨rfl, rfl⟩ 0 hdX12_further ⟨Nat.le_of_ble_eq_true rfl, Nat.le_of_ble_eq_true rfl⟩ rfl rfl (wM_e0 ad cy σ7) rfl hl rfl (Nat.le_of_ble_eq_true rfl) dX12_control_113 ⟨Nat.zero_le _, Nat.zero_le _⟩ (fun H locs hI => ?_)
    refine lv_goto (tgt := 162) hx hb dX12_control_116 (by decide) ?_
    exact bX12_control_162 hC  hI (lv_sub hl [] rfl) hf
  replace hf := zif_t q hf
  refine lv_aload_n hx hb dX12_control_10 rfl (lv_at hl 0 rfl) ?_
  refine z_get hC hI hinX12_control_X120 0 (wM_e0 ad cy σ) rfl 10 (by decide) (List.mem_cons_of_mem _ zw9_7) rfl dX12_control_11 ?_
  refine lv_bipush (v := 58) hx hb dX12_control_14 (by decide) ?_
  refine lv_aload_n hx hb dX12_control_16 rfl (lv_at hl 0 rfl) ?_
  refine z_get hC hI hinX12_control_X120 0 (wM_e0 ad cy σ) rfl 10 (by decide) (List.mem_cons_of_mem _ zw9_7) rfl dX12_control_17 ?_
  refine lv_bipush (v := 58) hx hb dX12_control_20 (by decide) ?_
  obtain ⟨q, hf⟩ := zck_use hf
  refine z_iald hC hI 3 2 (wM_e3 ad cy σ) (tM_t3 cy) q dX12_control_22 ?_
  refine lv_sipush (v := 16128) hx hb dX12_control_23 (by decide) ?_
  refine lv_iand hx hb dX12_control_26 ?_
  refine lv_iload_n hx hb dX12_control_27 rfl (lv_at hl 1 rfl) ?_
  refine lv_ior hx hb dX12_control_28 ?_
  obtain ⟨q, hf⟩ := zck_use hf
  obtain ⟨σ9, eσ9⟩ : ∃ z, z = zsi σ 3 ((58 : Int32).toNatClampNeg) (((zgi σ 3 (58 : Int32).toNatClampNeg) &&& 16128) ||| x1) := ⟨_, rfl⟩
  replace hf := zbv_use eσ9 hf
  refine z_iast hC hI 3 2 (wM_e3 ad cy σ) (tM_t3 cy) q ((wM_s3 ad cy σ _ _).trans (congrArg (wM ad cy) eσ9.symm)) dX12_control_29 (fun H locs hI => ?_)
  refine lv_aload_n hx hb dX12_control_30 rfl (lv_at hl 0 rfl) ?_
  refine z_get hC hI hinX12_control_X120 0 (wM_e0 ad cy σ9) rfl 10 (by decide) (List.mem_cons_of_mem _ zw9_7) rfl dX12_control_31 ?_
  refine lv_bipush (v := 61) hx hb dX12_control_34 (by decide) ?_
  refine lv_iconst (v := 1) hx hb dX12_control_36 (by decide) ?_
  obtain ⟨q, hf⟩ := zck_use hf
  obtain ⟨σ10, eσ10⟩ : ∃ z, z = zsi σ9 3 ((61 : Int32).toNatClampNeg) 1 := ⟨_, rfl⟩
  replace hf := zbv_use eσ10 hf
  refine z_iast hC hI 3 2 (wM_e3 ad cy σ9) (tM_t3 cy) q ((wM_s3 ad cy σ9 _ _).trans (congrArg (wM ad cy) eσ10.symm)) dX12_control_37 (fun H locs hI => ?_)
  exact z_return hC hI hf dX12_control_38
set_option maxRecDepth 20000 in
theorem cX12_control_met (st : Nat → Nat) (l : Launch) (D : va_G) (ad : Nat → Nat) (cy : Nat → ClassId) (σ : zSt) (x1 : Int32) (res : zSt) (hf : fX12_control σ x1 = some res) (sz : Nat) : zMu st l yX12_control wzX12_control rmX12_control [.ref (ad 0), .int x1] D (tM cy) (wM ad cy) sz σ res :=
  zMu.of (cc := cX12_control) (maxL := 2) (ret := none) (by decide) rfl (Nat.le_of_ble_eq_true rfl) (fun p e s m args below meth c hC A hI ls hl => bX12_control hC hI hl hf)
theorem hdX12_control : yX12_control.cls = RX12 ∧ yX12_control.cls ≠ "java/lang/invoke/MethodHandle" ∧ yX12_control.cls ≠ "java/lang/invoke/VarHandle" ∧ (parseMethodDescriptor yX12_control.desc).map (fun d => d.parameters.length) = some 1 := by decide +kernel
def rmX12_dataTo : Room := { frames := 1, cells := 0, slots := 0, locals := 20 }
def wzX12_dataTo : List Cond := .code yX12_dataTo cX12_dataTo 3 none :: wsL_law
theorem hinX12_dataTo_X120 : ∀ w ∈ wsX120, w ∈ wzX12_dataTo := fun w h => List.mem_cons_of_mem _ (inlX12 w h)
def fX12_dataTo_115  (σ : zSt)  : Option (zSt) :=
  zbu (fX12_further σ ) (fun σ1 =>
  some σ1)
def fX12_dataTo  (σ : zSt) (x1 : Int32) : Option (zSt) :=
  zck (zin 61 1048) (zbv (zsi σ 3 ((61 : Int32).toNatClampNeg) 0) (fun σ2 =>
  zck (zin 60 1048) (zbv (zsi σ2 3 ((60 : Int32).toNatClampNeg) x1) (fun σ3 =>
  zck (zin 58 1048) (
  zbv (zgi σ3 3 (58 : Int32).toNatClampNeg) (fun v4 =>
  zck (zin 59 1048) (
  if (zgi σ3 3 (59 : Int32).toNatClampNeg) = 3 then if (zgi σ3 0 3) = 2 then zck (decide (¬ 2 = 0)) (
  if (zrem v4 2) = 0 then zck (zin 68 1048) (zbv (zsi σ3 3 ((68 : Int32).toNatClampNeg) x1) (fun σ7 =>
  fX12_dataTo_115 σ7)) else
  zck (decide (¬ 64 = 0)) (
  zck (zin 68 1048) (
  zck (zin ((zrem v4 64) - 1) 64) (zbv (zsi σ3 8 (((zrem v4 64) - 1).toNatClampNeg) (vp_nar .byte ((zgi σ3 3 (68 : Int32).toNatClampNeg).toInt8.toInt32))) (fun σ5 =>
  zck (decide (¬ 64 = 0)) (
  zck (zin (zrem v4 64) 64) (zbv (zsi σ5 8 ((zrem v4 64).toNatClampNeg) (vp_nar .byte (x1.toInt8.toInt32))) (fun σ6 =>
  fX12_dataTo_115 σ6)))))))) else
  zck (decide (¬ 32 = 0)) (
  zck (zin (zrem v4 32) 64) (zbv (zsi σ3 8 ((zrem v4 32).toNatClampNeg) (vp_nar .byte (x1.toInt8.toInt32))) (fun σ8 =>
  fX12_dataTo_115 σ8))) else
  zck (zin v4 16384) (zbv (zsi σ3 7 (v4.toNatClampNeg) (vp_nar .byte (x1.toInt8.toInt32))) (fun σ9 =>
  fX12_dataTo_115 σ9)))))))))
set_option maxRecDepth 20000 in
set_option maxHeartbeats 4000000 in
theorem bX12_dataTo_115 {st : Nat → Nat} {p : Program} {l : Launch} {e : Env} {s : State} {m : MethodId} {args : Array Value} {below : List Frame} {meth : Method} {c : Code} {D : va_G} {A : Nat → Prop} {ad : Nat → Nat} {cy : Nat → ClassId} (hC : zC p m c cX12_dataTo 3 s args wzX12_dataTo RX12 meth none)  {res : zSt} {H : Heap} {locs : List Loc} {σ : zSt} {ls : Array Slot}  (hI : zI st D (tM cy) (wM ad cy σ) A s H locs) (hl : lv_has ls 3 [(0, .ref (ad 0))]) (hf : fX12_dataTo_115  σ  = some res) : W p l e rmX12_dataTo s m args below meth c H locs 0 0 (zQu below args s D (tM cy) (wM ad cy) A res) (F0 m 115 ls []) := by
  have hx := hC.1
  have hb := hC.2.1
  unfold fX12_dataTo_115 at hf
  refine lv_aload_n hx hb dX12_dataTo_115 rfl (lv_at hl 0 rfl) ?_
  obtain ⟨σ1, g1, hf⟩ := zbu_use hf
  refine z_callVu (As := []) (rest := []) hC hI (cX12_further_met st l D ad cy σ  _ g1) (zgV zw56_10 zw56_11 zw56_12 zw1_5 zw56_13) rfl ⟨rfl, rfl⟩ 0 hdX12_further ⟨Nat.le_of_ble_eq_true rfl, Nat.le_of_ble_eq_true rfl⟩ rfl rfl (wM_e0 ad cy σ) rfl hl rfl (Nat.le_of_ble_eq_true rfl) dX12_dataTo_116 ⟨Nat.zero_le _, Nat.zero_le _⟩ (fun H locs hI => ?_)
  exact z_return hC hI hf dX12_dataTo_119
set_option maxRecDepth 20000 in
set_option maxHeartbeats 4000000 in
theorem bX12_dataTo {st : Nat → Nat} {p : Program} {l : Launch} {e : Env} {s : State} {m : MethodId} {args : Array Value} {below : List Frame} {meth : Method} {c : Code} {D : va_G} {A : Nat → Prop} {ad : Nat → Nat} {cy : Nat → ClassId} (hC : zC p m c cX12_dataTo 3 s args wzX12_dataTo RX12 meth none)  {res : zSt} {H : Heap} {locs : List Loc} {σ : zSt} {ls : Array Slot} {x1 : Int32} (hI : zI st D (tM cy) (wM ad cy σ) A s H locs) (hl : lv_has ls 3 [(0, .ref (ad 0)), (1, .int x1)]) (hf : fX12_dataTo  σ x1 = some res) : W p l e rmX12_dataTo s m args below meth c H locs 0 0 (zQu below args s D (tM cy) (wM ad cy) A res) (F0 m 0 ls []) := by
  have hx := hC.1
  have hb := hC.2.1
  unfold fX12_dataTo at hf
  refine lv_aload_n hx hb dX12_dataTo_0 rfl (lv_at hl 0 rfl) ?_
  refine z_get hC hI hinX12_dataTo_X120 0 (wM_e0 ad cy σ) rfl 10 (by decide) (List.mem_cons_of_mem _ zw9_7) rfl dX12_dataTo_1 ?_
  refine lv_bipush (v := 61) hx hb dX12_dataTo_4 (by decide) ?_
  refine lv_iconst (v := 0) hx hb dX12_dataTo_6 (by decide) ?_
  obtain ⟨q, hf⟩ := zck_use hf
  obtain ⟨σ2, eσ2⟩ : ∃ z, z = zsi σ 3 ((61 : Int32).toNatClampNeg) 0 := ⟨_, rfl⟩
  replace hf := zbv_use eσ2 hf
  refine z_iast hC hI 3 2 (wM_e3 ad cy σ) (tM_t3 cy) q ((wM_s3 ad cy σ _ _).trans (congrArg (wM ad cy) eσ2.symm)) dX12_dataTo_7 (fun H locs hI => ?_)
  refine lv_aload_n hx hb dX12_dataTo_8 rfl (lv_at hl 0 rfl) ?_
  refine z_get hC hI hinX12_dataTo_X120 0 (wM_e0 ad cy σ2) rfl 10 (by decide) (List.mem_cons_of_mem _ zw9_7) rfl dX12_dataTo_9 ?_
  refine lv_bipush (v := 60) hx hb dX12_dataTo_12 (by decide) ?_
  refine lv_iload_n hx hb dX12_dataTo_14 rfl (lv_at hl 1 rfl) ?_
  obtain ⟨q, hf⟩ := zck_use hf
  obtain ⟨σ3, eσ3⟩ : ∃ z, z = zsi σ2 3 ((60 : Int32).toNatClampNeg) x1 := ⟨_, rfl⟩
  replace hf := zbv_use eσ3 hf
  refine z_iast hC hI 3 2 (wM_e3 ad cy σ2) (tM_t3 cy) q ((wM_s3 ad cy σ2 _ _).trans (congrArg (wM ad cy) eσ3.symm)) dX12_dataTo_15 (fun H locs hI => ?_)
  refine lv_aload_n hx hb dX12_dataTo_16 rfl (lv_at hl 0 rfl) ?_
  refine z_get hC hI hinX12_dataTo_X120 0 (wM_e0 ad cy σ3) rfl 10 (by decide) (List.mem_cons_of_mem _ zw9_7) rfl dX12_dataTo_17 ?_
  refine lv_bipush (v := 58) hx hb dX12_dataTo_20 (by decide) ?_
  obtain ⟨q, hf⟩ := zck_use hf
  refine z_iald hC hI 3 2 (wM_e3 ad cy σ3) (tM_t3 cy) q dX12_dataTo_22 ?_
  refine lv_topi (fun v4 ev4 => ?_)
  replace hf := zbv_use ev4 hf
  refine lv_istore_n (lv' := [(2, .int v4), (0, .ref (ad 0)), (1, .int x1)]) hx hb dX12_dataTo_23 rfl hl (by decide) rfl (fun ls hl => ?_)
  refine lv_aload_n hx hb dX12_dataTo_24 rfl (lv_at hl 1 rfl) ?_
  refine z_get hC hI hinX12_dataTo_X120 0 (wM_e0 ad cy σ3) rfl 10 (by decide) (List.mem_cons_of_mem _ zw9_7) rfl dX12_dataTo_25 ?_
  refine lv_bipush (v := 59) hx hb dX12_dataTo_28 (by decide) ?_
  obtain ⟨q, hf⟩ := zck_use hf
  refine z_iald hC hI 3 2 (wM_e3 ad cy σ3) (tM_t3 cy) q dX12_dataTo_30 ?_
  refine lv_iconst (v := 3) hx hb dX12_dataTo_31 (by decide) ?_
  refine lv_icmp_eq (tgt := 46) hx hb dX12_dataTo_32 (by decide) (fun q => ?_) (fun q => ?_)
  · replace hf := zif_t q hf
    refine lv_aload_n hx hb dX12_dataTo_46 rfl (lv_at hl 1 rfl) ?_
    refine z_get hC hI hinX12_dataTo_X120 0 (wM_e0 ad cy σ3) rfl 3 (by decide) (List.mem_cons_of_mem _ zw10_10) rfl dX12_dataTo_47 ?_
    refine lv_iconst (v := 2) hx hb dX12_dataTo_50 (by decide) ?_
    refine lv_icmp_eq (tgt := 68) hx hb dX12_dataTo_51 (by decide) (fun q => ?_) (fun q => ?_)
    · replace hf := zif_t q hf
      refine lv_iload_n hx hb dX12_dataTo_68 rfl (lv_at hl 0 rfl) ?_
      refine lv_iconst (v := 2) hx hb dX12_dataTo_69 (by decide) ?_
      obtain ⟨q, hf⟩ := zck_use hf
      refine z_irem hx hb dX12_dataTo_70 (of_decide_eq_true q) ?_
      refine lv_if_ne (tgt := 85) hx hb dX12_dataTo_71 (by decide) (fun q => ?_) (fun q => ?_)
      · replace hf := zif_f q hf
        refine lv_aload_n hx hb dX12_dataTo_85 rfl (lv_at hl 1 rfl) ?_
        refine z_get hC hI hinX12_dataTo_X120 0 (wM_e0 ad cy σ3) rfl 15 (by decide) (List.mem_cons_of_mem _ zw9_13) rfl dX12_dataTo_86 ?_
        refine lv_iload_n hx hb dX12_dataTo_89 rfl (lv_at hl 0 rfl) ?_
        refine lv_bipush (v := 64) hx hb dX12_dataTo_90 (by decide) ?_
        obtain ⟨q, hf⟩ := zck_use hf
        refine z_irem hx hb dX12_dataTo_92 (of_decide_eq_true q) ?_
        refine lv_iconst (v := 1) hx hb dX12_dataTo_93 (by decide) ?_
        refine lv_isub hx hb dX12_dataTo_94 ?_
        refine lv_aload_n hx hb dX12_dataTo_95 rfl (lv_at hl 1 rfl) ?_
        refine z_get hC hI hinX12_dataTo_X120 0 (wM_e0 ad cy σ3) rfl 10 (by decide) (List.mem_cons_of_mem _ zw9_7) rfl dX12_dataTo_96 ?_
        refine lv_bipush (v := 68) hx hb dX12_dataTo_99 (by decide) ?_
        obtain ⟨q, hf⟩ := zck_use hf
        refine z_iald hC hI 3 2 (wM_e3 ad cy σ3) (tM_t3 cy) q dX12_dataTo_101 ?_
        refine lv_i2b (v := (zgi σ3 3 (68 : Int32).toNatClampNeg).toInt8.toInt32) hx hb dX12_dataTo_102 rfl ?_
        obtain ⟨q, hf⟩ := zck_use hf
        obtain ⟨σ5, eσ5⟩ : ∃ z, z = zsi σ3 8 (((zrem v4 64) - 1).toNatClampNeg) (vp_nar .byte ((zgi σ3 3 (68 : Int32).toNatClampNeg).toInt8.toInt32)) := ⟨_, rfl⟩
        replace hf := zbv_use eσ5 hf
        refine z_bast hC hI 8 7 (wM_e8 ad cy σ3) (tM_t8 cy) q ((wM_s8 ad cy σ3 _ _).trans (congrArg (wM ad cy) eσ5.symm)) dX12_dataTo_103 (fun H locs hI => ?_)
        refine lv_aload_n hx hb dX12_dataTo_104 rfl (lv_at hl 1 rfl) ?_
        refine z_get hC hI hinX12_dataTo_X120 0 (wM_e0 ad cy σ5) rfl 15 (by decide) (List.mem_cons_of_mem _ zw9_13) rfl dX12_dataTo_105 ?_
        refine lv_iload_n hx hb dX12_dataTo_108 rfl (lv_at hl 0 rfl) ?_
        refine lv_bipush (v := 64) hx hb dX12_dataTo_109 (by decide) ?_
        obtain ⟨q, hf⟩ := zck_use hf
        refine z_irem hx hb dX12_dataTo_111 (of_decide_eq_true q) ?_
        refine lv_iload_n hx hb dX12_dataTo_112 rfl (lv_at hl 2 rfl) ?_
        refine lv_i2b (v := x1.toInt8.toInt32) hx hb dX12_dataTo_113 rfl ?_
        obtain ⟨q, hf⟩ := zck_use hf
        obtain ⟨σ6, eσ6⟩ : ∃ z, z = zsi σ5 8 ((zrem v4 64).toNatClampNeg) (vp_nar .byte (x1.toInt8.toInt32)) := ⟨_, rfl⟩
        replace hf := zbv_use eσ6 hf
        refine z_bast hC hI 8 7 (wM_e8 ad cy σ5) (tM_t8 cy) q ((wM_s8 ad cy σ5 _ _).trans (congrArg (wM ad cy) eσ6.symm)) dX12_dataTo_114 (fun H locs hI => ?_)
        exact bX12_dataTo_115 hC  hI (lv_sub hl [1] rfl) hf
      replace hf := zif_t q hf
      refine lv_aload_n hx hb dX12_dataTo_74 rfl (lv_at hl 1 rfl) ?_
      refine z_get hC hI hinX12_dataTo_X120 0 (wM_e0 ad cy σ3) rfl 10 (by decide) (List.mem_cons_of_mem _ zw9_7) rfl dX12_dataTo_75 ?_
      refine lv_bipush (v := 68) hx hb dX12_dataTo_78 (by decide) ?_
      refine lv_iload_n hx hb dX12_dataTo_80 rfl (lv_at hl 2 rfl) ?_
      obtain ⟨q, hf⟩ := zck_use hf
      obtain ⟨σ7, eσ7⟩ : ∃ z, z = zsi σ3 3 ((68 : Int32).toNatClampNeg) x1 := ⟨_, rfl⟩
      replace hf := zbv_use eσ7 hf
      refine z_iast hC hI 3 2 (wM_e3 ad cy σ3) (tM_t3 cy) q ((wM_s3 ad cy σ3 _ _).trans (congrArg (wM ad cy) eσ7.symm)) dX12_dataTo_81 (fun H locs hI => ?_)
      refine lv_goto (tgt := 115) hx hb dX12_dataTo_82 (by decide) ?_
      exact bX12_dataTo_115 hC  hI (lv_sub hl [1] rfl) hf
    replace hf := zif_f q hf
    refine lv_aload_n hx hb dX12_dataTo_54 rfl (lv_at hl 1 rfl) ?_
    refine z_get hC hI hinX12_dataTo_X120 0 (wM_e0 ad cy σ3) rfl 15 (by decide) (List.mem_cons_of_mem _ zw9_13) rfl dX12_dataTo_55 ?_
    refine lv_iload_n hx hb dX12_dataTo_58 rfl (lv_at hl 0 rfl) ?_
    refine lv_bipush (v := 32) hx hb dX12_dataTo_59 (by decide) ?_
    obtain ⟨q, hf⟩ := zck_use hf
    refine z_irem hx hb dX12_dataTo_61 (of_decide_eq_true q) ?_
    refine lv_iload_n hx hb dX12_dataTo_62 rfl (lv_at hl 2 rfl) ?_
    refine lv_i2b (v := x1.toInt8.toInt32) hx hb dX12_dataTo_63 rfl ?_
    obtain ⟨q, hf⟩ := zck_use hf
    obtain ⟨σ8, eσ8⟩ : ∃ z, z = zsi σ3 8 ((zrem v4 32).toNatClampNeg) (vp_nar .byte (x1.toInt8.toInt32)) := ⟨_, rfl⟩
    replace hf := zbv_use eσ8 hf
    refine z_bast hC hI 8 7 (wM_e8 ad cy σ3) (tM_t8 cy) q ((wM_s8 ad cy σ3 _ _).trans (congrArg (wM ad cy) eσ8.symm)) dX12_dataTo_64 (fun H locs hI => ?_)
    refine lv_goto (tgt := 115) hx hb dX12_dataTo_65 (by decide) ?_
    exact bX12_dataTo_115 hC  hI (lv_sub hl [1] rfl) hf
  replace hf := zif_f q hf
  refine lv_aload_n hx hb dX12_dataTo_35 rfl (lv_at hl 1 rfl) ?_
  refine z_get hC hI hinX12_dataTo_X120 0 (wM_e0 ad cy σ3) rfl 14 (by decide) (List.mem_cons_of_mem _ zw9_12) rfl dX12_dataTo_36 ?_
  refine lv_iload_n hx hb dX12_dataTo_39 rfl (lv_at hl 0 rfl) ?_
  refine lv_iload_n hx hb dX12_dataTo_40 rfl (lv_at hl 2 rfl) ?_
  refine lv_i2b (v := x1.toInt8.toInt32) hx hb dX12_dataTo_41 rfl ?_
  obtain ⟨q, hf⟩ := zck_use hf
  obtain ⟨σ9, eσ9⟩ : ∃ z, z = zsi σ3 7 (v4.toNatClampNeg) (vp_nar .byte (x1.toInt8.toInt32)) := ⟨_, rfl⟩
  replace hf := zbv_use eσ9 hf
  refine z_bast hC hI 7 6 (wM_e7 ad cy σ3) (tM_t7 cy) q ((wM_s7 ad cy σ3 _ _).trans (congrArg (wM ad cy) eσ9.symm)) dX12_dataTo_42 (fun H locs hI => ?_)
  refine lv_goto (tgt := 115) hx hb dX12_dataTo_43 (by decide) ?_
  exact bX12_dataTo_115 hC  hI (lv_sub hl [1] rfl) hf
set_option maxRecDepth 20000 in
theorem cX12_dataTo_met (st : Nat → Nat) (l : Launch) (D : va_G) (ad : Nat → Nat) (cy : Nat → ClassId) (σ : zSt) (x1 : Int32) (res : zSt) (hf : fX12_dataTo σ x1 = some res) (sz : Nat) : zMu st l yX12_dataTo wzX12_dataTo rmX12_dataTo [.ref (ad 0), .int x1] D (tM cy) (wM ad cy) sz σ res :=
  zMu.of (cc := cX12_dataTo) (maxL := 3) (ret := none) (by decide) rfl (Nat.le_of_ble_eq_true rfl) (fun p e s m args below meth c hC A hI ls hl => bX12_dataTo hC hI hl hf)
theorem hdX12_dataTo : yX12_dataTo.cls = RX12 ∧ yX12_dataTo.cls ≠ "java/lang/invoke/MethodHandle" ∧ yX12_dataTo.cls ≠ "java/lang/invoke/VarHandle" ∧ (parseMethodDescriptor yX12_dataTo.desc).map (fun d => d.parameters.length) = some 1 := by decide +kernel
