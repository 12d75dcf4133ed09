def kn_cX5_takePlace : Nat := 0xac0c100500a709100800a036101b1000b506102a4400b52e14100900b42a2a4f7e2f1260917200b62a2e1000b42a0900b42a14100900b42aac0705009a6e00b81b
theorem zk_cX5_takePlace : zkd cX5_takePlace.data.toList kn_cX5_takePlace = true := by decide +kernel
theorem zn_cX5_takePlace : cX5_takePlace.data.toList.length = 65 := by decide +kernel
theorem dX5_takePlace_0 : decode cX5_takePlace 0 = .ok (.iload_n 1, 1) := zo_27 (zkb zk_cX5_takePlace zn_cX5_takePlace (by decide +kernel))
theorem dX5_takePlace_1 : decode cX5_takePlace 1 = .ok (.invokestatic 110, 3) := zo_184 (b1 := 0) (b2 := 110) (zkb3 zk_cX5_takePlace zn_cX5_takePlace (by decide +kernel)) rfl
theorem dX5_takePlace_4 : decode cX5_takePlace 4 = .ok (.ifCond .ne 5, 3) := zo_154 (b1 := 0) (b2 := 5) (zkb3 zk_cX5_takePlace zn_cX5_takePlace (by decide +kernel)) rfl
theorem dX5_takePlace_7 : decode cX5_takePlace 7 = .ok (.iconst 4, 1) := zo_7 (zkb zk_cX5_takePlace zn_cX5_takePlace (by decide +kernel))
theorem dX5_takePlace_8 : decode cX5_takePlace 8 = .ok (.ireturn, 1) := zo_172 (zkb zk_cX5_takePlace zn_cX5_takePlace (by decide +kernel))
theorem dX5_takePlace_9 : decode cX5_takePlace 9 = .ok (.aload_n 0, 1) := zo_42 (zkb zk_cX5_takePlace zn_cX5_takePlace (by decide +kernel))
theorem dX5_takePlace_10 : decode cX5_takePlace 10 = .ok (.getfield 9, 3) := zo_180 (b1 := 0) (b2 := 9) (zkb3 zk_cX5_takePlace zn_cX5_takePlace (by decide +kernel)) rfl
theorem dX5_takePlace_13 : decode cX5_takePlace 13 = .ok (.bipush 20, 2) := zo_16 (b1 := 20) (zkb2 zk_cX5_takePlace zn_cX5_takePlace (by decide +kernel)) rfl
theorem dX5_takePlace_15 : decode cX5_takePlace 15 = .ok (.aload_n 0, 1) := zo_42 (zkb zk_cX5_takePlace zn_cX5_takePlace (by decide +kernel))
theorem dX5_takePlace_16 : decode cX5_takePlace 16 = .ok (.getfield 9, 3) := zo_180 (b1 := 0) (b2 := 9) (zkb3 zk_cX5_takePlace zn_cX5_takePlace (by decide +kernel)) rfl
theorem dX5_takePlace_19 : decode cX5_takePlace 19 = .ok (.aload_n 0, 1) := zo_42 (zkb zk_cX5_takePlace zn_cX5_takePlace (by decide +kernel))
theorem dX5_takePlace_20 : decode cX5_takePlace 20 = .ok (.getfield 16, 3) := zo_180 (b1 := 0) (b2 := 16) (zkb3 zk_cX5_takePlace zn_cX5_takePlace (by decide +kernel)) rfl
theorem dX5_takePlace_23 : decode cX5_takePlace 23 = .ok (.iaload, 1) := zo_46 (zkb zk_cX5_takePlace zn_cX5_takePlace (by decide +kernel))
theorem dX5_takePlace_24 : decode cX5_takePlace 24 = .ok (.aload_n 0, 1) := zo_42 (zkb zk_cX5_takePlace zn_cX5_takePlace (by decide +kernel))
theorem dX5_takePlace_25 : decode cX5_takePlace 25 = .ok (.invokevirtual 114, 3) := zo_182 (b1 := 0) (b2 := 114) (zkb3 zk_cX5_takePlace zn_cX5_takePlace (by decide +kernel)) rfl
theorem dX5_takePlace_28 : decode cX5_takePlace 28 = .ok (.i2b, 1) := zo_145 (zkb zk_cX5_takePlace zn_cX5_takePlace (by decide +kernel))
theorem dX5_takePlace_29 : decode cX5_takePlace 29 = .ok (.iadd, 1) := zo_96 (zkb zk_cX5_takePlace zn_cX5_takePlace (by decide +kernel))
theorem dX5_takePlace_30 : decode cX5_takePlace 30 = .ok (.ldc 47, 2) := zo_18 (b1 := 47) (zkb2 zk_cX5_takePlace zn_cX5_takePlace (by decide +kernel))
theorem dX5_takePlace_32 : decode cX5_takePlace 32 = .ok (.iand, 1) := zo_126 (zkb zk_cX5_takePlace zn_cX5_takePlace (by decide +kernel))
theorem dX5_takePlace_33 : decode cX5_takePlace 33 = .ok (.iastore, 1) := zo_79 (zkb zk_cX5_takePlace zn_cX5_takePlace (by decide +kernel))
theorem dX5_takePlace_34 : decode cX5_takePlace 34 = .ok (.aload_n 0, 1) := zo_42 (zkb zk_cX5_takePlace zn_cX5_takePlace (by decide +kernel))
theorem dX5_takePlace_35 : decode cX5_takePlace 35 = .ok (.aload_n 0, 1) := zo_42 (zkb zk_cX5_takePlace zn_cX5_takePlace (by decide +kernel))
theorem dX5_takePlace_36 : decode cX5_takePlace 36 = .ok (.getfield 9, 3) := zo_180 (b1 := 0) (b2 := 9) (zkb3 zk_cX5_takePlace zn_cX5_takePlace (by decide +kernel)) rfl
theorem dX5_takePlace_39 : decode cX5_takePlace 39 = .ok (.bipush 20, 2) := zo_16 (b1 := 20) (zkb2 zk_cX5_takePlace zn_cX5_takePlace (by decide +kernel)) rfl
theorem dX5_takePlace_41 : decode cX5_takePlace 41 = .ok (.iaload, 1) := zo_46 (zkb zk_cX5_takePlace zn_cX5_takePlace (by decide +kernel))
theorem dX5_takePlace_42 : decode cX5_takePlace 42 = .ok (.putfield 68, 3) := zo_181 (b1 := 0) (b2 := 68) (zkb3 zk_cX5_takePlace zn_cX5_takePlace (by decide +kernel)) rfl
theorem dX5_takePlace_45 : decode cX5_takePlace 45 = .ok (.aload_n 0, 1) := zo_42 (zkb zk_cX5_takePlace zn_cX5_takePlace (by decide +kernel))
theorem dX5_takePlace_46 : decode cX5_takePlace 46 = .ok (.bipush 6, 2) := zo_16 (b1 := 6) (zkb2 zk_cX5_takePlace zn_cX5_takePlace (by decide +kernel)) rfl
theorem dX5_takePlace_48 : decode cX5_takePlace 48 = .ok (.putfield 16, 3) := zo_181 (b1 := 0) (b2 := 16) (zkb3 zk_cX5_takePlace zn_cX5_takePlace (by decide +kernel)) rfl
theorem dX5_takePlace_51 : decode cX5_takePlace 51 = .ok (.iload_n 1, 1) := zo_27 (zkb zk_cX5_takePlace zn_cX5_takePlace (by decide +kernel))
theorem dX5_takePlace_52 : decode cX5_takePlace 52 = .ok (.bipush 54, 2) := zo_16 (b1 := 54) (zkb2 zk_cX5_takePlace zn_cX5_takePlace (by decide +kernel)) rfl
theorem dX5_takePlace_54 : decode cX5_takePlace 54 = .ok (.if_icmp .ne 8, 3) := zo_160 (b1 := 0) (b2 := 8) (zkb3 zk_cX5_takePlace zn_cX5_takePlace (by decide +kernel)) rfl
theorem dX5_takePlace_57 : decode cX5_takePlace 57 = .ok (.bipush 9, 2) := zo_16 (b1 := 9) (zkb2 zk_cX5_takePlace zn_cX5_takePlace (by decide +kernel)) rfl
theorem dX5_takePlace_59 : decode cX5_takePlace 59 = .ok (.goto 5, 3) := zo_167 (b1 := 0) (b2 := 5) (zkb3 zk_cX5_takePlace zn_cX5_takePlace (by decide +kernel)) rfl
theorem dX5_takePlace_62 : decode cX5_takePlace 62 = .ok (.bipush 12, 2) := zo_16 (b1 := 12) (zkb2 zk_cX5_takePlace zn_cX5_takePlace (by decide +kernel)) rfl
theorem dX5_takePlace_64 : decode cX5_takePlace 64 = .ok (.ireturn, 1) := zo_172 (zkb zk_cX5_takePlace zn_cX5_takePlace (by decide +kernel))
def kn_cX5_meansPlace : Nat := 0xac03ac1cac030400a70407009f1c1bac030400a7040700a306107e07101a1000a1077e07101a1800991b40000000350000001a00000002000000000000004200000000aa7a06101a3d030400a7040700a006107e07101a3c030400a7040700a030107e38101a
theorem zk_cX5_meansPlace : zkd cX5_meansPlace.data.toList kn_cX5_meansPlace = true := by decide +kernel
theorem zn_cX5_meansPlace : cX5_meansPlace.data.toList.length = 102 := by decide +kernel
theorem dX5_meansPlace_0 : decode cX5_meansPlace 0 = .ok (.iload_n 0, 1) := zo_26 (zkb zk_cX5_meansPlace zn_cX5_meansPlace (by decide +kernel))
theorem dX5_meansPlace_1 : decode cX5_meansPlace 1 = .ok (.bipush 56, 2) := zo_16 (b1 := 56) (zkb2 zk_cX5_meansPlace zn_cX5_meansPlace (by decide +kernel)) rfl
theorem dX5_meansPlace_3 : decode cX5_meansPlace 3 = .ok (.iand, 1) := zo_126 (zkb zk_cX5_meansPlace zn_cX5_meansPlace (by decide +kernel))
theorem dX5_meansPlace_4 : decode cX5_meansPlace 4 = .ok (.bipush 48, 2) := zo_16 (b1 := 48) (zkb2 zk_cX5_meansPlace zn_cX5_meansPlace (by decide +kernel)) rfl
theorem dX5_meansPlace_6 : decode cX5_meansPlace 6 = .ok (.if_icmp .ne 7, 3) := zo_160 (b1 := 0) (b2 := 7) (zkb3 zk_cX5_meansPlace zn_cX5_meansPlace (by decide +kernel)) rfl
theorem dX5_meansPlace_9 : decode cX5_meansPlace 9 = .ok (.iconst 1, 1) := zo_4 (zkb zk_cX5_meansPlace zn_cX5_meansPlace (by decide +kernel))
theorem dX5_meansPlace_10 : decode cX5_meansPlace 10 = .ok (.goto 4, 3) := zo_167 (b1 := 0) (b2 := 4) (zkb3 zk_cX5_meansPlace zn_cX5_meansPlace (by decide +kernel)) rfl
theorem dX5_meansPlace_13 : decode cX5_meansPlace 13 = .ok (.iconst 0, 1) := zo_3 (zkb zk_cX5_meansPlace zn_cX5_meansPlace (by decide +kernel))
theorem dX5_meansPlace_14 : decode cX5_meansPlace 14 = .ok (.istore_n 1, 1) := zo_60 (zkb zk_cX5_meansPlace zn_cX5_meansPlace (by decide +kernel))
theorem dX5_meansPlace_15 : decode cX5_meansPlace 15 = .ok (.iload_n 0, 1) := zo_26 (zkb zk_cX5_meansPlace zn_cX5_meansPlace (by decide +kernel))
theorem dX5_meansPlace_16 : decode cX5_meansPlace 16 = .ok (.bipush 7, 2) := zo_16 (b1 := 7) (zkb2 zk_cX5_meansPlace zn_cX5_meansPlace (by decide +kernel)) rfl
theorem dX5_meansPlace_18 : decode cX5_meansPlace 18 = .ok (.iand, 1) := zo_126 (zkb zk_cX5_meansPlace zn_cX5_meansPlace (by decide +kernel))
theorem dX5_meansPlace_19 : decode cX5_meansPlace 19 = .ok (.bipush 6, 2) := zo_16 (b1 := 6) (zkb2 zk_cX5_meansPlace zn_cX5_meansPlace (by decide +kernel)) rfl
theorem dX5_meansPlace_21 : decode cX5_meansPlace 21 = .ok (.if_icmp .ne 7, 3) := zo_160 (b1 := 0) (b2 := 7) (zkb3 zk_cX5_meansPlace zn_cX5_meansPlace (by decide +kernel)) rfl
theorem dX5_meansPlace_24 : decode cX5_meansPlace 24 = .ok (.iconst 1, 1) := zo_4 (zkb zk_cX5_meansPlace zn_cX5_meansPlace (by decide +kernel))
theorem dX5_meansPlace_25 : decode cX5_meansPlace 25 = .ok (.goto 4, 3) := zo_167 (b1 := 0) (b2 := 4) (zkb3 zk_cX5_meansPlace zn_cX5_meansPlace (by decide +kernel)) rfl
theorem dX5_meansPlace_28 : decode cX5_meansPlace 28 = .ok (.iconst 0, 1) := zo_3 (zkb zk_cX5_meansPlace zn_cX5_meansPlace (by decide +kernel))
theorem dX5_meansPlace_29 : decode cX5_meansPlace 29 = .ok (.istore_n 2, 1) := zo_61 (zkb zk_cX5_meansPlace zn_cX5_meansPlace (by decide +kernel))
theorem dX5_meansPlace_30 : decode cX5_meansPlace 30 = .ok (.iload_n 0, 1) := zo_26 (zkb zk_cX5_meansPlace zn_cX5_meansPlace (by decide +kernel))
theorem dX5_meansPlace_31 : decode cX5_meansPlace 31 = .ok (.bipush 6, 2) := zo_16 (b1 := 6) (zkb2 zk_cX5_meansPlace zn_cX5_meansPlace (by decide +kernel)) rfl
theorem dX5_meansPlace_33 : decode cX5_meansPlace 33 = .ok (.ishr, 1) := zo_122 (zkb zk_cX5_meansPlace zn_cX5_meansPlace (by decide +kernel))
theorem dX5_meansPlace_34 : decode cX5_meansPlace 34 = .ok (.tableswitch 66 0 2 #[26, 53, 64], 26) := by decide +kernel
theorem dX5_meansPlace_60 : decode cX5_meansPlace 60 = .ok (.iload_n 1, 1) := zo_27 (zkb zk_cX5_meansPlace zn_cX5_meansPlace (by decide +kernel))
theorem dX5_meansPlace_61 : decode cX5_meansPlace 61 = .ok (.ifCond .eq 24, 3) := zo_153 (b1 := 0) (b2 := 24) (zkb3 zk_cX5_meansPlace zn_cX5_meansPlace (by decide +kernel)) rfl
theorem dX5_meansPlace_64 : decode cX5_meansPlace 64 = .ok (.iload_n 0, 1) := zo_26 (zkb zk_cX5_meansPlace zn_cX5_meansPlace (by decide +kernel))
theorem dX5_meansPlace_65 : decode cX5_meansPlace 65 = .ok (.bipush 7, 2) := zo_16 (b1 := 7) (zkb2 zk_cX5_meansPlace zn_cX5_meansPlace (by decide +kernel)) rfl
theorem dX5_meansPlace_67 : decode cX5_meansPlace 67 = .ok (.iand, 1) := zo_126 (zkb zk_cX5_meansPlace zn_cX5_meansPlace (by decide +kernel))
theorem dX5_meansPlace_68 : decode cX5_meansPlace 68 = .ok (.iconst 4, 1) := zo_7 (zkb zk_cX5_meansPlace zn_cX5_meansPlace (by decide +kernel))
theorem dX5_meansPlace_69 : decode cX5_meansPlace 69 = .ok (.if_icmp .lt 16, 3) := zo_161 (b1 := 0) (b2 := 16) (zkb3 zk_cX5_meansPlace zn_cX5_meansPlace (by decide +kernel)) rfl
theorem dX5_meansPlace_72 : decode cX5_meansPlace 72 = .ok (.iload_n 0, 1) := zo_26 (zkb zk_cX5_meansPlace zn_cX5_meansPlace (by decide +kernel))
theorem dX5_meansPlace_73 : decode cX5_meansPlace 73 = .ok (.bipush 7, 2) := zo_16 (b1 := 7) (zkb2 zk_cX5_meansPlace zn_cX5_meansPlace (by decide +kernel)) rfl
theorem dX5_meansPlace_75 : decode cX5_meansPlace 75 = .ok (.iand, 1) := zo_126 (zkb zk_cX5_meansPlace zn_cX5_meansPlace (by decide +kernel))
theorem dX5_meansPlace_76 : decode cX5_meansPlace 76 = .ok (.bipush 6, 2) := zo_16 (b1 := 6) (zkb2 zk_cX5_meansPlace zn_cX5_meansPlace (by decide +kernel)) rfl
theorem dX5_meansPlace_78 : decode cX5_meansPlace 78 = .ok (.if_icmp .gt 7, 3) := zo_163 (b1 := 0) (b2 := 7) (zkb3 zk_cX5_meansPlace zn_cX5_meansPlace (by decide +kernel)) rfl
theorem dX5_meansPlace_81 : decode cX5_meansPlace 81 = .ok (.iconst 1, 1) := zo_4 (zkb zk_cX5_meansPlace zn_cX5_meansPlace (by decide +kernel))
theorem dX5_meansPlace_82 : decode cX5_meansPlace 82 = .ok (.goto 4, 3) := zo_167 (b1 := 0) (b2 := 4) (zkb3 zk_cX5_meansPlace zn_cX5_meansPlace (by decide +kernel)) rfl
theorem dX5_meansPlace_85 : decode cX5_meansPlace 85 = .ok (.iconst 0, 1) := zo_3 (zkb zk_cX5_meansPlace zn_cX5_meansPlace (by decide +kernel))
theorem dX5_meansPlace_86 : decode cX5_meansPlace 86 = .ok (.ireturn, 1) := zo_172 (zkb zk_cX5_meansPlace zn_cX5_meansPlace (by decide +kernel))
theorem dX5_meansPlace_87 : decode cX5_meansPlace 87 = .ok (.iload_n 1, 1) := zo_27 (zkb zk_cX5_meansPlace zn_cX5_meansPlace (by decide +kernel))
theorem dX5_meansPlace_88 : decode cX5_meansPlace 88 = .ok (.iload_n 2, 1) := zo_28 (zkb zk_cX5_meansPlace zn_cX5_meansPlace (by decide +kernel))
theorem dX5_meansPlace_89 : decode cX5_meansPlace 89 = .ok (.if_icmp .eq 7, 3) := zo_159 (b1 := 0) (b2 := 7) (zkb3 zk_cX5_meansPlace zn_cX5_meansPlace (by decide +kernel)) rfl
theorem dX5_meansPlace_92 : decode cX5_meansPlace 92 = .ok (.iconst 1, 1) := zo_4 (zkb zk_cX5_meansPlace zn_cX5_meansPlace (by decide +kernel))
theorem dX5_meansPlace_93 : decode cX5_meansPlace 93 = .ok (.goto 4, 3) := zo_167 (b1 := 0) (b2 := 4) (zkb3 zk_cX5_meansPlace zn_cX5_meansPlace (by decide +kernel)) rfl
theorem dX5_meansPlace_96 : decode cX5_meansPlace 96 = .ok (.iconst 0, 1) := zo_3 (zkb zk_cX5_meansPlace zn_cX5_meansPlace (by decide +kernel))
theorem dX5_meansPlace_97 : decode cX5_meansPlace 97 = .ok (.ireturn, 1) := zo_172 (zkb zk_cX5_meansPlace zn_cX5_meansPlace (by decide +kernel))
theorem dX5_meansPlace_98 : decode cX5_meansPlace 98 = .ok (.iload_n 2, 1) := zo_28 (zkb zk_cX5_meansPlace zn_cX5_meansPlace (by decide +kernel))
theorem dX5_meansPlace_99 : decode cX5_meansPlace 99 = .ok (.ireturn, 1) := zo_172 (zkb zk_cX5_meansPlace zn_cX5_meansPlace (by decide +kernel))
theorem dX5_meansPlace_100 : decode cX5_meansPlace 100 = .ok (.iconst 0, 1) := zo_3 (zkb zk_cX5_meansPlace zn_cX5_meansPlace (by decide +kernel))
theorem dX5_meansPlace_101 : decode cX5_meansPlace 101 = .ok (.ireturn, 1) := zo_172 (zkb zk_cX5_meansPlace zn_cX5_meansPlace (by decide +kernel))
def kn_cX5_fetchWord : Nat := 0xac1b4f7e2f1260052e13100900b42a13100900b42a3c807808104b00b660042e13100900b42a1400b42a4b00b62e13100900b42a1400b42a
theorem zk_cX5_fetchWord : zkd cX5_fetchWord.data.toList kn_cX5_fetchWord = true := by decide +kernel
theorem zn_cX5_fetchWord : cX5_fetchWord.data.toList.length = 56 := by decide +kernel
theorem dX5_fetchWord_0 : decode cX5_fetchWord 0 = .ok (.aload_n 0, 1) := zo_42 (zkb zk_cX5_fetchWord zn_cX5_fetchWord (by decide +kernel))
theorem dX5_fetchWord_1 : decode cX5_fetchWord 1 = .ok (.getfield 20, 3) := zo_180 (b1 := 0) (b2 := 20) (zkb3 zk_cX5_fetchWord zn_cX5_fetchWord (by decide +kernel)) rfl
theorem dX5_fetchWord_4 : decode cX5_fetchWord 4 = .ok (.aload_n 0, 1) := zo_42 (zkb zk_cX5_fetchWord zn_cX5_fetchWord (by decide +kernel))
theorem dX5_fetchWord_5 : decode cX5_fetchWord 5 = .ok (.getfield 9, 3) := zo_180 (b1 := 0) (b2 := 9) (zkb3 zk_cX5_fetchWord zn_cX5_fetchWord (by decide +kernel)) rfl
theorem dX5_fetchWord_8 : decode cX5_fetchWord 8 = .ok (.bipush 19, 2) := zo_16 (b1 := 19) (zkb2 zk_cX5_fetchWord zn_cX5_fetchWord (by decide +kernel)) rfl
theorem dX5_fetchWord_10 : decode cX5_fetchWord 10 = .ok (.iaload, 1) := zo_46 (zkb zk_cX5_fetchWord zn_cX5_fetchWord (by decide +kernel))
theorem dX5_fetchWord_11 : decode cX5_fetchWord 11 = .ok (.invokevirtual 75, 3) := zo_182 (b1 := 0) (b2 := 75) (zkb3 zk_cX5_fetchWord zn_cX5_fetchWord (by decide +kernel)) rfl
theorem dX5_fetchWord_14 : decode cX5_fetchWord 14 = .ok (.aload_n 0, 1) := zo_42 (zkb zk_cX5_fetchWord zn_cX5_fetchWord (by decide +kernel))
theorem dX5_fetchWord_15 : decode cX5_fetchWord 15 = .ok (.getfield 20, 3) := zo_180 (b1 := 0) (b2 := 20) (zkb3 zk_cX5_fetchWord zn_cX5_fetchWord (by decide +kernel)) rfl
theorem dX5_fetchWord_18 : decode cX5_fetchWord 18 = .ok (.aload_n 0, 1) := zo_42 (zkb zk_cX5_fetchWord zn_cX5_fetchWord (by decide +kernel))
theorem dX5_fetchWord_19 : decode cX5_fetchWord 19 = .ok (.getfield 9, 3) := zo_180 (b1 := 0) (b2 := 9) (zkb3 zk_cX5_fetchWord zn_cX5_fetchWord (by decide +kernel)) rfl
theorem dX5_fetchWord_22 : decode cX5_fetchWord 22 = .ok (.bipush 19, 2) := zo_16 (b1 := 19) (zkb2 zk_cX5_fetchWord zn_cX5_fetchWord (by decide +kernel)) rfl
theorem dX5_fetchWord_24 : decode cX5_fetchWord 24 = .ok (.iaload, 1) := zo_46 (zkb zk_cX5_fetchWord zn_cX5_fetchWord (by decide +kernel))
theorem dX5_fetchWord_25 : decode cX5_fetchWord 25 = .ok (.iconst 1, 1) := zo_4 (zkb zk_cX5_fetchWord zn_cX5_fetchWord (by decide +kernel))
theorem dX5_fetchWord_26 : decode cX5_fetchWord 26 = .ok (.iadd, 1) := zo_96 (zkb zk_cX5_fetchWord zn_cX5_fetchWord (by decide +kernel))
theorem dX5_fetchWord_27 : decode cX5_fetchWord 27 = .ok (.invokevirtual 75, 3) := zo_182 (b1 := 0) (b2 := 75) (zkb3 zk_cX5_fetchWord zn_cX5_fetchWord (by decide +kernel)) rfl
theorem dX5_fetchWord_30 : decode cX5_fetchWord 30 = .ok (.bipush 8, 2) := zo_16 (b1 := 8) (zkb2 zk_cX5_fetchWord zn_cX5_fetchWord (by decide +kernel)) rfl
theorem dX5_fetchWord_32 : decode cX5_fetchWord 32 = .ok (.ishl, 1) := zo_120 (zkb zk_cX5_fetchWord zn_cX5_fetchWord (by decide +kernel))
theorem dX5_fetchWord_33 : decode cX5_fetchWord 33 = .ok (.ior, 1) := zo_128 (zkb zk_cX5_fetchWord zn_cX5_fetchWord (by decide +kernel))
theorem dX5_fetchWord_34 : decode cX5_fetchWord 34 = .ok (.istore_n 1, 1) := zo_60 (zkb zk_cX5_fetchWord zn_cX5_fetchWord (by decide +kernel))
theorem dX5_fetchWord_35 : decode cX5_fetchWord 35 = .ok (.aload_n 0, 1) := zo_42 (zkb zk_cX5_fetchWord zn_cX5_fetchWord (by decide +kernel))
theorem dX5_fetchWord_36 : decode cX5_fetchWord 36 = .ok (.getfield 9, 3) := zo_180 (b1 := 0) (b2 := 9) (zkb3 zk_cX5_fetchWord zn_cX5_fetchWord (by decide +kernel)) rfl
theorem dX5_fetchWord_39 : decode cX5_fetchWord 39 = .ok (.bipush 19, 2) := zo_16 (b1 := 19) (zkb2 zk_cX5_fetchWord zn_cX5_fetchWord (by decide +kernel)) rfl
theorem dX5_fetchWord_41 : decode cX5_fetchWord 41 = .ok (.aload_n 0, 1) := zo_42 (zkb zk_cX5_fetchWord zn_cX5_fetchWord (by decide +kernel))
theorem dX5_fetchWord_42 : decode cX5_fetchWord 42 = .ok (.getfield 9, 3) := zo_180 (b1 := 0) (b2 := 9) (zkb3 zk_cX5_fetchWord zn_cX5_fetchWord (by decide +kernel)) rfl
theorem dX5_fetchWord_45 : decode cX5_fetchWord 45 = .ok (.bipush 19, 2) := zo_16 (b1 := 19) (zkb2 zk_cX5_fetchWord zn_cX5_fetchWord (by decide +kernel)) rfl
theorem dX5_fetchWord_47 : decode cX5_fetchWord 47 = .ok (.iaload, 1) := zo_46 (zkb zk_cX5_fetchWord zn_cX5_fetchWord (by decide +kernel))
theorem dX5_fetchWord_48 : decode cX5_fetchWord 48 = .ok (.iconst 2, 1) := zo_5 (zkb zk_cX5_fetchWord zn_cX5_fetchWord (by decide +kernel))
theorem dX5_fetchWord_49 : decode cX5_fetchWord 49 = .ok (.iadd, 1) := zo_96 (zkb zk_cX5_fetchWord zn_cX5_fetchWord (by decide +kernel))
theorem dX5_fetchWord_50 : decode cX5_fetchWord 50 = .ok (.ldc 47, 2) := zo_18 (b1 := 47) (zkb2 zk_cX5_fetchWord zn_cX5_fetchWord (by decide +kernel))
theorem dX5_fetchWord_52 : decode cX5_fetchWord 52 = .ok (.iand, 1) := zo_126 (zkb zk_cX5_fetchWord zn_cX5_fetchWord (by decide +kernel))
theorem dX5_fetchWord_53 : decode cX5_fetchWord 53 = .ok (.iastore, 1) := zo_79 (zkb zk_cX5_fetchWord zn_cX5_fetchWord (by decide +kernel))
theorem dX5_fetchWord_54 : decode cX5_fetchWord 54 = .ok (.iload_n 1, 1) := zo_27 (zkb zk_cX5_fetchWord zn_cX5_fetchWord (by decide +kernel))
theorem dX5_fetchWord_55 : decode cX5_fetchWord 55 = .ok (.ireturn, 1) := zo_172 (zkb zk_cX5_fetchWord zn_cX5_fetchWord (by decide +kernel))
def kn_cX5_writeWord : Nat := 0xb17500b67a08101c60041b1400b42a7500b67eff00111c1b1400b42a
theorem zk_cX5_writeWord : zkd cX5_writeWord.data.toList kn_cX5_writeWord = true := by decide +kernel
theorem zn_cX5_writeWord : cX5_writeWord.data.toList.length = 28 := by decide +kernel
theorem dX5_writeWord_0 : decode cX5_writeWord 0 = .ok (.aload_n 0, 1) := zo_42 (zkb zk_cX5_writeWord zn_cX5_writeWord (by decide +kernel))
theorem dX5_writeWord_1 : decode cX5_writeWord 1 = .ok (.getfield 20, 3) := zo_180 (b1 := 0) (b2 := 20) (zkb3 zk_cX5_writeWord zn_cX5_writeWord (by decide +kernel)) rfl
theorem dX5_writeWord_4 : decode cX5_writeWord 4 = .ok (.iload_n 1, 1) := zo_27 (zkb zk_cX5_writeWord zn_cX5_writeWord (by decide +kernel))
theorem dX5_writeWord_5 : decode cX5_writeWord 5 = .ok (.iload_n 2, 1) := zo_28 (zkb zk_cX5_writeWord zn_cX5_writeWord (by decide +kernel))
theorem dX5_writeWord_6 : decode cX5_writeWord 6 = .ok (.sipush 255, 3) := zo_17 (b1 := 0) (b2 := 255) (zkb3 zk_cX5_writeWord zn_cX5_writeWord (by decide +kernel)) rfl
theorem dX5_writeWord_9 : decode cX5_writeWord 9 = .ok (.iand, 1) := zo_126 (zkb zk_cX5_writeWord zn_cX5_writeWord (by decide +kernel))
theorem dX5_writeWord_10 : decode cX5_writeWord 10 = .ok (.invokevirtual 117, 3) := zo_182 (b1 := 0) (b2 := 117) (zkb3 zk_cX5_writeWord zn_cX5_writeWord (by decide +kernel)) rfl
theorem dX5_writeWord_13 : decode cX5_writeWord 13 = .ok (.aload_n 0, 1) := zo_42 (zkb zk_cX5_writeWord zn_cX5_writeWord (by decide +kernel))
theorem dX5_writeWord_14 : decode cX5_writeWord 14 = .ok (.getfield 20, 3) := zo_180 (b1 := 0) (b2 := 20) (zkb3 zk_cX5_writeWord zn_cX5_writeWord (by decide +kernel)) rfl
theorem dX5_writeWord_17 : decode cX5_writeWord 17 = .ok (.iload_n 1, 1) := zo_27 (zkb zk_cX5_writeWord zn_cX5_writeWord (by decide +kernel))
theorem dX5_writeWord_18 : decode cX5_writeWord 18 = .ok (.iconst 1, 1) := zo_4 (zkb zk_cX5_writeWord zn_cX5_writeWord (by decide +kernel))
theorem dX5_writeWord_19 : decode cX5_writeWord 19 = .ok (.iadd, 1) := zo_96 (zkb zk_cX5_writeWord zn_cX5_writeWord (by decide +kernel))
theorem dX5_writeWord_20 : decode cX5_writeWord 20 = .ok (.iload_n 2, 1) := zo_28 (zkb zk_cX5_writeWord zn_cX5_writeWord (by decide +kernel))
theorem dX5_writeWord_21 : decode cX5_writeWord 21 = .ok (.bipush 8, 2) := zo_16 (b1 := 8) (zkb2 zk_cX5_writeWord zn_cX5_writeWord (by decide +kernel)) rfl
theorem dX5_writeWord_23 : decode cX5_writeWord 23 = .ok (.ishr, 1) := zo_122 (zkb zk_cX5_writeWord zn_cX5_writeWord (by decide +kernel))
theorem dX5_writeWord_24 : decode cX5_writeWord 24 = .ok (.invokevirtual 117, 3) := zo_182 (b1 := 0) (b2 := 117) (zkb3 zk_cX5_writeWord zn_cX5_writeWord (by decide +kernel)) rfl
theorem dX5_writeWord_27 : decode cX5_writeWord 27 = .ok (.return_, 1) := zo_177 (zkb zk_cX5_writeWord zn_cX5_writeWord (by decide +kernel))
def kn_cX5_pop : Nat := 0xac1b4f7e2f1260052e12100900b42a12100900b42a3c807808104b00b660042e12100900b42a1400b42a4b00b62e12100900b42a1400b42a
theorem zk_cX5_pop : zkd cX5_pop.data.toList kn_cX5_pop = true := by decide +kernel
theorem zn_cX5_pop : cX5_pop.data.toList.length = 56 := by decide +kernel
theorem dX5_pop_0 : decode cX5_pop 0 = .ok (.aload_n 0, 1) := zo_42 (zkb zk_cX5_pop zn_cX5_pop (by decide +kernel))
theorem dX5_pop_1 : decode cX5_pop 1 = .ok (.getfield 20, 3) := zo_180 (b1 := 0) (b2 := 20) (zkb3 zk_cX5_pop zn_cX5_pop (by decide +kernel)) rfl
theorem dX5_pop_4 : decode cX5_pop 4 = .ok (.aload_n 0, 1) := zo_42 (zkb zk_cX5_pop zn_cX5_pop (by decide +kernel))
theorem dX5_pop_5 : decode cX5_pop 5 = .ok (.getfield 9, 3) := zo_180 (b1 := 0) (b2 := 9) (zkb3 zk_cX5_pop zn_cX5_pop (by decide +kernel)) rfl
theorem dX5_pop_8 : decode cX5_pop 8 = .ok (.bipush 18, 2) := zo_16 (b1 := 18) (zkb2 zk_cX5_pop zn_cX5_pop (by decide +kernel)) rfl
theorem dX5_pop_10 : decode cX5_pop 10 = .ok (.iaload, 1) := zo_46 (zkb zk_cX5_pop zn_cX5_pop (by decide +kernel))
theorem dX5_pop_11 : decode cX5_pop 11 = .ok (.invokevirtual 75, 3) := zo_182 (b1 := 0) (b2 := 75) (zkb3 zk_cX5_pop zn_cX5_pop (by decide +kernel)) rfl
theorem dX5_pop_14 : decode cX5_pop 14 = .ok (.aload_n 0, 1) := zo_42 (zkb zk_cX5_pop zn_cX5_pop (by decide +kernel))
theorem dX5_pop_15 : decode cX5_pop 15 = .ok (.getfield 20, 3) := zo_180 (b1 := 0) (b2 := 20) (zkb3 zk_cX5_pop zn_cX5_pop (by decide +kernel)) rfl
theorem dX5_pop_18 : decode cX5_pop 18 = .ok (.aload_n 0, 1) := zo_42 (zkb zk_cX5_pop zn_cX5_pop (by decide +kernel))
theorem dX5_pop_19 : decode cX5_pop 19 = .ok (.getfield 9, 3) := zo_180 (b1 := 0) (b2 := 9) (zkb3 zk_cX5_pop zn_cX5_pop (by decide +kernel)) rfl
theorem dX5_pop_22 : decode cX5_pop 22 = .ok (.bipush 18, 2) := zo_16 (b1 := 18) (zkb2 zk_cX5_pop zn_cX5_pop (by decide +kernel)) rfl
theorem dX5_pop_24 : decode cX5_pop 24 = .ok (.iaload, 1) := zo_46 (zkb zk_cX5_pop zn_cX5_pop (by decide +kernel))
theorem dX5_pop_25 : decode cX5_pop 25 = .ok (.iconst 1, 1) := zo_4 (zkb zk_cX5_pop zn_cX5_pop (by decide +kernel))
theorem dX5_pop_26 : decode cX5_pop 26 = .ok (.iadd, 1) := zo_96 (zkb zk_cX5_pop zn_cX5_pop (by decide +kernel))
theorem dX5_pop_27 : decode cX5_pop 27 = .ok (.invokevirtual 75, 3) := zo_182 (b1 := 0) (b2 := 75) (zkb3 zk_cX5_pop zn_cX5_pop (by decide +kernel)) rfl
theorem dX5_pop_30 : decode cX5_pop 30 = .ok (.bipush 8, 2) := zo_16 (b1 := 8) (zkb2 zk_cX5_pop zn_cX5_pop (by decide +kernel)) rfl
theorem dX5_pop_32 : decode cX5_pop 32 = .ok (.ishl, 1) := zo_120 (zkb zk_cX5_pop zn_cX5_pop (by decide +kernel))
theorem dX5_pop_33 : decode cX5_pop 33 = .ok (.ior, 1) := zo_128 (zkb zk_cX5_pop zn_cX5_pop (by decide +kernel))
theorem dX5_pop_34 : decode cX5_pop 34 = .ok (.istore_n 1, 1) := zo_60 (zkb zk_cX5_pop zn_cX5_pop (by decide +kernel))
theorem dX5_pop_35 : decode cX5_pop 35 = .ok (.aload_n 0, 1) := zo_42 (zkb zk_cX5_pop zn_cX5_pop (by decide +kernel))
theorem dX5_pop_36 : decode cX5_pop 36 = .ok (.getfield 9, 3) := zo_180 (b1 := 0) (b2 := 9) (zkb3 zk_cX5_pop zn_cX5_pop (by decide +kernel)) rfl
theorem dX5_pop_39 : decode cX5_pop 39 = .ok (.bipush 18, 2) := zo_16 (b1 := 18) (zkb2 zk_cX5_pop zn_cX5_pop (by decide +kernel)) rfl
theorem dX5_pop_41 : decode cX5_pop 41 = .ok (.aload_n 0, 1) := zo_42 (zkb zk_cX5_pop zn_cX5_pop (by decide +kernel))
theorem dX5_pop_42 : decode cX5_pop 42 = .ok (.getfield 9, 3) := zo_180 (b1 := 0) (b2 := 9) (zkb3 zk_cX5_pop zn_cX5_pop (by decide +kernel)) rfl
theorem dX5_pop_45 : decode cX5_pop 45 = .ok (.bipush 18, 2) := zo_16 (b1 := 18) (zkb2 zk_cX5_pop zn_cX5_pop (by decide +kernel)) rfl
theorem dX5_pop_47 : decode cX5_pop 47 = .ok (.iaload, 1) := zo_46 (zkb zk_cX5_pop zn_cX5_pop (by decide +kernel))
theorem dX5_pop_48 : decode cX5_pop 48 = .ok (.iconst 2, 1) := zo_5 (zkb zk_cX5_pop zn_cX5_pop (by decide +kernel))
theorem dX5_pop_49 : decode cX5_pop 49 = .ok (.iadd, 1) := zo_96 (zkb zk_cX5_pop zn_cX5_pop (by decide +kernel))
theorem dX5_pop_50 : decode cX5_pop 50 = .ok (.ldc 47, 2) := zo_18 (b1 := 47) (zkb2 zk_cX5_pop zn_cX5_pop (by decide +kernel))
theorem dX5_pop_52 : decode cX5_pop 52 = .ok (.iand, 1) := zo_126 (zkb zk_cX5_pop zn_cX5_pop (by decide +kernel))
theorem dX5_pop_53 : decode cX5_pop 53 = .ok (.iastore, 1) := zo_79 (zkb zk_cX5_pop zn_cX5_pop (by decide +kernel))
theorem dX5_pop_54 : decode cX5_pop 54 = .ok (.iload_n 1, 1) := zo_27 (zkb zk_cX5_pop zn_cX5_pop (by decide +kernel))
theorem dX5_pop_55 : decode cX5_pop 55 = .ok (.ireturn, 1) := zo_172 (zkb zk_cX5_pop zn_cX5_pop (by decide +kernel))
def kn_cX5_putPairAt : Nat := 0xb14f7eff00111c60041b0900b42a4f7eff00117a08101c1b0900b42a
theorem zk_cX5_putPairAt : zkd cX5_putPairAt.data.toList kn_cX5_putPairAt = true := by decide +kernel
theorem zn_cX5_putPairAt : cX5_putPairAt.data.toList.length = 28 := by decide +kernel
theorem dX5_putPairAt_0 : decode cX5_putPairAt 0 = .ok (.aload_n 0, 1) := zo_42 (zkb zk_cX5_putPairAt zn_cX5_putPairAt (by decide +kernel))
theorem dX5_putPairAt_1 : decode cX5_putPairAt 1 = .ok (.getfield 9, 3) := zo_180 (b1 := 0) (b2 := 9) (zkb3 zk_cX5_putPairAt zn_cX5_putPairAt (by decide +kernel)) rfl
theorem dX5_putPairAt_4 : decode cX5_putPairAt 4 = .ok (.iload_n 1, 1) := zo_27 (zkb zk_cX5_putPairAt zn_cX5_putPairAt (by decide +kernel))
theorem dX5_putPairAt_5 : decode cX5_putPairAt 5 = .ok (.iload_n 2, 1) := zo_28 (zkb zk_cX5_putPairAt zn_cX5_putPairAt (by decide +kernel))
theorem dX5_putPairAt_6 : decode cX5_putPairAt 6 = .ok (.bipush 8, 2) := zo_16 (b1 := 8) (zkb2 zk_cX5_putPairAt zn_cX5_putPairAt (by decide +kernel)) rfl
theorem dX5_putPairAt_8 : decode cX5_putPairAt 8 = .ok (.ishr, 1) := zo_122 (zkb zk_cX5_putPairAt zn_cX5_putPairAt (by decide +kernel))
theorem dX5_putPairAt_9 : decode cX5_putPairAt 9 = .ok (.sipush 255, 3) := zo_17 (b1 := 0) (b2 := 255) (zkb3 zk_cX5_putPairAt zn_cX5_putPairAt (by decide +kernel)) rfl
theorem dX5_putPairAt_12 : decode cX5_putPairAt 12 = .ok (.iand, 1) := zo_126 (zkb zk_cX5_putPairAt zn_cX5_putPairAt (by decide +kernel))
theorem dX5_putPairAt_13 : decode cX5_putPairAt 13 = .ok (.iastore, 1) := zo_79 (zkb zk_cX5_putPairAt zn_cX5_putPairAt (by decide +kernel))
theorem dX5_putPairAt_14 : decode cX5_putPairAt 14 = .ok (.aload_n 0, 1) := zo_42 (zkb zk_cX5_putPairAt zn_cX5_putPairAt (by decide +kernel))
theorem dX5_putPairAt_15 : decode cX5_putPairAt 15 = .ok (.getfield 9, 3) := zo_180 (b1 := 0) (b2 := 9) (zkb3 zk_cX5_putPairAt zn_cX5_putPairAt (by decide +kernel)) rfl
theorem dX5_putPairAt_18 : decode cX5_putPairAt 18 = .ok (.iload_n 1, 1) := zo_27 (zkb zk_cX5_putPairAt zn_cX5_putPairAt (by decide +kernel))
theorem dX5_putPairAt_19 : decode cX5_putPairAt 19 = .ok (.iconst 1, 1) := zo_4 (zkb zk_cX5_putPairAt zn_cX5_putPairAt (by decide +kernel))
theorem dX5_putPairAt_20 : decode cX5_putPairAt 20 = .ok (.iadd, 1) := zo_96 (zkb zk_cX5_putPairAt zn_cX5_putPairAt (by decide +kernel))
theorem dX5_putPairAt_21 : decode cX5_putPairAt 21 = .ok (.iload_n 2, 1) := zo_28 (zkb zk_cX5_putPairAt zn_cX5_putPairAt (by decide +kernel))
theorem dX5_putPairAt_22 : decode cX5_putPairAt 22 = .ok (.sipush 255, 3) := zo_17 (b1 := 0) (b2 := 255) (zkb3 zk_cX5_putPairAt zn_cX5_putPairAt (by decide +kernel)) rfl
theorem dX5_putPairAt_25 : decode cX5_putPairAt 25 = .ok (.iand, 1) := zo_126 (zkb zk_cX5_putPairAt zn_cX5_putPairAt (by decide +kernel))
theorem dX5_putPairAt_26 : decode cX5_putPairAt 26 = .ok (.iastore, 1) := zo_79 (zkb zk_cX5_putPairAt zn_cX5_putPairAt (by decide +kernel))
theorem dX5_putPairAt_27 : decode cX5_putPairAt 27 = .ok (.return_, 1) := zo_177 (zkb zk_cX5_putPairAt zn_cX5_putPairAt (by decide +kernel))
def kn_cX5_hl : Nat := 0xac2e1000b42a0900b42a0c00a74100b606102a0c00a006101000b42a
theorem zk_cX5_hl : zkd cX5_hl.data.toList kn_cX5_hl = true := by decide +kernel
theorem zn_cX5_hl : cX5_hl.data.toList.length = 28 := by decide +kernel
theorem dX5_hl_0 : decode cX5_hl 0 = .ok (.aload_n 0, 1) := zo_42 (zkb zk_cX5_hl zn_cX5_hl (by decide +kernel))
theorem dX5_hl_1 : decode cX5_hl 1 = .ok (.getfield 16, 3) := zo_180 (b1 := 0) (b2 := 16) (zkb3 zk_cX5_hl zn_cX5_hl (by decide +kernel)) rfl
theorem dX5_hl_4 : decode cX5_hl 4 = .ok (.bipush 6, 2) := zo_16 (b1 := 6) (zkb2 zk_cX5_hl zn_cX5_hl (by decide +kernel)) rfl
theorem dX5_hl_6 : decode cX5_hl 6 = .ok (.if_icmp .ne 12, 3) := zo_160 (b1 := 0) (b2 := 12) (zkb3 zk_cX5_hl zn_cX5_hl (by decide +kernel)) rfl
theorem dX5_hl_9 : decode cX5_hl 9 = .ok (.aload_n 0, 1) := zo_42 (zkb zk_cX5_hl zn_cX5_hl (by decide +kernel))
theorem dX5_hl_10 : decode cX5_hl 10 = .ok (.bipush 6, 2) := zo_16 (b1 := 6) (zkb2 zk_cX5_hl zn_cX5_hl (by decide +kernel)) rfl
theorem dX5_hl_12 : decode cX5_hl 12 = .ok (.invokevirtual 65, 3) := zo_182 (b1 := 0) (b2 := 65) (zkb3 zk_cX5_hl zn_cX5_hl (by decide +kernel)) rfl
theorem dX5_hl_15 : decode cX5_hl 15 = .ok (.goto 12, 3) := zo_167 (b1 := 0) (b2 := 12) (zkb3 zk_cX5_hl zn_cX5_hl (by decide +kernel)) rfl
theorem dX5_hl_18 : decode cX5_hl 18 = .ok (.aload_n 0, 1) := zo_42 (zkb zk_cX5_hl zn_cX5_hl (by decide +kernel))
theorem dX5_hl_19 : decode cX5_hl 19 = .ok (.getfield 9, 3) := zo_180 (b1 := 0) (b2 := 9) (zkb3 zk_cX5_hl zn_cX5_hl (by decide +kernel)) rfl
theorem dX5_hl_22 : decode cX5_hl 22 = .ok (.aload_n 0, 1) := zo_42 (zkb zk_cX5_hl zn_cX5_hl (by decide +kernel))
theorem dX5_hl_23 : decode cX5_hl 23 = .ok (.getfield 16, 3) := zo_180 (b1 := 0) (b2 := 16) (zkb3 zk_cX5_hl zn_cX5_hl (by decide +kernel)) rfl
theorem dX5_hl_26 : decode cX5_hl 26 = .ok (.iaload, 1) := zo_46 (zkb zk_cX5_hl zn_cX5_hl (by decide +kernel))
theorem dX5_hl_27 : decode cX5_hl 27 = .ok (.ireturn, 1) := zo_172 (zkb zk_cX5_hl zn_cX5_hl (by decide +kernel))
def kn_cX5_putHl : Nat := 0xb14f7e2f121b1000b42a0900b42a1000a77900b61b06102a0d00a006101000b42a
theorem zk_cX5_putHl : zkd cX5_putHl.data.toList kn_cX5_putHl = true := by decide +kernel
theorem zn_cX5_putHl : cX5_putHl.data.toList.length = 33 := by decide +kernel
theorem dX5_putHl_0 : decode cX5_putHl 0 = .ok (.aload_n 0, 1) := zo_42 (zkb zk_cX5_putHl zn_cX5_putHl (by decide +kernel))
theorem dX5_putHl_1 : decode cX5_putHl 1 = .ok (.getfield 16, 3) := zo_180 (b1 := 0) (b2 := 16) (zkb3 zk_cX5_putHl zn_cX5_putHl (by decide +kernel)) rfl
theorem dX5_putHl_4 : decode cX5_putHl 4 = .ok (.bipush 6, 2) := zo_16 (b1 := 6) (zkb2 zk_cX5_putHl zn_cX5_putHl (by decide +kernel)) rfl
theorem dX5_putHl_6 : decode cX5_putHl 6 = .ok (.if_icmp .ne 13, 3) := zo_160 (b1 := 0) (b2 := 13) (zkb3 zk_cX5_putHl zn_cX5_putHl (by decide +kernel)) rfl
theorem dX5_putHl_9 : decode cX5_putHl 9 = .ok (.aload_n 0, 1) := zo_42 (zkb zk_cX5_putHl zn_cX5_putHl (by decide +kernel))
theorem dX5_putHl_10 : decode cX5_putHl 10 = .ok (.bipush 6, 2) := zo_16 (b1 := 6) (zkb2 zk_cX5_putHl zn_cX5_putHl (by decide +kernel)) rfl
theorem dX5_putHl_12 : decode cX5_putHl 12 = .ok (.iload_n 1, 1) := zo_27 (zkb zk_cX5_putHl zn_cX5_putHl (by decide +kernel))
theorem dX5_putHl_13 : decode cX5_putHl 13 = .ok (.invokevirtual 121, 3) := zo_182 (b1 := 0) (b2 := 121) (zkb3 zk_cX5_putHl zn_cX5_putHl (by decide +kernel)) rfl
theorem dX5_putHl_16 : decode cX5_putHl 16 = .ok (.goto 16, 3) := zo_167 (b1 := 0) (b2 := 16) (zkb3 zk_cX5_putHl zn_cX5_putHl (by decide +kernel)) rfl
theorem dX5_putHl_19 : decode cX5_putHl 19 = .ok (.aload_n 0, 1) := zo_42 (zkb zk_cX5_putHl zn_cX5_putHl (by decide +kernel))
theorem dX5_putHl_20 : decode cX5_putHl 20 = .ok (.getfield 9, 3) := zo_180 (b1 := 0) (b2 := 9) (zkb3 zk_cX5_putHl zn_cX5_putHl (by decide +kernel)) rfl
theorem dX5_putHl_23 : decode cX5_putHl 23 = .ok (.aload_n 0, 1) := zo_42 (zkb zk_cX5_putHl zn_cX5_putHl (by decide +kernel))
theorem dX5_putHl_24 : decode cX5_putHl 24 = .ok (.getfield 16, 3) := zo_180 (b1 := 0) (b2 := 16) (zkb3 zk_cX5_putHl zn_cX5_putHl (by decide +kernel)) rfl
theorem dX5_putHl_27 : decode cX5_putHl 27 = .ok (.iload_n 1, 1) := zo_27 (zkb zk_cX5_putHl zn_cX5_putHl (by decide +kernel))
theorem dX5_putHl_28 : decode cX5_putHl 28 = .ok (.ldc 47, 2) := zo_18 (b1 := 47) (zkb2 zk_cX5_putHl zn_cX5_putHl (by decide +kernel))
theorem dX5_putHl_30 : decode cX5_putHl 30 = .ok (.iand, 1) := zo_126 (zkb zk_cX5_putHl zn_cX5_putHl (by decide +kernel))
theorem dX5_putHl_31 : decode cX5_putHl 31 = .ok (.iastore, 1) := zo_79 (zkb zk_cX5_putHl zn_cX5_putHl (by decide +kernel))
theorem dX5_putHl_32 : decode cX5_putHl 32 = .ok (.return_, 1) := zo_177 (zkb zk_cX5_putHl zn_cX5_putHl (by decide +kernel))
def kn_cX5_pair : Nat := 0xac2e12100900b42aac7c00b62aac4100b6072aac4100b6052a27000000210000001b00000002000000000000002c0000000000aa1b
theorem zk_cX5_pair : zkd cX5_pair.data.toList kn_cX5_pair = true := by decide +kernel
theorem zn_cX5_pair : cX5_pair.data.toList.length = 53 := by decide +kernel
theorem dX5_pair_0 : decode cX5_pair 0 = .ok (.iload_n 1, 1) := zo_27 (zkb zk_cX5_pair zn_cX5_pair (by decide +kernel))
theorem dX5_pair_1 : decode cX5_pair 1 = .ok (.tableswitch 44 0 2 #[27, 33, 39], 27) := by decide +kernel
theorem dX5_pair_28 : decode cX5_pair 28 = .ok (.aload_n 0, 1) := zo_42 (zkb zk_cX5_pair zn_cX5_pair (by decide +kernel))
theorem dX5_pair_29 : decode cX5_pair 29 = .ok (.iconst 2, 1) := zo_5 (zkb zk_cX5_pair zn_cX5_pair (by decide +kernel))
theorem dX5_pair_30 : decode cX5_pair 30 = .ok (.invokevirtual 65, 3) := zo_182 (b1 := 0) (b2 := 65) (zkb3 zk_cX5_pair zn_cX5_pair (by decide +kernel)) rfl
theorem dX5_pair_33 : decode cX5_pair 33 = .ok (.ireturn, 1) := zo_172 (zkb zk_cX5_pair zn_cX5_pair (by decide +kernel))
theorem dX5_pair_34 : decode cX5_pair 34 = .ok (.aload_n 0, 1) := zo_42 (zkb zk_cX5_pair zn_cX5_pair (by decide +kernel))
theorem dX5_pair_35 : decode cX5_pair 35 = .ok (.iconst 4, 1) := zo_7 (zkb zk_cX5_pair zn_cX5_pair (by decide +kernel))
theorem dX5_pair_36 : decode cX5_pair 36 = .ok (.invokevirtual 65, 3) := zo_182 (b1 := 0) (b2 := 65) (zkb3 zk_cX5_pair zn_cX5_pair (by decide +kernel)) rfl
theorem dX5_pair_39 : decode cX5_pair 39 = .ok (.ireturn, 1) := zo_172 (zkb zk_cX5_pair zn_cX5_pair (by decide +kernel))
theorem dX5_pair_40 : decode cX5_pair 40 = .ok (.aload_n 0, 1) := zo_42 (zkb zk_cX5_pair zn_cX5_pair (by decide +kernel))
theorem dX5_pair_41 : decode cX5_pair 41 = .ok (.invokevirtual 124, 3) := zo_182 (b1 := 0) (b2 := 124) (zkb3 zk_cX5_pair zn_cX5_pair (by decide +kernel)) rfl
theorem dX5_pair_44 : decode cX5_pair 44 = .ok (.ireturn, 1) := zo_172 (zkb zk_cX5_pair zn_cX5_pair (by decide +kernel))
theorem dX5_pair_45 : decode cX5_pair 45 = .ok (.aload_n 0, 1) := zo_42 (zkb zk_cX5_pair zn_cX5_pair (by decide +kernel))
theorem dX5_pair_46 : decode cX5_pair 46 = .ok (.getfield 9, 3) := zo_180 (b1 := 0) (b2 := 9) (zkb3 zk_cX5_pair zn_cX5_pair (by decide +kernel)) rfl
theorem dX5_pair_49 : decode cX5_pair 49 = .ok (.bipush 18, 2) := zo_16 (b1 := 18) (zkb2 zk_cX5_pair zn_cX5_pair (by decide +kernel)) rfl
theorem dX5_pair_51 : decode cX5_pair 51 = .ok (.iaload, 1) := zo_46 (zkb zk_cX5_pair zn_cX5_pair (by decide +kernel))
theorem dX5_pair_52 : decode cX5_pair 52 = .ok (.ireturn, 1) := zo_172 (zkb zk_cX5_pair zn_cX5_pair (by decide +kernel))
def kn_cX5_putPair : Nat := 0xb14f7e2f121c12100900b42a0e00a77f00b61c2a1600a77900b61c072a1f00a77900b61c052a2d000000240000001b0000000200000000000000350000000000aa1b
theorem zk_cX5_putPair : zkd cX5_putPair.data.toList kn_cX5_putPair = true := by decide +kernel
theorem zn_cX5_putPair : cX5_putPair.data.toList.length = 66 := by decide +kernel
theorem dX5_putPair_0 : decode cX5_putPair 0 = .ok (.iload_n 1, 1) := zo_27 (zkb zk_cX5_putPair zn_cX5_putPair (by decide +kernel))
theorem dX5_putPair_1 : decode cX5_putPair 1 = .ok (.tableswitch 53 0 2 #[27, 36, 45], 27) := by decide +kernel
theorem dX5_putPair_28 : decode cX5_putPair 28 = .ok (.aload_n 0, 1) := zo_42 (zkb zk_cX5_putPair zn_cX5_putPair (by decide +kernel))
theorem dX5_putPair_29 : decode cX5_putPair 29 = .ok (.iconst 2, 1) := zo_5 (zkb zk_cX5_putPair zn_cX5_putPair (by decide +kernel))
theorem dX5_putPair_30 : decode cX5_putPair 30 = .ok (.iload_n 2, 1) := zo_28 (zkb zk_cX5_putPair zn_cX5_putPair (by decide +kernel))
theorem dX5_putPair_31 : decode cX5_putPair 31 = .ok (.invokevirtual 121, 3) := zo_182 (b1 := 0) (b2 := 121) (zkb3 zk_cX5_putPair zn_cX5_putPair (by decide +kernel)) rfl
theorem dX5_putPair_34 : decode cX5_putPair 34 = .ok (.goto 31, 3) := zo_167 (b1 := 0) (b2 := 31) (zkb3 zk_cX5_putPair zn_cX5_putPair (by decide +kernel)) rfl
theorem dX5_putPair_37 : decode cX5_putPair 37 = .ok (.aload_n 0, 1) := zo_42 (zkb zk_cX5_putPair zn_cX5_putPair (by decide +kernel))
theorem dX5_putPair_38 : decode cX5_putPair 38 = .ok (.iconst 4, 1) := zo_7 (zkb zk_cX5_putPair zn_cX5_putPair (by decide +kernel))
theorem dX5_putPair_39 : decode cX5_putPair 39 = .ok (.iload_n 2, 1) := zo_28 (zkb zk_cX5_putPair zn_cX5_putPair (by decide +kernel))
theorem dX5_putPair_40 : decode cX5_putPair 40 = .ok (.invokevirtual 121, 3) := zo_182 (b1 := 0) (b2 := 121) (zkb3 zk_cX5_putPair zn_cX5_putPair (by decide +kernel)) rfl
theorem dX5_putPair_43 : decode cX5_putPair 43 = .ok (.goto 22, 3) := zo_167 (b1 := 0) (b2 := 22) (zkb3 zk_cX5_putPair zn_cX5_putPair (by decide +kernel)) rfl
theorem dX5_putPair_46 : decode cX5_putPair 46 = .ok (.aload_n 0, 1) := zo_42 (zkb zk_cX5_putPair zn_cX5_putPair (by decide +kernel))
theorem dX5_putPair_47 : decode cX5_putPair 47 = .ok (.iload_n 2, 1) := zo_28 (zkb zk_cX5_putPair zn_cX5_putPair (by decide +kernel))
theorem dX5_putPair_48 : decode cX5_putPair 48 = .ok (.invokevirtual 127, 3) := zo_182 (b1 := 0) (b2 := 127) (zkb3 zk_cX5_putPair zn_cX5_putPair (by decide +kernel)) rfl
theorem dX5_putPair_51 : decode cX5_putPair 51 = .ok (.goto 14, 3) := zo_167 (b1 := 0) (b2 := 14) (zkb3 zk_cX5_putPair zn_cX5_putPair (by decide +kernel)) rfl
theorem dX5_putPair_54 : decode cX5_putPair 54 = .ok (.aload_n 0, 1) := zo_42 (zkb zk_cX5_putPair zn_cX5_putPair (by decide +kernel))
theorem dX5_putPair_55 : decode cX5_putPair 55 = .ok (.getfield 9, 3) := zo_180 (b1 := 0) (b2 := 9) (zkb3 zk_cX5_putPair zn_cX5_putPair (by decide +kernel)) rfl
theorem dX5_putPair_58 : decode cX5_putPair 58 = .ok (.bipush 18, 2) := zo_16 (b1 := 18) (zkb2 zk_cX5_putPair zn_cX5_putPair (by decide +kernel)) rfl
theorem dX5_putPair_60 : decode cX5_putPair 60 = .ok (.iload_n 2, 1) := zo_28 (zkb zk_cX5_putPair zn_cX5_putPair (by decide +kernel))
theorem dX5_putPair_61 : decode cX5_putPair 61 = .ok (.ldc 47, 2) := zo_18 (b1 := 47) (zkb2 zk_cX5_putPair zn_cX5_putPair (by decide +kernel))
theorem dX5_putPair_63 : decode cX5_putPair 63 = .ok (.iand, 1) := zo_126 (zkb zk_cX5_putPair zn_cX5_putPair (by decide +kernel))
theorem dX5_putPair_64 : decode cX5_putPair 64 = .ok (.iastore, 1) := zo_79 (zkb zk_cX5_putPair zn_cX5_putPair (by decide +kernel))
theorem dX5_putPair_65 : decode cX5_putPair 65 = .ok (.return_, 1) := zo_177 (zkb zk_cX5_putPair zn_cX5_putPair (by decide +kernel))
def kn_cX5_one : Nat := 0xac2e607e061b050900b42aac2e030900b42aac4b00b64400b42a1400b42aac7eff00112e1000b42a0900b42a1000a72e07100900b42a0d00a006101000b42aac7a08102e1000b42a0900b42a0f00a72e06100900b42a0d00a006101000b42a6c000000600000003f0000001f0000000700000004000000730000000000aa1b
theorem zk_cX5_one : zkd cX5_one.data.toList kn_cX5_one = true := by decide +kernel
theorem zn_cX5_one : cX5_one.data.toList.length = 127 := by decide +kernel
theorem dX5_one_0 : decode cX5_one 0 = .ok (.iload_n 1, 1) := zo_27 (zkb zk_cX5_one zn_cX5_one (by decide +kernel))
theorem dX5_one_1 : decode cX5_one 1 = .ok (.tableswitch 115 4 7 #[31, 63, 96, 108], 31) := by decide +kernel
theorem dX5_one_32 : decode cX5_one 32 = .ok (.aload_n 0, 1) := zo_42 (zkb zk_cX5_one zn_cX5_one (by decide +kernel))
theorem dX5_one_33 : decode cX5_one 33 = .ok (.getfield 16, 3) := zo_180 (b1 := 0) (b2 := 16) (zkb3 zk_cX5_one zn_cX5_one (by decide +kernel)) rfl
theorem dX5_one_36 : decode cX5_one 36 = .ok (.bipush 6, 2) := zo_16 (b1 := 6) (zkb2 zk_cX5_one zn_cX5_one (by decide +kernel)) rfl
theorem dX5_one_38 : decode cX5_one 38 = .ok (.if_icmp .ne 13, 3) := zo_160 (b1 := 0) (b2 := 13) (zkb3 zk_cX5_one zn_cX5_one (by decide +kernel)) rfl
theorem dX5_one_41 : decode cX5_one 41 = .ok (.aload_n 0, 1) := zo_42 (zkb zk_cX5_one zn_cX5_one (by decide +kernel))
theorem dX5_one_42 : decode cX5_one 42 = .ok (.getfield 9, 3) := zo_180 (b1 := 0) (b2 := 9) (zkb3 zk_cX5_one zn_cX5_one (by decide +kernel)) rfl
theorem dX5_one_45 : decode cX5_one 45 = .ok (.bipush 6, 2) := zo_16 (b1 := 6) (zkb2 zk_cX5_one zn_cX5_one (by decide +kernel)) rfl
theorem dX5_one_47 : decode cX5_one 47 = .ok (.iaload, 1) := zo_46 (zkb zk_cX5_one zn_cX5_one (by decide +kernel))
theorem dX5_one_48 : decode cX5_one 48 = .ok (.goto 15, 3) := zo_167 (b1 := 0) (b2 := 15) (zkb3 zk_cX5_one zn_cX5_one (by decide +kernel)) rfl
theorem dX5_one_51 : decode cX5_one 51 = .ok (.aload_n 0, 1) := zo_42 (zkb zk_cX5_one zn_cX5_one (by decide +kernel))
theorem dX5_one_52 : decode cX5_one 52 = .ok (.getfield 9, 3) := zo_180 (b1 := 0) (b2 := 9) (zkb3 zk_cX5_one zn_cX5_one (by decide +kernel)) rfl
theorem dX5_one_55 : decode cX5_one 55 = .ok (.aload_n 0, 1) := zo_42 (zkb zk_cX5_one zn_cX5_one (by decide +kernel))
theorem dX5_one_56 : decode cX5_one 56 = .ok (.getfield 16, 3) := zo_180 (b1 := 0) (b2 := 16) (zkb3 zk_cX5_one zn_cX5_one (by decide +kernel)) rfl
theorem dX5_one_59 : decode cX5_one 59 = .ok (.iaload, 1) := zo_46 (zkb zk_cX5_one zn_cX5_one (by decide +kernel))
theorem dX5_one_60 : decode cX5_one 60 = .ok (.bipush 8, 2) := zo_16 (b1 := 8) (zkb2 zk_cX5_one zn_cX5_one (by decide +kernel)) rfl
theorem dX5_one_62 : decode cX5_one 62 = .ok (.ishr, 1) := zo_122 (zkb zk_cX5_one zn_cX5_one (by decide +kernel))
theorem dX5_one_63 : decode cX5_one 63 = .ok (.ireturn, 1) := zo_172 (zkb zk_cX5_one zn_cX5_one (by decide +kernel))
theorem dX5_one_64 : decode cX5_one 64 = .ok (.aload_n 0, 1) := zo_42 (zkb zk_cX5_one zn_cX5_one (by decide +kernel))
theorem dX5_one_65 : decode cX5_one 65 = .ok (.getfield 16, 3) := zo_180 (b1 := 0) (b2 := 16) (zkb3 zk_cX5_one zn_cX5_one (by decide +kernel)) rfl
theorem dX5_one_68 : decode cX5_one 68 = .ok (.bipush 6, 2) := zo_16 (b1 := 6) (zkb2 zk_cX5_one zn_cX5_one (by decide +kernel)) rfl
theorem dX5_one_70 : decode cX5_one 70 = .ok (.if_icmp .ne 13, 3) := zo_160 (b1 := 0) (b2 := 13) (zkb3 zk_cX5_one zn_cX5_one (by decide +kernel)) rfl
theorem dX5_one_73 : decode cX5_one 73 = .ok (.aload_n 0, 1) := zo_42 (zkb zk_cX5_one zn_cX5_one (by decide +kernel))
theorem dX5_one_74 : decode cX5_one 74 = .ok (.getfield 9, 3) := zo_180 (b1 := 0) (b2 := 9) (zkb3 zk_cX5_one zn_cX5_one (by decide +kernel)) rfl
theorem dX5_one_77 : decode cX5_one 77 = .ok (.bipush 7, 2) := zo_16 (b1 := 7) (zkb2 zk_cX5_one zn_cX5_one (by decide +kernel)) rfl
theorem dX5_one_79 : decode cX5_one 79 = .ok (.iaload, 1) := zo_46 (zkb zk_cX5_one zn_cX5_one (by decide +kernel))
theorem dX5_one_80 : decode cX5_one 80 = .ok (.goto 16, 3) := zo_167 (b1 := 0) (b2 := 16) (zkb3 zk_cX5_one zn_cX5_one (by decide +kernel)) rfl
theorem dX5_one_83 : decode cX5_one 83 = .ok (.aload_n 0, 1) := zo_42 (zkb zk_cX5_one zn_cX5_one (by decide +kernel))
theorem dX5_one_84 : decode cX5_one 84 = .ok (.getfield 9, 3) := zo_180 (b1 := 0) (b2 := 9) (zkb3 zk_cX5_one zn_cX5_one (by decide +kernel)) rfl
theorem dX5_one_87 : decode cX5_one 87 = .ok (.aload_n 0, 1) := zo_42 (zkb zk_cX5_one zn_cX5_one (by decide +kernel))
theorem dX5_one_88 : decode cX5_one 88 = .ok (.getfield 16, 3) := zo_180 (b1 := 0) (b2 := 16) (zkb3 zk_cX5_one zn_cX5_one (by decide +kernel)) rfl
theorem dX5_one_91 : decode cX5_one 91 = .ok (.iaload, 1) := zo_46 (zkb zk_cX5_one zn_cX5_one (by decide +kernel))
theorem dX5_one_92 : decode cX5_one 92 = .ok (.sipush 255, 3) := zo_17 (b1 := 0) (b2 := 255) (zkb3 zk_cX5_one zn_cX5_one (by decide +kernel)) rfl
theorem dX5_one_95 : decode cX5_one 95 = .ok (.iand, 1) := zo_126 (zkb zk_cX5_one zn_cX5_one (by decide +kernel))
theorem dX5_one_96 : decode cX5_one 96 = .ok (.ireturn, 1) := zo_172 (zkb zk_cX5_one zn_cX5_one (by decide +kernel))
theorem dX5_one_97 : decode cX5_one 97 = .ok (.aload_n 0, 1) := zo_42 (zkb zk_cX5_one zn_cX5_one (by decide +kernel))
theorem dX5_one_98 : decode cX5_one 98 = .ok (.getfield 20, 3) := zo_180 (b1 := 0) (b2 := 20) (zkb3 zk_cX5_one zn_cX5_one (by decide +kernel)) rfl
theorem dX5_one_101 : decode cX5_one 101 = .ok (.aload_n 0, 1) := zo_42 (zkb zk_cX5_one zn_cX5_one (by decide +kernel))
theorem dX5_one_102 : decode cX5_one 102 = .ok (.getfield 68, 3) := zo_180 (b1 := 0) (b2 := 68) (zkb3 zk_cX5_one zn_cX5_one (by decide +kernel)) rfl
theorem dX5_one_105 : decode cX5_one 105 = .ok (.invokevirtual 75, 3) := zo_182 (b1 := 0) (b2 := 75) (zkb3 zk_cX5_one zn_cX5_one (by decide +kernel)) rfl
theorem dX5_one_108 : decode cX5_one 108 = .ok (.ireturn, 1) := zo_172 (zkb zk_cX5_one zn_cX5_one (by decide +kernel))
theorem dX5_one_109 : decode cX5_one 109 = .ok (.aload_n 0, 1) := zo_42 (zkb zk_cX5_one zn_cX5_one (by decide +kernel))
theorem dX5_one_110 : decode cX5_one 110 = .ok (.getfield 9, 3) := zo_180 (b1 := 0) (b2 := 9) (zkb3 zk_cX5_one zn_cX5_one (by decide +kernel)) rfl
theorem dX5_one_113 : decode cX5_one 113 = .ok (.iconst 0, 1) := zo_3 (zkb zk_cX5_one zn_cX5_one (by decide +kernel))
theorem dX5_one_114 : decode cX5_one 114 = .ok (.iaload, 1) := zo_46 (zkb zk_cX5_one zn_cX5_one (by decide +kernel))
theorem dX5_one_115 : decode cX5_one 115 = .ok (.ireturn, 1) := zo_172 (zkb zk_cX5_one zn_cX5_one (by decide +kernel))
theorem dX5_one_116 : decode cX5_one 116 = .ok (.aload_n 0, 1) := zo_42 (zkb zk_cX5_one zn_cX5_one (by decide +kernel))
theorem dX5_one_117 : decode cX5_one 117 = .ok (.getfield 9, 3) := zo_180 (b1 := 0) (b2 := 9) (zkb3 zk_cX5_one zn_cX5_one (by decide +kernel)) rfl
theorem dX5_one_120 : decode cX5_one 120 = .ok (.iconst 2, 1) := zo_5 (zkb zk_cX5_one zn_cX5_one (by decide +kernel))
theorem dX5_one_121 : decode cX5_one 121 = .ok (.iload_n 1, 1) := zo_27 (zkb zk_cX5_one zn_cX5_one (by decide +kernel))
theorem dX5_one_122 : decode cX5_one 122 = .ok (.iconst 3, 1) := zo_6 (zkb zk_cX5_one zn_cX5_one (by decide +kernel))
theorem dX5_one_123 : decode cX5_one 123 = .ok (.iand, 1) := zo_126 (zkb zk_cX5_one zn_cX5_one (by decide +kernel))
theorem dX5_one_124 : decode cX5_one 124 = .ok (.iadd, 1) := zo_96 (zkb zk_cX5_one zn_cX5_one (by decide +kernel))
theorem dX5_one_125 : decode cX5_one 125 = .ok (.iaload, 1) := zo_46 (zkb zk_cX5_one zn_cX5_one (by decide +kernel))
theorem dX5_one_126 : decode cX5_one 126 = .ok (.ireturn, 1) := zo_172 (zkb zk_cX5_one zn_cX5_one (by decide +kernel))
def kn_cX5_putOne : Nat := 0xb14f1c607e061b050900b42a0e00a74f1c030900b42a1800a77500b61c4400b42a1400b42a2700a78200b61c07102a3100a78200b61c06102a4200000033000000290000001f00000007000000040000004c0000000000aa1b
theorem zk_cX5_putOne : zkd cX5_putOne.data.toList kn_cX5_putOne = true := by decide +kernel
theorem zn_cX5_putOne : cX5_putOne.data.toList.length = 89 := by decide +kernel
theorem dX5_putOne_0 : decode cX5_putOne 0 = .ok (.iload_n 1, 1) := zo_27 (zkb zk_cX5_putOne zn_cX5_putOne (by decide +kernel))
theorem dX5_putOne_1 : decode cX5_putOne 1 = .ok (.tableswitch 76 4 7 #[31, 41, 51, 66], 31) := by decide +kernel
theorem dX5_putOne_32 : decode cX5_putOne 32 = .ok (.aload_n 0, 1) := zo_42 (zkb zk_cX5_putOne zn_cX5_putOne (by decide +kernel))
theorem dX5_putOne_33 : decode cX5_putOne 33 = .ok (.bipush 6, 2) := zo_16 (b1 := 6) (zkb2 zk_cX5_putOne zn_cX5_putOne (by decide +kernel)) rfl
theorem dX5_putOne_35 : decode cX5_putOne 35 = .ok (.iload_n 2, 1) := zo_28 (zkb zk_cX5_putOne zn_cX5_putOne (by decide +kernel))
theorem dX5_putOne_36 : decode cX5_putOne 36 = .ok (.invokevirtual 130, 3) := zo_182 (b1 := 0) (b2 := 130) (zkb3 zk_cX5_putOne zn_cX5_putOne (by decide +kernel)) rfl
theorem dX5_putOne_39 : decode cX5_putOne 39 = .ok (.goto 49, 3) := zo_167 (b1 := 0) (b2 := 49) (zkb3 zk_cX5_putOne zn_cX5_putOne (by decide +kernel)) rfl
theorem dX5_putOne_42 : decode cX5_putOne 42 = .ok (.aload_n 0, 1) := zo_42 (zkb zk_cX5_putOne zn_cX5_putOne (by decide +kernel))
theorem dX5_putOne_43 : decode cX5_putOne 43 = .ok (.bipush 7, 2) := zo_16 (b1 := 7) (zkb2 zk_cX5_putOne zn_cX5_putOne (by decide +kernel)) rfl
theorem dX5_putOne_45 : decode cX5_putOne 45 = .ok (.iload_n 2, 1) := zo_28 (zkb zk_cX5_putOne zn_cX5_putOne (by decide +kernel))
theorem dX5_putOne_46 : decode cX5_putOne 46 = .ok (.invokevirtual 130, 3) := zo_182 (b1 := 0) (b2 := 130) (zkb3 zk_cX5_putOne zn_cX5_putOne (by decide +kernel)) rfl
theorem dX5_putOne_49 : decode cX5_putOne 49 = .ok (.goto 39, 3) := zo_167 (b1 := 0) (b2 := 39) (zkb3 zk_cX5_putOne zn_cX5_putOne (by decide +kernel)) rfl
theorem dX5_putOne_52 : decode cX5_putOne 52 = .ok (.aload_n 0, 1) := zo_42 (zkb zk_cX5_putOne zn_cX5_putOne (by decide +kernel))
theorem dX5_putOne_53 : decode cX5_putOne 53 = .ok (.getfield 20, 3) := zo_180 (b1 := 0) (b2 := 20) (zkb3 zk_cX5_putOne zn_cX5_putOne (by decide +kernel)) rfl
theorem dX5_putOne_56 : decode cX5_putOne 56 = .ok (.aload_n 0, 1) := zo_42 (zkb zk_cX5_putOne zn_cX5_putOne (by decide +kernel))
theorem dX5_putOne_57 : decode cX5_putOne 57 = .ok (.getfield 68, 3) := zo_180 (b1 := 0) (b2 := 68) (zkb3 zk_cX5_putOne zn_cX5_putOne (by decide +kernel)) rfl
theorem dX5_putOne_60 : decode cX5_putOne 60 = .ok (.iload_n 2, 1) := zo_28 (zkb zk_cX5_putOne zn_cX5_putOne (by decide +kernel))
theorem dX5_putOne_61 : decode cX5_putOne 61 = .ok (.invokevirtual 117, 3) := zo_182 (b1 := 0) (b2 := 117) (zkb3 zk_cX5_putOne zn_cX5_putOne (by decide +kernel)) rfl
theorem dX5_putOne_64 : decode cX5_putOne 64 = .ok (.goto 24, 3) := zo_167 (b1 := 0) (b2 := 24) (zkb3 zk_cX5_putOne zn_cX5_putOne (by decide +kernel)) rfl
theorem dX5_putOne_67 : decode cX5_putOne 67 = .ok (.aload_n 0, 1) := zo_42 (zkb zk_cX5_putOne zn_cX5_putOne (by decide +kernel))
theorem dX5_putOne_68 : decode cX5_putOne 68 = .ok (.getfield 9, 3) := zo_180 (b1 := 0) (b2 := 9) (zkb3 zk_cX5_putOne zn_cX5_putOne (by decide +kernel)) rfl
theorem dX5_putOne_71 : decode cX5_putOne 71 = .ok (.iconst 0, 1) := zo_3 (zkb zk_cX5_putOne zn_cX5_putOne (by decide +kernel))
theorem dX5_putOne_72 : decode cX5_putOne 72 = .ok (.iload_n 2, 1) := zo_28 (zkb zk_cX5_putOne zn_cX5_putOne (by decide +kernel))
theorem dX5_putOne_73 : decode cX5_putOne 73 = .ok (.iastore, 1) := zo_79 (zkb zk_cX5_putOne zn_cX5_putOne (by decide +kernel))
theorem dX5_putOne_74 : decode cX5_putOne 74 = .ok (.goto 14, 3) := zo_167 (b1 := 0) (b2 := 14) (zkb3 zk_cX5_putOne zn_cX5_putOne (by decide +kernel)) rfl
theorem dX5_putOne_77 : decode cX5_putOne 77 = .ok (.aload_n 0, 1) := zo_42 (zkb zk_cX5_putOne zn_cX5_putOne (by decide +kernel))
theorem dX5_putOne_78 : decode cX5_putOne 78 = .ok (.getfield 9, 3) := zo_180 (b1 := 0) (b2 := 9) (zkb3 zk_cX5_putOne zn_cX5_putOne (by decide +kernel)) rfl
theorem dX5_putOne_81 : decode cX5_putOne 81 = .ok (.iconst 2, 1) := zo_5 (zkb zk_cX5_putOne zn_cX5_putOne (by decide +kernel))
theorem dX5_putOne_82 : decode cX5_putOne 82 = .ok (.iload_n 1, 1) := zo_27 (zkb zk_cX5_putOne zn_cX5_putOne (by decide +kernel))
theorem dX5_putOne_83 : decode cX5_putOne 83 = .ok (.iconst 3, 1) := zo_6 (zkb zk_cX5_putOne zn_cX5_putOne (by decide +kernel))
theorem dX5_putOne_84 : decode cX5_putOne 84 = .ok (.iand, 1) := zo_126 (zkb zk_cX5_putOne zn_cX5_putOne (by decide +kernel))
theorem dX5_putOne_85 : decode cX5_putOne 85 = .ok (.iadd, 1) := zo_96 (zkb zk_cX5_putOne zn_cX5_putOne (by decide +kernel))
theorem dX5_putOne_86 : decode cX5_putOne 86 = .ok (.iload_n 2, 1) := zo_28 (zkb zk_cX5_putOne zn_cX5_putOne (by decide +kernel))
theorem dX5_putOne_87 : decode cX5_putOne 87 = .ok (.iastore, 1) := zo_79 (zkb zk_cX5_putOne zn_cX5_putOne (by decide +kernel))
theorem dX5_putOne_88 : decode cX5_putOne 88 = .ok (.return_, 1) := zo_177 (zkb zk_cX5_putOne zn_cX5_putOne (by decide +kernel))
def kn_cX5_putPairHalf : Nat := 0xb14f801c7e85122e1000b42a0900b42a1100a7807eff00112e1000b42a0900b42a7808101c1800a006101b1000b42a0900b42a3500a74f1c1b0900b42a0d00a006101000b42a
theorem zk_cX5_putPairHalf : zkd cX5_putPairHalf.data.toList kn_cX5_putPairHalf = true := by decide +kernel
theorem zn_cX5_putPairHalf : cX5_putPairHalf.data.toList.length = 70 := by decide +kernel
theorem dX5_putPairHalf_0 : decode cX5_putPairHalf 0 = .ok (.aload_n 0, 1) := zo_42 (zkb zk_cX5_putPairHalf zn_cX5_putPairHalf (by decide +kernel))
theorem dX5_putPairHalf_1 : decode cX5_putPairHalf 1 = .ok (.getfield 16, 3) := zo_180 (b1 := 0) (b2 := 16) (zkb3 zk_cX5_putPairHalf zn_cX5_putPairHalf (by decide +kernel)) rfl
theorem dX5_putPairHalf_4 : decode cX5_putPairHalf 4 = .ok (.bipush 6, 2) := zo_16 (b1 := 6) (zkb2 zk_cX5_putPairHalf zn_cX5_putPairHalf (by decide +kernel)) rfl
theorem dX5_putPairHalf_6 : decode cX5_putPairHalf 6 = .ok (.if_icmp .ne 13, 3) := zo_160 (b1 := 0) (b2 := 13) (zkb3 zk_cX5_putPairHalf zn_cX5_putPairHalf (by decide +kernel)) rfl
theorem dX5_putPairHalf_9 : decode cX5_putPairHalf 9 = .ok (.aload_n 0, 1) := zo_42 (zkb zk_cX5_putPairHalf zn_cX5_putPairHalf (by decide +kernel))
theorem dX5_putPairHalf_10 : decode cX5_putPairHalf 10 = .ok (.getfield 9, 3) := zo_180 (b1 := 0) (b2 := 9) (zkb3 zk_cX5_putPairHalf zn_cX5_putPairHalf (by decide +kernel)) rfl
theorem dX5_putPairHalf_13 : decode cX5_putPairHalf 13 = .ok (.iload_n 1, 1) := zo_27 (zkb zk_cX5_putPairHalf zn_cX5_putPairHalf (by decide +kernel))
theorem dX5_putPairHalf_14 : decode cX5_putPairHalf 14 = .ok (.iload_n 2, 1) := zo_28 (zkb zk_cX5_putPairHalf zn_cX5_putPairHalf (by decide +kernel))
theorem dX5_putPairHalf_15 : decode cX5_putPairHalf 15 = .ok (.iastore, 1) := zo_79 (zkb zk_cX5_putPairHalf zn_cX5_putPairHalf (by decide +kernel))
theorem dX5_putPairHalf_16 : decode cX5_putPairHalf 16 = .ok (.goto 53, 3) := zo_167 (b1 := 0) (b2 := 53) (zkb3 zk_cX5_putPairHalf zn_cX5_putPairHalf (by decide +kernel)) rfl
theorem dX5_putPairHalf_19 : decode cX5_putPairHalf 19 = .ok (.aload_n 0, 1) := zo_42 (zkb zk_cX5_putPairHalf zn_cX5_putPairHalf (by decide +kernel))
theorem dX5_putPairHalf_20 : decode cX5_putPairHalf 20 = .ok (.getfield 9, 3) := zo_180 (b1 := 0) (b2 := 9) (zkb3 zk_cX5_putPairHalf zn_cX5_putPairHalf (by decide +kernel)) rfl
theorem dX5_putPairHalf_23 : decode cX5_putPairHalf 23 = .ok (.aload_n 0, 1) := zo_42 (zkb zk_cX5_putPairHalf zn_cX5_putPairHalf (by decide +kernel))
theorem dX5_putPairHalf_24 : decode cX5_putPairHalf 24 = .ok (.getfield 16, 3) := zo_180 (b1 := 0) (b2 := 16) (zkb3 zk_cX5_putPairHalf zn_cX5_putPairHalf (by decide +kernel)) rfl
theorem dX5_putPairHalf_27 : decode cX5_putPairHalf 27 = .ok (.iload_n 1, 1) := zo_27 (zkb zk_cX5_putPairHalf zn_cX5_putPairHalf (by decide +kernel))
theorem dX5_putPairHalf_28 : decode cX5_putPairHalf 28 = .ok (.bipush 6, 2) := zo_16 (b1 := 6) (zkb2 zk_cX5_putPairHalf zn_cX5_putPairHalf (by decide +kernel)) rfl
theorem dX5_putPairHalf_30 : decode cX5_putPairHalf 30 = .ok (.if_icmp .ne 24, 3) := zo_160 (b1 := 0) (b2 := 24) (zkb3 zk_cX5_putPairHalf zn_cX5_putPairHalf (by decide +kernel)) rfl
theorem dX5_putPairHalf_33 : decode cX5_putPairHalf 33 = .ok (.iload_n 2, 1) := zo_28 (zkb zk_cX5_putPairHalf zn_cX5_putPairHalf (by decide +kernel))
theorem dX5_putPairHalf_34 : decode cX5_putPairHalf 34 = .ok (.bipush 8, 2) := zo_16 (b1 := 8) (zkb2 zk_cX5_putPairHalf zn_cX5_putPairHalf (by decide +kernel)) rfl
theorem dX5_putPairHalf_36 : decode cX5_putPairHalf 36 = .ok (.ishl, 1) := zo_120 (zkb zk_cX5_putPairHalf zn_cX5_putPairHalf (by decide +kernel))
theorem dX5_putPairHalf_37 : decode cX5_putPairHalf 37 = .ok (.aload_n 0, 1) := zo_42 (zkb zk_cX5_putPairHalf zn_cX5_putPairHalf (by decide +kernel))
theorem dX5_putPairHalf_38 : decode cX5_putPairHalf 38 = .ok (.getfield 9, 3) := zo_180 (b1 := 0) (b2 := 9) (zkb3 zk_cX5_putPairHalf zn_cX5_putPairHalf (by decide +kernel)) rfl
theorem dX5_putPairHalf_41 : decode cX5_putPairHalf 41 = .ok (.aload_n 0, 1) := zo_42 (zkb zk_cX5_putPairHalf zn_cX5_putPairHalf (by decide +kernel))
theorem dX5_putPairHalf_42 : decode cX5_putPairHalf 42 = .ok (.getfield 16, 3) := zo_180 (b1 := 0) (b2 := 16) (zkb3 zk_cX5_putPairHalf zn_cX5_putPairHalf (by decide +kernel)) rfl
theorem dX5_putPairHalf_45 : decode cX5_putPairHalf 45 = .ok (.iaload, 1) := zo_46 (zkb zk_cX5_putPairHalf zn_cX5_putPairHalf (by decide +kernel))
theorem dX5_putPairHalf_46 : decode cX5_putPairHalf 46 = .ok (.sipush 255, 3) := zo_17 (b1 := 0) (b2 := 255) (zkb3 zk_cX5_putPairHalf zn_cX5_putPairHalf (by decide +kernel)) rfl
theorem dX5_putPairHalf_49 : decode cX5_putPairHalf 49 = .ok (.iand, 1) := zo_126 (zkb zk_cX5_putPairHalf zn_cX5_putPairHalf (by decide +kernel))
theorem dX5_putPairHalf_50 : decode cX5_putPairHalf 50 = .ok (.ior, 1) := zo_128 (zkb zk_cX5_putPairHalf zn_cX5_putPairHalf (by decide +kernel))
theorem dX5_putPairHalf_51 : decode cX5_putPairHalf 51 = .ok (.goto 17, 3) := zo_167 (b1 := 0) (b2 := 17) (zkb3 zk_cX5_putPairHalf zn_cX5_putPairHalf (by decide +kernel)) rfl
theorem dX5_putPairHalf_54 : decode cX5_putPairHalf 54 = .ok (.aload_n 0, 1) := zo_42 (zkb zk_cX5_putPairHalf zn_cX5_putPairHalf (by decide +kernel))
theorem dX5_putPairHalf_55 : decode cX5_putPairHalf 55 = .ok (.getfield 9, 3) := zo_180 (b1 := 0) (b2 := 9) (zkb3 zk_cX5_putPairHalf zn_cX5_putPairHalf (by decide +kernel)) rfl
theorem dX5_putPairHalf_58 : decode cX5_putPairHalf 58 = .ok (.aload_n 0, 1) := zo_42 (zkb zk_cX5_putPairHalf zn_cX5_putPairHalf (by decide +kernel))
theorem dX5_putPairHalf_59 : decode cX5_putPairHalf 59 = .ok (.getfield 16, 3) := zo_180 (b1 := 0) (b2 := 16) (zkb3 zk_cX5_putPairHalf zn_cX5_putPairHalf (by decide +kernel)) rfl
theorem dX5_putPairHalf_62 : decode cX5_putPairHalf 62 = .ok (.iaload, 1) := zo_46 (zkb zk_cX5_putPairHalf zn_cX5_putPairHalf (by decide +kernel))
theorem dX5_putPairHalf_63 : decode cX5_putPairHalf 63 = .ok (.ldc 133, 2) := zo_18 (b1 := 133) (zkb2 zk_cX5_putPairHalf zn_cX5_putPairHalf (by decide +kernel))
theorem dX5_putPairHalf_65 : decode cX5_putPairHalf 65 = .ok (.iand, 1) := zo_126 (zkb zk_cX5_putPairHalf zn_cX5_putPairHalf (by decide +kernel))
theorem dX5_putPairHalf_66 : decode cX5_putPairHalf 66 = .ok (.iload_n 2, 1) := zo_28 (zkb zk_cX5_putPairHalf zn_cX5_putPairHalf (by decide +kernel))
theorem dX5_putPairHalf_67 : decode cX5_putPairHalf 67 = .ok (.ior, 1) := zo_128 (zkb zk_cX5_putPairHalf zn_cX5_putPairHalf (by decide +kernel))
theorem dX5_putPairHalf_68 : decode cX5_putPairHalf 68 = .ok (.iastore, 1) := zo_79 (zkb zk_cX5_putPairHalf zn_cX5_putPairHalf (by decide +kernel))
theorem dX5_putPairHalf_69 : decode cX5_putPairHalf 69 = .ok (.return_, 1) := zo_177 (zkb zk_cX5_putPairHalf zn_cX5_putPairHalf (by decide +kernel))
def kn_cX5_difference : Nat := 0xac05154f80030400a70407009c0415800580030400a7070700990615807e1010820515821c1bbb00b80515040900b42a06367e8000117e8205151b821c1b05367eff001104150436641d641c1b
theorem zk_cX5_difference : zkd cX5_difference.data.toList kn_cX5_difference = true := by decide +kernel
theorem zn_cX5_difference : cX5_difference.data.toList.length = 77 := by decide +kernel
theorem dX5_difference_0 : decode cX5_difference 0 = .ok (.iload_n 1, 1) := zo_27 (zkb zk_cX5_difference zn_cX5_difference (by decide +kernel))
theorem dX5_difference_1 : decode cX5_difference 1 = .ok (.iload_n 2, 1) := zo_28 (zkb zk_cX5_difference zn_cX5_difference (by decide +kernel))
theorem dX5_difference_2 : decode cX5_difference 2 = .ok (.isub, 1) := zo_100 (zkb zk_cX5_difference zn_cX5_difference (by decide +kernel))
theorem dX5_difference_3 : decode cX5_difference 3 = .ok (.iload_n 3, 1) := zo_29 (zkb zk_cX5_difference zn_cX5_difference (by decide +kernel))
theorem dX5_difference_4 : decode cX5_difference 4 = .ok (.isub, 1) := zo_100 (zkb zk_cX5_difference zn_cX5_difference (by decide +kernel))
theorem dX5_difference_5 : decode cX5_difference 5 = .ok (.istore 4, 2) := zo_54 (b1 := 4) (zkb2 zk_cX5_difference zn_cX5_difference (by decide +kernel))
theorem dX5_difference_7 : decode cX5_difference 7 = .ok (.iload 4, 2) := zo_21 (b1 := 4) (zkb2 zk_cX5_difference zn_cX5_difference (by decide +kernel))
theorem dX5_difference_9 : decode cX5_difference 9 = .ok (.sipush 255, 3) := zo_17 (b1 := 0) (b2 := 255) (zkb3 zk_cX5_difference zn_cX5_difference (by decide +kernel)) rfl
theorem dX5_difference_12 : decode cX5_difference 12 = .ok (.iand, 1) := zo_126 (zkb zk_cX5_difference zn_cX5_difference (by decide +kernel))
theorem dX5_difference_13 : decode cX5_difference 13 = .ok (.istore 5, 2) := zo_54 (b1 := 5) (zkb2 zk_cX5_difference zn_cX5_difference (by decide +kernel))
theorem dX5_difference_15 : decode cX5_difference 15 = .ok (.iload_n 1, 1) := zo_27 (zkb zk_cX5_difference zn_cX5_difference (by decide +kernel))
theorem dX5_difference_16 : decode cX5_difference 16 = .ok (.iload_n 2, 1) := zo_28 (zkb zk_cX5_difference zn_cX5_difference (by decide +kernel))
theorem dX5_difference_17 : decode cX5_difference 17 = .ok (.ixor, 1) := zo_130 (zkb zk_cX5_difference zn_cX5_difference (by decide +kernel))
theorem dX5_difference_18 : decode cX5_difference 18 = .ok (.iload_n 1, 1) := zo_27 (zkb zk_cX5_difference zn_cX5_difference (by decide +kernel))
theorem dX5_difference_19 : decode cX5_difference 19 = .ok (.iload 5, 2) := zo_21 (b1 := 5) (zkb2 zk_cX5_difference zn_cX5_difference (by decide +kernel))
theorem dX5_difference_21 : decode cX5_difference 21 = .ok (.ixor, 1) := zo_130 (zkb zk_cX5_difference zn_cX5_difference (by decide +kernel))
theorem dX5_difference_22 : decode cX5_difference 22 = .ok (.iand, 1) := zo_126 (zkb zk_cX5_difference zn_cX5_difference (by decide +kernel))
theorem dX5_difference_23 : decode cX5_difference 23 = .ok (.sipush 128, 3) := zo_17 (b1 := 0) (b2 := 128) (zkb3 zk_cX5_difference zn_cX5_difference (by decide +kernel)) rfl
theorem dX5_difference_26 : decode cX5_difference 26 = .ok (.iand, 1) := zo_126 (zkb zk_cX5_difference zn_cX5_difference (by decide +kernel))
theorem dX5_difference_27 : decode cX5_difference 27 = .ok (.istore 6, 2) := zo_54 (b1 := 6) (zkb2 zk_cX5_difference zn_cX5_difference (by decide +kernel))
theorem dX5_difference_29 : decode cX5_difference 29 = .ok (.aload_n 0, 1) := zo_42 (zkb zk_cX5_difference zn_cX5_difference (by decide +kernel))
theorem dX5_difference_30 : decode cX5_difference 30 = .ok (.getfield 9, 3) := zo_180 (b1 := 0) (b2 := 9) (zkb3 zk_cX5_difference zn_cX5_difference (by decide +kernel)) rfl
theorem dX5_difference_33 : decode cX5_difference 33 = .ok (.iconst 1, 1) := zo_4 (zkb zk_cX5_difference zn_cX5_difference (by decide +kernel))
theorem dX5_difference_34 : decode cX5_difference 34 = .ok (.iload 5, 2) := zo_21 (b1 := 5) (zkb2 zk_cX5_difference zn_cX5_difference (by decide +kernel))
theorem dX5_difference_36 : decode cX5_difference 36 = .ok (.invokestatic 187, 3) := zo_184 (b1 := 0) (b2 := 187) (zkb3 zk_cX5_difference zn_cX5_difference (by decide +kernel)) rfl
theorem dX5_difference_39 : decode cX5_difference 39 = .ok (.iload_n 1, 1) := zo_27 (zkb zk_cX5_difference zn_cX5_difference (by decide +kernel))
theorem dX5_difference_40 : decode cX5_difference 40 = .ok (.iload_n 2, 1) := zo_28 (zkb zk_cX5_difference zn_cX5_difference (by decide +kernel))
theorem dX5_difference_41 : decode cX5_difference 41 = .ok (.ixor, 1) := zo_130 (zkb zk_cX5_difference zn_cX5_difference (by decide +kernel))
theorem dX5_difference_42 : decode cX5_difference 42 = .ok (.iload 5, 2) := zo_21 (b1 := 5) (zkb2 zk_cX5_difference zn_cX5_difference (by decide +kernel))
theorem dX5_difference_44 : decode cX5_difference 44 = .ok (.ixor, 1) := zo_130 (zkb zk_cX5_difference zn_cX5_difference (by decide +kernel))
theorem dX5_difference_45 : decode cX5_difference 45 = .ok (.bipush 16, 2) := zo_16 (b1 := 16) (zkb2 zk_cX5_difference zn_cX5_difference (by decide +kernel)) rfl
theorem dX5_difference_47 : decode cX5_difference 47 = .ok (.iand, 1) := zo_126 (zkb zk_cX5_difference zn_cX5_difference (by decide +kernel))
theorem dX5_difference_48 : decode cX5_difference 48 = .ok (.ior, 1) := zo_128 (zkb zk_cX5_difference zn_cX5_difference (by decide +kernel))
theorem dX5_difference_49 : decode cX5_difference 49 = .ok (.iload 6, 2) := zo_21 (b1 := 6) (zkb2 zk_cX5_difference zn_cX5_difference (by decide +kernel))
theorem dX5_difference_51 : decode cX5_difference 51 = .ok (.ifCond .eq 7, 3) := zo_153 (b1 := 0) (b2 := 7) (zkb3 zk_cX5_difference zn_cX5_difference (by decide +kernel)) rfl
theorem dX5_difference_54 : decode cX5_difference 54 = .ok (.iconst 4, 1) := zo_7 (zkb zk_cX5_difference zn_cX5_difference (by decide +kernel))
theorem dX5_difference_55 : decode cX5_difference 55 = .ok (.goto 4, 3) := zo_167 (b1 := 0) (b2 := 4) (zkb3 zk_cX5_difference zn_cX5_difference (by decide +kernel)) rfl
theorem dX5_difference_58 : decode cX5_difference 58 = .ok (.iconst 0, 1) := zo_3 (zkb zk_cX5_difference zn_cX5_difference (by decide +kernel))
theorem dX5_difference_59 : decode cX5_difference 59 = .ok (.ior, 1) := zo_128 (zkb zk_cX5_difference zn_cX5_difference (by decide +kernel))
theorem dX5_difference_60 : decode cX5_difference 60 = .ok (.iconst 2, 1) := zo_5 (zkb zk_cX5_difference zn_cX5_difference (by decide +kernel))
theorem dX5_difference_61 : decode cX5_difference 61 = .ok (.ior, 1) := zo_128 (zkb zk_cX5_difference zn_cX5_difference (by decide +kernel))
theorem dX5_difference_62 : decode cX5_difference 62 = .ok (.iload 4, 2) := zo_21 (b1 := 4) (zkb2 zk_cX5_difference zn_cX5_difference (by decide +kernel))
theorem dX5_difference_64 : decode cX5_difference 64 = .ok (.ifCond .ge 7, 3) := zo_156 (b1 := 0) (b2 := 7) (zkb3 zk_cX5_difference zn_cX5_difference (by decide +kernel)) rfl
theorem dX5_difference_67 : decode cX5_difference 67 = .ok (.iconst 1, 1) := zo_4 (zkb zk_cX5_difference zn_cX5_difference (by decide +kernel))
theorem dX5_difference_68 : decode cX5_difference 68 = .ok (.goto 4, 3) := zo_167 (b1 := 0) (b2 := 4) (zkb3 zk_cX5_difference zn_cX5_difference (by decide +kernel)) rfl
theorem dX5_difference_71 : decode cX5_difference 71 = .ok (.iconst 0, 1) := zo_3 (zkb zk_cX5_difference zn_cX5_difference (by decide +kernel))
theorem dX5_difference_72 : decode cX5_difference 72 = .ok (.ior, 1) := zo_128 (zkb zk_cX5_difference zn_cX5_difference (by decide +kernel))
theorem dX5_difference_73 : decode cX5_difference 73 = .ok (.iastore, 1) := zo_79 (zkb zk_cX5_difference zn_cX5_difference (by decide +kernel))
theorem dX5_difference_74 : decode cX5_difference 74 = .ok (.iload 5, 2) := zo_21 (b1 := 5) (zkb2 zk_cX5_difference zn_cX5_difference (by decide +kernel))
theorem dX5_difference_76 : decode cX5_difference 76 = .ok (.ireturn, 1) := zo_172 (zkb zk_cX5_difference zn_cX5_difference (by decide +kernel))
def kn_cX5_turns : Nat := 0xac08100500a70f100800a006101ca600b6e600b61d1b2a1c2aac08100500a70c100800a006101ce200b61d0400a77a08102e14100900b42a1000a006101c1d7e07107a061b2a3000a0047a06101b3ea000b61c2a3d7e07101b
theorem zk_cX5_turns : zkd cX5_turns.data.toList kn_cX5_turns = true := by decide +kernel
theorem zn_cX5_turns : cX5_turns.data.toList.length = 89 := by decide +kernel
theorem dX5_turns_0 : decode cX5_turns 0 = .ok (.iload_n 1, 1) := zo_27 (zkb zk_cX5_turns zn_cX5_turns (by decide +kernel))
theorem dX5_turns_1 : decode cX5_turns 1 = .ok (.bipush 7, 2) := zo_16 (b1 := 7) (zkb2 zk_cX5_turns zn_cX5_turns (by decide +kernel)) rfl
theorem dX5_turns_3 : decode cX5_turns 3 = .ok (.iand, 1) := zo_126 (zkb zk_cX5_turns zn_cX5_turns (by decide +kernel))
theorem dX5_turns_4 : decode cX5_turns 4 = .ok (.istore_n 2, 1) := zo_61 (zkb zk_cX5_turns zn_cX5_turns (by decide +kernel))
theorem dX5_turns_5 : decode cX5_turns 5 = .ok (.aload_n 0, 1) := zo_42 (zkb zk_cX5_turns zn_cX5_turns (by decide +kernel))
theorem dX5_turns_6 : decode cX5_turns 6 = .ok (.iload_n 2, 1) := zo_28 (zkb zk_cX5_turns zn_cX5_turns (by decide +kernel))
theorem dX5_turns_7 : decode cX5_turns 7 = .ok (.invokevirtual 160, 3) := zo_182 (b1 := 0) (b2 := 160) (zkb3 zk_cX5_turns zn_cX5_turns (by decide +kernel)) rfl
theorem dX5_turns_10 : decode cX5_turns 10 = .ok (.istore_n 3, 1) := zo_62 (zkb zk_cX5_turns zn_cX5_turns (by decide +kernel))
theorem dX5_turns_11 : decode cX5_turns 11 = .ok (.iload_n 1, 1) := zo_27 (zkb zk_cX5_turns zn_cX5_turns (by decide +kernel))
theorem dX5_turns_12 : decode cX5_turns 12 = .ok (.bipush 6, 2) := zo_16 (b1 := 6) (zkb2 zk_cX5_turns zn_cX5_turns (by decide +kernel)) rfl
theorem dX5_turns_14 : decode cX5_turns 14 = .ok (.ishr, 1) := zo_122 (zkb zk_cX5_turns zn_cX5_turns (by decide +kernel))
theorem dX5_turns_15 : decode cX5_turns 15 = .ok (.iconst 1, 1) := zo_4 (zkb zk_cX5_turns zn_cX5_turns (by decide +kernel))
theorem dX5_turns_16 : decode cX5_turns 16 = .ok (.if_icmp .ne 48, 3) := zo_160 (b1 := 0) (b2 := 48) (zkb3 zk_cX5_turns zn_cX5_turns (by decide +kernel)) rfl
theorem dX5_turns_19 : decode cX5_turns 19 = .ok (.aload_n 0, 1) := zo_42 (zkb zk_cX5_turns zn_cX5_turns (by decide +kernel))
theorem dX5_turns_20 : decode cX5_turns 20 = .ok (.iload_n 1, 1) := zo_27 (zkb zk_cX5_turns zn_cX5_turns (by decide +kernel))
theorem dX5_turns_21 : decode cX5_turns 21 = .ok (.iconst 3, 1) := zo_6 (zkb zk_cX5_turns zn_cX5_turns (by decide +kernel))
theorem dX5_turns_22 : decode cX5_turns 22 = .ok (.ishr, 1) := zo_122 (zkb zk_cX5_turns zn_cX5_turns (by decide +kernel))
theorem dX5_turns_23 : decode cX5_turns 23 = .ok (.bipush 7, 2) := zo_16 (b1 := 7) (zkb2 zk_cX5_turns zn_cX5_turns (by decide +kernel)) rfl
theorem dX5_turns_25 : decode cX5_turns 25 = .ok (.iand, 1) := zo_126 (zkb zk_cX5_turns zn_cX5_turns (by decide +kernel))
theorem dX5_turns_26 : decode cX5_turns 26 = .ok (.iload_n 3, 1) := zo_29 (zkb zk_cX5_turns zn_cX5_turns (by decide +kernel))
theorem dX5_turns_27 : decode cX5_turns 27 = .ok (.iload_n 2, 1) := zo_28 (zkb zk_cX5_turns zn_cX5_turns (by decide +kernel))
theorem dX5_turns_28 : decode cX5_turns 28 = .ok (.bipush 6, 2) := zo_16 (b1 := 6) (zkb2 zk_cX5_turns zn_cX5_turns (by decide +kernel)) rfl
theorem dX5_turns_30 : decode cX5_turns 30 = .ok (.if_icmp .ne 16, 3) := zo_160 (b1 := 0) (b2 := 16) (zkb3 zk_cX5_turns zn_cX5_turns (by decide +kernel)) rfl
theorem dX5_turns_33 : decode cX5_turns 33 = .ok (.aload_n 0, 1) := zo_42 (zkb zk_cX5_turns zn_cX5_turns (by decide +kernel))
theorem dX5_turns_34 : decode cX5_turns 34 = .ok (.getfield 9, 3) := zo_180 (b1 := 0) (b2 := 9) (zkb3 zk_cX5_turns zn_cX5_turns (by decide +kernel)) rfl
theorem dX5_turns_37 : decode cX5_turns 37 = .ok (.bipush 20, 2) := zo_16 (b1 := 20) (zkb2 zk_cX5_turns zn_cX5_turns (by decide +kernel)) rfl
theorem dX5_turns_39 : decode cX5_turns 39 = .ok (.iaload, 1) := zo_46 (zkb zk_cX5_turns zn_cX5_turns (by decide +kernel))
theorem dX5_turns_40 : decode cX5_turns 40 = .ok (.bipush 8, 2) := zo_16 (b1 := 8) (zkb2 zk_cX5_turns zn_cX5_turns (by decide +kernel)) rfl
theorem dX5_turns_42 : decode cX5_turns 42 = .ok (.ishr, 1) := zo_122 (zkb zk_cX5_turns zn_cX5_turns (by decide +kernel))
theorem dX5_turns_43 : decode cX5_turns 43 = .ok (.goto 4, 3) := zo_167 (b1 := 0) (b2 := 4) (zkb3 zk_cX5_turns zn_cX5_turns (by decide +kernel)) rfl
theorem dX5_turns_46 : decode cX5_turns 46 = .ok (.iload_n 3, 1) := zo_29 (zkb zk_cX5_turns zn_cX5_turns (by decide +kernel))
theorem dX5_turns_47 : decode cX5_turns 47 = .ok (.invokevirtual 226, 3) := zo_182 (b1 := 0) (b2 := 226) (zkb3 zk_cX5_turns zn_cX5_turns (by decide +kernel)) rfl
theorem dX5_turns_50 : decode cX5_turns 50 = .ok (.iload_n 2, 1) := zo_28 (zkb zk_cX5_turns zn_cX5_turns (by decide +kernel))
theorem dX5_turns_51 : decode cX5_turns 51 = .ok (.bipush 6, 2) := zo_16 (b1 := 6) (zkb2 zk_cX5_turns zn_cX5_turns (by decide +kernel)) rfl
theorem dX5_turns_53 : decode cX5_turns 53 = .ok (.if_icmp .ne 8, 3) := zo_160 (b1 := 0) (b2 := 8) (zkb3 zk_cX5_turns zn_cX5_turns (by decide +kernel)) rfl
theorem dX5_turns_56 : decode cX5_turns 56 = .ok (.bipush 12, 2) := zo_16 (b1 := 12) (zkb2 zk_cX5_turns zn_cX5_turns (by decide +kernel)) rfl
theorem dX5_turns_58 : decode cX5_turns 58 = .ok (.goto 5, 3) := zo_167 (b1 := 0) (b2 := 5) (zkb3 zk_cX5_turns zn_cX5_turns (by decide +kernel)) rfl
theorem dX5_turns_61 : decode cX5_turns 61 = .ok (.bipush 8, 2) := zo_16 (b1 := 8) (zkb2 zk_cX5_turns zn_cX5_turns (by decide +kernel)) rfl
theorem dX5_turns_63 : decode cX5_turns 63 = .ok (.ireturn, 1) := zo_172 (zkb zk_cX5_turns zn_cX5_turns (by decide +kernel))
theorem dX5_turns_64 : decode cX5_turns 64 = .ok (.aload_n 0, 1) := zo_42 (zkb zk_cX5_turns zn_cX5_turns (by decide +kernel))
theorem dX5_turns_65 : decode cX5_turns 65 = .ok (.iload_n 2, 1) := zo_28 (zkb zk_cX5_turns zn_cX5_turns (by decide +kernel))
theorem dX5_turns_66 : decode cX5_turns 66 = .ok (.aload_n 0, 1) := zo_42 (zkb zk_cX5_turns zn_cX5_turns (by decide +kernel))
theorem dX5_turns_67 : decode cX5_turns 67 = .ok (.iload_n 1, 1) := zo_27 (zkb zk_cX5_turns zn_cX5_turns (by decide +kernel))
theorem dX5_turns_68 : decode cX5_turns 68 = .ok (.iload_n 3, 1) := zo_29 (zkb zk_cX5_turns zn_cX5_turns (by decide +kernel))
theorem dX5_turns_69 : decode cX5_turns 69 = .ok (.invokevirtual 230, 3) := zo_182 (b1 := 0) (b2 := 230) (zkb3 zk_cX5_turns zn_cX5_turns (by decide +kernel)) rfl
theorem dX5_turns_72 : decode cX5_turns 72 = .ok (.invokevirtual 166, 3) := zo_182 (b1 := 0) (b2 := 166) (zkb3 zk_cX5_turns zn_cX5_turns (by decide +kernel)) rfl
theorem dX5_turns_75 : decode cX5_turns 75 = .ok (.iload_n 2, 1) := zo_28 (zkb zk_cX5_turns zn_cX5_turns (by decide +kernel))
theorem dX5_turns_76 : decode cX5_turns 76 = .ok (.bipush 6, 2) := zo_16 (b1 := 6) (zkb2 zk_cX5_turns zn_cX5_turns (by decide +kernel)) rfl
theorem dX5_turns_78 : decode cX5_turns 78 = .ok (.if_icmp .ne 8, 3) := zo_160 (b1 := 0) (b2 := 8) (zkb3 zk_cX5_turns zn_cX5_turns (by decide +kernel)) rfl
theorem dX5_turns_81 : decode cX5_turns 81 = .ok (.bipush 15, 2) := zo_16 (b1 := 15) (zkb2 zk_cX5_turns zn_cX5_turns (by decide +kernel)) rfl
theorem dX5_turns_83 : decode cX5_turns 83 = .ok (.goto 5, 3) := zo_167 (b1 := 0) (b2 := 5) (zkb3 zk_cX5_turns zn_cX5_turns (by decide +kernel)) rfl
theorem dX5_turns_86 : decode cX5_turns 86 = .ok (.bipush 8, 2) := zo_16 (b1 := 8) (zkb2 zk_cX5_turns zn_cX5_turns (by decide +kernel)) rfl
theorem dX5_turns_88 : decode cX5_turns 88 = .ok (.ireturn, 1) := zo_172 (zkb zk_cX5_turns zn_cX5_turns (by decide +kernel))
def kn_cX5_turnBeside : Nat := 0xac1710a600b61d7e07101b2a0c009f06107e07101b7500b61d4400b42a1400b42a3ee600b61c1b2aac1410e200b67a08102e14100900b42a1c7e07107a061b2a1b00a0047a06101b3d4b00b64400b42a1400b42a3c7200b62a1000b506102a4400b52e14100900b42a2a4f7e2f1260917200b62a2e1000b42a0900b42a14100900b42a
theorem zk_cX5_turnBeside : zkd cX5_turnBeside.data.toList kn_cX5_turnBeside = true := by decide +kernel
theorem zn_cX5_turnBeside : cX5_turnBeside.data.toList.length = 131 := by decide +kernel
theorem dX5_turnBeside_0 : decode cX5_turnBeside 0 = .ok (.aload_n 0, 1) := zo_42 (zkb zk_cX5_turnBeside zn_cX5_turnBeside (by decide +kernel))
theorem dX5_turnBeside_1 : decode cX5_turnBeside 1 = .ok (.getfield 9, 3) := zo_180 (b1 := 0) (b2 := 9) (zkb3 zk_cX5_turnBeside zn_cX5_turnBeside (by decide +kernel)) rfl
theorem dX5_turnBeside_4 : decode cX5_turnBeside 4 = .ok (.bipush 20, 2) := zo_16 (b1 := 20) (zkb2 zk_cX5_turnBeside zn_cX5_turnBeside (by decide +kernel)) rfl
theorem dX5_turnBeside_6 : decode cX5_turnBeside 6 = .ok (.aload_n 0, 1) := zo_42 (zkb zk_cX5_turnBeside zn_cX5_turnBeside (by decide +kernel))
theorem dX5_turnBeside_7 : decode cX5_turnBeside 7 = .ok (.getfield 9, 3) := zo_180 (b1 := 0) (b2 := 9) (zkb3 zk_cX5_turnBeside zn_cX5_turnBeside (by decide +kernel)) rfl
theorem dX5_turnBeside_10 : decode cX5_turnBeside 10 = .ok (.aload_n 0, 1) := zo_42 (zkb zk_cX5_turnBeside zn_cX5_turnBeside (by decide +kernel))
theorem dX5_turnBeside_11 : decode cX5_turnBeside 11 = .ok (.getfield 16, 3) := zo_180 (b1 := 0) (b2 := 16) (zkb3 zk_cX5_turnBeside zn_cX5_turnBeside (by decide +kernel)) rfl
theorem dX5_turnBeside_14 : decode cX5_turnBeside 14 = .ok (.iaload, 1) := zo_46 (zkb zk_cX5_turnBeside zn_cX5_turnBeside (by decide +kernel))
theorem dX5_turnBeside_15 : decode cX5_turnBeside 15 = .ok (.aload_n 0, 1) := zo_42 (zkb zk_cX5_turnBeside zn_cX5_turnBeside (by decide +kernel))
theorem dX5_turnBeside_16 : decode cX5_turnBeside 16 = .ok (.invokevirtual 114, 3) := zo_182 (b1 := 0) (b2 := 114) (zkb3 zk_cX5_turnBeside zn_cX5_turnBeside (by decide +kernel)) rfl
theorem dX5_turnBeside_19 : decode cX5_turnBeside 19 = .ok (.i2b, 1) := zo_145 (zkb zk_cX5_turnBeside zn_cX5_turnBeside (by decide +kernel))
theorem dX5_turnBeside_20 : decode cX5_turnBeside 20 = .ok (.iadd, 1) := zo_96 (zkb zk_cX5_turnBeside zn_cX5_turnBeside (by decide +kernel))
theorem dX5_turnBeside_21 : decode cX5_turnBeside 21 = .ok (.ldc 47, 2) := zo_18 (b1 := 47) (zkb2 zk_cX5_turnBeside zn_cX5_turnBeside (by decide +kernel))
theorem dX5_turnBeside_23 : decode cX5_turnBeside 23 = .ok (.iand, 1) := zo_126 (zkb zk_cX5_turnBeside zn_cX5_turnBeside (by decide +kernel))
theorem dX5_turnBeside_24 : decode cX5_turnBeside 24 = .ok (.iastore, 1) := zo_79 (zkb zk_cX5_turnBeside zn_cX5_turnBeside (by decide +kernel))
theorem dX5_turnBeside_25 : decode cX5_turnBeside 25 = .ok (.aload_n 0, 1) := zo_42 (zkb zk_cX5_turnBeside zn_cX5_turnBeside (by decide +kernel))
theorem dX5_turnBeside_26 : decode cX5_turnBeside 26 = .ok (.aload_n 0, 1) := zo_42 (zkb zk_cX5_turnBeside zn_cX5_turnBeside (by decide +kernel))
theorem dX5_turnBeside_27 : decode cX5_turnBeside 27 = .ok (.getfield 9, 3) := zo_180 (b1 := 0) (b2 := 9) (zkb3 zk_cX5_turnBeside zn_cX5_turnBeside (by decide +kernel)) rfl
theorem dX5_turnBeside_30 : decode cX5_turnBeside 30 = .ok (.bipush 20, 2) := zo_16 (b1 := 20) (zkb2 zk_cX5_turnBeside zn_cX5_turnBeside (by decide +kernel)) rfl
theorem dX5_turnBeside_32 : decode cX5_turnBeside 32 = .ok (.iaload, 1) := zo_46 (zkb zk_cX5_turnBeside zn_cX5_turnBeside (by decide +kernel))
theorem dX5_turnBeside_33 : decode cX5_turnBeside 33 = .ok (.putfield 68, 3) := zo_181 (b1 := 0) (b2 := 68) (zkb3 zk_cX5_turnBeside zn_cX5_turnBeside (by decide +kernel)) rfl
theorem dX5_turnBeside_36 : decode cX5_turnBeside 36 = .ok (.aload_n 0, 1) := zo_42 (zkb zk_cX5_turnBeside zn_cX5_turnBeside (by decide +kernel))
theorem dX5_turnBeside_37 : decode cX5_turnBeside 37 = .ok (.bipush 6, 2) := zo_16 (b1 := 6) (zkb2 zk_cX5_turnBeside zn_cX5_turnBeside (by decide +kernel)) rfl
theorem dX5_turnBeside_39 : decode cX5_turnBeside 39 = .ok (.putfield 16, 3) := zo_181 (b1 := 0) (b2 := 16) (zkb3 zk_cX5_turnBeside zn_cX5_turnBeside (by decide +kernel)) rfl
theorem dX5_turnBeside_42 : decode cX5_turnBeside 42 = .ok (.aload_n 0, 1) := zo_42 (zkb zk_cX5_turnBeside zn_cX5_turnBeside (by decide +kernel))
theorem dX5_turnBeside_43 : decode cX5_turnBeside 43 = .ok (.invokevirtual 114, 3) := zo_182 (b1 := 0) (b2 := 114) (zkb3 zk_cX5_turnBeside zn_cX5_turnBeside (by decide +kernel)) rfl
theorem dX5_turnBeside_46 : decode cX5_turnBeside 46 = .ok (.istore_n 1, 1) := zo_60 (zkb zk_cX5_turnBeside zn_cX5_turnBeside (by decide +kernel))
theorem dX5_turnBeside_47 : decode cX5_turnBeside 47 = .ok (.aload_n 0, 1) := zo_42 (zkb zk_cX5_turnBeside zn_cX5_turnBeside (by decide +kernel))
theorem dX5_turnBeside_48 : decode cX5_turnBeside 48 = .ok (.getfield 20, 3) := zo_180 (b1 := 0) (b2 := 20) (zkb3 zk_cX5_turnBeside zn_cX5_turnBeside (by decide +kernel)) rfl
theorem dX5_turnBeside_51 : decode cX5_turnBeside 51 = .ok (.aload_n 0, 1) := zo_42 (zkb zk_cX5_turnBeside zn_cX5_turnBeside (by decide +kernel))
theorem dX5_turnBeside_52 : decode cX5_turnBeside 52 = .ok (.getfield 68, 3) := zo_180 (b1 := 0) (b2 := 68) (zkb3 zk_cX5_turnBeside zn_cX5_turnBeside (by decide +kernel)) rfl
theorem dX5_turnBeside_55 : decode cX5_turnBeside 55 = .ok (.invokevirtual 75, 3) := zo_182 (b1 := 0) (b2 := 75) (zkb3 zk_cX5_turnBeside zn_cX5_turnBeside (by decide +kernel)) rfl
theorem dX5_turnBeside_58 : decode cX5_turnBeside 58 = .ok (.istore_n 2, 1) := zo_61 (zkb zk_cX5_turnBeside zn_cX5_turnBeside (by decide +kernel))
theorem dX5_turnBeside_59 : decode cX5_turnBeside 59 = .ok (.iload_n 1, 1) := zo_27 (zkb zk_cX5_turnBeside zn_cX5_turnBeside (by decide +kernel))
theorem dX5_turnBeside_60 : decode cX5_turnBeside 60 = .ok (.bipush 6, 2) := zo_16 (b1 := 6) (zkb2 zk_cX5_turnBeside zn_cX5_turnBeside (by decide +kernel)) rfl
theorem dX5_turnBeside_62 : decode cX5_turnBeside 62 = .ok (.ishr, 1) := zo_122 (zkb zk_cX5_turnBeside zn_cX5_turnBeside (by decide +kernel))
theorem dX5_turnBeside_63 : decode cX5_turnBeside 63 = .ok (.iconst 1, 1) := zo_4 (zkb zk_cX5_turnBeside zn_cX5_turnBeside (by decide +kernel))
theorem dX5_turnBeside_64 : decode cX5_turnBeside 64 = .ok (.if_icmp .ne 27, 3) := zo_160 (b1 := 0) (b2 := 27) (zkb3 zk_cX5_turnBeside zn_cX5_turnBeside (by decide +kernel)) rfl
theorem dX5_turnBeside_67 : decode cX5_turnBeside 67 = .ok (.aload_n 0, 1) := zo_42 (zkb zk_cX5_turnBeside zn_cX5_turnBeside (by decide +kernel))
theorem dX5_turnBeside_68 : decode cX5_turnBeside 68 = .ok (.iload_n 1, 1) := zo_27 (zkb zk_cX5_turnBeside zn_cX5_turnBeside (by decide +kernel))
theorem dX5_turnBeside_69 : decode cX5_turnBeside 69 = .ok (.iconst 3, 1) := zo_6 (zkb zk_cX5_turnBeside zn_cX5_turnBeside (by decide +kernel))
theorem dX5_turnBeside_70 : decode cX5_turnBeside 70 = .ok (.ishr, 1) := zo_122 (zkb zk_cX5_turnBeside zn_cX5_turnBeside (by decide +kernel))
theorem dX5_turnBeside_71 : decode cX5_turnBeside 71 = .ok (.bipush 7, 2) := zo_16 (b1 := 7) (zkb2 zk_cX5_turnBeside zn_cX5_turnBeside (by decide +kernel)) rfl
theorem dX5_turnBeside_73 : decode cX5_turnBeside 73 = .ok (.iand, 1) := zo_126 (zkb zk_cX5_turnBeside zn_cX5_turnBeside (by decide +kernel))
theorem dX5_turnBeside_74 : decode cX5_turnBeside 74 = .ok (.iload_n 2, 1) := zo_28 (zkb zk_cX5_turnBeside zn_cX5_turnBeside (by decide +kernel))
theorem dX5_turnBeside_75 : decode cX5_turnBeside 75 = .ok (.aload_n 0, 1) := zo_42 (zkb zk_cX5_turnBeside zn_cX5_turnBeside (by decide +kernel))
theorem dX5_turnBeside_76 : decode cX5_turnBeside 76 = .ok (.getfield 9, 3) := zo_180 (b1 := 0) (b2 := 9) (zkb3 zk_cX5_turnBeside zn_cX5_turnBeside (by decide +kernel)) rfl
theorem dX5_turnBeside_79 : decode cX5_turnBeside 79 = .ok (.bipush 20, 2) := zo_16 (b1 := 20) (zkb2 zk_cX5_turnBeside zn_cX5_turnBeside (by decide +kernel)) rfl
theorem dX5_turnBeside_81 : decode cX5_turnBeside 81 = .ok (.iaload, 1) := zo_46 (zkb zk_cX5_turnBeside zn_cX5_turnBeside (by decide +kernel))
theorem dX5_turnBeside_82 : decode cX5_turnBeside 82 = .ok (.bipush 8, 2) := zo_16 (b1 := 8) (zkb2 zk_cX5_turnBeside zn_cX5_turnBeside (by decide +kernel)) rfl
theorem dX5_turnBeside_84 : decode cX5_turnBeside 84 = .ok (.ishr, 1) := zo_122 (zkb zk_cX5_turnBeside zn_cX5_turnBeside (by decide +kernel))
theorem dX5_turnBeside_85 : decode cX5_turnBeside 85 = .ok (.invokevirtual 226, 3) := zo_182 (b1 := 0) (b2 := 226) (zkb3 zk_cX5_turnBeside zn_cX5_turnBeside (by decide +kernel)) rfl
theorem dX5_turnBeside_88 : decode cX5_turnBeside 88 = .ok (.bipush 20, 2) := zo_16 (b1 := 20) (zkb2 zk_cX5_turnBeside zn_cX5_turnBeside (by decide +kernel)) rfl
theorem dX5_turnBeside_90 : decode cX5_turnBeside 90 = .ok (.ireturn, 1) := zo_172 (zkb zk_cX5_turnBeside zn_cX5_turnBeside (by decide +kernel))
theorem dX5_turnBeside_91 : decode cX5_turnBeside 91 = .ok (.aload_n 0, 1) := zo_42 (zkb zk_cX5_turnBeside zn_cX5_turnBeside (by decide +kernel))
theorem dX5_turnBeside_92 : decode cX5_turnBeside 92 = .ok (.iload_n 1, 1) := zo_27 (zkb zk_cX5_turnBeside zn_cX5_turnBeside (by decide +kernel))
theorem dX5_turnBeside_93 : decode cX5_turnBeside 93 = .ok (.iload_n 2, 1) := zo_28 (zkb zk_cX5_turnBeside zn_cX5_turnBeside (by decide +kernel))
theorem dX5_turnBeside_94 : decode cX5_turnBeside 94 = .ok (.invokevirtual 230, 3) := zo_182 (b1 := 0) (b2 := 230) (zkb3 zk_cX5_turnBeside zn_cX5_turnBeside (by decide +kernel)) rfl
theorem dX5_turnBeside_97 : decode cX5_turnBeside 97 = .ok (.istore_n 3, 1) := zo_62 (zkb zk_cX5_turnBeside zn_cX5_turnBeside (by decide +kernel))
theorem dX5_turnBeside_98 : decode cX5_turnBeside 98 = .ok (.aload_n 0, 1) := zo_42 (zkb zk_cX5_turnBeside zn_cX5_turnBeside (by decide +kernel))
theorem dX5_turnBeside_99 : decode cX5_turnBeside 99 = .ok (.getfield 20, 3) := zo_180 (b1 := 0) (b2 := 20) (zkb3 zk_cX5_turnBeside zn_cX5_turnBeside (by decide +kernel)) rfl
theorem dX5_turnBeside_102 : decode cX5_turnBeside 102 = .ok (.aload_n 0, 1) := zo_42 (zkb zk_cX5_turnBeside zn_cX5_turnBeside (by decide +kernel))
theorem dX5_turnBeside_103 : decode cX5_turnBeside 103 = .ok (.getfield 68, 3) := zo_180 (b1 := 0) (b2 := 68) (zkb3 zk_cX5_turnBeside zn_cX5_turnBeside (by decide +kernel)) rfl
theorem dX5_turnBeside_106 : decode cX5_turnBeside 106 = .ok (.iload_n 3, 1) := zo_29 (zkb zk_cX5_turnBeside zn_cX5_turnBeside (by decide +kernel))
theorem dX5_turnBeside_107 : decode cX5_turnBeside 107 = .ok (.invokevirtual 117, 3) := zo_182 (b1 := 0) (b2 := 117) (zkb3 zk_cX5_turnBeside zn_cX5_turnBeside (by decide +kernel)) rfl
theorem dX5_turnBeside_110 : decode cX5_turnBeside 110 = .ok (.iload_n 1, 1) := zo_27 (zkb zk_cX5_turnBeside zn_cX5_turnBeside (by decide +kernel))
theorem dX5_turnBeside_111 : decode cX5_turnBeside 111 = .ok (.bipush 7, 2) := zo_16 (b1 := 7) (zkb2 zk_cX5_turnBeside zn_cX5_turnBeside (by decide +kernel)) rfl
theorem dX5_turnBeside_113 : decode cX5_turnBeside 113 = .ok (.iand, 1) := zo_126 (zkb zk_cX5_turnBeside zn_cX5_turnBeside (by decide +kernel))
theorem dX5_turnBeside_114 : decode cX5_turnBeside 114 = .ok (.bipush 6, 2) := zo_16 (b1 := 6) (zkb2 zk_cX5_turnBeside zn_cX5_turnBeside (by decide +kernel)) rfl
theorem dX5_turnBeside_116 : decode cX5_turnBeside 116 = .ok (.if_icmp .eq 12, 3) := zo_159 (b1 := 0) (b2 := 12) (zkb3 zk_cX5_turnBeside zn_cX5_turnBeside (by decide +kernel)) rfl
theorem dX5_turnBeside_119 : decode cX5_turnBeside 119 = .ok (.aload_n 0, 1) := zo_42 (zkb zk_cX5_turnBeside zn_cX5_turnBeside (by decide +kernel))
theorem dX5_turnBeside_120 : decode cX5_turnBeside 120 = .ok (.iload_n 1, 1) := zo_27 (zkb zk_cX5_turnBeside zn_cX5_turnBeside (by decide +kernel))
theorem dX5_turnBeside_121 : decode cX5_turnBeside 121 = .ok (.bipush 7, 2) := zo_16 (b1 := 7) (zkb2 zk_cX5_turnBeside zn_cX5_turnBeside (by decide +kernel)) rfl
theorem dX5_turnBeside_123 : decode cX5_turnBeside 123 = .ok (.iand, 1) := zo_126 (zkb zk_cX5_turnBeside zn_cX5_turnBeside (by decide +kernel))
theorem dX5_turnBeside_124 : decode cX5_turnBeside 124 = .ok (.iload_n 3, 1) := zo_29 (zkb zk_cX5_turnBeside zn_cX5_turnBeside (by decide +kernel))
theorem dX5_turnBeside_125 : decode cX5_turnBeside 125 = .ok (.invokevirtual 166, 3) := zo_182 (b1 := 0) (b2 := 166) (zkb3 zk_cX5_turnBeside zn_cX5_turnBeside (by decide +kernel)) rfl
theorem dX5_turnBeside_128 : decode cX5_turnBeside 128 = .ok (.bipush 23, 2) := zo_16 (b1 := 23) (zkb2 zk_cX5_turnBeside zn_cX5_turnBeside (by decide +kernel)) rfl
theorem dX5_turnBeside_130 : decode cX5_turnBeside 130 = .ok (.ireturn, 1) := zo_172 (zkb zk_cX5_turnBeside zn_cX5_turnBeside (by decide +kernel))
def kn_cX5_moreOfA : Nat := 0xac0810ac1210ff00b6030400a7040700a0071b2aac09104f80030400a7070700a0042e18100900b42a80bb00b82e030900b42a7e042e040900b42a040900b42a4f2e16100900b42a0a00a72e15100900b42a0d00a0051b030900b42aac09104f2e030900b42a16100900b42aac09104f2e030900b42a15100900b42a8f0000008f000000470000004700000037000000270000000500000000000000a00000000000aa1b
theorem zk_cX5_moreOfA : zkd cX5_moreOfA.data.toList kn_cX5_moreOfA = true := by decide +kernel
theorem zn_cX5_moreOfA : cX5_moreOfA.data.toList.length = 164 := by decide +kernel
theorem dX5_moreOfA_0 : decode cX5_moreOfA 0 = .ok (.iload_n 1, 1) := zo_27 (zkb zk_cX5_moreOfA zn_cX5_moreOfA (by decide +kernel))
theorem dX5_moreOfA_1 : decode cX5_moreOfA 1 = .ok (.tableswitch 160 0 5 #[39, 55, 71, 71, 143, 143], 39) := by decide +kernel
theorem dX5_moreOfA_40 : decode cX5_moreOfA 40 = .ok (.aload_n 0, 1) := zo_42 (zkb zk_cX5_moreOfA zn_cX5_moreOfA (by decide +kernel))
theorem dX5_moreOfA_41 : decode cX5_moreOfA 41 = .ok (.getfield 9, 3) := zo_180 (b1 := 0) (b2 := 9) (zkb3 zk_cX5_moreOfA zn_cX5_moreOfA (by decide +kernel)) rfl
theorem dX5_moreOfA_44 : decode cX5_moreOfA 44 = .ok (.bipush 21, 2) := zo_16 (b1 := 21) (zkb2 zk_cX5_moreOfA zn_cX5_moreOfA (by decide +kernel)) rfl
theorem dX5_moreOfA_46 : decode cX5_moreOfA 46 = .ok (.aload_n 0, 1) := zo_42 (zkb zk_cX5_moreOfA zn_cX5_moreOfA (by decide +kernel))
theorem dX5_moreOfA_47 : decode cX5_moreOfA 47 = .ok (.getfield 9, 3) := zo_180 (b1 := 0) (b2 := 9) (zkb3 zk_cX5_moreOfA zn_cX5_moreOfA (by decide +kernel)) rfl
theorem dX5_moreOfA_50 : decode cX5_moreOfA 50 = .ok (.iconst 0, 1) := zo_3 (zkb zk_cX5_moreOfA zn_cX5_moreOfA (by decide +kernel))
theorem dX5_moreOfA_51 : decode cX5_moreOfA 51 = .ok (.iaload, 1) := zo_46 (zkb zk_cX5_moreOfA zn_cX5_moreOfA (by decide +kernel))
theorem dX5_moreOfA_52 : decode cX5_moreOfA 52 = .ok (.iastore, 1) := zo_79 (zkb zk_cX5_moreOfA zn_cX5_moreOfA (by decide +kernel))
theorem dX5_moreOfA_53 : decode cX5_moreOfA 53 = .ok (.bipush 9, 2) := zo_16 (b1 := 9) (zkb2 zk_cX5_moreOfA zn_cX5_moreOfA (by decide +kernel)) rfl
theorem dX5_moreOfA_55 : decode cX5_moreOfA 55 = .ok (.ireturn, 1) := zo_172 (zkb zk_cX5_moreOfA zn_cX5_moreOfA (by decide +kernel))
theorem dX5_moreOfA_56 : decode cX5_moreOfA 56 = .ok (.aload_n 0, 1) := zo_42 (zkb zk_cX5_moreOfA zn_cX5_moreOfA (by decide +kernel))
theorem dX5_moreOfA_57 : decode cX5_moreOfA 57 = .ok (.getfield 9, 3) := zo_180 (b1 := 0) (b2 := 9) (zkb3 zk_cX5_moreOfA zn_cX5_moreOfA (by decide +kernel)) rfl
theorem dX5_moreOfA_60 : decode cX5_moreOfA 60 = .ok (.bipush 22, 2) := zo_16 (b1 := 22) (zkb2 zk_cX5_moreOfA zn_cX5_moreOfA (by decide +kernel)) rfl
theorem dX5_moreOfA_62 : decode cX5_moreOfA 62 = .ok (.aload_n 0, 1) := zo_42 (zkb zk_cX5_moreOfA zn_cX5_moreOfA (by decide +kernel))
theorem dX5_moreOfA_63 : decode cX5_moreOfA 63 = .ok (.getfield 9, 3) := zo_180 (b1 := 0) (b2 := 9) (zkb3 zk_cX5_moreOfA zn_cX5_moreOfA (by decide +kernel)) rfl
theorem dX5_moreOfA_66 : decode cX5_moreOfA 66 = .ok (.iconst 0, 1) := zo_3 (zkb zk_cX5_moreOfA zn_cX5_moreOfA (by decide +kernel))
theorem dX5_moreOfA_67 : decode cX5_moreOfA 67 = .ok (.iaload, 1) := zo_46 (zkb zk_cX5_moreOfA zn_cX5_moreOfA (by decide +kernel))
theorem dX5_moreOfA_68 : decode cX5_moreOfA 68 = .ok (.iastore, 1) := zo_79 (zkb zk_cX5_moreOfA zn_cX5_moreOfA (by decide +kernel))
theorem dX5_moreOfA_69 : decode cX5_moreOfA 69 = .ok (.bipush 9, 2) := zo_16 (b1 := 9) (zkb2 zk_cX5_moreOfA zn_cX5_moreOfA (by decide +kernel)) rfl
theorem dX5_moreOfA_71 : decode cX5_moreOfA 71 = .ok (.ireturn, 1) := zo_172 (zkb zk_cX5_moreOfA zn_cX5_moreOfA (by decide +kernel))
theorem dX5_moreOfA_72 : decode cX5_moreOfA 72 = .ok (.aload_n 0, 1) := zo_42 (zkb zk_cX5_moreOfA zn_cX5_moreOfA (by decide +kernel))
theorem dX5_moreOfA_73 : decode cX5_moreOfA 73 = .ok (.getfield 9, 3) := zo_180 (b1 := 0) (b2 := 9) (zkb3 zk_cX5_moreOfA zn_cX5_moreOfA (by decide +kernel)) rfl
theorem dX5_moreOfA_76 : decode cX5_moreOfA 76 = .ok (.iconst 0, 1) := zo_3 (zkb zk_cX5_moreOfA zn_cX5_moreOfA (by decide +kernel))
theorem dX5_moreOfA_77 : decode cX5_moreOfA 77 = .ok (.iload_n 1, 1) := zo_27 (zkb zk_cX5_moreOfA zn_cX5_moreOfA (by decide +kernel))
theorem dX5_moreOfA_78 : decode cX5_moreOfA 78 = .ok (.iconst 2, 1) := zo_5 (zkb zk_cX5_moreOfA zn_cX5_moreOfA (by decide +kernel))
theorem dX5_moreOfA_79 : decode cX5_moreOfA 79 = .ok (.if_icmp .ne 13, 3) := zo_160 (b1 := 0) (b2 := 13) (zkb3 zk_cX5_moreOfA zn_cX5_moreOfA (by decide +kernel)) rfl
theorem dX5_moreOfA_82 : decode cX5_moreOfA 82 = .ok (.aload_n 0, 1) := zo_42 (zkb zk_cX5_moreOfA zn_cX5_moreOfA (by decide +kernel))
theorem dX5_moreOfA_83 : decode cX5_moreOfA 83 = .ok (.getfield 9, 3) := zo_180 (b1 := 0) (b2 := 9) (zkb3 zk_cX5_moreOfA zn_cX5_moreOfA (by decide +kernel)) rfl
theorem dX5_moreOfA_86 : decode cX5_moreOfA 86 = .ok (.bipush 21, 2) := zo_16 (b1 := 21) (zkb2 zk_cX5_moreOfA zn_cX5_moreOfA (by decide +kernel)) rfl
theorem dX5_moreOfA_88 : decode cX5_moreOfA 88 = .ok (.iaload, 1) := zo_46 (zkb zk_cX5_moreOfA zn_cX5_moreOfA (by decide +kernel))
theorem dX5_moreOfA_89 : decode cX5_moreOfA 89 = .ok (.goto 10, 3) := zo_167 (b1 := 0) (b2 := 10) (zkb3 zk_cX5_moreOfA zn_cX5_moreOfA (by decide +kernel)) rfl
theorem dX5_moreOfA_92 : decode cX5_moreOfA 92 = .ok (.aload_n 0, 1) := zo_42 (zkb zk_cX5_moreOfA zn_cX5_moreOfA (by decide +kernel))
theorem dX5_moreOfA_93 : decode cX5_moreOfA 93 = .ok (.getfield 9, 3) := zo_180 (b1 := 0) (b2 := 9) (zkb3 zk_cX5_moreOfA zn_cX5_moreOfA (by decide +kernel)) rfl
theorem dX5_moreOfA_96 : decode cX5_moreOfA 96 = .ok (.bipush 22, 2) := zo_16 (b1 := 22) (zkb2 zk_cX5_moreOfA zn_cX5_moreOfA (by decide +kernel)) rfl
theorem dX5_moreOfA_98 : decode cX5_moreOfA 98 = .ok (.iaload, 1) := zo_46 (zkb zk_cX5_moreOfA zn_cX5_moreOfA (by decide +kernel))
theorem dX5_moreOfA_99 : decode cX5_moreOfA 99 = .ok (.iastore, 1) := zo_79 (zkb zk_cX5_moreOfA zn_cX5_moreOfA (by decide +kernel))
theorem dX5_moreOfA_100 : decode cX5_moreOfA 100 = .ok (.aload_n 0, 1) := zo_42 (zkb zk_cX5_moreOfA zn_cX5_moreOfA (by decide +kernel))
theorem dX5_moreOfA_101 : decode cX5_moreOfA 101 = .ok (.getfield 9, 3) := zo_180 (b1 := 0) (b2 := 9) (zkb3 zk_cX5_moreOfA zn_cX5_moreOfA (by decide +kernel)) rfl
theorem dX5_moreOfA_104 : decode cX5_moreOfA 104 = .ok (.iconst 1, 1) := zo_4 (zkb zk_cX5_moreOfA zn_cX5_moreOfA (by decide +kernel))
theorem dX5_moreOfA_105 : decode cX5_moreOfA 105 = .ok (.aload_n 0, 1) := zo_42 (zkb zk_cX5_moreOfA zn_cX5_moreOfA (by decide +kernel))
theorem dX5_moreOfA_106 : decode cX5_moreOfA 106 = .ok (.getfield 9, 3) := zo_180 (b1 := 0) (b2 := 9) (zkb3 zk_cX5_moreOfA zn_cX5_moreOfA (by decide +kernel)) rfl
theorem dX5_moreOfA_109 : decode cX5_moreOfA 109 = .ok (.iconst 1, 1) := zo_4 (zkb zk_cX5_moreOfA zn_cX5_moreOfA (by decide +kernel))
theorem dX5_moreOfA_110 : decode cX5_moreOfA 110 = .ok (.iaload, 1) := zo_46 (zkb zk_cX5_moreOfA zn_cX5_moreOfA (by decide +kernel))
theorem dX5_moreOfA_111 : decode cX5_moreOfA 111 = .ok (.iconst 1, 1) := zo_4 (zkb zk_cX5_moreOfA zn_cX5_moreOfA (by decide +kernel))
theorem dX5_moreOfA_112 : decode cX5_moreOfA 112 = .ok (.iand, 1) := zo_126 (zkb zk_cX5_moreOfA zn_cX5_moreOfA (by decide +kernel))
theorem dX5_moreOfA_113 : decode cX5_moreOfA 113 = .ok (.aload_n 0, 1) := zo_42 (zkb zk_cX5_moreOfA zn_cX5_moreOfA (by decide +kernel))
theorem dX5_moreOfA_114 : decode cX5_moreOfA 114 = .ok (.getfield 9, 3) := zo_180 (b1 := 0) (b2 := 9) (zkb3 zk_cX5_moreOfA zn_cX5_moreOfA (by decide +kernel)) rfl
theorem dX5_moreOfA_117 : decode cX5_moreOfA 117 = .ok (.iconst 0, 1) := zo_3 (zkb zk_cX5_moreOfA zn_cX5_moreOfA (by decide +kernel))
theorem dX5_moreOfA_118 : decode cX5_moreOfA 118 = .ok (.iaload, 1) := zo_46 (zkb zk_cX5_moreOfA zn_cX5_moreOfA (by decide +kernel))
theorem dX5_moreOfA_119 : decode cX5_moreOfA 119 = .ok (.invokestatic 187, 3) := zo_184 (b1 := 0) (b2 := 187) (zkb3 zk_cX5_moreOfA zn_cX5_moreOfA (by decide +kernel)) rfl
theorem dX5_moreOfA_122 : decode cX5_moreOfA 122 = .ok (.ior, 1) := zo_128 (zkb zk_cX5_moreOfA zn_cX5_moreOfA (by decide +kernel))
theorem dX5_moreOfA_123 : decode cX5_moreOfA 123 = .ok (.aload_n 0, 1) := zo_42 (zkb zk_cX5_moreOfA zn_cX5_moreOfA (by decide +kernel))
theorem dX5_moreOfA_124 : decode cX5_moreOfA 124 = .ok (.getfield 9, 3) := zo_180 (b1 := 0) (b2 := 9) (zkb3 zk_cX5_moreOfA zn_cX5_moreOfA (by decide +kernel)) rfl
theorem dX5_moreOfA_127 : decode cX5_moreOfA 127 = .ok (.bipush 24, 2) := zo_16 (b1 := 24) (zkb2 zk_cX5_moreOfA zn_cX5_moreOfA (by decide +kernel)) rfl
theorem dX5_moreOfA_129 : decode cX5_moreOfA 129 = .ok (.iaload, 1) := zo_46 (zkb zk_cX5_moreOfA zn_cX5_moreOfA (by decide +kernel))
theorem dX5_moreOfA_130 : decode cX5_moreOfA 130 = .ok (.iconst 1, 1) := zo_4 (zkb zk_cX5_moreOfA zn_cX5_moreOfA (by decide +kernel))
theorem dX5_moreOfA_131 : decode cX5_moreOfA 131 = .ok (.if_icmp .ne 7, 3) := zo_160 (b1 := 0) (b2 := 7) (zkb3 zk_cX5_moreOfA zn_cX5_moreOfA (by decide +kernel)) rfl
theorem dX5_moreOfA_134 : decode cX5_moreOfA 134 = .ok (.iconst 4, 1) := zo_7 (zkb zk_cX5_moreOfA zn_cX5_moreOfA (by decide +kernel))
theorem dX5_moreOfA_135 : decode cX5_moreOfA 135 = .ok (.goto 4, 3) := zo_167 (b1 := 0) (b2 := 4) (zkb3 zk_cX5_moreOfA zn_cX5_moreOfA (by decide +kernel)) rfl
theorem dX5_moreOfA_138 : decode cX5_moreOfA 138 = .ok (.iconst 0, 1) := zo_3 (zkb zk_cX5_moreOfA zn_cX5_moreOfA (by decide +kernel))
theorem dX5_moreOfA_139 : decode cX5_moreOfA 139 = .ok (.ior, 1) := zo_128 (zkb zk_cX5_moreOfA zn_cX5_moreOfA (by decide +kernel))
theorem dX5_moreOfA_140 : decode cX5_moreOfA 140 = .ok (.iastore, 1) := zo_79 (zkb zk_cX5_moreOfA zn_cX5_moreOfA (by decide +kernel))
theorem dX5_moreOfA_141 : decode cX5_moreOfA 141 = .ok (.bipush 9, 2) := zo_16 (b1 := 9) (zkb2 zk_cX5_moreOfA zn_cX5_moreOfA (by decide +kernel)) rfl
theorem dX5_moreOfA_143 : decode cX5_moreOfA 143 = .ok (.ireturn, 1) := zo_172 (zkb zk_cX5_moreOfA zn_cX5_moreOfA (by decide +kernel))
theorem dX5_moreOfA_144 : decode cX5_moreOfA 144 = .ok (.aload_n 0, 1) := zo_42 (zkb zk_cX5_moreOfA zn_cX5_moreOfA (by decide +kernel))
theorem dX5_moreOfA_145 : decode cX5_moreOfA 145 = .ok (.iload_n 1, 1) := zo_27 (zkb zk_cX5_moreOfA zn_cX5_moreOfA (by decide +kernel))
theorem dX5_moreOfA_146 : decode cX5_moreOfA 146 = .ok (.iconst 4, 1) := zo_7 (zkb zk_cX5_moreOfA zn_cX5_moreOfA (by decide +kernel))
theorem dX5_moreOfA_147 : decode cX5_moreOfA 147 = .ok (.if_icmp .ne 7, 3) := zo_160 (b1 := 0) (b2 := 7) (zkb3 zk_cX5_moreOfA zn_cX5_moreOfA (by decide +kernel)) rfl
theorem dX5_moreOfA_150 : decode cX5_moreOfA 150 = .ok (.iconst 1, 1) := zo_4 (zkb zk_cX5_moreOfA zn_cX5_moreOfA (by decide +kernel))
theorem dX5_moreOfA_151 : decode cX5_moreOfA 151 = .ok (.goto 4, 3) := zo_167 (b1 := 0) (b2 := 4) (zkb3 zk_cX5_moreOfA zn_cX5_moreOfA (by decide +kernel)) rfl
theorem dX5_moreOfA_154 : decode cX5_moreOfA 154 = .ok (.iconst 0, 1) := zo_3 (zkb zk_cX5_moreOfA zn_cX5_moreOfA (by decide +kernel))
theorem dX5_moreOfA_155 : decode cX5_moreOfA 155 = .ok (.invokevirtual 255, 3) := zo_182 (b1 := 0) (b2 := 255) (zkb3 zk_cX5_moreOfA zn_cX5_moreOfA (by decide +kernel)) rfl
theorem dX5_moreOfA_158 : decode cX5_moreOfA 158 = .ok (.bipush 18, 2) := zo_16 (b1 := 18) (zkb2 zk_cX5_moreOfA zn_cX5_moreOfA (by decide +kernel)) rfl
theorem dX5_moreOfA_160 : decode cX5_moreOfA 160 = .ok (.ireturn, 1) := zo_172 (zkb zk_cX5_moreOfA zn_cX5_moreOfA (by decide +kernel))
theorem dX5_moreOfA_161 : decode cX5_moreOfA 161 = .ok (.bipush 8, 2) := zo_16 (b1 := 8) (zkb2 zk_cX5_moreOfA zn_cX5_moreOfA (by decide +kernel)) rfl
theorem dX5_moreOfA_163 : decode cX5_moreOfA 163 = .ok (.ireturn, 1) := zo_172 (zkb zk_cX5_moreOfA zn_cX5_moreOfA (by decide +kernel))
def kn_cX5_turnDigits : Nat := 0xb14f80c400b82e030900b42a80bb00b82e030900b42a7e042e040900b42a040900b42a4f807a071d0600a77e0f101d0a00991b7ef000112e030900b42a030900b42a7500b68004157eff001178071d0d00a7807a071d780704150e00991b1c1400b42a4f7e2f1260041c14100900b42a04367e0f102e030900b42a3e4b00b61c1400b42a3d4100b606102a
theorem zk_cX5_turnDigits : zkd cX5_turnDigits.data.toList kn_cX5_turnDigits = true := by decide +kernel
theorem zn_cX5_turnDigits : cX5_turnDigits.data.toList.length = 139 := by decide +kernel
theorem dX5_turnDigits_0 : decode cX5_turnDigits 0 = .ok (.aload_n 0, 1) := zo_42 (zkb zk_cX5_turnDigits zn_cX5_turnDigits (by decide +kernel))
theorem dX5_turnDigits_1 : decode cX5_turnDigits 1 = .ok (.bipush 6, 2) := zo_16 (b1 := 6) (zkb2 zk_cX5_turnDigits zn_cX5_turnDigits (by decide +kernel)) rfl
theorem dX5_turnDigits_3 : decode cX5_turnDigits 3 = .ok (.invokevirtual 65, 3) := zo_182 (b1 := 0) (b2 := 65) (zkb3 zk_cX5_turnDigits zn_cX5_turnDigits (by decide +kernel)) rfl
theorem dX5_turnDigits_6 : decode cX5_turnDigits 6 = .ok (.istore_n 2, 1) := zo_61 (zkb zk_cX5_turnDigits zn_cX5_turnDigits (by decide +kernel))
theorem dX5_turnDigits_7 : decode cX5_turnDigits 7 = .ok (.aload_n 0, 1) := zo_42 (zkb zk_cX5_turnDigits zn_cX5_turnDigits (by decide +kernel))
theorem dX5_turnDigits_8 : decode cX5_turnDigits 8 = .ok (.getfield 20, 3) := zo_180 (b1 := 0) (b2 := 20) (zkb3 zk_cX5_turnDigits zn_cX5_turnDigits (by decide +kernel)) rfl
theorem dX5_turnDigits_11 : decode cX5_turnDigits 11 = .ok (.iload_n 2, 1) := zo_28 (zkb zk_cX5_turnDigits zn_cX5_turnDigits (by decide +kernel))
theorem dX5_turnDigits_12 : decode cX5_turnDigits 12 = .ok (.invokevirtual 75, 3) := zo_182 (b1 := 0) (b2 := 75) (zkb3 zk_cX5_turnDigits zn_cX5_turnDigits (by decide +kernel)) rfl
theorem dX5_turnDigits_15 : decode cX5_turnDigits 15 = .ok (.istore_n 3, 1) := zo_62 (zkb zk_cX5_turnDigits zn_cX5_turnDigits (by decide +kernel))
theorem dX5_turnDigits_16 : decode cX5_turnDigits 16 = .ok (.aload_n 0, 1) := zo_42 (zkb zk_cX5_turnDigits zn_cX5_turnDigits (by decide +kernel))
theorem dX5_turnDigits_17 : decode cX5_turnDigits 17 = .ok (.getfield 9, 3) := zo_180 (b1 := 0) (b2 := 9) (zkb3 zk_cX5_turnDigits zn_cX5_turnDigits (by decide +kernel)) rfl
theorem dX5_turnDigits_20 : decode cX5_turnDigits 20 = .ok (.iconst 0, 1) := zo_3 (zkb zk_cX5_turnDigits zn_cX5_turnDigits (by decide +kernel))
theorem dX5_turnDigits_21 : decode cX5_turnDigits 21 = .ok (.iaload, 1) := zo_46 (zkb zk_cX5_turnDigits zn_cX5_turnDigits (by decide +kernel))
theorem dX5_turnDigits_22 : decode cX5_turnDigits 22 = .ok (.bipush 15, 2) := zo_16 (b1 := 15) (zkb2 zk_cX5_turnDigits zn_cX5_turnDigits (by decide +kernel)) rfl
theorem dX5_turnDigits_24 : decode cX5_turnDigits 24 = .ok (.iand, 1) := zo_126 (zkb zk_cX5_turnDigits zn_cX5_turnDigits (by decide +kernel))
theorem dX5_turnDigits_25 : decode cX5_turnDigits 25 = .ok (.istore 4, 2) := zo_54 (b1 := 4) (zkb2 zk_cX5_turnDigits zn_cX5_turnDigits (by decide +kernel))
theorem dX5_turnDigits_27 : decode cX5_turnDigits 27 = .ok (.aload_n 0, 1) := zo_42 (zkb zk_cX5_turnDigits zn_cX5_turnDigits (by decide +kernel))
theorem dX5_turnDigits_28 : decode cX5_turnDigits 28 = .ok (.getfield 9, 3) := zo_180 (b1 := 0) (b2 := 9) (zkb3 zk_cX5_turnDigits zn_cX5_turnDigits (by decide +kernel)) rfl
theorem dX5_turnDigits_31 : decode cX5_turnDigits 31 = .ok (.bipush 20, 2) := zo_16 (b1 := 20) (zkb2 zk_cX5_turnDigits zn_cX5_turnDigits (by decide +kernel)) rfl
theorem dX5_turnDigits_33 : decode cX5_turnDigits 33 = .ok (.iload_n 2, 1) := zo_28 (zkb zk_cX5_turnDigits zn_cX5_turnDigits (by decide +kernel))
theorem dX5_turnDigits_34 : decode cX5_turnDigits 34 = .ok (.iconst 1, 1) := zo_4 (zkb zk_cX5_turnDigits zn_cX5_turnDigits (by decide +kernel))
theorem dX5_turnDigits_35 : decode cX5_turnDigits 35 = .ok (.iadd, 1) := zo_96 (zkb zk_cX5_turnDigits zn_cX5_turnDigits (by decide +kernel))
theorem dX5_turnDigits_36 : decode cX5_turnDigits 36 = .ok (.ldc 47, 2) := zo_18 (b1 := 47) (zkb2 zk_cX5_turnDigits zn_cX5_turnDigits (by decide +kernel))
theorem dX5_turnDigits_38 : decode cX5_turnDigits 38 = .ok (.iand, 1) := zo_126 (zkb zk_cX5_turnDigits zn_cX5_turnDigits (by decide +kernel))
theorem dX5_turnDigits_39 : decode cX5_turnDigits 39 = .ok (.iastore, 1) := zo_79 (zkb zk_cX5_turnDigits zn_cX5_turnDigits (by decide +kernel))
theorem dX5_turnDigits_40 : decode cX5_turnDigits 40 = .ok (.aload_n 0, 1) := zo_42 (zkb zk_cX5_turnDigits zn_cX5_turnDigits (by decide +kernel))
theorem dX5_turnDigits_41 : decode cX5_turnDigits 41 = .ok (.getfield 20, 3) := zo_180 (b1 := 0) (b2 := 20) (zkb3 zk_cX5_turnDigits zn_cX5_turnDigits (by decide +kernel)) rfl
theorem dX5_turnDigits_44 : decode cX5_turnDigits 44 = .ok (.iload_n 2, 1) := zo_28 (zkb zk_cX5_turnDigits zn_cX5_turnDigits (by decide +kernel))
theorem dX5_turnDigits_45 : decode cX5_turnDigits 45 = .ok (.iload_n 1, 1) := zo_27 (zkb zk_cX5_turnDigits zn_cX5_turnDigits (by decide +kernel))
theorem dX5_turnDigits_46 : decode cX5_turnDigits 46 = .ok (.ifCond .eq 14, 3) := zo_153 (b1 := 0) (b2 := 14) (zkb3 zk_cX5_turnDigits zn_cX5_turnDigits (by decide +kernel)) rfl
theorem dX5_turnDigits_49 : decode cX5_turnDigits 49 = .ok (.iload 4, 2) := zo_21 (b1 := 4) (zkb2 zk_cX5_turnDigits zn_cX5_turnDigits (by decide +kernel))
theorem dX5_turnDigits_51 : decode cX5_turnDigits 51 = .ok (.iconst 4, 1) := zo_7 (zkb zk_cX5_turnDigits zn_cX5_turnDigits (by decide +kernel))
theorem dX5_turnDigits_52 : decode cX5_turnDigits 52 = .ok (.ishl, 1) := zo_120 (zkb zk_cX5_turnDigits zn_cX5_turnDigits (by decide +kernel))
theorem dX5_turnDigits_53 : decode cX5_turnDigits 53 = .ok (.iload_n 3, 1) := zo_29 (zkb zk_cX5_turnDigits zn_cX5_turnDigits (by decide +kernel))
theorem dX5_turnDigits_54 : decode cX5_turnDigits 54 = .ok (.iconst 4, 1) := zo_7 (zkb zk_cX5_turnDigits zn_cX5_turnDigits (by decide +kernel))
theorem dX5_turnDigits_55 : decode cX5_turnDigits 55 = .ok (.ishr, 1) := zo_122 (zkb zk_cX5_turnDigits zn_cX5_turnDigits (by decide +kernel))
theorem dX5_turnDigits_56 : decode cX5_turnDigits 56 = .ok (.ior, 1) := zo_128 (zkb zk_cX5_turnDigits zn_cX5_turnDigits (by decide +kernel))
theorem dX5_turnDigits_57 : decode cX5_turnDigits 57 = .ok (.goto 13, 3) := zo_167 (b1 := 0) (b2 := 13) (zkb3 zk_cX5_turnDigits zn_cX5_turnDigits (by decide +kernel)) rfl
theorem dX5_turnDigits_60 : decode cX5_turnDigits 60 = .ok (.iload_n 3, 1) := zo_29 (zkb zk_cX5_turnDigits zn_cX5_turnDigits (by decide +kernel))
theorem dX5_turnDigits_61 : decode cX5_turnDigits 61 = .ok (.iconst 4, 1) := zo_7 (zkb zk_cX5_turnDigits zn_cX5_turnDigits (by decide +kernel))
theorem dX5_turnDigits_62 : decode cX5_turnDigits 62 = .ok (.ishl, 1) := zo_120 (zkb zk_cX5_turnDigits zn_cX5_turnDigits (by decide +kernel))
theorem dX5_turnDigits_63 : decode cX5_turnDigits 63 = .ok (.sipush 255, 3) := zo_17 (b1 := 0) (b2 := 255) (zkb3 zk_cX5_turnDigits zn_cX5_turnDigits (by decide +kernel)) rfl
theorem dX5_turnDigits_66 : decode cX5_turnDigits 66 = .ok (.iand, 1) := zo_126 (zkb zk_cX5_turnDigits zn_cX5_turnDigits (by decide +kernel))
theorem dX5_turnDigits_67 : decode cX5_turnDigits 67 = .ok (.iload 4, 2) := zo_21 (b1 := 4) (zkb2 zk_cX5_turnDigits zn_cX5_turnDigits (by decide +kernel))
theorem dX5_turnDigits_69 : decode cX5_turnDigits 69 = .ok (.ior, 1) := zo_128 (zkb zk_cX5_turnDigits zn_cX5_turnDigits (by decide +kernel))
theorem dX5_turnDigits_70 : decode cX5_turnDigits 70 = .ok (.invokevirtual 117, 3) := zo_182 (b1 := 0) (b2 := 117) (zkb3 zk_cX5_turnDigits zn_cX5_turnDigits (by decide +kernel)) rfl
theorem dX5_turnDigits_73 : decode cX5_turnDigits 73 = .ok (.aload_n 0, 1) := zo_42 (zkb zk_cX5_turnDigits zn_cX5_turnDigits (by decide +kernel))
theorem dX5_turnDigits_74 : decode cX5_turnDigits 74 = .ok (.getfield 9, 3) := zo_180 (b1 := 0) (b2 := 9) (zkb3 zk_cX5_turnDigits zn_cX5_turnDigits (by decide +kernel)) rfl
theorem dX5_turnDigits_77 : decode cX5_turnDigits 77 = .ok (.iconst 0, 1) := zo_3 (zkb zk_cX5_turnDigits zn_cX5_turnDigits (by decide +kernel))
theorem dX5_turnDigits_78 : decode cX5_turnDigits 78 = .ok (.aload_n 0, 1) := zo_42 (zkb zk_cX5_turnDigits zn_cX5_turnDigits (by decide +kernel))
theorem dX5_turnDigits_79 : decode cX5_turnDigits 79 = .ok (.getfield 9, 3) := zo_180 (b1 := 0) (b2 := 9) (zkb3 zk_cX5_turnDigits zn_cX5_turnDigits (by decide +kernel)) rfl
theorem dX5_turnDigits_82 : decode cX5_turnDigits 82 = .ok (.iconst 0, 1) := zo_3 (zkb zk_cX5_turnDigits zn_cX5_turnDigits (by decide +kernel))
theorem dX5_turnDigits_83 : decode cX5_turnDigits 83 = .ok (.iaload, 1) := zo_46 (zkb zk_cX5_turnDigits zn_cX5_turnDigits (by decide +kernel))
theorem dX5_turnDigits_84 : decode cX5_turnDigits 84 = .ok (.sipush 240, 3) := zo_17 (b1 := 0) (b2 := 240) (zkb3 zk_cX5_turnDigits zn_cX5_turnDigits (by decide +kernel)) rfl
theorem dX5_turnDigits_87 : decode cX5_turnDigits 87 = .ok (.iand, 1) := zo_126 (zkb zk_cX5_turnDigits zn_cX5_turnDigits (by decide +kernel))
theorem dX5_turnDigits_88 : decode cX5_turnDigits 88 = .ok (.iload_n 1, 1) := zo_27 (zkb zk_cX5_turnDigits zn_cX5_turnDigits (by decide +kernel))
theorem dX5_turnDigits_89 : decode cX5_turnDigits 89 = .ok (.ifCond .eq 10, 3) := zo_153 (b1 := 0) (b2 := 10) (zkb3 zk_cX5_turnDigits zn_cX5_turnDigits (by decide +kernel)) rfl
theorem dX5_turnDigits_92 : decode cX5_turnDigits 92 = .ok (.iload_n 3, 1) := zo_29 (zkb zk_cX5_turnDigits zn_cX5_turnDigits (by decide +kernel))
theorem dX5_turnDigits_93 : decode cX5_turnDigits 93 = .ok (.bipush 15, 2) := zo_16 (b1 := 15) (zkb2 zk_cX5_turnDigits zn_cX5_turnDigits (by decide +kernel)) rfl
theorem dX5_turnDigits_95 : decode cX5_turnDigits 95 = .ok (.iand, 1) := zo_126 (zkb zk_cX5_turnDigits zn_cX5_turnDigits (by decide +kernel))
theorem dX5_turnDigits_96 : decode cX5_turnDigits 96 = .ok (.goto 6, 3) := zo_167 (b1 := 0) (b2 := 6) (zkb3 zk_cX5_turnDigits zn_cX5_turnDigits (by decide +kernel)) rfl
theorem dX5_turnDigits_99 : decode cX5_turnDigits 99 = .ok (.iload_n 3, 1) := zo_29 (zkb zk_cX5_turnDigits zn_cX5_turnDigits (by decide +kernel))
theorem dX5_turnDigits_100 : decode cX5_turnDigits 100 = .ok (.iconst 4, 1) := zo_7 (zkb zk_cX5_turnDigits zn_cX5_turnDigits (by decide +kernel))
theorem dX5_turnDigits_101 : decode cX5_turnDigits 101 = .ok (.ishr, 1) := zo_122 (zkb zk_cX5_turnDigits zn_cX5_turnDigits (by decide +kernel))
theorem dX5_turnDigits_102 : decode cX5_turnDigits 102 = .ok (.ior, 1) := zo_128 (zkb zk_cX5_turnDigits zn_cX5_turnDigits (by decide +kernel))
theorem dX5_turnDigits_103 : decode cX5_turnDigits 103 = .ok (.iastore, 1) := zo_79 (zkb zk_cX5_turnDigits zn_cX5_turnDigits (by decide +kernel))
theorem dX5_turnDigits_104 : decode cX5_turnDigits 104 = .ok (.aload_n 0, 1) := zo_42 (zkb zk_cX5_turnDigits zn_cX5_turnDigits (by decide +kernel))
theorem dX5_turnDigits_105 : decode cX5_turnDigits 105 = .ok (.getfield 9, 3) := zo_180 (b1 := 0) (b2 := 9) (zkb3 zk_cX5_turnDigits zn_cX5_turnDigits (by decide +kernel)) rfl
theorem dX5_turnDigits_108 : decode cX5_turnDigits 108 = .ok (.iconst 1, 1) := zo_4 (zkb zk_cX5_turnDigits zn_cX5_turnDigits (by decide +kernel))
theorem dX5_turnDigits_109 : decode cX5_turnDigits 109 = .ok (.aload_n 0, 1) := zo_42 (zkb zk_cX5_turnDigits zn_cX5_turnDigits (by decide +kernel))
theorem dX5_turnDigits_110 : decode cX5_turnDigits 110 = .ok (.getfield 9, 3) := zo_180 (b1 := 0) (b2 := 9) (zkb3 zk_cX5_turnDigits zn_cX5_turnDigits (by decide +kernel)) rfl
theorem dX5_turnDigits_113 : decode cX5_turnDigits 113 = .ok (.iconst 1, 1) := zo_4 (zkb zk_cX5_turnDigits zn_cX5_turnDigits (by decide +kernel))
theorem dX5_turnDigits_114 : decode cX5_turnDigits 114 = .ok (.iaload, 1) := zo_46 (zkb zk_cX5_turnDigits zn_cX5_turnDigits (by decide +kernel))
theorem dX5_turnDigits_115 : decode cX5_turnDigits 115 = .ok (.iconst 1, 1) := zo_4 (zkb zk_cX5_turnDigits zn_cX5_turnDigits (by decide +kernel))
theorem dX5_turnDigits_116 : decode cX5_turnDigits 116 = .ok (.iand, 1) := zo_126 (zkb zk_cX5_turnDigits zn_cX5_turnDigits (by decide +kernel))
theorem dX5_turnDigits_117 : decode cX5_turnDigits 117 = .ok (.aload_n 0, 1) := zo_42 (zkb zk_cX5_turnDigits zn_cX5_turnDigits (by decide +kernel))
theorem dX5_turnDigits_118 : decode cX5_turnDigits 118 = .ok (.getfield 9, 3) := zo_180 (b1 := 0) (b2 := 9) (zkb3 zk_cX5_turnDigits zn_cX5_turnDigits (by decide +kernel)) rfl
theorem dX5_turnDigits_121 : decode cX5_turnDigits 121 = .ok (.iconst 0, 1) := zo_3 (zkb zk_cX5_turnDigits zn_cX5_turnDigits (by decide +kernel))
theorem dX5_turnDigits_122 : decode cX5_turnDigits 122 = .ok (.iaload, 1) := zo_46 (zkb zk_cX5_turnDigits zn_cX5_turnDigits (by decide +kernel))
theorem dX5_turnDigits_123 : decode cX5_turnDigits 123 = .ok (.invokestatic 187, 3) := zo_184 (b1 := 0) (b2 := 187) (zkb3 zk_cX5_turnDigits zn_cX5_turnDigits (by decide +kernel)) rfl
theorem dX5_turnDigits_126 : decode cX5_turnDigits 126 = .ok (.ior, 1) := zo_128 (zkb zk_cX5_turnDigits zn_cX5_turnDigits (by decide +kernel))
theorem dX5_turnDigits_127 : decode cX5_turnDigits 127 = .ok (.aload_n 0, 1) := zo_42 (zkb zk_cX5_turnDigits zn_cX5_turnDigits (by decide +kernel))
theorem dX5_turnDigits_128 : decode cX5_turnDigits 128 = .ok (.getfield 9, 3) := zo_180 (b1 := 0) (b2 := 9) (zkb3 zk_cX5_turnDigits zn_cX5_turnDigits (by decide +kernel)) rfl
theorem dX5_turnDigits_131 : decode cX5_turnDigits 131 = .ok (.iconst 0, 1) := zo_3 (zkb zk_cX5_turnDigits zn_cX5_turnDigits (by decide +kernel))
theorem dX5_turnDigits_132 : decode cX5_turnDigits 132 = .ok (.iaload, 1) := zo_46 (zkb zk_cX5_turnDigits zn_cX5_turnDigits (by decide +kernel))
theorem dX5_turnDigits_133 : decode cX5_turnDigits 133 = .ok (.invokestatic 196, 3) := zo_184 (b1 := 0) (b2 := 196) (zkb3 zk_cX5_turnDigits zn_cX5_turnDigits (by decide +kernel)) rfl
theorem dX5_turnDigits_136 : decode cX5_turnDigits 136 = .ok (.ior, 1) := zo_128 (zkb zk_cX5_turnDigits zn_cX5_turnDigits (by decide +kernel))
theorem dX5_turnDigits_137 : decode cX5_turnDigits 137 = .ok (.iastore, 1) := zo_79 (zkb zk_cX5_turnDigits zn_cX5_turnDigits (by decide +kernel))
theorem dX5_turnDigits_138 : decode cX5_turnDigits 138 = .ok (.return_, 1) := zo_177 (zkb zk_cX5_turnDigits zn_cX5_turnDigits (by decide +kernel))
def kn_cX5_block : Nat := 0xac15104f7e2f1260042e13100900b42a14100900b42a16009a7e051b4f7e2f1264052e13100900b42a13100900b42aac101006009a7e10101b0a00991d3e0c01b61c2a0900a73e0901b61c2a1200a73e0601b61c2a1b00a73e0301b61c2a2e000000250000001c000000020000000000000037000000000000aa7e061b3d020400a70407009a7e08101b
theorem zk_cX5_block : zkd cX5_block.data.toList kn_cX5_block = true := by decide +kernel
theorem zn_cX5_block : cX5_block.data.toList.length = 138 := by decide +kernel
theorem dX5_block_0 : decode cX5_block 0 = .ok (.iload_n 1, 1) := zo_27 (zkb zk_cX5_block zn_cX5_block (by decide +kernel))
theorem dX5_block_1 : decode cX5_block 1 = .ok (.bipush 8, 2) := zo_16 (b1 := 8) (zkb2 zk_cX5_block zn_cX5_block (by decide +kernel)) rfl
theorem dX5_block_3 : decode cX5_block 3 = .ok (.iand, 1) := zo_126 (zkb zk_cX5_block zn_cX5_block (by decide +kernel))
theorem dX5_block_4 : decode cX5_block 4 = .ok (.ifCond .ne 7, 3) := zo_154 (b1 := 0) (b2 := 7) (zkb3 zk_cX5_block zn_cX5_block (by decide +kernel)) rfl
theorem dX5_block_7 : decode cX5_block 7 = .ok (.iconst 1, 1) := zo_4 (zkb zk_cX5_block zn_cX5_block (by decide +kernel))
theorem dX5_block_8 : decode cX5_block 8 = .ok (.goto 4, 3) := zo_167 (b1 := 0) (b2 := 4) (zkb3 zk_cX5_block zn_cX5_block (by decide +kernel)) rfl
theorem dX5_block_11 : decode cX5_block 11 = .ok (.iconst (-1), 1) := zo_2 (zkb zk_cX5_block zn_cX5_block (by decide +kernel))
theorem dX5_block_12 : decode cX5_block 12 = .ok (.istore_n 2, 1) := zo_61 (zkb zk_cX5_block zn_cX5_block (by decide +kernel))
theorem dX5_block_13 : decode cX5_block 13 = .ok (.iload_n 1, 1) := zo_27 (zkb zk_cX5_block zn_cX5_block (by decide +kernel))
theorem dX5_block_14 : decode cX5_block 14 = .ok (.iconst 3, 1) := zo_6 (zkb zk_cX5_block zn_cX5_block (by decide +kernel))
theorem dX5_block_15 : decode cX5_block 15 = .ok (.iand, 1) := zo_126 (zkb zk_cX5_block zn_cX5_block (by decide +kernel))
theorem dX5_block_16 : decode cX5_block 16 = .ok (.tableswitch 55 0 2 #[28, 37, 46], 28) := by decide +kernel
theorem dX5_block_44 : decode cX5_block 44 = .ok (.aload_n 0, 1) := zo_42 (zkb zk_cX5_block zn_cX5_block (by decide +kernel))
theorem dX5_block_45 : decode cX5_block 45 = .ok (.iload_n 2, 1) := zo_28 (zkb zk_cX5_block zn_cX5_block (by decide +kernel))
theorem dX5_block_46 : decode cX5_block 46 = .ok (.invokevirtual 259, 3) := zo_182 (b1 := 1) (b2 := 3) (zkb3 zk_cX5_block zn_cX5_block (by decide +kernel)) rfl
theorem dX5_block_49 : decode cX5_block 49 = .ok (.istore_n 3, 1) := zo_62 (zkb zk_cX5_block zn_cX5_block (by decide +kernel))
theorem dX5_block_50 : decode cX5_block 50 = .ok (.goto 27, 3) := zo_167 (b1 := 0) (b2 := 27) (zkb3 zk_cX5_block zn_cX5_block (by decide +kernel)) rfl
theorem dX5_block_53 : decode cX5_block 53 = .ok (.aload_n 0, 1) := zo_42 (zkb zk_cX5_block zn_cX5_block (by decide +kernel))
theorem dX5_block_54 : decode cX5_block 54 = .ok (.iload_n 2, 1) := zo_28 (zkb zk_cX5_block zn_cX5_block (by decide +kernel))
theorem dX5_block_55 : decode cX5_block 55 = .ok (.invokevirtual 262, 3) := zo_182 (b1 := 1) (b2 := 6) (zkb3 zk_cX5_block zn_cX5_block (by decide +kernel)) rfl
theorem dX5_block_58 : decode cX5_block 58 = .ok (.istore_n 3, 1) := zo_62 (zkb zk_cX5_block zn_cX5_block (by decide +kernel))
theorem dX5_block_59 : decode cX5_block 59 = .ok (.goto 18, 3) := zo_167 (b1 := 0) (b2 := 18) (zkb3 zk_cX5_block zn_cX5_block (by decide +kernel)) rfl
theorem dX5_block_62 : decode cX5_block 62 = .ok (.aload_n 0, 1) := zo_42 (zkb zk_cX5_block zn_cX5_block (by decide +kernel))
theorem dX5_block_63 : decode cX5_block 63 = .ok (.iload_n 2, 1) := zo_28 (zkb zk_cX5_block zn_cX5_block (by decide +kernel))
theorem dX5_block_64 : decode cX5_block 64 = .ok (.invokevirtual 265, 3) := zo_182 (b1 := 1) (b2 := 9) (zkb3 zk_cX5_block zn_cX5_block (by decide +kernel)) rfl
theorem dX5_block_67 : decode cX5_block 67 = .ok (.istore_n 3, 1) := zo_62 (zkb zk_cX5_block zn_cX5_block (by decide +kernel))
theorem dX5_block_68 : decode cX5_block 68 = .ok (.goto 9, 3) := zo_167 (b1 := 0) (b2 := 9) (zkb3 zk_cX5_block zn_cX5_block (by decide +kernel)) rfl
theorem dX5_block_71 : decode cX5_block 71 = .ok (.aload_n 0, 1) := zo_42 (zkb zk_cX5_block zn_cX5_block (by decide +kernel))
theorem dX5_block_72 : decode cX5_block 72 = .ok (.iload_n 2, 1) := zo_28 (zkb zk_cX5_block zn_cX5_block (by decide +kernel))
theorem dX5_block_73 : decode cX5_block 73 = .ok (.invokevirtual 268, 3) := zo_182 (b1 := 1) (b2 := 12) (zkb3 zk_cX5_block zn_cX5_block (by decide +kernel)) rfl
theorem dX5_block_76 : decode cX5_block 76 = .ok (.istore_n 3, 1) := zo_62 (zkb zk_cX5_block zn_cX5_block (by decide +kernel))
theorem dX5_block_77 : decode cX5_block 77 = .ok (.iload_n 3, 1) := zo_29 (zkb zk_cX5_block zn_cX5_block (by decide +kernel))
theorem dX5_block_78 : decode cX5_block 78 = .ok (.ifCond .eq 10, 3) := zo_153 (b1 := 0) (b2 := 10) (zkb3 zk_cX5_block zn_cX5_block (by decide +kernel)) rfl
theorem dX5_block_81 : decode cX5_block 81 = .ok (.iload_n 1, 1) := zo_27 (zkb zk_cX5_block zn_cX5_block (by decide +kernel))
theorem dX5_block_82 : decode cX5_block 82 = .ok (.bipush 16, 2) := zo_16 (b1 := 16) (zkb2 zk_cX5_block zn_cX5_block (by decide +kernel)) rfl
theorem dX5_block_84 : decode cX5_block 84 = .ok (.iand, 1) := zo_126 (zkb zk_cX5_block zn_cX5_block (by decide +kernel))
theorem dX5_block_85 : decode cX5_block 85 = .ok (.ifCond .ne 6, 3) := zo_154 (b1 := 0) (b2 := 6) (zkb3 zk_cX5_block zn_cX5_block (by decide +kernel)) rfl
theorem dX5_block_88 : decode cX5_block 88 = .ok (.bipush 16, 2) := zo_16 (b1 := 16) (zkb2 zk_cX5_block zn_cX5_block (by decide +kernel)) rfl
theorem dX5_block_90 : decode cX5_block 90 = .ok (.ireturn, 1) := zo_172 (zkb zk_cX5_block zn_cX5_block (by decide +kernel))
theorem dX5_block_91 : decode cX5_block 91 = .ok (.aload_n 0, 1) := zo_42 (zkb zk_cX5_block zn_cX5_block (by decide +kernel))
theorem dX5_block_92 : decode cX5_block 92 = .ok (.getfield 9, 3) := zo_180 (b1 := 0) (b2 := 9) (zkb3 zk_cX5_block zn_cX5_block (by decide +kernel)) rfl
theorem dX5_block_95 : decode cX5_block 95 = .ok (.bipush 19, 2) := zo_16 (b1 := 19) (zkb2 zk_cX5_block zn_cX5_block (by decide +kernel)) rfl
theorem dX5_block_97 : decode cX5_block 97 = .ok (.aload_n 0, 1) := zo_42 (zkb zk_cX5_block zn_cX5_block (by decide +kernel))
theorem dX5_block_98 : decode cX5_block 98 = .ok (.getfield 9, 3) := zo_180 (b1 := 0) (b2 := 9) (zkb3 zk_cX5_block zn_cX5_block (by decide +kernel)) rfl
theorem dX5_block_101 : decode cX5_block 101 = .ok (.bipush 19, 2) := zo_16 (b1 := 19) (zkb2 zk_cX5_block zn_cX5_block (by decide +kernel)) rfl
theorem dX5_block_103 : decode cX5_block 103 = .ok (.iaload, 1) := zo_46 (zkb zk_cX5_block zn_cX5_block (by decide +kernel))
theorem dX5_block_104 : decode cX5_block 104 = .ok (.iconst 2, 1) := zo_5 (zkb zk_cX5_block zn_cX5_block (by decide +kernel))
theorem dX5_block_105 : decode cX5_block 105 = .ok (.isub, 1) := zo_100 (zkb zk_cX5_block zn_cX5_block (by decide +kernel))
theorem dX5_block_106 : decode cX5_block 106 = .ok (.ldc 47, 2) := zo_18 (b1 := 47) (zkb2 zk_cX5_block zn_cX5_block (by decide +kernel))
theorem dX5_block_108 : decode cX5_block 108 = .ok (.iand, 1) := zo_126 (zkb zk_cX5_block zn_cX5_block (by decide +kernel))
theorem dX5_block_109 : decode cX5_block 109 = .ok (.iastore, 1) := zo_79 (zkb zk_cX5_block zn_cX5_block (by decide +kernel))
theorem dX5_block_110 : decode cX5_block 110 = .ok (.iload_n 1, 1) := zo_27 (zkb zk_cX5_block zn_cX5_block (by decide +kernel))
theorem dX5_block_111 : decode cX5_block 111 = .ok (.iconst 2, 1) := zo_5 (zkb zk_cX5_block zn_cX5_block (by decide +kernel))
theorem dX5_block_112 : decode cX5_block 112 = .ok (.iand, 1) := zo_126 (zkb zk_cX5_block zn_cX5_block (by decide +kernel))
theorem dX5_block_113 : decode cX5_block 113 = .ok (.ifCond .ne 22, 3) := zo_154 (b1 := 0) (b2 := 22) (zkb3 zk_cX5_block zn_cX5_block (by decide +kernel)) rfl
theorem dX5_block_116 : decode cX5_block 116 = .ok (.aload_n 0, 1) := zo_42 (zkb zk_cX5_block zn_cX5_block (by decide +kernel))
theorem dX5_block_117 : decode cX5_block 117 = .ok (.getfield 9, 3) := zo_180 (b1 := 0) (b2 := 9) (zkb3 zk_cX5_block zn_cX5_block (by decide +kernel)) rfl
theorem dX5_block_120 : decode cX5_block 120 = .ok (.bipush 20, 2) := zo_16 (b1 := 20) (zkb2 zk_cX5_block zn_cX5_block (by decide +kernel)) rfl
theorem dX5_block_122 : decode cX5_block 122 = .ok (.aload_n 0, 1) := zo_42 (zkb zk_cX5_block zn_cX5_block (by decide +kernel))
theorem dX5_block_123 : decode cX5_block 123 = .ok (.getfield 9, 3) := zo_180 (b1 := 0) (b2 := 9) (zkb3 zk_cX5_block zn_cX5_block (by decide +kernel)) rfl
theorem dX5_block_126 : decode cX5_block 126 = .ok (.bipush 19, 2) := zo_16 (b1 := 19) (zkb2 zk_cX5_block zn_cX5_block (by decide +kernel)) rfl
theorem dX5_block_128 : decode cX5_block 128 = .ok (.iaload, 1) := zo_46 (zkb zk_cX5_block zn_cX5_block (by decide +kernel))
theorem dX5_block_129 : decode cX5_block 129 = .ok (.iconst 1, 1) := zo_4 (zkb zk_cX5_block zn_cX5_block (by decide +kernel))
theorem dX5_block_130 : decode cX5_block 130 = .ok (.iadd, 1) := zo_96 (zkb zk_cX5_block zn_cX5_block (by decide +kernel))
theorem dX5_block_131 : decode cX5_block 131 = .ok (.ldc 47, 2) := zo_18 (b1 := 47) (zkb2 zk_cX5_block zn_cX5_block (by decide +kernel))
theorem dX5_block_133 : decode cX5_block 133 = .ok (.iand, 1) := zo_126 (zkb zk_cX5_block zn_cX5_block (by decide +kernel))
theorem dX5_block_134 : decode cX5_block 134 = .ok (.iastore, 1) := zo_79 (zkb zk_cX5_block zn_cX5_block (by decide +kernel))
theorem dX5_block_135 : decode cX5_block 135 = .ok (.bipush 21, 2) := zo_16 (b1 := 21) (zkb2 zk_cX5_block zn_cX5_block (by decide +kernel)) rfl
theorem dX5_block_137 : decode cX5_block 137 = .ok (.ireturn, 1) := zo_172 (zkb zk_cX5_block zn_cX5_block (by decide +kernel))
def kn_cX5_copyOne : Nat := 0xac1d4f80030400a7070700991d807e081004158078077e0504157ec100112e040900b42a040900b42a0436601c2e030900b42a3e030400a7040700994100b6052a7900b664044100b6052a052a7900b6601b4100b6072a072a7900b6601b4100b606102a06102a7500b61c4100b6072a1400b42a3d4b00b64100b606102a1400b42a
theorem zk_cX5_copyOne : zkd cX5_copyOne.data.toList kn_cX5_copyOne = true := by decide +kernel
theorem zn_cX5_copyOne : cX5_copyOne.data.toList.length = 130 := by decide +kernel
theorem dX5_copyOne_0 : decode cX5_copyOne 0 = .ok (.aload_n 0, 1) := zo_42 (zkb zk_cX5_copyOne zn_cX5_copyOne (by decide +kernel))
theorem dX5_copyOne_1 : decode cX5_copyOne 1 = .ok (.getfield 20, 3) := zo_180 (b1 := 0) (b2 := 20) (zkb3 zk_cX5_copyOne zn_cX5_copyOne (by decide +kernel)) rfl
theorem dX5_copyOne_4 : decode cX5_copyOne 4 = .ok (.aload_n 0, 1) := zo_42 (zkb zk_cX5_copyOne zn_cX5_copyOne (by decide +kernel))
theorem dX5_copyOne_5 : decode cX5_copyOne 5 = .ok (.bipush 6, 2) := zo_16 (b1 := 6) (zkb2 zk_cX5_copyOne zn_cX5_copyOne (by decide +kernel)) rfl
theorem dX5_copyOne_7 : decode cX5_copyOne 7 = .ok (.invokevirtual 65, 3) := zo_182 (b1 := 0) (b2 := 65) (zkb3 zk_cX5_copyOne zn_cX5_copyOne (by decide +kernel)) rfl
theorem dX5_copyOne_10 : decode cX5_copyOne 10 = .ok (.invokevirtual 75, 3) := zo_182 (b1 := 0) (b2 := 75) (zkb3 zk_cX5_copyOne zn_cX5_copyOne (by decide +kernel)) rfl
theorem dX5_copyOne_13 : decode cX5_copyOne 13 = .ok (.istore_n 2, 1) := zo_61 (zkb zk_cX5_copyOne zn_cX5_copyOne (by decide +kernel))
theorem dX5_copyOne_14 : decode cX5_copyOne 14 = .ok (.aload_n 0, 1) := zo_42 (zkb zk_cX5_copyOne zn_cX5_copyOne (by decide +kernel))
theorem dX5_copyOne_15 : decode cX5_copyOne 15 = .ok (.getfield 20, 3) := zo_180 (b1 := 0) (b2 := 20) (zkb3 zk_cX5_copyOne zn_cX5_copyOne (by decide +kernel)) rfl
theorem dX5_copyOne_18 : decode cX5_copyOne 18 = .ok (.aload_n 0, 1) := zo_42 (zkb zk_cX5_copyOne zn_cX5_copyOne (by decide +kernel))
theorem dX5_copyOne_19 : decode cX5_copyOne 19 = .ok (.iconst 4, 1) := zo_7 (zkb zk_cX5_copyOne zn_cX5_copyOne (by decide +kernel))
theorem dX5_copyOne_20 : decode cX5_copyOne 20 = .ok (.invokevirtual 65, 3) := zo_182 (b1 := 0) (b2 := 65) (zkb3 zk_cX5_copyOne zn_cX5_copyOne (by decide +kernel)) rfl
theorem dX5_copyOne_23 : decode cX5_copyOne 23 = .ok (.iload_n 2, 1) := zo_28 (zkb zk_cX5_copyOne zn_cX5_copyOne (by decide +kernel))
theorem dX5_copyOne_24 : decode cX5_copyOne 24 = .ok (.invokevirtual 117, 3) := zo_182 (b1 := 0) (b2 := 117) (zkb3 zk_cX5_copyOne zn_cX5_copyOne (by decide +kernel)) rfl
theorem dX5_copyOne_27 : decode cX5_copyOne 27 = .ok (.aload_n 0, 1) := zo_42 (zkb zk_cX5_copyOne zn_cX5_copyOne (by decide +kernel))
theorem dX5_copyOne_28 : decode cX5_copyOne 28 = .ok (.bipush 6, 2) := zo_16 (b1 := 6) (zkb2 zk_cX5_copyOne zn_cX5_copyOne (by decide +kernel)) rfl
theorem dX5_copyOne_30 : decode cX5_copyOne 30 = .ok (.aload_n 0, 1) := zo_42 (zkb zk_cX5_copyOne zn_cX5_copyOne (by decide +kernel))
theorem dX5_copyOne_31 : decode cX5_copyOne 31 = .ok (.bipush 6, 2) := zo_16 (b1 := 6) (zkb2 zk_cX5_copyOne zn_cX5_copyOne (by decide +kernel)) rfl
theorem dX5_copyOne_33 : decode cX5_copyOne 33 = .ok (.invokevirtual 65, 3) := zo_182 (b1 := 0) (b2 := 65) (zkb3 zk_cX5_copyOne zn_cX5_copyOne (by decide +kernel)) rfl
theorem dX5_copyOne_36 : decode cX5_copyOne 36 = .ok (.iload_n 1, 1) := zo_27 (zkb zk_cX5_copyOne zn_cX5_copyOne (by decide +kernel))
theorem dX5_copyOne_37 : decode cX5_copyOne 37 = .ok (.iadd, 1) := zo_96 (zkb zk_cX5_copyOne zn_cX5_copyOne (by decide +kernel))
theorem dX5_copyOne_38 : decode cX5_copyOne 38 = .ok (.invokevirtual 121, 3) := zo_182 (b1 := 0) (b2 := 121) (zkb3 zk_cX5_copyOne zn_cX5_copyOne (by decide +kernel)) rfl
theorem dX5_copyOne_41 : decode cX5_copyOne 41 = .ok (.aload_n 0, 1) := zo_42 (zkb zk_cX5_copyOne zn_cX5_copyOne (by decide +kernel))
theorem dX5_copyOne_42 : decode cX5_copyOne 42 = .ok (.iconst 4, 1) := zo_7 (zkb zk_cX5_copyOne zn_cX5_copyOne (by decide +kernel))
theorem dX5_copyOne_43 : decode cX5_copyOne 43 = .ok (.aload_n 0, 1) := zo_42 (zkb zk_cX5_copyOne zn_cX5_copyOne (by decide +kernel))
theorem dX5_copyOne_44 : decode cX5_copyOne 44 = .ok (.iconst 4, 1) := zo_7 (zkb zk_cX5_copyOne zn_cX5_copyOne (by decide +kernel))
theorem dX5_copyOne_45 : decode cX5_copyOne 45 = .ok (.invokevirtual 65, 3) := zo_182 (b1 := 0) (b2 := 65) (zkb3 zk_cX5_copyOne zn_cX5_copyOne (by decide +kernel)) rfl
theorem dX5_copyOne_48 : decode cX5_copyOne 48 = .ok (.iload_n 1, 1) := zo_27 (zkb zk_cX5_copyOne zn_cX5_copyOne (by decide +kernel))
theorem dX5_copyOne_49 : decode cX5_copyOne 49 = .ok (.iadd, 1) := zo_96 (zkb zk_cX5_copyOne zn_cX5_copyOne (by decide +kernel))
theorem dX5_copyOne_50 : decode cX5_copyOne 50 = .ok (.invokevirtual 121, 3) := zo_182 (b1 := 0) (b2 := 121) (zkb3 zk_cX5_copyOne zn_cX5_copyOne (by decide +kernel)) rfl
theorem dX5_copyOne_53 : decode cX5_copyOne 53 = .ok (.aload_n 0, 1) := zo_42 (zkb zk_cX5_copyOne zn_cX5_copyOne (by decide +kernel))
theorem dX5_copyOne_54 : decode cX5_copyOne 54 = .ok (.iconst 2, 1) := zo_5 (zkb zk_cX5_copyOne zn_cX5_copyOne (by decide +kernel))
theorem dX5_copyOne_55 : decode cX5_copyOne 55 = .ok (.aload_n 0, 1) := zo_42 (zkb zk_cX5_copyOne zn_cX5_copyOne (by decide +kernel))
theorem dX5_copyOne_56 : decode cX5_copyOne 56 = .ok (.iconst 2, 1) := zo_5 (zkb zk_cX5_copyOne zn_cX5_copyOne (by decide +kernel))
theorem dX5_copyOne_57 : decode cX5_copyOne 57 = .ok (.invokevirtual 65, 3) := zo_182 (b1 := 0) (b2 := 65) (zkb3 zk_cX5_copyOne zn_cX5_copyOne (by decide +kernel)) rfl
theorem dX5_copyOne_60 : decode cX5_copyOne 60 = .ok (.iconst 1, 1) := zo_4 (zkb zk_cX5_copyOne zn_cX5_copyOne (by decide +kernel))
theorem dX5_copyOne_61 : decode cX5_copyOne 61 = .ok (.isub, 1) := zo_100 (zkb zk_cX5_copyOne zn_cX5_copyOne (by decide +kernel))
theorem dX5_copyOne_62 : decode cX5_copyOne 62 = .ok (.invokevirtual 121, 3) := zo_182 (b1 := 0) (b2 := 121) (zkb3 zk_cX5_copyOne zn_cX5_copyOne (by decide +kernel)) rfl
theorem dX5_copyOne_65 : decode cX5_copyOne 65 = .ok (.aload_n 0, 1) := zo_42 (zkb zk_cX5_copyOne zn_cX5_copyOne (by decide +kernel))
theorem dX5_copyOne_66 : decode cX5_copyOne 66 = .ok (.iconst 2, 1) := zo_5 (zkb zk_cX5_copyOne zn_cX5_copyOne (by decide +kernel))
theorem dX5_copyOne_67 : decode cX5_copyOne 67 = .ok (.invokevirtual 65, 3) := zo_182 (b1 := 0) (b2 := 65) (zkb3 zk_cX5_copyOne zn_cX5_copyOne (by decide +kernel)) rfl
theorem dX5_copyOne_70 : decode cX5_copyOne 70 = .ok (.ifCond .eq 7, 3) := zo_153 (b1 := 0) (b2 := 7) (zkb3 zk_cX5_copyOne zn_cX5_copyOne (by decide +kernel)) rfl
theorem dX5_copyOne_73 : decode cX5_copyOne 73 = .ok (.iconst 1, 1) := zo_4 (zkb zk_cX5_copyOne zn_cX5_copyOne (by decide +kernel))
theorem dX5_copyOne_74 : decode cX5_copyOne 74 = .ok (.goto 4, 3) := zo_167 (b1 := 0) (b2 := 4) (zkb3 zk_cX5_copyOne zn_cX5_copyOne (by decide +kernel)) rfl
theorem dX5_copyOne_77 : decode cX5_copyOne 77 = .ok (.iconst 0, 1) := zo_3 (zkb zk_cX5_copyOne zn_cX5_copyOne (by decide +kernel))
theorem dX5_copyOne_78 : decode cX5_copyOne 78 = .ok (.istore_n 3, 1) := zo_62 (zkb zk_cX5_copyOne zn_cX5_copyOne (by decide +kernel))
theorem dX5_copyOne_79 : decode cX5_copyOne 79 = .ok (.aload_n 0, 1) := zo_42 (zkb zk_cX5_copyOne zn_cX5_copyOne (by decide +kernel))
theorem dX5_copyOne_80 : decode cX5_copyOne 80 = .ok (.getfield 9, 3) := zo_180 (b1 := 0) (b2 := 9) (zkb3 zk_cX5_copyOne zn_cX5_copyOne (by decide +kernel)) rfl
theorem dX5_copyOne_83 : decode cX5_copyOne 83 = .ok (.iconst 0, 1) := zo_3 (zkb zk_cX5_copyOne zn_cX5_copyOne (by decide +kernel))
theorem dX5_copyOne_84 : decode cX5_copyOne 84 = .ok (.iaload, 1) := zo_46 (zkb zk_cX5_copyOne zn_cX5_copyOne (by decide +kernel))
theorem dX5_copyOne_85 : decode cX5_copyOne 85 = .ok (.iload_n 2, 1) := zo_28 (zkb zk_cX5_copyOne zn_cX5_copyOne (by decide +kernel))
theorem dX5_copyOne_86 : decode cX5_copyOne 86 = .ok (.iadd, 1) := zo_96 (zkb zk_cX5_copyOne zn_cX5_copyOne (by decide +kernel))
theorem dX5_copyOne_87 : decode cX5_copyOne 87 = .ok (.istore 4, 2) := zo_54 (b1 := 4) (zkb2 zk_cX5_copyOne zn_cX5_copyOne (by decide +kernel))
theorem dX5_copyOne_89 : decode cX5_copyOne 89 = .ok (.aload_n 0, 1) := zo_42 (zkb zk_cX5_copyOne zn_cX5_copyOne (by decide +kernel))
theorem dX5_copyOne_90 : decode cX5_copyOne 90 = .ok (.getfield 9, 3) := zo_180 (b1 := 0) (b2 := 9) (zkb3 zk_cX5_copyOne zn_cX5_copyOne (by decide +kernel)) rfl
theorem dX5_copyOne_93 : decode cX5_copyOne 93 = .ok (.iconst 1, 1) := zo_4 (zkb zk_cX5_copyOne zn_cX5_copyOne (by decide +kernel))
theorem dX5_copyOne_94 : decode cX5_copyOne 94 = .ok (.aload_n 0, 1) := zo_42 (zkb zk_cX5_copyOne zn_cX5_copyOne (by decide +kernel))
theorem dX5_copyOne_95 : decode cX5_copyOne 95 = .ok (.getfield 9, 3) := zo_180 (b1 := 0) (b2 := 9) (zkb3 zk_cX5_copyOne zn_cX5_copyOne (by decide +kernel)) rfl
theorem dX5_copyOne_98 : decode cX5_copyOne 98 = .ok (.iconst 1, 1) := zo_4 (zkb zk_cX5_copyOne zn_cX5_copyOne (by decide +kernel))
theorem dX5_copyOne_99 : decode cX5_copyOne 99 = .ok (.iaload, 1) := zo_46 (zkb zk_cX5_copyOne zn_cX5_copyOne (by decide +kernel))
theorem dX5_copyOne_100 : decode cX5_copyOne 100 = .ok (.sipush 193, 3) := zo_17 (b1 := 0) (b2 := 193) (zkb3 zk_cX5_copyOne zn_cX5_copyOne (by decide +kernel)) rfl
theorem dX5_copyOne_103 : decode cX5_copyOne 103 = .ok (.iand, 1) := zo_126 (zkb zk_cX5_copyOne zn_cX5_copyOne (by decide +kernel))
theorem dX5_copyOne_104 : decode cX5_copyOne 104 = .ok (.iload 4, 2) := zo_21 (b1 := 4) (zkb2 zk_cX5_copyOne zn_cX5_copyOne (by decide +kernel))
theorem dX5_copyOne_106 : decode cX5_copyOne 106 = .ok (.iconst 2, 1) := zo_5 (zkb zk_cX5_copyOne zn_cX5_copyOne (by decide +kernel))
theorem dX5_copyOne_107 : decode cX5_copyOne 107 = .ok (.iand, 1) := zo_126 (zkb zk_cX5_copyOne zn_cX5_copyOne (by decide +kernel))
theorem dX5_copyOne_108 : decode cX5_copyOne 108 = .ok (.iconst 4, 1) := zo_7 (zkb zk_cX5_copyOne zn_cX5_copyOne (by decide +kernel))
theorem dX5_copyOne_109 : decode cX5_copyOne 109 = .ok (.ishl, 1) := zo_120 (zkb zk_cX5_copyOne zn_cX5_copyOne (by decide +kernel))
theorem dX5_copyOne_110 : decode cX5_copyOne 110 = .ok (.ior, 1) := zo_128 (zkb zk_cX5_copyOne zn_cX5_copyOne (by decide +kernel))
theorem dX5_copyOne_111 : decode cX5_copyOne 111 = .ok (.iload 4, 2) := zo_21 (b1 := 4) (zkb2 zk_cX5_copyOne zn_cX5_copyOne (by decide +kernel))
theorem dX5_copyOne_113 : decode cX5_copyOne 113 = .ok (.bipush 8, 2) := zo_16 (b1 := 8) (zkb2 zk_cX5_copyOne zn_cX5_copyOne (by decide +kernel)) rfl
theorem dX5_copyOne_115 : decode cX5_copyOne 115 = .ok (.iand, 1) := zo_126 (zkb zk_cX5_copyOne zn_cX5_copyOne (by decide +kernel))
theorem dX5_copyOne_116 : decode cX5_copyOne 116 = .ok (.ior, 1) := zo_128 (zkb zk_cX5_copyOne zn_cX5_copyOne (by decide +kernel))
theorem dX5_copyOne_117 : decode cX5_copyOne 117 = .ok (.iload_n 3, 1) := zo_29 (zkb zk_cX5_copyOne zn_cX5_copyOne (by decide +kernel))
theorem dX5_copyOne_118 : decode cX5_copyOne 118 = .ok (.ifCond .eq 7, 3) := zo_153 (b1 := 0) (b2 := 7) (zkb3 zk_cX5_copyOne zn_cX5_copyOne (by decide +kernel)) rfl
theorem dX5_copyOne_121 : decode cX5_copyOne 121 = .ok (.iconst 4, 1) := zo_7 (zkb zk_cX5_copyOne zn_cX5_copyOne (by decide +kernel))
theorem dX5_copyOne_122 : decode cX5_copyOne 122 = .ok (.goto 4, 3) := zo_167 (b1 := 0) (b2 := 4) (zkb3 zk_cX5_copyOne zn_cX5_copyOne (by decide +kernel)) rfl
theorem dX5_copyOne_125 : decode cX5_copyOne 125 = .ok (.iconst 0, 1) := zo_3 (zkb zk_cX5_copyOne zn_cX5_copyOne (by decide +kernel))
theorem dX5_copyOne_126 : decode cX5_copyOne 126 = .ok (.ior, 1) := zo_128 (zkb zk_cX5_copyOne zn_cX5_copyOne (by decide +kernel))
theorem dX5_copyOne_127 : decode cX5_copyOne 127 = .ok (.iastore, 1) := zo_79 (zkb zk_cX5_copyOne zn_cX5_copyOne (by decide +kernel))
theorem dX5_copyOne_128 : decode cX5_copyOne 128 = .ok (.iload_n 3, 1) := zo_29 (zkb zk_cX5_copyOne zn_cX5_copyOne (by decide +kernel))
theorem dX5_copyOne_129 : decode cX5_copyOne 129 = .ok (.ireturn, 1) := zo_172 (zkb zk_cX5_copyOne zn_cX5_copyOne (by decide +kernel))
def kn_cX5_compareOne : Nat := 0xac030400a7040700991d0b009905154f800580030400a7070700990515807e081006158078077e05061580041580030400a7401008009a1d807e8000111d7e042e040900b42a040900b42a0636647a0704151d0536030400a7040700994100b6052a4f7e2f12601b2e14100900b42a14100900b42a7900b664044100b6052a052a7900b6601b4100b606102a06102a04367e1010821d821c2e030900b42a3e7eff0011641c2e030900b42a3d4b00b64100b606102a1400b42a
theorem zk_cX5_compareOne : zkd cX5_compareOne.data.toList kn_cX5_compareOne = true := by decide +kernel
theorem zn_cX5_compareOne : cX5_compareOne.data.toList.length = 185 := by decide +kernel
theorem dX5_compareOne_0 : decode cX5_compareOne 0 = .ok (.aload_n 0, 1) := zo_42 (zkb zk_cX5_compareOne zn_cX5_compareOne (by decide +kernel))
theorem dX5_compareOne_1 : decode cX5_compareOne 1 = .ok (.getfield 20, 3) := zo_180 (b1 := 0) (b2 := 20) (zkb3 zk_cX5_compareOne zn_cX5_compareOne (by decide +kernel)) rfl
theorem dX5_compareOne_4 : decode cX5_compareOne 4 = .ok (.aload_n 0, 1) := zo_42 (zkb zk_cX5_compareOne zn_cX5_compareOne (by decide +kernel))
theorem dX5_compareOne_5 : decode cX5_compareOne 5 = .ok (.bipush 6, 2) := zo_16 (b1 := 6) (zkb2 zk_cX5_compareOne zn_cX5_compareOne (by decide +kernel)) rfl
theorem dX5_compareOne_7 : decode cX5_compareOne 7 = .ok (.invokevirtual 65, 3) := zo_182 (b1 := 0) (b2 := 65) (zkb3 zk_cX5_compareOne zn_cX5_compareOne (by decide +kernel)) rfl
theorem dX5_compareOne_10 : decode cX5_compareOne 10 = .ok (.invokevirtual 75, 3) := zo_182 (b1 := 0) (b2 := 75) (zkb3 zk_cX5_compareOne zn_cX5_compareOne (by decide +kernel)) rfl
theorem dX5_compareOne_13 : decode cX5_compareOne 13 = .ok (.istore_n 2, 1) := zo_61 (zkb zk_cX5_compareOne zn_cX5_compareOne (by decide +kernel))
theorem dX5_compareOne_14 : decode cX5_compareOne 14 = .ok (.aload_n 0, 1) := zo_42 (zkb zk_cX5_compareOne zn_cX5_compareOne (by decide +kernel))
theorem dX5_compareOne_15 : decode cX5_compareOne 15 = .ok (.getfield 9, 3) := zo_180 (b1 := 0) (b2 := 9) (zkb3 zk_cX5_compareOne zn_cX5_compareOne (by decide +kernel)) rfl
theorem dX5_compareOne_18 : decode cX5_compareOne 18 = .ok (.iconst 0, 1) := zo_3 (zkb zk_cX5_compareOne zn_cX5_compareOne (by decide +kernel))
theorem dX5_compareOne_19 : decode cX5_compareOne 19 = .ok (.iaload, 1) := zo_46 (zkb zk_cX5_compareOne zn_cX5_compareOne (by decide +kernel))
theorem dX5_compareOne_20 : decode cX5_compareOne 20 = .ok (.iload_n 2, 1) := zo_28 (zkb zk_cX5_compareOne zn_cX5_compareOne (by decide +kernel))
theorem dX5_compareOne_21 : decode cX5_compareOne 21 = .ok (.isub, 1) := zo_100 (zkb zk_cX5_compareOne zn_cX5_compareOne (by decide +kernel))
theorem dX5_compareOne_22 : decode cX5_compareOne 22 = .ok (.sipush 255, 3) := zo_17 (b1 := 0) (b2 := 255) (zkb3 zk_cX5_compareOne zn_cX5_compareOne (by decide +kernel)) rfl
theorem dX5_compareOne_25 : decode cX5_compareOne 25 = .ok (.iand, 1) := zo_126 (zkb zk_cX5_compareOne zn_cX5_compareOne (by decide +kernel))
theorem dX5_compareOne_26 : decode cX5_compareOne 26 = .ok (.istore_n 3, 1) := zo_62 (zkb zk_cX5_compareOne zn_cX5_compareOne (by decide +kernel))
theorem dX5_compareOne_27 : decode cX5_compareOne 27 = .ok (.aload_n 0, 1) := zo_42 (zkb zk_cX5_compareOne zn_cX5_compareOne (by decide +kernel))
theorem dX5_compareOne_28 : decode cX5_compareOne 28 = .ok (.getfield 9, 3) := zo_180 (b1 := 0) (b2 := 9) (zkb3 zk_cX5_compareOne zn_cX5_compareOne (by decide +kernel)) rfl
theorem dX5_compareOne_31 : decode cX5_compareOne 31 = .ok (.iconst 0, 1) := zo_3 (zkb zk_cX5_compareOne zn_cX5_compareOne (by decide +kernel))
theorem dX5_compareOne_32 : decode cX5_compareOne 32 = .ok (.iaload, 1) := zo_46 (zkb zk_cX5_compareOne zn_cX5_compareOne (by decide +kernel))
theorem dX5_compareOne_33 : decode cX5_compareOne 33 = .ok (.iload_n 2, 1) := zo_28 (zkb zk_cX5_compareOne zn_cX5_compareOne (by decide +kernel))
theorem dX5_compareOne_34 : decode cX5_compareOne 34 = .ok (.ixor, 1) := zo_130 (zkb zk_cX5_compareOne zn_cX5_compareOne (by decide +kernel))
theorem dX5_compareOne_35 : decode cX5_compareOne 35 = .ok (.iload_n 3, 1) := zo_29 (zkb zk_cX5_compareOne zn_cX5_compareOne (by decide +kernel))
theorem dX5_compareOne_36 : decode cX5_compareOne 36 = .ok (.ixor, 1) := zo_130 (zkb zk_cX5_compareOne zn_cX5_compareOne (by decide +kernel))
theorem dX5_compareOne_37 : decode cX5_compareOne 37 = .ok (.bipush 16, 2) := zo_16 (b1 := 16) (zkb2 zk_cX5_compareOne zn_cX5_compareOne (by decide +kernel)) rfl
theorem dX5_compareOne_39 : decode cX5_compareOne 39 = .ok (.iand, 1) := zo_126 (zkb zk_cX5_compareOne zn_cX5_compareOne (by decide +kernel))
theorem dX5_compareOne_40 : decode cX5_compareOne 40 = .ok (.istore 4, 2) := zo_54 (b1 := 4) (zkb2 zk_cX5_compareOne zn_cX5_compareOne (by decide +kernel))
theorem dX5_compareOne_42 : decode cX5_compareOne 42 = .ok (.aload_n 0, 1) := zo_42 (zkb zk_cX5_compareOne zn_cX5_compareOne (by decide +kernel))
theorem dX5_compareOne_43 : decode cX5_compareOne 43 = .ok (.bipush 6, 2) := zo_16 (b1 := 6) (zkb2 zk_cX5_compareOne zn_cX5_compareOne (by decide +kernel)) rfl
theorem dX5_compareOne_45 : decode cX5_compareOne 45 = .ok (.aload_n 0, 1) := zo_42 (zkb zk_cX5_compareOne zn_cX5_compareOne (by decide +kernel))
theorem dX5_compareOne_46 : decode cX5_compareOne 46 = .ok (.bipush 6, 2) := zo_16 (b1 := 6) (zkb2 zk_cX5_compareOne zn_cX5_compareOne (by decide +kernel)) rfl
theorem dX5_compareOne_48 : decode cX5_compareOne 48 = .ok (.invokevirtual 65, 3) := zo_182 (b1 := 0) (b2 := 65) (zkb3 zk_cX5_compareOne zn_cX5_compareOne (by decide +kernel)) rfl
theorem dX5_compareOne_51 : decode cX5_compareOne 51 = .ok (.iload_n 1, 1) := zo_27 (zkb zk_cX5_compareOne zn_cX5_compareOne (by decide +kernel))
theorem dX5_compareOne_52 : decode cX5_compareOne 52 = .ok (.iadd, 1) := zo_96 (zkb zk_cX5_compareOne zn_cX5_compareOne (by decide +kernel))
theorem dX5_compareOne_53 : decode cX5_compareOne 53 = .ok (.invokevirtual 121, 3) := zo_182 (b1 := 0) (b2 := 121) (zkb3 zk_cX5_compareOne zn_cX5_compareOne (by decide +kernel)) rfl
theorem dX5_compareOne_56 : decode cX5_compareOne 56 = .ok (.aload_n 0, 1) := zo_42 (zkb zk_cX5_compareOne zn_cX5_compareOne (by decide +kernel))
theorem dX5_compareOne_57 : decode cX5_compareOne 57 = .ok (.iconst 2, 1) := zo_5 (zkb zk_cX5_compareOne zn_cX5_compareOne (by decide +kernel))
theorem dX5_compareOne_58 : decode cX5_compareOne 58 = .ok (.aload_n 0, 1) := zo_42 (zkb zk_cX5_compareOne zn_cX5_compareOne (by decide +kernel))
theorem dX5_compareOne_59 : decode cX5_compareOne 59 = .ok (.iconst 2, 1) := zo_5 (zkb zk_cX5_compareOne zn_cX5_compareOne (by decide +kernel))
theorem dX5_compareOne_60 : decode cX5_compareOne 60 = .ok (.invokevirtual 65, 3) := zo_182 (b1 := 0) (b2 := 65) (zkb3 zk_cX5_compareOne zn_cX5_compareOne (by decide +kernel)) rfl
theorem dX5_compareOne_63 : decode cX5_compareOne 63 = .ok (.iconst 1, 1) := zo_4 (zkb zk_cX5_compareOne zn_cX5_compareOne (by decide +kernel))
theorem dX5_compareOne_64 : decode cX5_compareOne 64 = .ok (.isub, 1) := zo_100 (zkb zk_cX5_compareOne zn_cX5_compareOne (by decide +kernel))
theorem dX5_compareOne_65 : decode cX5_compareOne 65 = .ok (.invokevirtual 121, 3) := zo_182 (b1 := 0) (b2 := 121) (zkb3 zk_cX5_compareOne zn_cX5_compareOne (by decide +kernel)) rfl
theorem dX5_compareOne_68 : decode cX5_compareOne 68 = .ok (.aload_n 0, 1) := zo_42 (zkb zk_cX5_compareOne zn_cX5_compareOne (by decide +kernel))
theorem dX5_compareOne_69 : decode cX5_compareOne 69 = .ok (.getfield 9, 3) := zo_180 (b1 := 0) (b2 := 9) (zkb3 zk_cX5_compareOne zn_cX5_compareOne (by decide +kernel)) rfl
theorem dX5_compareOne_72 : decode cX5_compareOne 72 = .ok (.bipush 20, 2) := zo_16 (b1 := 20) (zkb2 zk_cX5_compareOne zn_cX5_compareOne (by decide +kernel)) rfl
theorem dX5_compareOne_74 : decode cX5_compareOne 74 = .ok (.aload_n 0, 1) := zo_42 (zkb zk_cX5_compareOne zn_cX5_compareOne (by decide +kernel))
theorem dX5_compareOne_75 : decode cX5_compareOne 75 = .ok (.getfield 9, 3) := zo_180 (b1 := 0) (b2 := 9) (zkb3 zk_cX5_compareOne zn_cX5_compareOne (by decide +kernel)) rfl
theorem dX5_compareOne_78 : decode cX5_compareOne 78 = .ok (.bipush 20, 2) := zo_16 (b1 := 20) (zkb2 zk_cX5_compareOne zn_cX5_compareOne (by decide +kernel)) rfl
theorem dX5_compareOne_80 : decode cX5_compareOne 80 = .ok (.iaload, 1) := zo_46 (zkb zk_cX5_compareOne zn_cX5_compareOne (by decide +kernel))
theorem dX5_compareOne_81 : decode cX5_compareOne 81 = .ok (.iload_n 1, 1) := zo_27 (zkb zk_cX5_compareOne zn_cX5_compareOne (by decide +kernel))
theorem dX5_compareOne_82 : decode cX5_compareOne 82 = .ok (.iadd, 1) := zo_96 (zkb zk_cX5_compareOne zn_cX5_compareOne (by decide +kernel))
theorem dX5_compareOne_83 : decode cX5_compareOne 83 = .ok (.ldc 47, 2) := zo_18 (b1 := 47) (zkb2 zk_cX5_compareOne zn_cX5_compareOne (by decide +kernel))
theorem dX5_compareOne_85 : decode cX5_compareOne 85 = .ok (.iand, 1) := zo_126 (zkb zk_cX5_compareOne zn_cX5_compareOne (by decide +kernel))
theorem dX5_compareOne_86 : decode cX5_compareOne 86 = .ok (.iastore, 1) := zo_79 (zkb zk_cX5_compareOne zn_cX5_compareOne (by decide +kernel))
theorem dX5_compareOne_87 : decode cX5_compareOne 87 = .ok (.aload_n 0, 1) := zo_42 (zkb zk_cX5_compareOne zn_cX5_compareOne (by decide +kernel))
theorem dX5_compareOne_88 : decode cX5_compareOne 88 = .ok (.iconst 2, 1) := zo_5 (zkb zk_cX5_compareOne zn_cX5_compareOne (by decide +kernel))
theorem dX5_compareOne_89 : decode cX5_compareOne 89 = .ok (.invokevirtual 65, 3) := zo_182 (b1 := 0) (b2 := 65) (zkb3 zk_cX5_compareOne zn_cX5_compareOne (by decide +kernel)) rfl
theorem dX5_compareOne_92 : decode cX5_compareOne 92 = .ok (.ifCond .eq 7, 3) := zo_153 (b1 := 0) (b2 := 7) (zkb3 zk_cX5_compareOne zn_cX5_compareOne (by decide +kernel)) rfl
theorem dX5_compareOne_95 : decode cX5_compareOne 95 = .ok (.iconst 1, 1) := zo_4 (zkb zk_cX5_compareOne zn_cX5_compareOne (by decide +kernel))
theorem dX5_compareOne_96 : decode cX5_compareOne 96 = .ok (.goto 4, 3) := zo_167 (b1 := 0) (b2 := 4) (zkb3 zk_cX5_compareOne zn_cX5_compareOne (by decide +kernel)) rfl
theorem dX5_compareOne_99 : decode cX5_compareOne 99 = .ok (.iconst 0, 1) := zo_3 (zkb zk_cX5_compareOne zn_cX5_compareOne (by decide +kernel))
theorem dX5_compareOne_100 : decode cX5_compareOne 100 = .ok (.istore 5, 2) := zo_54 (b1 := 5) (zkb2 zk_cX5_compareOne zn_cX5_compareOne (by decide +kernel))
theorem dX5_compareOne_102 : decode cX5_compareOne 102 = .ok (.iload_n 3, 1) := zo_29 (zkb zk_cX5_compareOne zn_cX5_compareOne (by decide +kernel))
theorem dX5_compareOne_103 : decode cX5_compareOne 103 = .ok (.iload 4, 2) := zo_21 (b1 := 4) (zkb2 zk_cX5_compareOne zn_cX5_compareOne (by decide +kernel))
theorem dX5_compareOne_105 : decode cX5_compareOne 105 = .ok (.iconst 4, 1) := zo_7 (zkb zk_cX5_compareOne zn_cX5_compareOne (by decide +kernel))
theorem dX5_compareOne_106 : decode cX5_compareOne 106 = .ok (.ishr, 1) := zo_122 (zkb zk_cX5_compareOne zn_cX5_compareOne (by decide +kernel))
theorem dX5_compareOne_107 : decode cX5_compareOne 107 = .ok (.isub, 1) := zo_100 (zkb zk_cX5_compareOne zn_cX5_compareOne (by decide +kernel))
theorem dX5_compareOne_108 : decode cX5_compareOne 108 = .ok (.istore 6, 2) := zo_54 (b1 := 6) (zkb2 zk_cX5_compareOne zn_cX5_compareOne (by decide +kernel))
theorem dX5_compareOne_110 : decode cX5_compareOne 110 = .ok (.aload_n 0, 1) := zo_42 (zkb zk_cX5_compareOne zn_cX5_compareOne (by decide +kernel))
theorem dX5_compareOne_111 : decode cX5_compareOne 111 = .ok (.getfield 9, 3) := zo_180 (b1 := 0) (b2 := 9) (zkb3 zk_cX5_compareOne zn_cX5_compareOne (by decide +kernel)) rfl
theorem dX5_compareOne_114 : decode cX5_compareOne 114 = .ok (.iconst 1, 1) := zo_4 (zkb zk_cX5_compareOne zn_cX5_compareOne (by decide +kernel))
theorem dX5_compareOne_115 : decode cX5_compareOne 115 = .ok (.aload_n 0, 1) := zo_42 (zkb zk_cX5_compareOne zn_cX5_compareOne (by decide +kernel))
theorem dX5_compareOne_116 : decode cX5_compareOne 116 = .ok (.getfield 9, 3) := zo_180 (b1 := 0) (b2 := 9) (zkb3 zk_cX5_compareOne zn_cX5_compareOne (by decide +kernel)) rfl
theorem dX5_compareOne_119 : decode cX5_compareOne 119 = .ok (.iconst 1, 1) := zo_4 (zkb zk_cX5_compareOne zn_cX5_compareOne (by decide +kernel))
theorem dX5_compareOne_120 : decode cX5_compareOne 120 = .ok (.iaload, 1) := zo_46 (zkb zk_cX5_compareOne zn_cX5_compareOne (by decide +kernel))
theorem dX5_compareOne_121 : decode cX5_compareOne 121 = .ok (.iconst 1, 1) := zo_4 (zkb zk_cX5_compareOne zn_cX5_compareOne (by decide +kernel))
theorem dX5_compareOne_122 : decode cX5_compareOne 122 = .ok (.iand, 1) := zo_126 (zkb zk_cX5_compareOne zn_cX5_compareOne (by decide +kernel))
theorem dX5_compareOne_123 : decode cX5_compareOne 123 = .ok (.iload_n 3, 1) := zo_29 (zkb zk_cX5_compareOne zn_cX5_compareOne (by decide +kernel))
theorem dX5_compareOne_124 : decode cX5_compareOne 124 = .ok (.sipush 128, 3) := zo_17 (b1 := 0) (b2 := 128) (zkb3 zk_cX5_compareOne zn_cX5_compareOne (by decide +kernel)) rfl
theorem dX5_compareOne_127 : decode cX5_compareOne 127 = .ok (.iand, 1) := zo_126 (zkb zk_cX5_compareOne zn_cX5_compareOne (by decide +kernel))
theorem dX5_compareOne_128 : decode cX5_compareOne 128 = .ok (.ior, 1) := zo_128 (zkb zk_cX5_compareOne zn_cX5_compareOne (by decide +kernel))
theorem dX5_compareOne_129 : decode cX5_compareOne 129 = .ok (.iload_n 3, 1) := zo_29 (zkb zk_cX5_compareOne zn_cX5_compareOne (by decide +kernel))
theorem dX5_compareOne_130 : decode cX5_compareOne 130 = .ok (.ifCond .ne 8, 3) := zo_154 (b1 := 0) (b2 := 8) (zkb3 zk_cX5_compareOne zn_cX5_compareOne (by decide +kernel)) rfl
theorem dX5_compareOne_133 : decode cX5_compareOne 133 = .ok (.bipush 64, 2) := zo_16 (b1 := 64) (zkb2 zk_cX5_compareOne zn_cX5_compareOne (by decide +kernel)) rfl
theorem dX5_compareOne_135 : decode cX5_compareOne 135 = .ok (.goto 4, 3) := zo_167 (b1 := 0) (b2 := 4) (zkb3 zk_cX5_compareOne zn_cX5_compareOne (by decide +kernel)) rfl
theorem dX5_compareOne_138 : decode cX5_compareOne 138 = .ok (.iconst 0, 1) := zo_3 (zkb zk_cX5_compareOne zn_cX5_compareOne (by decide +kernel))
theorem dX5_compareOne_139 : decode cX5_compareOne 139 = .ok (.ior, 1) := zo_128 (zkb zk_cX5_compareOne zn_cX5_compareOne (by decide +kernel))
theorem dX5_compareOne_140 : decode cX5_compareOne 140 = .ok (.iload 4, 2) := zo_21 (b1 := 4) (zkb2 zk_cX5_compareOne zn_cX5_compareOne (by decide +kernel))
theorem dX5_compareOne_142 : decode cX5_compareOne 142 = .ok (.ior, 1) := zo_128 (zkb zk_cX5_compareOne zn_cX5_compareOne (by decide +kernel))
theorem dX5_compareOne_143 : decode cX5_compareOne 143 = .ok (.iload 6, 2) := zo_21 (b1 := 6) (zkb2 zk_cX5_compareOne zn_cX5_compareOne (by decide +kernel))
theorem dX5_compareOne_145 : decode cX5_compareOne 145 = .ok (.iconst 2, 1) := zo_5 (zkb zk_cX5_compareOne zn_cX5_compareOne (by decide +kernel))
theorem dX5_compareOne_146 : decode cX5_compareOne 146 = .ok (.iand, 1) := zo_126 (zkb zk_cX5_compareOne zn_cX5_compareOne (by decide +kernel))
theorem dX5_compareOne_147 : decode cX5_compareOne 147 = .ok (.iconst 4, 1) := zo_7 (zkb zk_cX5_compareOne zn_cX5_compareOne (by decide +kernel))
theorem dX5_compareOne_148 : decode cX5_compareOne 148 = .ok (.ishl, 1) := zo_120 (zkb zk_cX5_compareOne zn_cX5_compareOne (by decide +kernel))
theorem dX5_compareOne_149 : decode cX5_compareOne 149 = .ok (.ior, 1) := zo_128 (zkb zk_cX5_compareOne zn_cX5_compareOne (by decide +kernel))
theorem dX5_compareOne_150 : decode cX5_compareOne 150 = .ok (.iload 6, 2) := zo_21 (b1 := 6) (zkb2 zk_cX5_compareOne zn_cX5_compareOne (by decide +kernel))
theorem dX5_compareOne_152 : decode cX5_compareOne 152 = .ok (.bipush 8, 2) := zo_16 (b1 := 8) (zkb2 zk_cX5_compareOne zn_cX5_compareOne (by decide +kernel)) rfl
theorem dX5_compareOne_154 : decode cX5_compareOne 154 = .ok (.iand, 1) := zo_126 (zkb zk_cX5_compareOne zn_cX5_compareOne (by decide +kernel))
theorem dX5_compareOne_155 : decode cX5_compareOne 155 = .ok (.ior, 1) := zo_128 (zkb zk_cX5_compareOne zn_cX5_compareOne (by decide +kernel))
theorem dX5_compareOne_156 : decode cX5_compareOne 156 = .ok (.iload 5, 2) := zo_21 (b1 := 5) (zkb2 zk_cX5_compareOne zn_cX5_compareOne (by decide +kernel))
theorem dX5_compareOne_158 : decode cX5_compareOne 158 = .ok (.ifCond .eq 7, 3) := zo_153 (b1 := 0) (b2 := 7) (zkb3 zk_cX5_compareOne zn_cX5_compareOne (by decide +kernel)) rfl
theorem dX5_compareOne_161 : decode cX5_compareOne 161 = .ok (.iconst 4, 1) := zo_7 (zkb zk_cX5_compareOne zn_cX5_compareOne (by decide +kernel))
theorem dX5_compareOne_162 : decode cX5_compareOne 162 = .ok (.goto 4, 3) := zo_167 (b1 := 0) (b2 := 4) (zkb3 zk_cX5_compareOne zn_cX5_compareOne (by decide +kernel)) rfl
theorem dX5_compareOne_165 : decode cX5_compareOne 165 = .ok (.iconst 0, 1) := zo_3 (zkb zk_cX5_compareOne zn_cX5_compareOne (by decide +kernel))
theorem dX5_compareOne_166 : decode cX5_compareOne 166 = .ok (.ior, 1) := zo_128 (zkb zk_cX5_compareOne zn_cX5_compareOne (by decide +kernel))
theorem dX5_compareOne_167 : decode cX5_compareOne 167 = .ok (.iconst 2, 1) := zo_5 (zkb zk_cX5_compareOne zn_cX5_compareOne (by decide +kernel))
theorem dX5_compareOne_168 : decode cX5_compareOne 168 = .ok (.ior, 1) := zo_128 (zkb zk_cX5_compareOne zn_cX5_compareOne (by decide +kernel))
theorem dX5_compareOne_169 : decode cX5_compareOne 169 = .ok (.iastore, 1) := zo_79 (zkb zk_cX5_compareOne zn_cX5_compareOne (by decide +kernel))
theorem dX5_compareOne_170 : decode cX5_compareOne 170 = .ok (.iload 5, 2) := zo_21 (b1 := 5) (zkb2 zk_cX5_compareOne zn_cX5_compareOne (by decide +kernel))
theorem dX5_compareOne_172 : decode cX5_compareOne 172 = .ok (.ifCond .eq 11, 3) := zo_153 (b1 := 0) (b2 := 11) (zkb3 zk_cX5_compareOne zn_cX5_compareOne (by decide +kernel)) rfl
theorem dX5_compareOne_175 : decode cX5_compareOne 175 = .ok (.iload_n 3, 1) := zo_29 (zkb zk_cX5_compareOne zn_cX5_compareOne (by decide +kernel))
theorem dX5_compareOne_176 : decode cX5_compareOne 176 = .ok (.ifCond .eq 7, 3) := zo_153 (b1 := 0) (b2 := 7) (zkb3 zk_cX5_compareOne zn_cX5_compareOne (by decide +kernel)) rfl
theorem dX5_compareOne_179 : decode cX5_compareOne 179 = .ok (.iconst 1, 1) := zo_4 (zkb zk_cX5_compareOne zn_cX5_compareOne (by decide +kernel))
theorem dX5_compareOne_180 : decode cX5_compareOne 180 = .ok (.goto 4, 3) := zo_167 (b1 := 0) (b2 := 4) (zkb3 zk_cX5_compareOne zn_cX5_compareOne (by decide +kernel)) rfl
theorem dX5_compareOne_183 : decode cX5_compareOne 183 = .ok (.iconst 0, 1) := zo_3 (zkb zk_cX5_compareOne zn_cX5_compareOne (by decide +kernel))
theorem dX5_compareOne_184 : decode cX5_compareOne 184 = .ok (.ireturn, 1) := zo_172 (zkb zk_cX5_compareOne zn_cX5_compareOne (by decide +kernel))
def kn_cX5_takeOne : Nat := 0xac030400a7040700992e050900b42a0f01b6607eff0011601b2e060900b42a1c1c2a7900b6601b4100b606102a06102a7500b61c4100b606102a1400b42a4f7eff001164042e050900b42a050900b42a3de100b62e060900b42a1800b42a4f7e2f12601b4100b6052a14100900b42a
theorem zk_cX5_takeOne : zkd cX5_takeOne.data.toList kn_cX5_takeOne = true := by decide +kernel
theorem zn_cX5_takeOne : cX5_takeOne.data.toList.length = 111 := by decide +kernel
theorem dX5_takeOne_0 : decode cX5_takeOne 0 = .ok (.aload_n 0, 1) := zo_42 (zkb zk_cX5_takeOne zn_cX5_takeOne (by decide +kernel))
theorem dX5_takeOne_1 : decode cX5_takeOne 1 = .ok (.getfield 9, 3) := zo_180 (b1 := 0) (b2 := 9) (zkb3 zk_cX5_takeOne zn_cX5_takeOne (by decide +kernel)) rfl
theorem dX5_takeOne_4 : decode cX5_takeOne 4 = .ok (.bipush 20, 2) := zo_16 (b1 := 20) (zkb2 zk_cX5_takeOne zn_cX5_takeOne (by decide +kernel)) rfl
theorem dX5_takeOne_6 : decode cX5_takeOne 6 = .ok (.aload_n 0, 1) := zo_42 (zkb zk_cX5_takeOne zn_cX5_takeOne (by decide +kernel))
theorem dX5_takeOne_7 : decode cX5_takeOne 7 = .ok (.iconst 2, 1) := zo_5 (zkb zk_cX5_takeOne zn_cX5_takeOne (by decide +kernel))
theorem dX5_takeOne_8 : decode cX5_takeOne 8 = .ok (.invokevirtual 65, 3) := zo_182 (b1 := 0) (b2 := 65) (zkb3 zk_cX5_takeOne zn_cX5_takeOne (by decide +kernel)) rfl
theorem dX5_takeOne_11 : decode cX5_takeOne 11 = .ok (.iload_n 1, 1) := zo_27 (zkb zk_cX5_takeOne zn_cX5_takeOne (by decide +kernel))
theorem dX5_takeOne_12 : decode cX5_takeOne 12 = .ok (.iadd, 1) := zo_96 (zkb zk_cX5_takeOne zn_cX5_takeOne (by decide +kernel))
theorem dX5_takeOne_13 : decode cX5_takeOne 13 = .ok (.ldc 47, 2) := zo_18 (b1 := 47) (zkb2 zk_cX5_takeOne zn_cX5_takeOne (by decide +kernel))
theorem dX5_takeOne_15 : decode cX5_takeOne 15 = .ok (.iand, 1) := zo_126 (zkb zk_cX5_takeOne zn_cX5_takeOne (by decide +kernel))
theorem dX5_takeOne_16 : decode cX5_takeOne 16 = .ok (.iastore, 1) := zo_79 (zkb zk_cX5_takeOne zn_cX5_takeOne (by decide +kernel))
theorem dX5_takeOne_17 : decode cX5_takeOne 17 = .ok (.aload_n 0, 1) := zo_42 (zkb zk_cX5_takeOne zn_cX5_takeOne (by decide +kernel))
theorem dX5_takeOne_18 : decode cX5_takeOne 18 = .ok (.getfield 24, 3) := zo_180 (b1 := 0) (b2 := 24) (zkb3 zk_cX5_takeOne zn_cX5_takeOne (by decide +kernel)) rfl
theorem dX5_takeOne_21 : decode cX5_takeOne 21 = .ok (.aload_n 0, 1) := zo_42 (zkb zk_cX5_takeOne zn_cX5_takeOne (by decide +kernel))
theorem dX5_takeOne_22 : decode cX5_takeOne 22 = .ok (.getfield 9, 3) := zo_180 (b1 := 0) (b2 := 9) (zkb3 zk_cX5_takeOne zn_cX5_takeOne (by decide +kernel)) rfl
theorem dX5_takeOne_25 : decode cX5_takeOne 25 = .ok (.iconst 3, 1) := zo_6 (zkb zk_cX5_takeOne zn_cX5_takeOne (by decide +kernel))
theorem dX5_takeOne_26 : decode cX5_takeOne 26 = .ok (.iaload, 1) := zo_46 (zkb zk_cX5_takeOne zn_cX5_takeOne (by decide +kernel))
theorem dX5_takeOne_27 : decode cX5_takeOne 27 = .ok (.invokevirtual 225, 3) := zo_182 (b1 := 0) (b2 := 225) (zkb3 zk_cX5_takeOne zn_cX5_takeOne (by decide +kernel)) rfl
theorem dX5_takeOne_30 : decode cX5_takeOne 30 = .ok (.istore_n 2, 1) := zo_61 (zkb zk_cX5_takeOne zn_cX5_takeOne (by decide +kernel))
theorem dX5_takeOne_31 : decode cX5_takeOne 31 = .ok (.aload_n 0, 1) := zo_42 (zkb zk_cX5_takeOne zn_cX5_takeOne (by decide +kernel))
theorem dX5_takeOne_32 : decode cX5_takeOne 32 = .ok (.getfield 9, 3) := zo_180 (b1 := 0) (b2 := 9) (zkb3 zk_cX5_takeOne zn_cX5_takeOne (by decide +kernel)) rfl
theorem dX5_takeOne_35 : decode cX5_takeOne 35 = .ok (.iconst 2, 1) := zo_5 (zkb zk_cX5_takeOne zn_cX5_takeOne (by decide +kernel))
theorem dX5_takeOne_36 : decode cX5_takeOne 36 = .ok (.aload_n 0, 1) := zo_42 (zkb zk_cX5_takeOne zn_cX5_takeOne (by decide +kernel))
theorem dX5_takeOne_37 : decode cX5_takeOne 37 = .ok (.getfield 9, 3) := zo_180 (b1 := 0) (b2 := 9) (zkb3 zk_cX5_takeOne zn_cX5_takeOne (by decide +kernel)) rfl
theorem dX5_takeOne_40 : decode cX5_takeOne 40 = .ok (.iconst 2, 1) := zo_5 (zkb zk_cX5_takeOne zn_cX5_takeOne (by decide +kernel))
theorem dX5_takeOne_41 : decode cX5_takeOne 41 = .ok (.iaload, 1) := zo_46 (zkb zk_cX5_takeOne zn_cX5_takeOne (by decide +kernel))
theorem dX5_takeOne_42 : decode cX5_takeOne 42 = .ok (.iconst 1, 1) := zo_4 (zkb zk_cX5_takeOne zn_cX5_takeOne (by decide +kernel))
theorem dX5_takeOne_43 : decode cX5_takeOne 43 = .ok (.isub, 1) := zo_100 (zkb zk_cX5_takeOne zn_cX5_takeOne (by decide +kernel))
theorem dX5_takeOne_44 : decode cX5_takeOne 44 = .ok (.sipush 255, 3) := zo_17 (b1 := 0) (b2 := 255) (zkb3 zk_cX5_takeOne zn_cX5_takeOne (by decide +kernel)) rfl
theorem dX5_takeOne_47 : decode cX5_takeOne 47 = .ok (.iand, 1) := zo_126 (zkb zk_cX5_takeOne zn_cX5_takeOne (by decide +kernel))
theorem dX5_takeOne_48 : decode cX5_takeOne 48 = .ok (.iastore, 1) := zo_79 (zkb zk_cX5_takeOne zn_cX5_takeOne (by decide +kernel))
theorem dX5_takeOne_49 : decode cX5_takeOne 49 = .ok (.aload_n 0, 1) := zo_42 (zkb zk_cX5_takeOne zn_cX5_takeOne (by decide +kernel))
theorem dX5_takeOne_50 : decode cX5_takeOne 50 = .ok (.getfield 20, 3) := zo_180 (b1 := 0) (b2 := 20) (zkb3 zk_cX5_takeOne zn_cX5_takeOne (by decide +kernel)) rfl
theorem dX5_takeOne_53 : decode cX5_takeOne 53 = .ok (.aload_n 0, 1) := zo_42 (zkb zk_cX5_takeOne zn_cX5_takeOne (by decide +kernel))
theorem dX5_takeOne_54 : decode cX5_takeOne 54 = .ok (.bipush 6, 2) := zo_16 (b1 := 6) (zkb2 zk_cX5_takeOne zn_cX5_takeOne (by decide +kernel)) rfl
theorem dX5_takeOne_56 : decode cX5_takeOne 56 = .ok (.invokevirtual 65, 3) := zo_182 (b1 := 0) (b2 := 65) (zkb3 zk_cX5_takeOne zn_cX5_takeOne (by decide +kernel)) rfl
theorem dX5_takeOne_59 : decode cX5_takeOne 59 = .ok (.iload_n 2, 1) := zo_28 (zkb zk_cX5_takeOne zn_cX5_takeOne (by decide +kernel))
theorem dX5_takeOne_60 : decode cX5_takeOne 60 = .ok (.invokevirtual 117, 3) := zo_182 (b1 := 0) (b2 := 117) (zkb3 zk_cX5_takeOne zn_cX5_takeOne (by decide +kernel)) rfl
theorem dX5_takeOne_63 : decode cX5_takeOne 63 = .ok (.aload_n 0, 1) := zo_42 (zkb zk_cX5_takeOne zn_cX5_takeOne (by decide +kernel))
theorem dX5_takeOne_64 : decode cX5_takeOne 64 = .ok (.bipush 6, 2) := zo_16 (b1 := 6) (zkb2 zk_cX5_takeOne zn_cX5_takeOne (by decide +kernel)) rfl
theorem dX5_takeOne_66 : decode cX5_takeOne 66 = .ok (.aload_n 0, 1) := zo_42 (zkb zk_cX5_takeOne zn_cX5_takeOne (by decide +kernel))
theorem dX5_takeOne_67 : decode cX5_takeOne 67 = .ok (.bipush 6, 2) := zo_16 (b1 := 6) (zkb2 zk_cX5_takeOne zn_cX5_takeOne (by decide +kernel)) rfl
theorem dX5_takeOne_69 : decode cX5_takeOne 69 = .ok (.invokevirtual 65, 3) := zo_182 (b1 := 0) (b2 := 65) (zkb3 zk_cX5_takeOne zn_cX5_takeOne (by decide +kernel)) rfl
theorem dX5_takeOne_72 : decode cX5_takeOne 72 = .ok (.iload_n 1, 1) := zo_27 (zkb zk_cX5_takeOne zn_cX5_takeOne (by decide +kernel))
theorem dX5_takeOne_73 : decode cX5_takeOne 73 = .ok (.iadd, 1) := zo_96 (zkb zk_cX5_takeOne zn_cX5_takeOne (by decide +kernel))
theorem dX5_takeOne_74 : decode cX5_takeOne 74 = .ok (.invokevirtual 121, 3) := zo_182 (b1 := 0) (b2 := 121) (zkb3 zk_cX5_takeOne zn_cX5_takeOne (by decide +kernel)) rfl
theorem dX5_takeOne_77 : decode cX5_takeOne 77 = .ok (.aload_n 0, 1) := zo_42 (zkb zk_cX5_takeOne zn_cX5_takeOne (by decide +kernel))
theorem dX5_takeOne_78 : decode cX5_takeOne 78 = .ok (.iload_n 2, 1) := zo_28 (zkb zk_cX5_takeOne zn_cX5_takeOne (by decide +kernel))
theorem dX5_takeOne_79 : decode cX5_takeOne 79 = .ok (.iload_n 2, 1) := zo_28 (zkb zk_cX5_takeOne zn_cX5_takeOne (by decide +kernel))
theorem dX5_takeOne_80 : decode cX5_takeOne 80 = .ok (.aload_n 0, 1) := zo_42 (zkb zk_cX5_takeOne zn_cX5_takeOne (by decide +kernel))
theorem dX5_takeOne_81 : decode cX5_takeOne 81 = .ok (.getfield 9, 3) := zo_180 (b1 := 0) (b2 := 9) (zkb3 zk_cX5_takeOne zn_cX5_takeOne (by decide +kernel)) rfl
theorem dX5_takeOne_84 : decode cX5_takeOne 84 = .ok (.iconst 3, 1) := zo_6 (zkb zk_cX5_takeOne zn_cX5_takeOne (by decide +kernel))
theorem dX5_takeOne_85 : decode cX5_takeOne 85 = .ok (.iaload, 1) := zo_46 (zkb zk_cX5_takeOne zn_cX5_takeOne (by decide +kernel))
theorem dX5_takeOne_86 : decode cX5_takeOne 86 = .ok (.iload_n 1, 1) := zo_27 (zkb zk_cX5_takeOne zn_cX5_takeOne (by decide +kernel))
theorem dX5_takeOne_87 : decode cX5_takeOne 87 = .ok (.iadd, 1) := zo_96 (zkb zk_cX5_takeOne zn_cX5_takeOne (by decide +kernel))
theorem dX5_takeOne_88 : decode cX5_takeOne 88 = .ok (.sipush 255, 3) := zo_17 (b1 := 0) (b2 := 255) (zkb3 zk_cX5_takeOne zn_cX5_takeOne (by decide +kernel)) rfl
theorem dX5_takeOne_91 : decode cX5_takeOne 91 = .ok (.iand, 1) := zo_126 (zkb zk_cX5_takeOne zn_cX5_takeOne (by decide +kernel))
theorem dX5_takeOne_92 : decode cX5_takeOne 92 = .ok (.iadd, 1) := zo_96 (zkb zk_cX5_takeOne zn_cX5_takeOne (by decide +kernel))
theorem dX5_takeOne_93 : decode cX5_takeOne 93 = .ok (.invokevirtual 271, 3) := zo_182 (b1 := 1) (b2 := 15) (zkb3 zk_cX5_takeOne zn_cX5_takeOne (by decide +kernel)) rfl
theorem dX5_takeOne_96 : decode cX5_takeOne 96 = .ok (.aload_n 0, 1) := zo_42 (zkb zk_cX5_takeOne zn_cX5_takeOne (by decide +kernel))
theorem dX5_takeOne_97 : decode cX5_takeOne 97 = .ok (.getfield 9, 3) := zo_180 (b1 := 0) (b2 := 9) (zkb3 zk_cX5_takeOne zn_cX5_takeOne (by decide +kernel)) rfl
theorem dX5_takeOne_100 : decode cX5_takeOne 100 = .ok (.iconst 2, 1) := zo_5 (zkb zk_cX5_takeOne zn_cX5_takeOne (by decide +kernel))
theorem dX5_takeOne_101 : decode cX5_takeOne 101 = .ok (.iaload, 1) := zo_46 (zkb zk_cX5_takeOne zn_cX5_takeOne (by decide +kernel))
theorem dX5_takeOne_102 : decode cX5_takeOne 102 = .ok (.ifCond .eq 7, 3) := zo_153 (b1 := 0) (b2 := 7) (zkb3 zk_cX5_takeOne zn_cX5_takeOne (by decide +kernel)) rfl
theorem dX5_takeOne_105 : decode cX5_takeOne 105 = .ok (.iconst 1, 1) := zo_4 (zkb zk_cX5_takeOne zn_cX5_takeOne (by decide +kernel))
theorem dX5_takeOne_106 : decode cX5_takeOne 106 = .ok (.goto 4, 3) := zo_167 (b1 := 0) (b2 := 4) (zkb3 zk_cX5_takeOne zn_cX5_takeOne (by decide +kernel)) rfl
theorem dX5_takeOne_109 : decode cX5_takeOne 109 = .ok (.iconst 0, 1) := zo_3 (zkb zk_cX5_takeOne zn_cX5_takeOne (by decide +kernel))
theorem dX5_takeOne_110 : decode cX5_takeOne 110 = .ok (.ireturn, 1) := zo_172 (zkb zk_cX5_takeOne zn_cX5_takeOne (by decide +kernel))
def kn_cX5_giveOne : Nat := 0xac030400a7040700992e050900b42a0f01b6602e07100900b42a1c1c2a4f7e2f12601b4100b6052a14100900b42a7900b6601b4100b606102a06102ade00b61c2e060900b42a1800b42a4f7eff001164042e050900b42a050900b42a3d4b00b64100b606102a1400b42a
theorem zk_cX5_giveOne : zkd cX5_giveOne.data.toList kn_cX5_giveOne = true := by decide +kernel
theorem zn_cX5_giveOne : cX5_giveOne.data.toList.length = 106 := by decide +kernel
theorem dX5_giveOne_0 : decode cX5_giveOne 0 = .ok (.aload_n 0, 1) := zo_42 (zkb zk_cX5_giveOne zn_cX5_giveOne (by decide +kernel))
theorem dX5_giveOne_1 : decode cX5_giveOne 1 = .ok (.getfield 20, 3) := zo_180 (b1 := 0) (b2 := 20) (zkb3 zk_cX5_giveOne zn_cX5_giveOne (by decide +kernel)) rfl
theorem dX5_giveOne_4 : decode cX5_giveOne 4 = .ok (.aload_n 0, 1) := zo_42 (zkb zk_cX5_giveOne zn_cX5_giveOne (by decide +kernel))
theorem dX5_giveOne_5 : decode cX5_giveOne 5 = .ok (.bipush 6, 2) := zo_16 (b1 := 6) (zkb2 zk_cX5_giveOne zn_cX5_giveOne (by decide +kernel)) rfl
theorem dX5_giveOne_7 : decode cX5_giveOne 7 = .ok (.invokevirtual 65, 3) := zo_182 (b1 := 0) (b2 := 65) (zkb3 zk_cX5_giveOne zn_cX5_giveOne (by decide +kernel)) rfl
theorem dX5_giveOne_10 : decode cX5_giveOne 10 = .ok (.invokevirtual 75, 3) := zo_182 (b1 := 0) (b2 := 75) (zkb3 zk_cX5_giveOne zn_cX5_giveOne (by decide +kernel)) rfl
theorem dX5_giveOne_13 : decode cX5_giveOne 13 = .ok (.istore_n 2, 1) := zo_61 (zkb zk_cX5_giveOne zn_cX5_giveOne (by decide +kernel))
theorem dX5_giveOne_14 : decode cX5_giveOne 14 = .ok (.aload_n 0, 1) := zo_42 (zkb zk_cX5_giveOne zn_cX5_giveOne (by decide +kernel))
theorem dX5_giveOne_15 : decode cX5_giveOne 15 = .ok (.getfield 9, 3) := zo_180 (b1 := 0) (b2 := 9) (zkb3 zk_cX5_giveOne zn_cX5_giveOne (by decide +kernel)) rfl
theorem dX5_giveOne_18 : decode cX5_giveOne 18 = .ok (.iconst 2, 1) := zo_5 (zkb zk_cX5_giveOne zn_cX5_giveOne (by decide +kernel))
theorem dX5_giveOne_19 : decode cX5_giveOne 19 = .ok (.aload_n 0, 1) := zo_42 (zkb zk_cX5_giveOne zn_cX5_giveOne (by decide +kernel))
theorem dX5_giveOne_20 : decode cX5_giveOne 20 = .ok (.getfield 9, 3) := zo_180 (b1 := 0) (b2 := 9) (zkb3 zk_cX5_giveOne zn_cX5_giveOne (by decide +kernel)) rfl
theorem dX5_giveOne_23 : decode cX5_giveOne 23 = .ok (.iconst 2, 1) := zo_5 (zkb zk_cX5_giveOne zn_cX5_giveOne (by decide +kernel))
theorem dX5_giveOne_24 : decode cX5_giveOne 24 = .ok (.iaload, 1) := zo_46 (zkb zk_cX5_giveOne zn_cX5_giveOne (by decide +kernel))
theorem dX5_giveOne_25 : decode cX5_giveOne 25 = .ok (.iconst 1, 1) := zo_4 (zkb zk_cX5_giveOne zn_cX5_giveOne (by decide +kernel))
theorem dX5_giveOne_26 : decode cX5_giveOne 26 = .ok (.isub, 1) := zo_100 (zkb zk_cX5_giveOne zn_cX5_giveOne (by decide +kernel))
theorem dX5_giveOne_27 : decode cX5_giveOne 27 = .ok (.sipush 255, 3) := zo_17 (b1 := 0) (b2 := 255) (zkb3 zk_cX5_giveOne zn_cX5_giveOne (by decide +kernel)) rfl
theorem dX5_giveOne_30 : decode cX5_giveOne 30 = .ok (.iand, 1) := zo_126 (zkb zk_cX5_giveOne zn_cX5_giveOne (by decide +kernel))
theorem dX5_giveOne_31 : decode cX5_giveOne 31 = .ok (.iastore, 1) := zo_79 (zkb zk_cX5_giveOne zn_cX5_giveOne (by decide +kernel))
theorem dX5_giveOne_32 : decode cX5_giveOne 32 = .ok (.aload_n 0, 1) := zo_42 (zkb zk_cX5_giveOne zn_cX5_giveOne (by decide +kernel))
theorem dX5_giveOne_33 : decode cX5_giveOne 33 = .ok (.getfield 24, 3) := zo_180 (b1 := 0) (b2 := 24) (zkb3 zk_cX5_giveOne zn_cX5_giveOne (by decide +kernel)) rfl
theorem dX5_giveOne_36 : decode cX5_giveOne 36 = .ok (.aload_n 0, 1) := zo_42 (zkb zk_cX5_giveOne zn_cX5_giveOne (by decide +kernel))
theorem dX5_giveOne_37 : decode cX5_giveOne 37 = .ok (.getfield 9, 3) := zo_180 (b1 := 0) (b2 := 9) (zkb3 zk_cX5_giveOne zn_cX5_giveOne (by decide +kernel)) rfl
theorem dX5_giveOne_40 : decode cX5_giveOne 40 = .ok (.iconst 3, 1) := zo_6 (zkb zk_cX5_giveOne zn_cX5_giveOne (by decide +kernel))
theorem dX5_giveOne_41 : decode cX5_giveOne 41 = .ok (.iaload, 1) := zo_46 (zkb zk_cX5_giveOne zn_cX5_giveOne (by decide +kernel))
theorem dX5_giveOne_42 : decode cX5_giveOne 42 = .ok (.iload_n 2, 1) := zo_28 (zkb zk_cX5_giveOne zn_cX5_giveOne (by decide +kernel))
theorem dX5_giveOne_43 : decode cX5_giveOne 43 = .ok (.invokevirtual 222, 3) := zo_182 (b1 := 0) (b2 := 222) (zkb3 zk_cX5_giveOne zn_cX5_giveOne (by decide +kernel)) rfl
theorem dX5_giveOne_46 : decode cX5_giveOne 46 = .ok (.aload_n 0, 1) := zo_42 (zkb zk_cX5_giveOne zn_cX5_giveOne (by decide +kernel))
theorem dX5_giveOne_47 : decode cX5_giveOne 47 = .ok (.bipush 6, 2) := zo_16 (b1 := 6) (zkb2 zk_cX5_giveOne zn_cX5_giveOne (by decide +kernel)) rfl
theorem dX5_giveOne_49 : decode cX5_giveOne 49 = .ok (.aload_n 0, 1) := zo_42 (zkb zk_cX5_giveOne zn_cX5_giveOne (by decide +kernel))
theorem dX5_giveOne_50 : decode cX5_giveOne 50 = .ok (.bipush 6, 2) := zo_16 (b1 := 6) (zkb2 zk_cX5_giveOne zn_cX5_giveOne (by decide +kernel)) rfl
theorem dX5_giveOne_52 : decode cX5_giveOne 52 = .ok (.invokevirtual 65, 3) := zo_182 (b1 := 0) (b2 := 65) (zkb3 zk_cX5_giveOne zn_cX5_giveOne (by decide +kernel)) rfl
theorem dX5_giveOne_55 : decode cX5_giveOne 55 = .ok (.iload_n 1, 1) := zo_27 (zkb zk_cX5_giveOne zn_cX5_giveOne (by decide +kernel))
theorem dX5_giveOne_56 : decode cX5_giveOne 56 = .ok (.iadd, 1) := zo_96 (zkb zk_cX5_giveOne zn_cX5_giveOne (by decide +kernel))
theorem dX5_giveOne_57 : decode cX5_giveOne 57 = .ok (.invokevirtual 121, 3) := zo_182 (b1 := 0) (b2 := 121) (zkb3 zk_cX5_giveOne zn_cX5_giveOne (by decide +kernel)) rfl
theorem dX5_giveOne_60 : decode cX5_giveOne 60 = .ok (.aload_n 0, 1) := zo_42 (zkb zk_cX5_giveOne zn_cX5_giveOne (by decide +kernel))
theorem dX5_giveOne_61 : decode cX5_giveOne 61 = .ok (.getfield 9, 3) := zo_180 (b1 := 0) (b2 := 9) (zkb3 zk_cX5_giveOne zn_cX5_giveOne (by decide +kernel)) rfl
theorem dX5_giveOne_64 : decode cX5_giveOne 64 = .ok (.bipush 20, 2) := zo_16 (b1 := 20) (zkb2 zk_cX5_giveOne zn_cX5_giveOne (by decide +kernel)) rfl
theorem dX5_giveOne_66 : decode cX5_giveOne 66 = .ok (.aload_n 0, 1) := zo_42 (zkb zk_cX5_giveOne zn_cX5_giveOne (by decide +kernel))
theorem dX5_giveOne_67 : decode cX5_giveOne 67 = .ok (.iconst 2, 1) := zo_5 (zkb zk_cX5_giveOne zn_cX5_giveOne (by decide +kernel))
theorem dX5_giveOne_68 : decode cX5_giveOne 68 = .ok (.invokevirtual 65, 3) := zo_182 (b1 := 0) (b2 := 65) (zkb3 zk_cX5_giveOne zn_cX5_giveOne (by decide +kernel)) rfl
theorem dX5_giveOne_71 : decode cX5_giveOne 71 = .ok (.iload_n 1, 1) := zo_27 (zkb zk_cX5_giveOne zn_cX5_giveOne (by decide +kernel))
theorem dX5_giveOne_72 : decode cX5_giveOne 72 = .ok (.iadd, 1) := zo_96 (zkb zk_cX5_giveOne zn_cX5_giveOne (by decide +kernel))
theorem dX5_giveOne_73 : decode cX5_giveOne 73 = .ok (.ldc 47, 2) := zo_18 (b1 := 47) (zkb2 zk_cX5_giveOne zn_cX5_giveOne (by decide +kernel))
theorem dX5_giveOne_75 : decode cX5_giveOne 75 = .ok (.iand, 1) := zo_126 (zkb zk_cX5_giveOne zn_cX5_giveOne (by decide +kernel))
theorem dX5_giveOne_76 : decode cX5_giveOne 76 = .ok (.iastore, 1) := zo_79 (zkb zk_cX5_giveOne zn_cX5_giveOne (by decide +kernel))
theorem dX5_giveOne_77 : decode cX5_giveOne 77 = .ok (.aload_n 0, 1) := zo_42 (zkb zk_cX5_giveOne zn_cX5_giveOne (by decide +kernel))
theorem dX5_giveOne_78 : decode cX5_giveOne 78 = .ok (.iload_n 2, 1) := zo_28 (zkb zk_cX5_giveOne zn_cX5_giveOne (by decide +kernel))
theorem dX5_giveOne_79 : decode cX5_giveOne 79 = .ok (.iload_n 2, 1) := zo_28 (zkb zk_cX5_giveOne zn_cX5_giveOne (by decide +kernel))
theorem dX5_giveOne_80 : decode cX5_giveOne 80 = .ok (.aload_n 0, 1) := zo_42 (zkb zk_cX5_giveOne zn_cX5_giveOne (by decide +kernel))
theorem dX5_giveOne_81 : decode cX5_giveOne 81 = .ok (.getfield 9, 3) := zo_180 (b1 := 0) (b2 := 9) (zkb3 zk_cX5_giveOne zn_cX5_giveOne (by decide +kernel)) rfl
theorem dX5_giveOne_84 : decode cX5_giveOne 84 = .ok (.bipush 7, 2) := zo_16 (b1 := 7) (zkb2 zk_cX5_giveOne zn_cX5_giveOne (by decide +kernel)) rfl
theorem dX5_giveOne_86 : decode cX5_giveOne 86 = .ok (.iaload, 1) := zo_46 (zkb zk_cX5_giveOne zn_cX5_giveOne (by decide +kernel))
theorem dX5_giveOne_87 : decode cX5_giveOne 87 = .ok (.iadd, 1) := zo_96 (zkb zk_cX5_giveOne zn_cX5_giveOne (by decide +kernel))
theorem dX5_giveOne_88 : decode cX5_giveOne 88 = .ok (.invokevirtual 271, 3) := zo_182 (b1 := 1) (b2 := 15) (zkb3 zk_cX5_giveOne zn_cX5_giveOne (by decide +kernel)) rfl
theorem dX5_giveOne_91 : decode cX5_giveOne 91 = .ok (.aload_n 0, 1) := zo_42 (zkb zk_cX5_giveOne zn_cX5_giveOne (by decide +kernel))
theorem dX5_giveOne_92 : decode cX5_giveOne 92 = .ok (.getfield 9, 3) := zo_180 (b1 := 0) (b2 := 9) (zkb3 zk_cX5_giveOne zn_cX5_giveOne (by decide +kernel)) rfl
theorem dX5_giveOne_95 : decode cX5_giveOne 95 = .ok (.iconst 2, 1) := zo_5 (zkb zk_cX5_giveOne zn_cX5_giveOne (by decide +kernel))
theorem dX5_giveOne_96 : decode cX5_giveOne 96 = .ok (.iaload, 1) := zo_46 (zkb zk_cX5_giveOne zn_cX5_giveOne (by decide +kernel))
theorem dX5_giveOne_97 : decode cX5_giveOne 97 = .ok (.ifCond .eq 7, 3) := zo_153 (b1 := 0) (b2 := 7) (zkb3 zk_cX5_giveOne zn_cX5_giveOne (by decide +kernel)) rfl
theorem dX5_giveOne_100 : decode cX5_giveOne 100 = .ok (.iconst 1, 1) := zo_4 (zkb zk_cX5_giveOne zn_cX5_giveOne (by decide +kernel))
theorem dX5_giveOne_101 : decode cX5_giveOne 101 = .ok (.goto 4, 3) := zo_167 (b1 := 0) (b2 := 4) (zkb3 zk_cX5_giveOne zn_cX5_giveOne (by decide +kernel)) rfl
theorem dX5_giveOne_104 : decode cX5_giveOne 104 = .ok (.iconst 0, 1) := zo_3 (zkb zk_cX5_giveOne zn_cX5_giveOne (by decide +kernel))
theorem dX5_giveOne_105 : decode cX5_giveOne 105 = .ok (.ireturn, 1) := zo_172 (zkb zk_cX5_giveOne zn_cX5_giveOne (by decide +kernel))
def kn_cX5_tellOfPort : Nat := 0xb14f80c400b8822e050900b42a7e07101c80030400a711100800a4ff00111c807e057a06101bbb00b82e050900b42a040900b42a
theorem zk_cX5_tellOfPort : zkd cX5_tellOfPort.data.toList kn_cX5_tellOfPort = true := by decide +kernel
theorem zn_cX5_tellOfPort : cX5_tellOfPort.data.toList.length = 52 := by decide +kernel
theorem dX5_tellOfPort_0 : decode cX5_tellOfPort 0 = .ok (.aload_n 0, 1) := zo_42 (zkb zk_cX5_tellOfPort zn_cX5_tellOfPort (by decide +kernel))
theorem dX5_tellOfPort_1 : decode cX5_tellOfPort 1 = .ok (.getfield 9, 3) := zo_180 (b1 := 0) (b2 := 9) (zkb3 zk_cX5_tellOfPort zn_cX5_tellOfPort (by decide +kernel)) rfl
theorem dX5_tellOfPort_4 : decode cX5_tellOfPort 4 = .ok (.iconst 1, 1) := zo_4 (zkb zk_cX5_tellOfPort zn_cX5_tellOfPort (by decide +kernel))
theorem dX5_tellOfPort_5 : decode cX5_tellOfPort 5 = .ok (.aload_n 0, 1) := zo_42 (zkb zk_cX5_tellOfPort zn_cX5_tellOfPort (by decide +kernel))
theorem dX5_tellOfPort_6 : decode cX5_tellOfPort 6 = .ok (.getfield 9, 3) := zo_180 (b1 := 0) (b2 := 9) (zkb3 zk_cX5_tellOfPort zn_cX5_tellOfPort (by decide +kernel)) rfl
theorem dX5_tellOfPort_9 : decode cX5_tellOfPort 9 = .ok (.iconst 2, 1) := zo_5 (zkb zk_cX5_tellOfPort zn_cX5_tellOfPort (by decide +kernel))
theorem dX5_tellOfPort_10 : decode cX5_tellOfPort 10 = .ok (.iaload, 1) := zo_46 (zkb zk_cX5_tellOfPort zn_cX5_tellOfPort (by decide +kernel))
theorem dX5_tellOfPort_11 : decode cX5_tellOfPort 11 = .ok (.invokestatic 187, 3) := zo_184 (b1 := 0) (b2 := 187) (zkb3 zk_cX5_tellOfPort zn_cX5_tellOfPort (by decide +kernel)) rfl
theorem dX5_tellOfPort_14 : decode cX5_tellOfPort 14 = .ok (.iload_n 1, 1) := zo_27 (zkb zk_cX5_tellOfPort zn_cX5_tellOfPort (by decide +kernel))
theorem dX5_tellOfPort_15 : decode cX5_tellOfPort 15 = .ok (.bipush 6, 2) := zo_16 (b1 := 6) (zkb2 zk_cX5_tellOfPort zn_cX5_tellOfPort (by decide +kernel)) rfl
theorem dX5_tellOfPort_17 : decode cX5_tellOfPort 17 = .ok (.ishr, 1) := zo_122 (zkb zk_cX5_tellOfPort zn_cX5_tellOfPort (by decide +kernel))
theorem dX5_tellOfPort_18 : decode cX5_tellOfPort 18 = .ok (.iconst 2, 1) := zo_5 (zkb zk_cX5_tellOfPort zn_cX5_tellOfPort (by decide +kernel))
theorem dX5_tellOfPort_19 : decode cX5_tellOfPort 19 = .ok (.iand, 1) := zo_126 (zkb zk_cX5_tellOfPort zn_cX5_tellOfPort (by decide +kernel))
theorem dX5_tellOfPort_20 : decode cX5_tellOfPort 20 = .ok (.ior, 1) := zo_128 (zkb zk_cX5_tellOfPort zn_cX5_tellOfPort (by decide +kernel))
theorem dX5_tellOfPort_21 : decode cX5_tellOfPort 21 = .ok (.iload_n 2, 1) := zo_28 (zkb zk_cX5_tellOfPort zn_cX5_tellOfPort (by decide +kernel))
theorem dX5_tellOfPort_22 : decode cX5_tellOfPort 22 = .ok (.sipush 255, 3) := zo_17 (b1 := 0) (b2 := 255) (zkb3 zk_cX5_tellOfPort zn_cX5_tellOfPort (by decide +kernel)) rfl
theorem dX5_tellOfPort_25 : decode cX5_tellOfPort 25 = .ok (.if_icmp .le 8, 3) := zo_164 (b1 := 0) (b2 := 8) (zkb3 zk_cX5_tellOfPort zn_cX5_tellOfPort (by decide +kernel)) rfl
theorem dX5_tellOfPort_28 : decode cX5_tellOfPort 28 = .ok (.bipush 17, 2) := zo_16 (b1 := 17) (zkb2 zk_cX5_tellOfPort zn_cX5_tellOfPort (by decide +kernel)) rfl
theorem dX5_tellOfPort_30 : decode cX5_tellOfPort 30 = .ok (.goto 4, 3) := zo_167 (b1 := 0) (b2 := 4) (zkb3 zk_cX5_tellOfPort zn_cX5_tellOfPort (by decide +kernel)) rfl
theorem dX5_tellOfPort_33 : decode cX5_tellOfPort 33 = .ok (.iconst 0, 1) := zo_3 (zkb zk_cX5_tellOfPort zn_cX5_tellOfPort (by decide +kernel))
theorem dX5_tellOfPort_34 : decode cX5_tellOfPort 34 = .ok (.ior, 1) := zo_128 (zkb zk_cX5_tellOfPort zn_cX5_tellOfPort (by decide +kernel))
theorem dX5_tellOfPort_35 : decode cX5_tellOfPort 35 = .ok (.iload_n 2, 1) := zo_28 (zkb zk_cX5_tellOfPort zn_cX5_tellOfPort (by decide +kernel))
theorem dX5_tellOfPort_36 : decode cX5_tellOfPort 36 = .ok (.bipush 7, 2) := zo_16 (b1 := 7) (zkb2 zk_cX5_tellOfPort zn_cX5_tellOfPort (by decide +kernel)) rfl
theorem dX5_tellOfPort_38 : decode cX5_tellOfPort 38 = .ok (.iand, 1) := zo_126 (zkb zk_cX5_tellOfPort zn_cX5_tellOfPort (by decide +kernel))
theorem dX5_tellOfPort_39 : decode cX5_tellOfPort 39 = .ok (.aload_n 0, 1) := zo_42 (zkb zk_cX5_tellOfPort zn_cX5_tellOfPort (by decide +kernel))
theorem dX5_tellOfPort_40 : decode cX5_tellOfPort 40 = .ok (.getfield 9, 3) := zo_180 (b1 := 0) (b2 := 9) (zkb3 zk_cX5_tellOfPort zn_cX5_tellOfPort (by decide +kernel)) rfl
theorem dX5_tellOfPort_43 : decode cX5_tellOfPort 43 = .ok (.iconst 2, 1) := zo_5 (zkb zk_cX5_tellOfPort zn_cX5_tellOfPort (by decide +kernel))
theorem dX5_tellOfPort_44 : decode cX5_tellOfPort 44 = .ok (.iaload, 1) := zo_46 (zkb zk_cX5_tellOfPort zn_cX5_tellOfPort (by decide +kernel))
theorem dX5_tellOfPort_45 : decode cX5_tellOfPort 45 = .ok (.ixor, 1) := zo_130 (zkb zk_cX5_tellOfPort zn_cX5_tellOfPort (by decide +kernel))
theorem dX5_tellOfPort_46 : decode cX5_tellOfPort 46 = .ok (.invokestatic 196, 3) := zo_184 (b1 := 0) (b2 := 196) (zkb3 zk_cX5_tellOfPort zn_cX5_tellOfPort (by decide +kernel)) rfl
theorem dX5_tellOfPort_49 : decode cX5_tellOfPort 49 = .ok (.ior, 1) := zo_128 (zkb zk_cX5_tellOfPort zn_cX5_tellOfPort (by decide +kernel))
theorem dX5_tellOfPort_50 : decode cX5_tellOfPort 50 = .ok (.iastore, 1) := zo_79 (zkb zk_cX5_tellOfPort zn_cX5_tellOfPort (by decide +kernel))
theorem dX5_tellOfPort_51 : decode cX5_tellOfPort 51 = .ok (.return_, 1) := zo_177 (zkb zk_cX5_tellOfPort zn_cX5_tellOfPort (by decide +kernel))
def rmX5_putPairHalf : Room := { frames := 0, cells := 0, slots := 0, locals := 0 }
def wzX5_putPairHalf : List Cond := .code yX5_putPairHalf cX5_putPairHalf 3 none :: wsL_law
theorem hinX5_putPairHalf_X50 : ∀ w ∈ wsX50, w ∈ wzX5_putPairHalf := fun w h => List.mem_cons_of_mem _ (inlX5 w h)
def fX5_putPairHalf_69  (σ : zSt)  : Option (zSt) :=
  some σ
def fX5_putPairHalf_68  (σ : zSt) (s0 : Int32) (s1 : Int32) : Option (zSt) :=
  zck (zin s1 29) (zbv (zsi σ 36 (s1.toNatClampNeg) s0) (fun σ1 =>
  fX5_putPairHalf_69 σ1))
def fX5_putPairHalf  (σ : zSt) (x1 : Int32) (x2 : Int32) : Option (zSt) :=
  if (zgi σ 7 4) = 6 then zck (zin x1 29) (zbv (zsi σ 36 (x1.toNatClampNeg) x2) (fun σ2 =>
  fX5_putPairHalf_69 σ2)) else
  if x1 = 6 then zck (zin (zgi σ 7 4) 29) (
  fX5_putPairHalf_68 σ ((x2 <<< ((8 : Int32) &&& 31)) ||| ((zgi σ 36 (zgi σ 7 4).toNatClampNeg) &&& 255)) (zgi σ 7 4)) else
  zck (zin (zgi σ 7 4) 29) (
  fX5_putPairHalf_68 σ (((zgi σ 36 (zgi σ 7 4).toNatClampNeg) &&& 65280) ||| x2) (zgi σ 7 4))
set_option maxRecDepth 20000 in
set_option maxHeartbeats 4000000 in
theorem bX5_putPairHalf_69 {st : Nat → Nat} {p : Program} {l : Launch} {e : Env} {s : State} {m : MethodId} {args : Array Value} {below : List Frame} {meth : Method} {c : Code} {D : va_G} {A : Nat → Prop} {ad : Nat → Nat} {cy : Nat → ClassId} (hC : zC p m c cX5_putPairHalf 3 s args wzX5_putPairHalf RX5 meth none)  {res : zSt} {H : Heap} {locs : List Loc} {σ : zSt} {ls : Array Slot}  (hI : zI st D (tC cy) (wC ad cy σ) A s H locs) (hl : lv_has ls 3 []) (hf : fX5_putPairHalf_69  σ  = some res) : W p l e rmX5_putPairHalf s m args below meth c H locs 0 0 (zQu below args s D (tC cy) (wC ad cy) A res) (F0 m 69 ls []) := by
  have hx := hC.1
  have hb := hC.2.1
  unfold fX5_putPairHalf_69 at hf
  exact z_return hC hI hf dX5_putPairHalf_69
set_option maxRecDepth 20000 in
set_option maxHeartbeats 4000000 in
theorem bX5_putPairHalf_68 {st : Nat → Nat} {p : Program} {l : Launch} {e : Env} {s : State} {m : MethodId} {args : Array Value} {below : List Frame} {meth : Method} {c : Code} {D : va_G} {A : Nat → Prop} {ad : Nat → Nat} {cy : Nat → ClassId} (hC : zC p m c cX5_putPairHalf 3 s args wzX5_putPairHalf RX5 meth none)  {res : zSt} {H : Heap} {locs : List Loc} {σ : zSt} {ls : Array Slot} {s0 : Int32} {s1 : Int32} (hI : zI st D (tC cy) (wC ad cy σ) A s H locs) (hl : lv_has ls 3 []) (hf : fX5_putPairHalf_68  σ s0 s1 = some res) : W p l e rmX5_putPairHalf s m args below meth c H locs 0 0 (zQu below args s D (tC cy) (wC ad cy) A res) (F0 m 68 ls [.int s0, .int s1, .ref (ad 36)]) := by
  have hx := hC.1
  have hb := hC.2.1
  unfold fX5_putPairHalf_68 at hf
  obtain ⟨q, hf⟩ := zck_use hf
  obtain ⟨σ1, eσ1⟩ : ∃ z, z = zsi σ 36 (s1.toNatClampNeg) s0 := ⟨_, rfl⟩
  replace hf := zbv_use eσ1 hf
  refine z_iast hC hI 36 23 (wC_e36 ad cy σ) (tC_t36 cy) q ((wC_s36 ad cy σ _ _).trans (congrArg (wC ad cy) eσ1.symm)) dX5_putPairHalf_68 (fun H locs hI => ?_)
  exact bX5_putPairHalf_69 hC  hI hl hf
set_option maxRecDepth 20000 in
set_option maxHeartbeats 4000000 in
theorem bX5_putPairHalf {st : Nat → Nat} {p : Program} {l : Launch} {e : Env} {s : State} {m : MethodId} {args : Array Value} {below : List Frame} {meth : Method} {c : Code} {D : va_G} {A : Nat → Prop} {ad : Nat → Nat} {cy : Nat → ClassId} (hC : zC p m c cX5_putPairHalf 3 s args wzX5_putPairHalf RX5 meth none)  {res : zSt} {H : Heap} {locs : List Loc} {σ : zSt} {ls : Array Slot} {x1 : Int32} {x2 : Int32} (hI : zI st D (tC cy) (wC ad cy σ) A s H locs) (hl : lv_has ls 3 [(0, .ref (ad 7)), (1, .int x1), (2, .int x2)]) (hf : fX5_putPairHalf  σ x1 x2 = some res) : W p l e rmX5_putPairHalf s m args below meth c H locs 0 0 (zQu below args s D (tC cy) (wC ad cy) A res) (F0 m 0 ls []) := by
  have hx := hC.1
  have hb := hC.2.1
  unfold fX5_putPairHalf at hf
  refine lv_aload_n hx hb dX5_putPairHalf_0 rfl (lv_at hl 0 rfl) ?_
  refine z_get hC hI hinX5_putPairHalf_X50 7 (wC_e7 ad cy σ) rfl 4 (by decide) (List.mem_cons_of_mem _ zw7_7) rfl dX5_putPairHalf_1 ?_
  refine lv_bipush (v := 6) hx hb dX5_putPairHalf_4 (by decide) ?_
  refine lv_icmp_ne (tgt := 19) hx hb dX5_putPairHalf_6 (by decide) (fun q => ?_) (fun q => ?_)
  · replace hf := zif_f q hf
    refine lv_aload_n hx hb dX5_putPairHalf_19 rfl (lv_at hl 0 rfl) ?_
    refine z_get hC hI hinX5_putPairHalf_X50 7 (wC_e7 ad cy σ) rfl 2 (by decide) (List.mem_cons_of_mem _ zw7_5) rfl dX5_putPairHalf_20 ?_
    refine lv_aload_n hx hb dX5_putPairHalf_23 rfl (lv_at hl 0 rfl) ?_
    refine z_get hC hI hinX5_putPairHalf_X50 7 (wC_e7 ad cy σ) rfl 4 (by decide) (List.mem_cons_of_mem _ zw7_7) rfl dX5_putPairHalf_24 ?_
    refine lv_iload_n hx hb dX5_putPairHalf_27 rfl (lv_at hl 1 rfl) ?_
    refine lv_bipush (v := 6) hx hb dX5_putPairHalf_28 (by decide) ?_
    refine lv_icmp_ne (tgt := 54) hx hb dX5_putPairHalf_30 (by decide) (fun q => ?_) (fun q => ?_)
    · replace hf := zif_f q hf
      refine lv_aload_n hx hb dX5_putPairHalf_54 rfl (lv_at hl 0 rfl) ?_
      refine z_get hC hI hinX5_putPairHalf_X50 7 (wC_e7 ad cy σ) rfl 2 (by decide) (List.mem_cons_of_mem _ zw7_5) rfl dX5_putPairHalf_55 ?_
      refine lv_aload_n hx hb dX5_putPairHalf_58 rfl (lv_at hl 0 rfl) ?_
      refine z_get hC hI hinX5_putPairHalf_X50 7 (wC_e7 ad cy σ) rfl 4 (by decide) (List.mem_cons_of_mem _ zw7_7) rfl dX5_putPairHalf_59 ?_
      obtain ⟨q, hf⟩ := zck_use hf
      refine z_iald hC hI 36 23 (wC_e36 ad cy σ) (tC_t36 cy) q dX5_putPairHalf_62 ?_
      refine lv_ldc (v := 65280) hx hb hC.2.2.2.1 (hC.2.2.2.2.1 _ (List.mem_cons_of_mem _ zw23_16)) dX5_putPairHalf_63 ?_
      refine lv_iand hx hb dX5_putPairHalf_65 ?_
      refine lv_iload_n hx hb dX5_putPairHalf_66 rfl (lv_at hl 2 rfl) ?_
      refine lv_ior hx hb dX5_putPairHalf_67 ?_
      exact bX5_putPairHalf_68 hC  hI (lv_sub hl [] rfl) hf
    replace hf := zif_t q hf
    refine lv_iload_n hx hb dX5_putPairHalf_33 rfl (lv_at hl 2 rfl) ?_
    refine lv_bipush (v := 8) hx hb dX5_putPairHalf_34 (by decide) ?_
    refine lv_ishl hx hb dX5_putPairHalf_36 ?_
    refine lv_aload_n hx hb dX5_putPairHalf_37 rfl (lv_at hl 0 rfl) ?_
    refine z_get hC hI hinX5_putPairHalf_X50 7 (wC_e7 ad cy σ) rfl 2 (by decide) (List.mem_cons_of_mem _ zw7_5) rfl dX5_putPairHalf_38 ?_
    refine lv_aload_n hx hb dX5_putPairHalf_41 rfl (lv_at hl 0 rfl) ?_
    refine z_get hC hI hinX5_putPairHalf_X50 7 (wC_e7 ad cy σ) rfl 4 (by decide) (List.mem_cons_of_mem _ zw7_7) rfl dX5_putPairHalf_42 ?_
    obtain ⟨q, hf⟩ := zck_use hf
    refine z_iald hC hI 36 23 (wC_e36 ad cy σ) (tC_t36 cy) q dX5_putPairHalf_45 ?_
    refine lv_sipush (v := 255) hx hb dX5_putPairHalf_46 (by decide) ?_
    refine lv_iand hx hb dX5_putPairHalf_49 ?_
    refine lv_ior hx hb dX5_putPairHalf_50 ?_
    refine lv_goto (tgt := 68) hx hb dX5_putPairHalf_51 (by decide) ?_
    exact bX5_putPairHalf_68 hC  hI (lv_sub hl [] rfl) hf
  replace hf := zif_t q hf
  refine lv_aload_n hx hb dX5_putPairHalf_9 rfl (lv_at hl 0 rfl) ?_
  refine z_get hC hI hinX5_putPairHalf_X50 7 (wC_e7 ad cy σ) rfl 2 (by decide) (List.mem_cons_of_mem _ zw7_5) rfl dX5_putPairHalf_10 ?_
  refine lv_iload_n hx hb dX5_putPairHalf_13 rfl (lv_at hl 1 rfl) ?_
  refine lv_iload_n hx hb dX5_putPairHalf_14 rfl (lv_at hl 2 rfl) ?_
  obtain ⟨q, hf⟩ := zck_use hf
  obtain ⟨σ2, eσ2⟩ : ∃ z, z = zsi σ 36 (x1.toNatClampNeg) x2 := ⟨_, rfl⟩
  replace hf := zbv_use eσ2 hf
  refine z_iast hC hI 36 23 (wC_e36 ad cy σ) (tC_t36 cy) q ((wC_s36 ad cy σ _ _).trans (congrArg (wC ad cy) eσ2.symm)) dX5_putPairHalf_15 (fun H locs hI => ?_)
  refine lv_goto (tgt := 69) hx hb dX5_putPairHalf_16 (by decide) ?_
  exact bX5_putPairHalf_69 hC  hI (lv_sub hl [] rfl) hf
set_option maxRecDepth 20000 in
theorem cX5_putPairHalf_met (st : Nat → Nat) (l : Launch) (D : va_G) (ad : Nat → Nat) (cy : Nat → ClassId) (σ : zSt) (x1 : Int32) (x2 : Int32) (res : zSt) (hf : fX5_putPairHalf σ x1 x2 = some res) (sz : Nat) : zMu st l yX5_putPairHalf wzX5_putPairHalf rmX5_putPairHalf [.ref (ad 7), .int x1, .int x2] D (tC cy) (wC ad cy) sz σ res :=
  zMu.of (cc := cX5_putPairHalf) (maxL := 3) (ret := none) (by decide) rfl (Nat.le_of_ble_eq_true rfl) (fun p e s m args below meth c hC A hI ls hl => bX5_putPairHalf hC hI hl hf)
theorem hdX5_putPairHalf : yX5_putPairHalf.cls = RX5 ∧ yX5_putPairHalf.cls ≠ "java/lang/invoke/MethodHandle" ∧ yX5_putPairHalf.cls ≠ "java/lang/invoke/VarHandle" ∧ (parseMethodDescriptor yX5_putPairHalf.desc).map (fun d => d.parameters.length) = some 2 := by decide +kernel
def rmX5_putOne : Room := { frames := 2, cells := 0, slots := 0, locals := 44 }
def wzX5_putOne : List Cond := .code yX5_putOne cX5_putOne 3 none :: wsL_law
theorem hinX5_putOne_X50 : ∀ w ∈ wsX50, w ∈ wzX5_putOne := fun w h => List.mem_cons_of_mem _ (inlX5 w h)
def fX5_putOne_88  (σ : zSt)  : Option (zSt) :=
  some σ
def fX5_putOne  (σ : zSt) (x1 : Int32) (x2 : Int32) : Option (zSt) :=
  if x1 = 4 then zbu (fX5_putPairHalf σ 6 x2) (fun σ1 =>
  fX5_putOne_88 σ1) else
  if x1 = 5 then zbu (fX5_putPairHalf σ 7 x2) (fun σ2 =>
  fX5_putOne_88 σ2) else
  if x1 = 6 then zbu (fX2_write σ (zgi σ 7 5) x2) (fun σ3 =>
  fX5_putOne_88 σ3) else
  if x1 = 7 then zck (zin 0 29) (zbv (zsi σ 36 ((0 : Int32).toNatClampNeg) x2) (fun σ4 =>
  fX5_putOne_88 σ4)) else
  zck (zin (2 + (x1 &&& 3)) 29) (zbv (zsi σ 36 ((2 + (x1 &&& 3)).toNatClampNeg) x2) (fun σ5 =>
  fX5_putOne_88 σ5))
set_option maxRecDepth 20000 in
set_option maxHeartbeats 4000000 in
theorem bX5_putOne_88 {st : Nat → Nat} {p : Program} {l : Launch} {e : Env} {s : State} {m : MethodId} {args : Array Value} {below : List Frame} {meth : Method} {c : Code} {D : va_G} {A : Nat → Prop} {ad : Nat → Nat} {cy : Nat → ClassId} (hC : zC p m c cX5_putOne 3 s args wzX5_putOne RX5 meth none)  {res : zSt} {H : Heap} {locs : List Loc} {σ : zSt} {ls : Array Slot}  (hI : zI st D (tC cy) (wC ad cy σ) A s H locs) (hl : lv_has ls 3 []) (hf : fX5_putOne_88  σ  = some res) : W p l e rmX5_putOne s m args below meth c H locs 0 0 (zQu below args s D (tC cy) (wC ad cy) A res) (F0 m 88 ls []) := by
  have hx := hC.1
  have hb := hC.2.1
  unfold fX5_putOne_88 at hf
  exact z_return hC hI hf dX5_putOne_88
set_option maxRecDepth 20000 in
set_option maxHeartbeats 4000000 in
theorem bX5_putOne {st : Nat → Nat} {p : Program} {l : Launch} {e : Env} {s : State} {m : MethodId} {args : Array Value} {below : List Frame} {meth : Method} {c : Code} {D : va_G} {A : Nat → Prop} {ad : Nat → Nat} {cy : Nat → ClassId} (hC : zC p m c cX5_putOne 3 s args wzX5_putOne RX5 meth none)  {res : zSt} {H : Heap} {locs : List Loc} {σ : zSt} {ls : Array Slot} {x1 : Int32} {x2 : Int32} (hI : zI st D (tC cy) (wC ad cy σ) A s H locs) (hl : lv_has ls 3 [(0, .ref (ad 7)), (1, .int x1), (2, .int x2)]) (hf : fX5_putOne  σ x1 x2 = some res) : W p l e rmX5_putOne s m args below meth c H locs 0 0 (zQu below args s D (tC cy) (wC ad cy) A res) (F0 m 0 ls []) := by
  have hx := hC.1
  have hb := hC.2.1
  unfold fX5_putOne at hf
  refine lv_iload_n hx hb dX5_putOne_0 rfl (lv_at hl 1 rfl) ?_
  by_cases q0 : x1 = 4
  · replace hf := zif_t q0 hf
    refine lv_tableIn (tgt := 32) hx hb dX5_putOne_1 (by rw [q0]; decide) (by rw [q0]; decide) (by rw [q0]; rfl) (by decide) ?_
    refine lv_aload_n hx hb dX5_putOne_32 rfl (lv_at hl 0 rfl) ?_
    refine lv_bipush (v := 6) hx hb dX5_putOne_33 (by decide) ?_
    refine lv_iload_n hx hb dX5_putOne_35 rfl (lv_at hl 2 rfl) ?_
    obtain ⟨σ1, g1, hf⟩ := zbu_use hf
    refine z_callVu (As := [.int 6, .int x2]) (rest := []) hC hI (cX5_putPairHalf_met st l D ad cy σ 6 x2 _ g1) (zgV zw23_12 zw23_13 zw23_14 zw2_21 zw23_15) rfl ⟨rfl, rfl⟩ 2 hdX5_putPairHalf ⟨Nat.le_of_ble_eq_true rfl, Nat.le_of_ble_eq_true rfl⟩ rfl rfl (wC_e7 ad cy σ) rfl hl rfl (Nat.le_of_ble_eq_true rfl) dX5_putOne_36 ⟨Nat.zero_le _, Nat.zero_le _⟩ (fun H locs hI => ?_)
    refine lv_goto (tgt := 88) hx hb dX5_putOne_39 (by decide) ?_
    exact bX5_putOne_88 hC  hI (lv_sub hl [] rfl) hf
  replace hf := zif_f q0 hf
  by_cases q1 : x1 = 5
  · replace hf := zif_t q1 hf
    refine lv_tableIn (tgt := 42) hx hb dX5_putOne_1 (by rw [q1]; decide) (by rw [q1]; decide) (by rw [q1]; rfl) (by decide) ?_
    refine lv_aload_n hx hb dX5_putOne_42 rfl (lv_at hl 0 rfl) ?_
    refine lv_bipush (v := 7) hx hb dX5_putOne_43 (by decide) ?_
    refine lv_iload_n hx hb dX5_putOne_45 rfl (lv_at hl 2 rfl) ?_
    obtain ⟨σ2, g2, hf⟩ := zbu_use hf
    refine z_callVu (As := [.int 7, .int x2]) (rest := []) hC hI (cX5_putPairHalf_met st l D ad cy σ 7 x2 _ g2) (zgV zw23_12 zw23_13 zw23_14 zw2_21 zw23_15) rfl ⟨rfl, rfl⟩ 2 hdX5_putPairHalf ⟨Nat.le_of_ble_eq_true rfl, Nat.le_of_ble_eq_true rfl⟩ rfl rfl (wC_e7 ad cy σ) rfl hl rfl (Nat.le_of_ble_eq_true rfl) dX5_putOne_46 ⟨Nat.zero_le _, Nat.zero_le _⟩ (fun H locs hI => ?_)
    refine lv_goto (tgt := 88) hx hb dX5_putOne_49 (by decide) ?_
    exact bX5_putOne_88 hC  hI (lv_sub hl [] rfl) hf
  replace hf := zif_f q1 hf
  by_cases q2 : x1 = 6
  · replace hf := zif_t q2 hf
    refine lv_tableIn (tgt := 52) hx hb dX5_putOne_1 (by rw [q2]; decide) (by rw [q2]; decide) (by rw [q2]; rfl) (by decide) ?_
    refine lv_aload_n hx hb dX5_putOne_52 rfl (lv_at hl 0 rfl) ?_
    refine z_get hC hI hinX5_putOne_X50 7 (wC_e7 ad cy σ) rfl 0 (by decide) (List.mem_cons_of_mem _ zw7_8) rfl dX5_putOne_53 ?_
    refine lv_aload_n hx hb dX5_putOne_56 rfl (lv_at hl 0 rfl) ?_
    refine z_get hC hI hinX5_putOne_X50 7 (wC_e7 ad cy σ) rfl 5 (by decide) (List.mem_cons_of_mem _ zw21_14) rfl dX5_putOne_57 ?_
    refine lv_iload_n hx hb dX5_putOne_60 rfl (lv_at hl 2 rfl) ?_
    obtain ⟨σ3, g3, hf⟩ := zbu_use hf
    refine z_callVu (As := [.int (zgi σ 7 5), .int x2]) (rest := []) hC hI (cX2_write_met st l D ad cy σ (zgi σ 7 5) x2 _ g3) (zgV zw20_7 zw20_8 zw20_9 zw1_21 zw20_10) rfl ⟨rfl, rfl⟩ 2 hdX2_write ⟨Nat.le_of_ble_eq_true rfl, Nat.le_of_ble_eq_true rfl⟩ rfl rfl (wC_e1 ad cy σ) rfl hl rfl (Nat.le_of_ble_eq_true rfl) dX5_putOne_61 ⟨Nat.zero_le _, Nat.zero_le _⟩ (fun H locs hI => ?_)
    refine lv_goto (tgt := 88) hx hb dX5_putOne_64 (by decide) ?_
    exact bX5_putOne_88 hC  hI (lv_sub hl [] rfl) hf
  replace hf := zif_f q2 hf
  by_cases q3 : x1 = 7
  · replace hf := zif_t q3 hf
    refine lv_tableIn (tgt := 67) hx hb dX5_putOne_1 (by rw [q3]; decide) (by rw [q3]; decide) (by rw [q3]; rfl) (by decide) ?_
    refine lv_aload_n hx hb dX5_putOne_67 rfl (lv_at hl 0 rfl) ?_
    refine z_get hC hI hinX5_putOne_X50 7 (wC_e7 ad cy σ) rfl 2 (by decide) (List.mem_cons_of_mem _ zw7_5) rfl dX5_putOne_68 ?_
    refine lv_iconst (v := 0) hx hb dX5_putOne_71 (by decide) ?_
    refine lv_iload_n hx hb dX5_putOne_72 rfl (lv_at hl 2 rfl) ?_
    obtain ⟨q, hf⟩ := zck_use hf
    obtain ⟨σ4, eσ4⟩ : ∃ z, z = zsi σ 36 ((0 : Int32).toNatClampNeg) x2 := ⟨_, rfl⟩
    replace hf := zbv_use eσ4 hf
    refine z_iast hC hI 36 23 (wC_e36 ad cy σ) (tC_t36 cy) q ((wC_s36 ad cy σ _ _).trans (congrArg (wC ad cy) eσ4.symm)) dX5_putOne_73 (fun H locs hI => ?_)
    refine lv_goto (tgt := 88) hx hb dX5_putOne_74 (by decide) ?_
    exact bX5_putOne_88 hC  hI (lv_sub hl [] rfl) hf
  replace hf := zif_f q3 hf
  refine lv_tableOut (tgt := 77) hx hb dX5_putOne_1 (zsw (fun k h1 h2 => by rcases (show k = 4 ∨ k = 5 ∨ k = 6 ∨ k = 7 by omega) with rfl | rfl | rfl | rfl <;> assumption)) (by decide) ?_
  refine lv_aload_n hx hb dX5_putOne_77 rfl (lv_at hl 0 rfl) ?_
  refine z_get hC hI hinX5_putOne_X50 7 (wC_e7 ad cy σ) rfl 2 (by decide) (List.mem_cons_of_mem _ zw7_5) rfl dX5_putOne_78 ?_
  refine lv_iconst (v := 2) hx hb dX5_putOne_81 (by decide) ?_
  refine lv_iload_n hx hb dX5_putOne_82 rfl (lv_at hl 1 rfl) ?_
  refine lv_iconst (v := 3) hx hb dX5_putOne_83 (by decide) ?_
  refine lv_iand hx hb dX5_putOne_84 ?_
  refine lv_iadd hx hb dX5_putOne_85 ?_
  refine lv_iload_n hx hb dX5_putOne_86 rfl (lv_at hl 2 rfl) ?_
  obtain ⟨q, hf⟩ := zck_use hf
  obtain ⟨σ5, eσ5⟩ : ∃ z, z = zsi σ 36 ((2 + (x1 &&& 3)).toNatClampNeg) x2 := ⟨_, rfl⟩
  replace hf := zbv_use eσ5 hf
  refine z_iast hC hI 36 23 (wC_e36 ad cy σ) (tC_t36 cy) q ((wC_s36 ad cy σ _ _).trans (congrArg (wC ad cy) eσ5.symm)) dX5_putOne_87 (fun H locs hI => ?_)
  exact bX5_putOne_88 hC  hI (lv_sub hl [] rfl) hf
set_option maxRecDepth 20000 in
theorem cX5_putOne_met (st : Nat → Nat) (l : Launch) (D : va_G) (ad : Nat → Nat) (cy : Nat → ClassId) (σ : zSt) (x1 : Int32) (x2 : Int32) (res : zSt) (hf : fX5_putOne σ x1 x2 = some res) (sz : Nat) : zMu st l yX5_putOne wzX5_putOne rmX5_putOne [.ref (ad 7), .int x1, .int x2] D (tC cy) (wC ad cy) sz σ res :=
  zMu.of (cc := cX5_putOne) (maxL := 3) (ret := none) (by decide) rfl (Nat.le_of_ble_eq_true rfl) (fun p e s m args below meth c hC A hI ls hl => bX5_putOne hC hI hl hf)
theorem hdX5_putOne : yX5_putOne.cls = RX5 ∧ yX5_putOne.cls ≠ "java/lang/invoke/MethodHandle" ∧ yX5_putOne.cls ≠ "java/lang/invoke/VarHandle" ∧ (parseMethodDescriptor yX5_putOne.desc).map (fun d => d.parameters.length) = some 2 := by decide +kernel
def rmX5_turnBeside : Room := { frames := 4, cells := 0, slots := 0, locals := 89 }
def wzX5_turnBeside : List Cond := .code yX5_turnBeside cX5_turnBeside 4 (some .int) :: wsL_law
theorem hinX5_turnBeside_X50 : ∀ w ∈ wsX50, w ∈ wzX5_turnBeside := fun w h => List.mem_cons_of_mem _ (inlX5 w h)
def fX5_turnBeside_128  (σ : zSt)  : Option (zSt × Int32) :=
  some (σ, 23)
def fX5_turnBeside  (σ : zSt)  : Option (zSt × Int32) :=
  zck (zin (zgi σ 7 4) 29) (
  zbi (fX5_fetch σ ) (fun σ1 v2 =>
  zck (zin 20 29) (zbv (zsi σ1 36 ((20 : Int32).toNatClampNeg) (((zgi σ 36 (zgi σ 7 4).toNatClampNeg) + (v2.toInt8.toInt32)) &&& 65535)) (fun σ3 =>
  zck (zin 20 29) (
  zbv (zsi σ3 7 5 (zgi σ3 36 (20 : Int32).toNatClampNeg)) (fun σ4 =>
  zbv (zsi σ4 7 4 6) (fun σ5 =>
  zbi (fX5_fetch σ5 ) (fun σ6 v7 =>
  zbi (fX2_read σ6 (zgi σ6 7 5)) (fun σ8 v9 =>
  if (v7 >>> ((6 : Int32) &&& 31)) = 1 then zck (zin 20 29) (
  zbu (fX5_askBit σ8 ((v7 >>> ((3 : Int32) &&& 31)) &&& 7) v9 ((zgi σ8 36 (20 : Int32).toNatClampNeg) >>> ((8 : Int32) &&& 31))) (fun σ14 =>
  some (σ14, 20))) else
  zbi (fX5_turned σ8 v7 v9) (fun σ10 v11 =>
  zbu (fX2_write σ10 (zgi σ10 7 5) v11) (fun σ12 =>
  if (v7 &&& 7) = 6 then fX5_turnBeside_128 σ12 else
  zbu (fX5_putOne σ12 (v7 &&& 7) v11) (fun σ13 =>
  fX5_turnBeside_128 σ13))))))))))))
set_option maxRecDepth 20000 in
set_option maxHeartbeats 4000000 in
theorem bX5_turnBeside_128 {st : Nat → Nat} {p : Program} {l : Launch} {e : Env} {s : State} {m : MethodId} {args : Array Value} {below : List Frame} {meth : Method} {c : Code} {D : va_G} {A : Nat → Prop} {ad : Nat → Nat} {cy : Nat → ClassId} (hC : zC p m c cX5_turnBeside 4 s args wzX5_turnBeside RX5 meth (some .int))  {res : zSt × Int32} {H : Heap} {locs : List Loc} {σ : zSt} {ls : Array Slot}  (hI : zI st D (tC cy) (wC ad cy σ) A s H locs) (hl : lv_has ls 4 []) (hf : fX5_turnBeside_128  σ  = some res) : W p l e rmX5_turnBeside s m args below meth c H locs 0 0 (zQi below args s D (tC cy) (wC ad cy) A res) (F0 m 128 ls []) := by
  have hx := hC.1
  have hb := hC.2.1
  unfold fX5_turnBeside_128 at hf
  refine lv_bipush (v := 23) hx hb dX5_turnBeside_128 (by decide) ?_
  exact z_ireturn hC hI hf dX5_turnBeside_130
set_option maxRecDepth 20000 in
set_option maxHeartbeats 4000000 in
theorem bX5_turnBeside {st : Nat → Nat} {p : Program} {l : Launch} {e : Env} {s : State} {m : MethodId} {args : Array Value} {below : List Frame} {meth : Method} {c : Code} {D : va_G} {A : Nat → Prop} {ad : Nat → Nat} {cy : Nat → ClassId} (hC : zC p m c cX5_turnBeside 4 s args wzX5_turnBeside RX5 meth (some .int))  {res : zSt × Int32} {H : Heap} {locs : List Loc} {σ : zSt} {ls : Array Slot}  (hI : zI st D (tC cy) (wC ad cy σ) A s H locs) (hl : lv_has ls 4 [(0, .ref (ad 7))]) (hf : fX5_turnBeside  σ  = some res) : W p l e rmX5_turnBeside s m args below meth c H locs 0 0 (zQi below args s D (tC cy) (wC ad cy) A res) (F0 m 0 ls []) := by
  have hx := hC.1
  have hb := hC.2.1
  unfold fX5_turnBeside at hf
  refine lv_aload_n hx hb dX5_turnBeside_0 rfl (lv_at hl 0 rfl) ?_
  refine z_get hC hI hinX5_turnBeside_X50 7 (wC_e7 ad cy σ) rfl 2 (by decide) (List.mem_cons_of_mem _ zw7_5) rfl dX5_turnBeside_1 ?_
  refine lv_bipush (v := 20) hx hb dX5_turnBeside_4 (by decide) ?_
  refine lv_aload_n hx hb dX5_turnBeside_6 rfl (lv_at hl 0 rfl) ?_
  refine z_get hC hI hinX5_turnBeside_X50 7 (wC_e7 ad cy σ) rfl 2 (by decide) (List.mem_cons_of_mem _ zw7_5) rfl dX5_turnBeside_7 ?_
  refine lv_aload_n hx hb dX5_turnBeside_10 rfl (lv_at hl 0 rfl) ?_
  refine z_get hC hI hinX5_turnBeside_X50 7 (wC_e7 ad cy σ) rfl 4 (by decide) (List.mem_cons_of_mem _ zw7_7) rfl dX5_turnBeside_11 ?_
  obtain ⟨q, hf⟩ := zck_use hf
  refine z_iald hC hI 36 23 (wC_e36 ad cy σ) (tC_t36 cy) q dX5_turnBeside_14 ?_
  refine lv_aload_n hx hb dX5_turnBeside_15 rfl (lv_at hl 0 rfl) ?_
  obtain ⟨σ1, v2, g1, hf⟩ := zbi_use hf
  refine z_callVi (As := []) (rest := [.int (zgi σ 36 (zgi σ 7 4).toNatClampNeg), .int 20, .ref (ad 36)]) hC hI (cX5_fetch_met st l D ad cy σ  _ g1) (zgV zw21_23 zw22_0 zw22_1 zw2_21 zw22_2) rfl ⟨rfl, rfl⟩ 0 hdX5_fetch ⟨Nat.le_of_ble_eq_true rfl, Nat.le_of_ble_eq_true rfl⟩ rfl rfl (wC_e7 ad cy σ) rfl hl rfl (Nat.le_of_ble_eq_true rfl) dX5_turnBeside_16 ⟨Nat.zero_le _, Nat.zero_le _⟩ (fun H locs hI => ?_)
  refine lv_i2b (v := v2.toInt8.toInt32) hx hb dX5_turnBeside_19 rfl ?_
  refine lv_iadd hx hb dX5_turnBeside_20 ?_
  refine lv_ldc (v := 65535) hx hb hC.2.2.2.1 (hC.2.2.2.2.1 _ (List.mem_cons_of_mem _ zw20_6)) dX5_turnBeside_21 ?_
  refine lv_iand hx hb dX5_turnBeside_23 ?_
  obtain ⟨q, hf⟩ := zck_use hf
  obtain ⟨σ3, eσ3⟩ : ∃ z, z = zsi σ1 36 ((20 : Int32).toNatClampNeg) (((zgi σ 36 (zgi σ 7 4).toNatClampNeg) + (v2.toInt8.toInt32)) &&& 65535) := ⟨_, rfl⟩
  replace hf := zbv_use eσ3 hf
  refine z_iast hC hI 36 23 (wC_e36 ad cy σ1) (tC_t36 cy) q ((wC_s36 ad cy σ1 _ _).trans (congrArg (wC ad cy) eσ3.symm)) dX5_turnBeside_24 (fun H locs hI => ?_)
  refine lv_aload_n hx hb dX5_turnBeside_25 rfl (lv_at hl 0 rfl) ?_
  refine lv_aload_n hx hb dX5_turnBeside_26 rfl (lv_at hl 0 rfl) ?_
  refine z_get hC hI hinX5_turnBeside_X50 7 (wC_e7 ad cy σ3) rfl 2 (by decide) (List.mem_cons_of_mem _ zw7_5) rfl dX5_turnBeside_27 ?_
  refine lv_bipush (v := 20) hx hb dX5_turnBeside_30 (by decide) ?_
  obtain ⟨q, hf⟩ := zck_use hf
  refine z_iald hC hI 36 23 (wC_e36 ad cy σ3) (tC_t36 cy) q dX5_turnBeside_32 ?_
  obtain ⟨σ4, eσ4⟩ : ∃ z, z = zsi σ3 7 5 (zgi σ3 36 (20 : Int32).toNatClampNeg) := ⟨_, rfl⟩
  replace hf := zbv_use eσ4 hf
  refine z_put hC hI hinX5_turnBeside_X50 tyX5_ok nmX5 7 (wC_e7 ad cy σ3) rfl 5 (by decide) (List.mem_cons_of_mem _ zw21_14) rfl rfl rfl (Nat.le_of_ble_eq_true rfl) ((wC_s7_5 ad cy σ3 (zgi σ3 36 (20 : Int32).toNatClampNeg)).trans (congrArg (wC ad cy) eσ4.symm)) dX5_turnBeside_33 (fun H locs hI => ?_)
  refine lv_aload_n hx hb dX5_turnBeside_36 rfl (lv_at hl 0 rfl) ?_
  refine lv_bipush (v := 6) hx hb dX5_turnBeside_37 (by decide) ?_
  obtain ⟨σ5, eσ5⟩ : ∃ z, z = zsi σ4 7 4 6 := ⟨_, rfl⟩
  replace hf := zbv_use eσ5 hf
  refine z_put hC hI hinX5_turnBeside_X50 tyX5_ok nmX5 7 (wC_e7 ad cy σ4) rfl 4 (by decide) (List.mem_cons_of_mem _ zw7_7) rfl rfl rfl (Nat.le_of_ble_eq_true rfl) ((wC_s7_4 ad cy σ4 6).trans (congrArg (wC ad cy) eσ5.symm)) dX5_turnBeside_39 (fun H locs hI => ?_)
  refine lv_aload_n hx hb dX5_turnBeside_42 rfl (lv_at hl 0 rfl) ?_
  obtain ⟨σ6, v7, g6, hf⟩ := zbi_use hf
  refine z_callVi (As := []) (rest := []) hC hI (cX5_fetch_met st l D ad cy σ5  _ g6) (zgV zw21_23 zw22_0 zw22_1 zw2_21 zw22_2) rfl ⟨rfl, rfl⟩ 0 hdX5_fetch ⟨Nat.le_of_ble_eq_true rfl, Nat.le_of_ble_eq_true rfl⟩ rfl rfl (wC_e7 ad cy σ5) rfl hl rfl (Nat.le_of_ble_eq_true rfl) dX5_turnBeside_43 ⟨Nat.zero_le _, Nat.zero_le _⟩ (fun H locs hI => ?_)
  refine lv_istore_n (lv' := [(1, .int v7), (0, .ref (ad 7))]) hx hb dX5_turnBeside_46 rfl hl (by decide) rfl (fun ls hl => ?_)
  refine lv_aload_n hx hb dX5_turnBeside_47 rfl (lv_at hl 1 rfl) ?_
  refine z_get hC hI hinX5_turnBeside_X50 7 (wC_e7 ad cy σ6) rfl 0 (by decide) (List.mem_cons_of_mem _ zw7_8) rfl dX5_turnBeside_48 ?_
  refine lv_aload_n hx hb dX5_turnBeside_51 rfl (lv_at hl 1 rfl) ?_
  refine z_get hC hI hinX5_turnBeside_X50 7 (wC_e7 ad cy σ6) rfl 5 (by decide) (List.mem_cons_of_mem _ zw21_14) rfl dX5_turnBeside_52 ?_
  obtain ⟨σ8, v9, g8, hf⟩ := zbi_use hf
  refine z_callVi (As := [.int (zgi σ6 7 5)]) (rest := []) hC hI (cX2_read_met st l D ad cy σ6 (zgi σ6 7 5) _ g8) (zgV zw21_6 zw21_7 zw21_8 zw1_21 zw21_9) rfl ⟨rfl, rfl⟩ 1 hdX2_read ⟨Nat.le_of_ble_eq_true rfl, Nat.le_of_ble_eq_true rfl⟩ rfl rfl (wC_e1 ad cy σ6) rfl hl rfl (Nat.le_of_ble_eq_true rfl) dX5_turnBeside_55 ⟨Nat.zero_le _, Nat.zero_le _⟩ (fun H locs hI => ?_)
  refine lv_istore_n (lv' := [(2, .int v9), (1, .int v7), (0, .ref (ad 7))]) hx hb dX5_turnBeside_58 rfl hl (by decide) rfl (fun ls hl => ?_)
  refine lv_iload_n hx hb dX5_turnBeside_59 rfl (lv_at hl 1 rfl) ?_
  refine lv_bipush (v := 6) hx hb dX5_turnBeside_60 (by decide) ?_
  refine lv_ishr hx hb dX5_turnBeside_62 ?_
  refine lv_iconst (v := 1) hx hb dX5_turnBeside_63 (by decide) ?_
  refine lv_icmp_ne (tgt := 91) hx hb dX5_turnBeside_64 (by decide) (fun q => ?_) (fun q => ?_)
  · replace hf := zif_f q hf
    refine lv_aload_n hx hb dX5_turnBeside_91 rfl (lv_at hl 2 rfl) ?_
    refine lv_iload_n hx hb dX5_turnBeside_92 rfl (lv_at hl 1 rfl) ?_
    refine lv_iload_n hx hb dX5_turnBeside_93 rfl (lv_at hl 0 rfl) ?_
    obtain ⟨σ10, v11, g10, hf⟩ := zbi_use hf
    refine z_callVi (As := [.int v7, .int v9]) (rest := []) hC hI (cX5_turned_met st l D ad cy σ8 v7 v9 _ g10) (zgV zw22_11 zw22_12 zw22_13 zw2_21 zw22_14) rfl ⟨rfl, rfl⟩ 2 hdX5_turned ⟨Nat.le_of_ble_eq_true rfl, Nat.le_of_ble_eq_true rfl⟩ rfl rfl (wC_e7 ad cy σ8) rfl hl rfl (Nat.le_of_ble_eq_true rfl) dX5_turnBeside_94 ⟨Nat.zero_le _, Nat.zero_le _⟩ (fun H locs hI => ?_)
    refine lv_istore_n (lv' := [(3, .int v11), (2, .int v9), (1, .int v7), (0, .ref (ad 7))]) hx hb dX5_turnBeside_97 rfl hl (by decide) rfl (fun ls hl => ?_)
    refine lv_aload_n hx hb dX5_turnBeside_98 rfl (lv_at hl 3 rfl) ?_
    refine z_get hC hI hinX5_turnBeside_X50 7 (wC_e7 ad cy σ10) rfl 0 (by decide) (List.mem_cons_of_mem _ zw7_8) rfl dX5_turnBeside_99 ?_
    refine lv_aload_n hx hb dX5_turnBeside_102 rfl (lv_at hl 3 rfl) ?_
    refine z_get hC hI hinX5_turnBeside_X50 7 (wC_e7 ad cy σ10) rfl 5 (by decide) (List.mem_cons_of_mem _ zw21_14) rfl dX5_turnBeside_103 ?_
    refine lv_iload_n hx hb dX5_turnBeside_106 rfl (lv_at hl 0 rfl) ?_
    obtain ⟨σ12, g12, hf⟩ := zbu_use hf
    refine z_callVu (As := [.int (zgi σ10 7 5), .int v11]) (rest := []) hC hI (cX2_write_met st l D ad cy σ10 (zgi σ10 7 5) v11 _ g12) (zgV zw20_7 zw20_8 zw20_9 zw1_21 zw20_10) rfl ⟨rfl, rfl⟩ 2 hdX2_write ⟨Nat.le_of_ble_eq_true rfl, Nat.le_of_ble_eq_true rfl⟩ rfl rfl (wC_e1 ad cy σ10) rfl hl rfl (Nat.le_of_ble_eq_true rfl) dX5_turnBeside_107 ⟨Nat.zero_le _, Nat.zero_le _⟩ (fun H locs hI => ?_)
    refine lv_iload_n hx hb dX5_turnBeside_110 rfl (lv_at hl 2 rfl) ?_
    refine lv_bipush (v := 7) hx hb dX5_turnBeside_111 (by decide) ?_
    refine lv_iand hx hb dX5_turnBeside_113 ?_
    refine lv_bipush (v := 6) hx hb dX5_turnBeside_114 (by decide) ?_
    refine lv_icmp_eq (tgt := 128) hx hb dX5_turnBeside_116 (by decide) (fun q => ?_) (fun q => ?_)
    · replace hf := zif_t q hf
      exact bX5_turnBeside_128 hC  hI (lv_sub hl [] rfl) hf
    replace hf := zif_f q hf
    refine lv_aload_n hx hb dX5_turnBeside_119 rfl (lv_at hl 3 rfl) ?_
    refine lv_iload_n hx hb dX5_turnBeside_120 rfl (lv_at hl 2 rfl) ?_
    refine lv_bipush (v := 7) hx hb dX5_turnBeside_121 (by decide) ?_
    refine lv_iand hx hb dX5_turnBeside_123 ?_
    refine lv_iload_n hx hb dX5_turnBeside_124 rfl (lv_at hl 0 rfl) ?_
    obtain ⟨σ13, g13, hf⟩ := zbu_use hf
    refine z_callVu (As := [.int (v7 &&& 7), .int v11]) (rest := []) hC hI (cX5_putOne_met st l D ad cy σ12 (v7 &&& 7) v11 _ g13) (zgV zw23_8 zw23_9 zw23_10 zw2_21 zw23_11) rfl ⟨rfl, rfl⟩ 2 hdX5_putOne ⟨Nat.le_of_ble_eq_true rfl, Nat.le_of_ble_eq_true rfl⟩ rfl rfl (wC_e7 ad cy σ12) rfl hl rfl (Nat.le_of_ble_eq_true rfl) dX5_turnBeside_125 ⟨Nat.zero_le _, Nat.zero_le _⟩ (fun H locs hI => ?_)
    exact bX5_turnBeside_128 hC  hI (lv_sub hl [] rfl) hf
  replace hf := zif_t q hf
  refine lv_aload_n hx hb dX5_turnBeside_67 rfl (lv_at hl 2 rfl) ?_
  refine lv_iload_n hx hb dX5_turnBeside_68 rfl (lv_at hl 1 rfl) ?_
  refine lv_iconst (v := 3) hx hb dX5_turnBeside_69 (by decide) ?_
  refine lv_ishr hx hb dX5_turnBeside_70 ?_
  refine lv_bipush (v := 7) hx hb dX5_turnBeside_71 (by decide) ?_
  refine lv_iand hx hb dX5_turnBeside_73 ?_
  refine lv_iload_n hx hb dX5_turnBeside_74 rfl (lv_at hl 0 rfl) ?_
  refine lv_aload_n hx hb dX5_turnBeside_75 rfl (lv_at hl 2 rfl) ?_
  refine z_get hC hI hinX5_turnBeside_X50 7 (wC_e7 ad cy σ8) rfl 2 (by decide) (List.mem_cons_of_mem _ zw7_5) rfl dX5_turnBeside_76 ?_
  refine lv_bipush (v := 20) hx hb dX5_turnBeside_79 (by decide) ?_
  obtain ⟨q, hf⟩ := zck_use hf
  refine z_iald hC hI 36 23 (wC_e36 ad cy σ8) (tC_t36 cy) q dX5_turnBeside_81 ?_
  refine lv_bipush (v := 8) hx hb dX5_turnBeside_82 (by decide) ?_
  refine lv_ishr hx hb dX5_turnBeside_84 ?_
  obtain ⟨σ14, g14, hf⟩ := zbu_use hf
  refine z_callVu (As := [.int ((v7 >>> ((3 : Int32) &&& 31)) &&& 7), .int v9, .int ((zgi σ8 36 (20 : Int32).toNatClampNeg) >>> ((8 : Int32) &&& 31))]) (rest := []) hC hI (cX5_askBit_met st l D ad cy σ8 ((v7 >>> ((3 : Int32) &&& 31)) &&& 7) v9 ((zgi σ8 36 (20 : Int32).toNatClampNeg) >>> ((8 : Int32) &&& 31)) _ g14) (zgV zw22_7 zw22_8 zw22_9 zw2_21 zw22_10) rfl ⟨rfl, rfl⟩ 3 hdX5_askBit ⟨Nat.le_of_ble_eq_true rfl, Nat.le_of_ble_eq_true rfl⟩ rfl rfl (wC_e7 ad cy σ8) rfl hl rfl (Nat.le_of_ble_eq_true rfl) dX5_turnBeside_85 ⟨Nat.zero_le _, Nat.zero_le _⟩ (fun H locs hI => ?_)
  refine lv_bipush (v := 20) hx hb dX5_turnBeside_88 (by decide) ?_
  exact z_ireturn hC hI hf dX5_turnBeside_90
set_option maxRecDepth 20000 in
theorem cX5_turnBeside_met (st : Nat → Nat) (l : Launch) (D : va_G) (ad : Nat → Nat) (cy : Nat → ClassId) (σ : zSt)  (res : zSt × Int32) (hf : fX5_turnBeside σ  = some res) (sz : Nat) : zMi st l yX5_turnBeside wzX5_turnBeside rmX5_turnBeside [.ref (ad 7)] D (tC cy) (wC ad cy) sz σ res :=
  zMi.of (cc := cX5_turnBeside) (maxL := 4) (ret := (some .int)) (by decide) rfl (Nat.le_of_ble_eq_true rfl) (fun p e s m args below meth c hC A hI ls hl => bX5_turnBeside hC hI hl hf)
theorem hdX5_turnBeside : yX5_turnBeside.cls = RX5 ∧ yX5_turnBeside.cls ≠ "java/lang/invoke/MethodHandle" ∧ yX5_turnBeside.cls ≠ "java/lang/invoke/VarHandle" ∧ (parseMethodDescriptor yX5_turnBeside.desc).map (fun d => d.parameters.length) = some 0 := by decide +kernel
def rmX5_meansPlace : Room := { frames := 0, cells := 0, slots := 0, locals := 0 }
def wzX5_meansPlace : List Cond := .code yX5_meansPlace cX5_meansPlace 3 (some .boolean) :: wsL_law
def fX5_meansPlace_97  (σ : zSt) (s0 : Int32) : Option (zSt × Int32) :=
  zck (zbo s0) (some (σ, s0))
def fX5_meansPlace_86  (σ : zSt) (s0 : Int32) : Option (zSt × Int32) :=
  zck (zbo s0) (some (σ, s0))
def fX5_meansPlace_85  (σ : zSt)  : Option (zSt × Int32) :=
  fX5_meansPlace_86 σ 0
def fX5_meansPlace_29  (σ : zSt) (x0 : Int32) (x1 : Int32) (s0 : Int32) : Option (zSt × Int32) :=
  if (x0 >>> ((6 : Int32) &&& 31)) = 0 then if x1 = 0 then fX5_meansPlace_85 σ else
  if (x0 &&& 7) < 4 then fX5_meansPlace_85 σ else
  if 6 < (x0 &&& 7) then fX5_meansPlace_85 σ else
  fX5_meansPlace_86 σ 1 else
  if (x0 >>> ((6 : Int32) &&& 31)) = 1 then if x1 = s0 then fX5_meansPlace_97 σ 0 else
  fX5_meansPlace_97 σ 1 else
  if (x0 >>> ((6 : Int32) &&& 31)) = 2 then zck (zbo s0) (some (σ, s0)) else
  zck (zbo 0) (some (σ, 0))
def fX5_meansPlace_14  (σ : zSt) (x0 : Int32) (s0 : Int32) : Option (zSt × Int32) :=
  if (x0 &&& 7) = 6 then fX5_meansPlace_29 σ x0 s0 1 else
  fX5_meansPlace_29 σ x0 s0 0
def fX5_meansPlace  (σ : zSt) (x0 : Int32) : Option (zSt × Int32) :=
  if (x0 &&& 56) = 48 then fX5_meansPlace_14 σ x0 1 else
  fX5_meansPlace_14 σ x0 0
set_option maxRecDepth 20000 in
set_option maxHeartbeats 4000000 in
theorem bX5_meansPlace_97 {st : Nat → Nat} {p : Program} {l : Launch} {e : Env} {s : State} {m : MethodId} {args : Array Value} {below : List Frame} {meth : Method} {c : Code} {D : va_G} {A : Nat → Prop} {ad : Nat → Nat} {cy : Nat → ClassId} (hC : zC p m c cX5_meansPlace 3 s args wzX5_meansPlace RX5 meth (some .boolean))  {res : zSt × Int32} {H : Heap} {locs : List Loc} {σ : zSt} {ls : Array Slot} {s0 : Int32} (hI : zI st D (tC cy) (wC ad cy σ) A s H locs) (hl : lv_has ls 3 []) (hf : fX5_meansPlace_97  σ s0 = some res) : W p l e rmX5_meansPlace s m args below meth c H locs 0 0 (zQi below args s D (tC cy) (wC ad cy) A res) (F0 m 97 ls [.int s0]) := by
  have hx := hC.1
  have hb := hC.2.1
  unfold fX5_meansPlace_97 at hf
  obtain ⟨q, hf⟩ := zck_use hf
  exact z_zreturn hC hI (zbo_n q) hf dX5_meansPlace_97
set_option maxRecDepth 20000 in
set_option maxHeartbeats 4000000 in
theorem bX5_meansPlace_86 {st : Nat → Nat} {p : Program} {l : Launch} {e : Env} {s : State} {m : MethodId} {args : Array Value} {below : List Frame} {meth : Method} {c : Code} {D : va_G} {A : Nat → Prop} {ad : Nat → Nat} {cy : Nat → ClassId} (hC : zC p m c cX5_meansPlace 3 s args wzX5_meansPlace RX5 meth (some .boolean))  {res : zSt × Int32} {H : Heap} {locs : List Loc} {σ : zSt} {ls : Array Slot} {s0 : Int32} (hI : zI st D (tC cy) (wC ad cy σ) A s H locs) (hl : lv_has ls 3 []) (hf : fX5_meansPlace_86  σ s0 = some res) : W p l e rmX5_meansPlace s m args below meth c H locs 0 0 (zQi below args s D (tC cy) (wC ad cy) A res) (F0 m 86 ls [.int s0]) := by
  have hx := hC.1
  have hb := hC.2.1
  unfold fX5_meansPlace_86 at hf
  obtain ⟨q, hf⟩ := zck_use hf
  exact z_zreturn hC hI (zbo_n q) hf dX5_meansPlace_86
set_option maxRecDepth 20000 in
set_option maxHeartbeats 4000000 in
theorem bX5_meansPlace_85 {st : Nat → Nat} {p : Program} {l : Launch} {e : Env} {s : State} {m : MethodId} {args : Array Value} {below : List Frame} {meth : Method} {c : Code} {D : va_G} {A : Nat → Prop} {ad : Nat → Nat} {cy : Nat → ClassId} (hC : zC p m c cX5_meansPlace 3 s args wzX5_meansPlace RX5 meth (some .boolean))  {res : zSt × Int32} {H : Heap} {locs : List Loc} {σ : zSt} {ls : Array Slot}  (hI : zI st D (tC cy) (wC ad cy σ) A s H locs) (hl : lv_has ls 3 []) (hf : fX5_meansPlace_85  σ  = some res) : W p l e rmX5_meansPlace s m args below meth c H locs 0 0 (zQi below args s D (tC cy) (wC ad cy) A res) (F0 m 85 ls []) := by
  have hx := hC.1
  have hb := hC.2.1
  unfold fX5_meansPlace_85 at hf
  refine lv_iconst (v := 0) hx hb dX5_meansPlace_85 (by decide) ?_
  exact bX5_meansPlace_86 hC  hI hl hf
set_option maxRecDepth 20000 in
set_option maxHeartbeats 4000000 in
theorem bX5_meansPlace_29 {st : Nat → Nat} {p : Program} {l : Launch} {e : Env} {s : State} {m : MethodId} {args : Array Value} {below : List Frame} {meth : Method} {c : Code} {D : va_G} {A : Nat → Prop} {ad : Nat → Nat} {cy : Nat → ClassId} (hC : zC p m c cX5_meansPlace 3 s args wzX5_meansPlace RX5 meth (some .boolean))  {res : zSt × Int32} {H : Heap} {locs : List Loc} {σ : zSt} {ls : Array Slot} {x0 : Int32} {x1 : Int32} {s0 : Int32} (hI : zI st D (tC cy) (wC ad cy σ) A s H locs) (hl : lv_has ls 3 [(0, .int x0), (1, .int x1)]) (hf : fX5_meansPlace_29  σ x0 x1 s0 = some res) : W p l e rmX5_meansPlace s m args below meth c H locs 0 0 (zQi below args s D (tC cy) (wC ad cy) A res) (F0 m 29 ls [.int s0]) := by
  have hx := hC.1
  have hb := hC.2.1
  unfold fX5_meansPlace_29 at hf
  refine lv_istore_n (lv' := [(2, .int s0), (0, .int x0), (1, .int x1)]) hx hb dX5_meansPlace_29 rfl hl (by decide) rfl (fun ls hl => ?_)
  refine lv_iload_n hx hb dX5_meansPlace_30 rfl (lv_at hl 1 rfl) ?_
  refine lv_bipush (v := 6) hx hb dX5_meansPlace_31 (by decide) ?_
  refine lv_ishr hx hb dX5_meansPlace_33 ?_
  by_cases q0 : (x0 >>> ((6 : Int32) &&& 31)) = 0
  · replace hf := zif_t q0 hf
    refine lv_tableIn (tgt := 60) hx hb dX5_meansPlace_34 (by rw [q0]; decide) (by rw [q0]; decide) (by rw [q0]; rfl) (by decide) ?_
    refine lv_iload_n hx hb dX5_meansPlace_60 rfl (lv_at hl 2 rfl) ?_
    refine lv_if_eq (tgt := 85) hx hb dX5_meansPlace_61 (by decide) (fun q => ?_) (fun q => ?_)
    · replace hf := zif_t q hf
      exact bX5_meansPlace_85 hC  hI (lv_sub hl [] rfl) hf
    replace hf := zif_f q hf
    refine lv_iload_n hx hb dX5_meansPlace_64 rfl (lv_at hl 1 rfl) ?_
    refine lv_bipush (v := 7) hx hb dX5_meansPlace_65 (by decide) ?_
    refine lv_iand hx hb dX5_meansPlace_67 ?_
    refine lv_iconst (v := 4) hx hb dX5_meansPlace_68 (by decide) ?_
    refine lv_icmp_lt (tgt := 85) hx hb dX5_meansPlace_69 (by decide) (fun q => ?_) (fun q => ?_)
    · replace hf := zif_t q hf
      exact bX5_meansPlace_85 hC  hI (lv_sub hl [] rfl) hf
    replace hf := zif_f q hf
    refine lv_iload_n hx hb dX5_meansPlace_72 rfl (lv_at hl 1 rfl) ?_
    refine lv_bipush (v := 7) hx hb dX5_meansPlace_73 (by decide) ?_
    refine lv_iand hx hb dX5_meansPlace_75 ?_
    refine lv_bipush (v := 6) hx hb dX5_meansPlace_76 (by decide) ?_
    refine lv_icmp_gt (tgt := 85) hx hb dX5_meansPlace_78 (by decide) (fun q => ?_) (fun q => ?_)
    · replace hf := zif_t q hf
      exact bX5_meansPlace_85 hC  hI (lv_sub hl [] rfl) hf
    replace hf := zif_f q hf
    refine lv_iconst (v := 1) hx hb dX5_meansPlace_81 (by decide) ?_
    refine lv_goto (tgt := 86) hx hb dX5_meansPlace_82 (by decide) ?_
    exact bX5_meansPlace_86 hC  hI (lv_sub hl [] rfl) hf
  replace hf := zif_f q0 hf
  by_cases q1 : (x0 >>> ((6 : Int32) &&& 31)) = 1
  · replace hf := zif_t q1 hf
    refine lv_tableIn (tgt := 87) hx hb dX5_meansPlace_34 (by rw [q1]; decide) (by rw [q1]; decide) (by rw [q1]; rfl) (by decide) ?_
    refine lv_iload_n hx hb dX5_meansPlace_87 rfl (lv_at hl 2 rfl) ?_
    refine lv_iload_n hx hb dX5_meansPlace_88 rfl (lv_at hl 0 rfl) ?_
    refine lv_icmp_eq (tgt := 96) hx hb dX5_meansPlace_89 (by decide) (fun q => ?_) (fun q => ?_)
    · replace hf := zif_t q hf
      refine lv_iconst (v := 0) hx hb dX5_meansPlace_96 (by decide) ?_
      exact bX5_meansPlace_97 hC  hI (lv_sub hl [] rfl) hf
    replace hf := zif_f q hf
    refine lv_iconst (v := 1) hx hb dX5_meansPlace_92 (by decide) ?_
    refine lv_goto (tgt := 97) hx hb dX5_meansPlace_93 (by decide) ?_
    exact bX5_meansPlace_97 hC  hI (lv_sub hl [] rfl) hf
  replace hf := zif_f q1 hf
  by_cases q2 : (x0 >>> ((6 : Int32) &&& 31)) = 2
  · replace hf := zif_t q2 hf
    refine lv_tableIn (tgt := 98) hx hb dX5_meansPlace_34 (by rw [q2]; decide) (by rw [q2]; decide) (by rw [q2]; rfl) (by decide) ?_
    refine lv_iload_n hx hb dX5_meansPlace_98 rfl (lv_at hl 0 rfl) ?_
    obtain ⟨q, hf⟩ := zck_use hf
    exact z_zreturn hC hI (zbo_n q) hf dX5_meansPlace_99
  replace hf := zif_f q2 hf
  refine lv_tableOut (tgt := 100) hx hb dX5_meansPlace_34 (zsw (fun k h1 h2 => by rcases (show k = 0 ∨ k = 1 ∨ k = 2 by omega) with rfl | rfl | rfl <;> assumption)) (by decide) ?_
  refine lv_iconst (v := 0) hx hb dX5_meansPlace_100 (by decide) ?_
  obtain ⟨q, hf⟩ := zck_use hf
  exact z_zreturn hC hI (zbo_n q) hf dX5_meansPlace_101
set_option maxRecDepth 20000 in
set_option maxHeartbeats 4000000 in
theorem bX5_meansPlace_14 {st : Nat → Nat} {p : Program} {l : Launch} {e : Env} {s : State} {m : MethodId} {args : Array Value} {below : List Frame} {meth : Method} {c : Code} {D : va_G} {A : Nat → Prop} {ad : Nat → Nat} {cy : Nat → ClassId} (hC : zC p m c cX5_meansPlace 3 s args wzX5_meansPlace RX5 meth (some .boolean))  {res : zSt × Int32} {H : Heap} {locs : List Loc} {σ : zSt} {ls : Array Slot} {x0 : Int32} {s0 : Int32} (hI : zI st D (tC cy) (wC ad cy σ) A s H locs) (hl : lv_has ls 3 [(0, .int x0)]) (hf : fX5_meansPlace_14  σ x0 s0 = some res) : W p l e rmX5_meansPlace s m args below meth c H locs 0 0 (zQi below args s D (tC cy) (wC ad cy) A res) (F0 m 14 ls [.int s0]) := by
  have hx := hC.1
  have hb := hC.2.1
  unfold fX5_meansPlace_14 at hf
  refine lv_istore_n (lv' := [(1, .int s0), (0, .int x0)]) hx hb dX5_meansPlace_14 rfl hl (by decide) rfl (fun ls hl => ?_)
  refine lv_iload_n hx hb dX5_meansPlace_15 rfl (lv_at hl 1 rfl) ?_
  refine lv_bipush (v := 7) hx hb dX5_meansPlace_16 (by decide) ?_
  refine lv_iand hx hb dX5_meansPlace_18 ?_
  refine lv_bipush (v := 6) hx hb dX5_meansPlace_19 (by decide) ?_
  refine lv_icmp_ne (tgt := 28) hx hb dX5_meansPlace_21 (by decide) (fun q => ?_) (fun q => ?_)
  · replace hf := zif_f q hf
    refine lv_iconst (v := 0) hx hb dX5_meansPlace_28 (by decide) ?_
    exact bX5_meansPlace_29 hC  hI (lv_sub hl [1, 0] rfl) hf
  replace hf := zif_t q hf
  refine lv_iconst (v := 1) hx hb dX5_meansPlace_24 (by decide) ?_
  refine lv_goto (tgt := 29) hx hb dX5_meansPlace_25 (by decide) ?_
  exact bX5_meansPlace_29 hC  hI (lv_sub hl [1, 0] rfl) hf
set_option maxRecDepth 20000 in
set_option maxHeartbeats 4000000 in
theorem bX5_meansPlace {st : Nat → Nat} {p : Program} {l : Launch} {e : Env} {s : State} {m : MethodId} {args : Array Value} {below : List Frame} {meth : Method} {c : Code} {D : va_G} {A : Nat → Prop} {ad : Nat → Nat} {cy : Nat → ClassId} (hC : zC p m c cX5_meansPlace 3 s args wzX5_meansPlace RX5 meth (some .boolean))  {res : zSt × Int32} {H : Heap} {locs : List Loc} {σ : zSt} {ls : Array Slot} {x0 : Int32} (hI : zI st D (tC cy) (wC ad cy σ) A s H locs) (hl : lv_has ls 3 [(0, .int x0)]) (hf : fX5_meansPlace  σ x0 = some res) : W p l e rmX5_meansPlace s m args below meth c H locs 0 0 (zQi below args s D (tC cy) (wC ad cy) A res) (F0 m 0 ls []) := by
  have hx := hC.1
  have hb := hC.2.1
  unfold fX5_meansPlace at hf
  refine lv_iload_n hx hb dX5_meansPlace_0 rfl (lv_at hl 0 rfl) ?_
  refine lv_bipush (v := 56) hx hb dX5_meansPlace_1 (by decide) ?_
  refine lv_iand hx hb dX5_meansPlace_3 ?_
  refine lv_bipush (v := 48) hx hb dX5_meansPlace_4 (by decide) ?_
  refine lv_icmp_ne (tgt := 13) hx hb dX5_meansPlace_6 (by decide) (fun q => ?_) (fun q => ?_)
  · replace hf := zif_f q hf
    refine lv_iconst (v := 0) hx hb dX5_meansPlace_13 (by decide) ?_
    exact bX5_meansPlace_14 hC  hI hl hf
  replace hf := zif_t q hf
  refine lv_iconst (v := 1) hx hb dX5_meansPlace_9 (by decide) ?_
  refine lv_goto (tgt := 14) hx hb dX5_meansPlace_10 (by decide) ?_
  exact bX5_meansPlace_14 hC  hI hl hf
set_option maxRecDepth 20000 in
theorem cX5_meansPlace_met (st : Nat → Nat) (l : Launch) (D : va_G) (ad : Nat → Nat) (cy : Nat → ClassId) (σ : zSt) (x0 : Int32) (res : zSt × Int32) (hf : fX5_meansPlace σ x0 = some res) (sz : Nat) : zMi st l yX5_meansPlace wzX5_meansPlace rmX5_meansPlace [.int x0] D (tC cy) (wC ad cy) sz σ res :=
  zMi.of (cc := cX5_meansPlace) (maxL := 3) (ret := (some .boolean)) (by decide) rfl (Nat.le_of_ble_eq_true rfl) (fun p e s m args below meth c hC A hI ls hl => bX5_meansPlace hC hI hl hf)
theorem hdX5_meansPlace : yX5_meansPlace.cls ≠ "java/lang/invoke/MethodHandle" ∧ yX5_meansPlace.cls ≠ "java/lang/invoke/VarHandle" ∧ (parseMethodDescriptor yX5_meansPlace.desc).map (fun d => d.parameters.length) = some 1 := by decide +kernel
def rmX5_takePlace : Room := { frames := 3, cells := 0, slots := 0, locals := 68 }
def wzX5_takePlace : List Cond := .code yX5_takePlace cX5_takePlace 2 (some .int) :: wsL_law
theorem hinX5_takePlace_X50 : ∀ w ∈ wsX50, w ∈ wzX5_takePlace := fun w h => List.mem_cons_of_mem _ (inlX5 w h)
def fX5_takePlace_64  (σ : zSt) (s0 : Int32) : Option (zSt × Int32) :=
  some (σ, s0)
def fX5_takePlace  (σ : zSt) (x1 : Int32) : Option (zSt × Int32) :=
  zbi (fX5_meansPlace σ x1) (fun σ1 v2 =>
  if v2 = 0 then some (σ1, 4) else
  zck (zin (zgi σ1 7 4) 29) (
  zbi (fX5_fetch σ1 ) (fun σ3 v4 =>
  zck (zin 20 29) (zbv (zsi σ3 36 ((20 : Int32).toNatClampNeg) (((zgi σ1 36 (zgi σ1 7 4).toNatClampNeg) + (v4.toInt8.toInt32)) &&& 65535)) (fun σ5 =>
  zck (zin 20 29) (
  zbv (zsi σ5 7 5 (zgi σ5 36 (20 : Int32).toNatClampNeg)) (fun σ6 =>
  zbv (zsi σ6 7 4 6) (fun σ7 =>
  if x1 = 54 then fX5_takePlace_64 σ7 9 else
  fX5_takePlace_64 σ7 12))))))))
set_option maxRecDepth 20000 in
set_option maxHeartbeats 4000000 in
theorem bX5_takePlace_64 {st : Nat → Nat} {p : Program} {l : Launch} {e : Env} {s : State} {m : MethodId} {args : Array Value} {below : List Frame} {meth : Method} {c : Code} {D : va_G} {A : Nat → Prop} {ad : Nat → Nat} {cy : Nat → ClassId} (hC : zC p m c cX5_takePlace 2 s args wzX5_takePlace RX5 meth (some .int))  {res : zSt × Int32} {H : Heap} {locs : List Loc} {σ : zSt} {ls : Array Slot} {s0 : Int32} (hI : zI st D (tC cy) (wC ad cy σ) A s H locs) (hl : lv_has ls 2 []) (hf : fX5_takePlace_64  σ s0 = some res) : W p l e rmX5_takePlace s m args below meth c H locs 0 0 (zQi below args s D (tC cy) (wC ad cy) A res) (F0 m 64 ls [.int s0]) := by
  have hx := hC.1
  have hb := hC.2.1
  unfold fX5_takePlace_64 at hf
  exact z_ireturn hC hI hf dX5_takePlace_64
set_option maxRecDepth 20000 in
set_option maxHeartbeats 4000000 in
theorem bX5_takePlace {st : Nat → Nat} {p : Program} {l : Launch} {e : Env} {s : State} {m : MethodId} {args : Array Value} {below : List Frame} {meth : Method} {c : Code} {D : va_G} {A : Nat → Prop} {ad : Nat → Nat} {cy : Nat → ClassId} (hC : zC p m c cX5_takePlace 2 s args wzX5_takePlace RX5 meth (some .int))  {res : zSt × Int32} {H : Heap} {locs : List Loc} {σ : zSt} {ls : Array Slot} {x1 : Int32} (hI : zI st D (tC cy) (wC ad cy σ) A s H locs) (hl : lv_has ls 2 [(0, .ref (ad 7)), (1, .int x1)]) (hf : fX5_takePlace  σ x1 = some res) : W p l e rmX5_takePlace s m args below meth c H locs 0 0 (zQi below args s D (tC cy) (wC ad cy) A res) (F0 m 0 ls []) := by
  have hx := hC.1
  have hb := hC.2.1
  unfold fX5_takePlace at hf
  refine lv_iload_n hx hb dX5_takePlace_0 rfl (lv_at hl 1 rfl) ?_
  obtain ⟨σ1, v2, g1, hf⟩ := zbi_use hf
  refine z_callSi (As := [.int x1]) (rest := []) hC hI (cX5_meansPlace_met st l D ad cy σ x1 _ g1) (zgS zw23_21 zw23_22 zw2_21 zw23_23) rfl ⟨rfl, rfl⟩ 1 hdX5_meansPlace ⟨Nat.le_of_ble_eq_true rfl, Nat.le_of_ble_eq_true rfl⟩ rfl hl rfl (Nat.le_of_ble_eq_true rfl) dX5_takePlace_1 ⟨Nat.zero_le _, Nat.zero_le _⟩ (fun H locs hI => ?_)
  refine lv_if_ne (tgt := 9) hx hb dX5_takePlace_4 (by decide) (fun q => ?_) (fun q => ?_)
  · replace hf := zif_f q hf
    refine lv_aload_n hx hb dX5_takePlace_9 rfl (lv_at hl 0 rfl) ?_
    refine z_get hC hI hinX5_takePlace_X50 7 (wC_e7 ad cy σ1) rfl 2 (by decide) (List.mem_cons_of_mem _ zw7_5) rfl dX5_takePlace_10 ?_
    refine lv_bipush (v := 20) hx hb dX5_takePlace_13 (by decide) ?_
    refine lv_aload_n hx hb dX5_takePlace_15 rfl (lv_at hl 0 rfl) ?_
    refine z_get hC hI hinX5_takePlace_X50 7 (wC_e7 ad cy σ1) rfl 2 (by decide) (List.mem_cons_of_mem _ zw7_5) rfl dX5_takePlace_16 ?_
    refine lv_aload_n hx hb dX5_takePlace_19 rfl (lv_at hl 0 rfl) ?_
    refine z_get hC hI hinX5_takePlace_X50 7 (wC_e7 ad cy σ1) rfl 4 (by decide) (List.mem_cons_of_mem _ zw7_7) rfl dX5_takePlace_20 ?_
    obtain ⟨q, hf⟩ := zck_use hf
    refine z_iald hC hI 36 23 (wC_e36 ad cy σ1) (tC_t36 cy) q dX5_takePlace_23 ?_
    refine lv_aload_n hx hb dX5_takePlace_24 rfl (lv_at hl 0 rfl) ?_
    obtain ⟨σ3, v4, g3, hf⟩ := zbi_use hf
    refine z_callVi (As := []) (rest := [.int (zgi σ1 36 (zgi σ1 7 4).toNatClampNeg), .int 20, .ref (ad 36)]) hC hI (cX5_fetch_met st l D ad cy σ1  _ g3) (zgV zw21_23 zw22_0 zw22_1 zw2_21 zw22_2) rfl ⟨rfl, rfl⟩ 0 hdX5_fetch ⟨Nat.le_of_ble_eq_true rfl, Nat.le_of_ble_eq_true rfl⟩ rfl rfl (wC_e7 ad cy σ1) rfl hl rfl (Nat.le_of_ble_eq_true rfl) dX5_takePlace_25 ⟨Nat.zero_le _, Nat.zero_le _⟩ (fun H locs hI => ?_)
    refine lv_i2b (v := v4.toInt8.toInt32) hx hb dX5_takePlace_28 rfl ?_
    refine lv_iadd hx hb dX5_takePlace_29 ?_
    refine lv_ldc (v := 65535) hx hb hC.2.2.2.1 (hC.2.2.2.2.1 _ (List.mem_cons_of_mem _ zw20_6)) dX5_takePlace_30 ?_
    refine lv_iand hx hb dX5_takePlace_32 ?_
    obtain ⟨q, hf⟩ := zck_use hf
    obtain ⟨σ5, eσ5⟩ : ∃ z, z = zsi σ3 36 ((20 : Int32).toNatClampNeg) (((zgi σ1 36 (zgi σ1 7 4).toNatClampNeg) + (v4.toInt8.toInt32)) &&& 65535) := ⟨_, rfl⟩
    replace hf := zbv_use eσ5 hf
    refine z_iast hC hI 36 23 (wC_e36 ad cy σ3) (tC_t36 cy) q ((wC_s36 ad cy σ3 _ _).trans (congrArg (wC ad cy) eσ5.symm)) dX5_takePlace_33 (fun H locs hI => ?_)
    refine lv_aload_n hx hb dX5_takePlace_34 rfl (lv_at hl 0 rfl) ?_
    refine lv_aload_n hx hb dX5_takePlace_35 rfl (lv_at hl 0 rfl) ?_
    refine z_get hC hI hinX5_takePlace_X50 7 (wC_e7 ad cy σ5) rfl 2 (by decide) (List.mem_cons_of_mem _ zw7_5) rfl dX5_takePlace_36 ?_
    refine lv_bipush (v := 20) hx hb dX5_takePlace_39 (by decide) ?_
    obtain ⟨q, hf⟩ := zck_use hf
    refine z_iald hC hI 36 23 (wC_e36 ad cy σ5) (tC_t36 cy) q dX5_takePlace_41 ?_
    obtain ⟨σ6, eσ6⟩ : ∃ z, z = zsi σ5 7 5 (zgi σ5 36 (20 : Int32).toNatClampNeg) := ⟨_, rfl⟩
    replace hf := zbv_use eσ6 hf
    refine z_put hC hI hinX5_takePlace_X50 tyX5_ok nmX5 7 (wC_e7 ad cy σ5) rfl 5 (by decide) (List.mem_cons_of_mem _ zw21_14) rfl rfl rfl (Nat.le_of_ble_eq_true rfl) ((wC_s7_5 ad cy σ5 (zgi σ5 36 (20 : Int32).toNatClampNeg)).trans (congrArg (wC ad cy) eσ6.symm)) dX5_takePlace_42 (fun H locs hI => ?_)
    refine lv_aload_n hx hb dX5_takePlace_45 rfl (lv_at hl 0 rfl) ?_
    refine lv_bipush (v := 6) hx hb dX5_takePlace_46 (by decide) ?_
    obtain ⟨σ7, eσ7⟩ : ∃ z, z = zsi σ6 7 4 6 := ⟨_, rfl⟩
    replace hf := zbv_use eσ7 hf
    refine z_put hC hI hinX5_takePlace_X50 tyX5_ok nmX5 7 (wC_e7 ad cy σ6) rfl 4 (by decide) (List.mem_cons_of_mem _ zw7_7) rfl rfl rfl (Nat.le_of_ble_eq_true rfl) ((wC_s7_4 ad cy σ6 6).trans (congrArg (wC ad cy) eσ7.symm)) dX5_takePlace_48 (fun H locs hI => ?_)
    refine lv_iload_n hx hb dX5_takePlace_51 rfl (lv_at hl 1 rfl) ?_
    refine lv_bipush (v := 54) hx hb dX5_takePlace_52 (by decide) ?_
    refine lv_icmp_ne (tgt := 62) hx hb dX5_takePlace_54 (by decide) (fun q => ?_) (fun q => ?_)
    · replace hf := zif_f q hf
      refine lv_bipush (v := 12) hx hb dX5_takePlace_62 (by decide) ?_
      exact bX5_takePlace_64 hC  hI (lv_sub hl [] rfl) hf
    replace hf := zif_t q hf
    refine lv_bipush (v := 9) hx hb dX5_takePlace_57 (by decide) ?_
    refine lv_goto (tgt := 64) hx hb dX5_takePlace_59 (by decide) ?_
    exact bX5_takePlace_64 hC  hI (lv_sub hl [] rfl) hf
  replace hf := zif_t q hf
  refine lv_iconst (v := 4) hx hb dX5_takePlace_7 (by decide) ?_
  exact z_ireturn hC hI hf dX5_takePlace_8
set_option maxRecDepth 20000 in
theorem cX5_takePlace_met (st : Nat → Nat) (l : Launch) (D : va_G) (ad : Nat → Nat) (cy : Nat → ClassId) (σ : zSt) (x1 : Int32) (res : zSt × Int32) (hf : fX5_takePlace σ x1 = some res) (sz : Nat) : zMi st l yX5_takePlace wzX5_takePlace rmX5_takePlace [.ref (ad 7), .int x1] D (tC cy) (wC ad cy) sz σ res :=
  zMi.of (cc := cX5_takePlace) (maxL := 2) (ret := (some .int)) (by decide) rfl (Nat.le_of_ble_eq_true rfl) (fun p e s m args below meth c hC A hI ls hl => bX5_takePlace hC hI hl hf)
theorem hdX5_takePlace : yX5_takePlace.cls = RX5 ∧ yX5_takePlace.cls ≠ "java/lang/invoke/MethodHandle" ∧ yX5_takePlace.cls ≠ "java/lang/invoke/VarHandle" ∧ (parseMethodDescriptor yX5_takePlace.desc).map (fun d => d.parameters.length) = some 1 := by decide +kernel
def rmX5_one : Room := { frames := 2, cells := 0, slots := 0, locals := 47 }
def wzX5_one : List Cond := .code yX5_one cX5_one 2 (some .int) :: wsL_law
theorem hinX5_one_X50 : ∀ w ∈ wsX50, w ∈ wzX5_one := fun w h => List.mem_cons_of_mem _ (inlX5 w h)
def fX5_one_96  (σ : zSt) (s0 : Int32) : Option (zSt × Int32) :=
  some (σ, s0)
def fX5_one_63  (σ : zSt) (s0 : Int32) : Option (zSt × Int32) :=
  some (σ, s0)
def fX5_one  (σ : zSt) (x1 : Int32) : Option (zSt × Int32) :=
  if x1 = 4 then if (zgi σ 7 4) = 6 then zck (zin 6 29) (
  fX5_one_63 σ (zgi σ 36 (6 : Int32).toNatClampNeg)) else
  zck (zin (zgi σ 7 4) 29) (
  fX5_one_63 σ ((zgi σ 36 (zgi σ 7 4).toNatClampNeg) >>> ((8 : Int32) &&& 31))) else
  if x1 = 5 then if (zgi σ 7 4) = 6 then zck (zin 7 29) (
  fX5_one_96 σ (zgi σ 36 (7 : Int32).toNatClampNeg)) else
  zck (zin (zgi σ 7 4) 29) (
  fX5_one_96 σ ((zgi σ 36 (zgi σ 7 4).toNatClampNeg) &&& 255)) else
  if x1 = 6 then zbi (fX2_read σ (zgi σ 7 5)) (fun σ1 v2 =>
  some (σ1, v2)) else
  if x1 = 7 then zck (zin 0 29) (
  some (σ, zgi σ 36 (0 : Int32).toNatClampNeg)) else
  zck (zin (2 + (x1 &&& 3)) 29) (
  some (σ, zgi σ 36 (2 + (x1 &&& 3)).toNatClampNeg))
set_option maxRecDepth 20000 in
set_option maxHeartbeats 4000000 in
theorem bX5_one_96 {st : Nat → Nat} {p : Program} {l : Launch} {e : Env} {s : State} {m : MethodId} {args : Array Value} {below : List Frame} {meth : Method} {c : Code} {D : va_G} {A : Nat → Prop} {ad : Nat → Nat} {cy : Nat → ClassId} (hC : zC p m c cX5_one 2 s args wzX5_one RX5 meth (some .int))  {res : zSt × Int32} {H : Heap} {locs : List Loc} {σ : zSt} {ls : Array Slot} {s0 : Int32} (hI : zI st D (tC cy) (wC ad cy σ) A s H locs) (hl : lv_has ls 2 []) (hf : fX5_one_96  σ s0 = some res) : W p l e rmX5_one s m args below meth c H locs 0 0 (zQi below args s D (tC cy) (wC ad cy) A res) (F0 m 96 ls [.int s0]) := by
  have hx := hC.1
  have hb := hC.2.1
  unfold fX5_one_96 at hf
  exact z_ireturn hC hI hf dX5_one_96
set_option maxRecDepth 20000 in
set_option maxHeartbeats 4000000 in
theorem bX5_one_63 {st : Nat → Nat} {p : Program} {l : Launch} {e : Env} {s : State} {m : MethodId} {args : Array Value} {below : List Frame} {meth : Method} {c : Code} {D : va_G} {A : Nat → Prop} {ad : Nat → Nat} {cy : Nat → ClassId} (hC : zC p m c cX5_one 2 s args wzX5_one RX5 meth (some .int))  {res : zSt × Int32} {H : Heap} {locs : List Loc} {σ : zSt} {ls : Array Slot} {s0 : Int32} (hI : zI st D (tC cy) (wC ad cy σ) A s H locs) (hl : lv_has ls 2 []) (hf : fX5_one_63  σ s0 = some res) : W p l e rmX5_one s m args below meth c H locs 0 0 (zQi below args s D (tC cy) (wC ad cy) A res) (F0 m 63 ls [.int s0]) := by
  have hx := hC.1
  have hb := hC.2.1
  unfold fX5_one_63 at hf
  exact z_ireturn hC hI hf dX5_one_63
set_option maxRecDepth 20000 in
set_option maxHeartbeats 4000000 in
theorem bX5_one {st : Nat → Nat} {p : Program} {l : Launch} {e : Env} {s : State} {m : MethodId} {args : Array Value} {below : List Frame} {meth : Method} {c : Code} {D : va_G} {A : Nat → Prop} {ad : Nat → Nat} {cy : Nat → ClassId} (hC : zC p m c cX5_one 2 s args wzX5_one RX5 meth (some .int))  {res : zSt × Int32} {H : Heap} {locs : List Loc} {σ : zSt} {ls : Array Slot} {x1 : Int32} (hI : zI st D (tC cy) (wC ad cy σ) A s H locs) (hl : lv_has ls 2 [(0, .ref (ad 7)), (1, .int x1)]) (hf : fX5_one  σ x1 = some res) : W p l e rmX5_one s m args below meth c H locs 0 0 (zQi below args s D (tC cy) (wC ad cy) A res) (F0 m 0 ls []) := by
  have hx := hC.1
  have hb := hC.2.1
  unfold fX5_one at hf
  refine lv_iload_n hx hb dX5_one_0 rfl (lv_at hl 1 rfl) ?_
  by_cases q0 : x1 = 4
  · replace hf := zif_t q0 hf
    refine lv_tableIn (tgt := 32) hx hb dX5_one_1 (by rw [q0]; decide) (by rw [q0]; decide) (by rw [q0]; rfl) (by decide) ?_
    refine lv_aload_n hx hb dX5_one_32 rfl (lv_at hl 0 rfl) ?_
    refine z_get hC hI hinX5_one_X50 7 (wC_e7 ad cy σ) rfl 4 (by decide) (List.mem_cons_of_mem _ zw7_7) rfl dX5_one_33 ?_
    refine lv_bipush (v := 6) hx hb dX5_one_36 (by decide) ?_
    refine lv_icmp_ne (tgt := 51) hx hb dX5_one_38 (by decide) (fun q => ?_) (fun q => ?_)
    · replace hf := zif_f q hf
      refine lv_aload_n hx hb dX5_one_51 rfl (lv_at hl 0 rfl) ?_
      refine z_get hC hI hinX5_one_X50 7 (wC_e7 ad cy σ) rfl 2 (by decide) (List.mem_cons_of_mem _ zw7_5) rfl dX5_one_52 ?_
      refine lv_aload_n hx hb dX5_one_55 rfl (lv_at hl 0 rfl) ?_
      refine z_get hC hI hinX5_one_X50 7 (wC_e7 ad cy σ) rfl 4 (by decide) (List.mem_cons_of_mem _ zw7_7) rfl dX5_one_56 ?_
      obtain ⟨q, hf⟩ := zck_use hf
      refine z_iald hC hI 36 23 (wC_e36 ad cy σ) (tC_t36 cy) q dX5_one_59 ?_
      refine lv_bipush (v := 8) hx hb dX5_one_60 (by decide) ?_
      refine lv_ishr hx hb dX5_one_62 ?_
      exact bX5_one_63 hC  hI (lv_sub hl [] rfl) hf
    replace hf := zif_t q hf
    refine lv_aload_n hx hb dX5_one_41 rfl (lv_at hl 0 rfl) ?_
    refine z_get hC hI hinX5_one_X50 7 (wC_e7 ad cy σ) rfl 2 (by decide) (List.mem_cons_of_mem _ zw7_5) rfl dX5_one_42 ?_
    refine lv_bipush (v := 6) hx hb dX5_one_45 (by decide) ?_
    obtain ⟨q, hf⟩ := zck_use hf
    refine z_iald hC hI 36 23 (wC_e36 ad cy σ) (tC_t36 cy) q dX5_one_47 ?_
    refine lv_goto (tgt := 63) hx hb dX5_one_48 (by decide) ?_
    exact bX5_one_63 hC  hI (lv_sub hl [] rfl) hf
  replace hf := zif_f q0 hf
  by_cases q1 : x1 = 5
  · replace hf := zif_t q1 hf
    refine lv_tableIn (tgt := 64) hx hb dX5_one_1 (by rw [q1]; decide) (by rw [q1]; decide) (by rw [q1]; rfl) (by decide) ?_
    refine lv_aload_n hx hb dX5_one_64 rfl (lv_at hl 0 rfl) ?_
    refine z_get hC hI hinX5_one_X50 7 (wC_e7 ad cy σ) rfl 4 (by decide) (List.mem_cons_of_mem _ zw7_7) rfl dX5_one_65 ?_
    refine lv_bipush (v := 6) hx hb dX5_one_68 (by decide) ?_
    refine lv_icmp_ne (tgt := 83) hx hb dX5_one_70 (by decide) (fun q => ?_) (fun q => ?_)
    · replace hf := zif_f q hf
      refine lv_aload_n hx hb dX5_one_83 rfl (lv_at hl 0 rfl) ?_
      refine z_get hC hI hinX5_one_X50 7 (wC_e7 ad cy σ) rfl 2 (by decide) (List.mem_cons_of_mem _ zw7_5) rfl dX5_one_84 ?_
      refine lv_aload_n hx hb dX5_one_87 rfl (lv_at hl 0 rfl) ?_
      refine z_get hC hI hinX5_one_X50 7 (wC_e7 ad cy σ) rfl 4 (by decide) (List.mem_cons_of_mem _ zw7_7) rfl dX5_one_88 ?_
      obtain ⟨q, hf⟩ := zck_use hf
      refine z_iald hC hI 36 23 (wC_e36 ad cy σ) (tC_t36 cy) q dX5_one_91 ?_
      refine lv_sipush (v := 255) hx hb dX5_one_92 (by decide) ?_
      refine lv_iand hx hb dX5_one_95 ?_
      exact bX5_one_96 hC  hI (lv_sub hl [] rfl) hf
    replace hf := zif_t q hf
    refine lv_aload_n hx hb dX5_one_73 rfl (lv_at hl 0 rfl) ?_
    refine z_get hC hI hinX5_one_X50 7 (wC_e7 ad cy σ) rfl 2 (by decide) (List.mem_cons_of_mem _ zw7_5) rfl dX5_one_74 ?_
    refine lv_bipush (v := 7) hx hb dX5_one_77 (by decide) ?_
    obtain ⟨q, hf⟩ := zck_use hf
    refine z_iald hC hI 36 23 (wC_e36 ad cy σ) (tC_t36 cy) q dX5_one_79 ?_
    refine lv_goto (tgt := 96) hx hb dX5_one_80 (by decide) ?_
    exact bX5_one_96 hC  hI (lv_sub hl [] rfl) hf
  replace hf := zif_f q1 hf
  by_cases q2 : x1 = 6
  · replace hf := zif_t q2 hf
    refine lv_tableIn (tgt := 97) hx hb dX5_one_1 (by rw [q2]; decide) (by rw [q2]; decide) (by rw [q2]; rfl) (by decide) ?_
    refine lv_aload_n hx hb dX5_one_97 rfl (lv_at hl 0 rfl) ?_
    refine z_get hC hI hinX5_one_X50 7 (wC_e7 ad cy σ) rfl 0 (by decide) (List.mem_cons_of_mem _ zw7_8) rfl dX5_one_98 ?_
    refine lv_aload_n hx hb dX5_one_101 rfl (lv_at hl 0 rfl) ?_
    refine z_get hC hI hinX5_one_X50 7 (wC_e7 ad cy σ) rfl 5 (by decide) (List.mem_cons_of_mem _ zw21_14) rfl dX5_one_102 ?_
    obtain ⟨σ1, v2, g1, hf⟩ := zbi_use hf
    refine z_callVi (As := [.int (zgi σ 7 5)]) (rest := []) hC hI (cX2_read_met st l D ad cy σ (zgi σ 7 5) _ g1) (zgV zw21_6 zw21_7 zw21_8 zw1_21 zw21_9) rfl ⟨rfl, rfl⟩ 1 hdX2_read ⟨Nat.le_of_ble_eq_true rfl, Nat.le_of_ble_eq_true rfl⟩ rfl rfl (wC_e1 ad cy σ) rfl hl rfl (Nat.le_of_ble_eq_true rfl) dX5_one_105 ⟨Nat.zero_le _, Nat.zero_le _⟩ (fun H locs hI => ?_)
    exact z_ireturn hC hI hf dX5_one_108
  replace hf := zif_f q2 hf
  by_cases q3 : x1 = 7
  · replace hf := zif_t q3 hf
    refine lv_tableIn (tgt := 109) hx hb dX5_one_1 (by rw [q3]; decide) (by rw [q3]; decide) (by rw [q3]; rfl) (by decide) ?_
    refine lv_aload_n hx hb dX5_one_109 rfl (lv_at hl 0 rfl) ?_
    refine z_get hC hI hinX5_one_X50 7 (wC_e7 ad cy σ) rfl 2 (by decide) (List.mem_cons_of_mem _ zw7_5) rfl dX5_one_110 ?_
    refine lv_iconst (v := 0) hx hb dX5_one_113 (by decide) ?_
    obtain ⟨q, hf⟩ := zck_use hf
    refine z_iald hC hI 36 23 (wC_e36 ad cy σ) (tC_t36 cy) q dX5_one_114 ?_
    exact z_ireturn hC hI hf dX5_one_115
  replace hf := zif_f q3 hf
  refine lv_tableOut (tgt := 116) hx hb dX5_one_1 (zsw (fun k h1 h2 => by rcases (show k = 4 ∨ k = 5 ∨ k = 6 ∨ k = 7 by omega) with rfl | rfl | rfl | rfl <;> assumption)) (by decide) ?_
  refine lv_aload_n hx hb dX5_one_116 rfl (lv_at hl 0 rfl) ?_
  refine z_get hC hI hinX5_one_X50 7 (wC_e7 ad cy σ) rfl 2 (by decide) (List.mem_cons_of_mem _ zw7_5) rfl dX5_one_117 ?_
  refine lv_iconst (v := 2) hx hb dX5_one_120 (by decide) ?_
  refine lv_iload_n hx hb dX5_one_121 rfl (lv_at hl 1 rfl) ?_
  refine lv_iconst (v := 3) hx hb dX5_one_122 (by decide) ?_
  refine lv_iand hx hb dX5_one_123 ?_
  refine lv_iadd hx hb dX5_one_124 ?_
  obtain ⟨q, hf⟩ := zck_use hf
  refine z_iald hC hI 36 23 (wC_e36 ad cy σ) (tC_t36 cy) q dX5_one_125 ?_
  exact z_ireturn hC hI hf dX5_one_126
set_option maxRecDepth 20000 in
theorem cX5_one_met (st : Nat → Nat) (l : Launch) (D : va_G) (ad : Nat → Nat) (cy : Nat → ClassId) (σ : zSt) (x1 : Int32) (res : zSt × Int32) (hf : fX5_one σ x1 = some res) (sz : Nat) : zMi st l yX5_one wzX5_one rmX5_one [.ref (ad 7), .int x1] D (tC cy) (wC ad cy) sz σ res :=
  zMi.of (cc := cX5_one) (maxL := 2) (ret := (some .int)) (by decide) rfl (Nat.le_of_ble_eq_true rfl) (fun p e s m args below meth c hC A hI ls hl => bX5_one hC hI hl hf)
theorem hdX5_one : yX5_one.cls = RX5 ∧ yX5_one.cls ≠ "java/lang/invoke/MethodHandle" ∧ yX5_one.cls ≠ "java/lang/invoke/VarHandle" ∧ (parseMethodDescriptor yX5_one.desc).map (fun d => d.parameters.length) = some 1 := by decide +kernel
def rmX5_turns : Room := { frames := 4, cells := 0, slots := 0, locals := 89 }
def wzX5_turns : List Cond := .code yX5_turns cX5_turns 4 (some .int) :: wsL_law
theorem hinX5_turns_X50 : ∀ w ∈ wsX50, w ∈ wzX5_turns := fun w h => List.mem_cons_of_mem _ (inlX5 w h)
def fX5_turns_63  (σ : zSt) (s0 : Int32) : Option (zSt × Int32) :=
  some (σ, s0)
def fX5_turns_47  (σ : zSt) (x2 : Int32) (s0 : Int32) (s1 : Int32) (s2 : Int32) : Option (zSt × Int32) :=
  zbu (fX5_askBit σ s2 s1 s0) (fun σ1 =>
  if x2 = 6 then fX5_turns_63 σ1 12 else
  fX5_turns_63 σ1 8)
def fX5_turns_88  (σ : zSt) (s0 : Int32) : Option (zSt × Int32) :=
  some (σ, s0)
def fX5_turns  (σ : zSt) (x1 : Int32) : Option (zSt × Int32) :=
  zbv (x1 &&& 7) (fun v2 =>
  zbi (fX5_one σ v2) (fun σ3 v4 =>
  if (x1 >>> ((6 : Int32) &&& 31)) = 1 then if v2 = 6 then zck (zin 20 29) (
  fX5_turns_47 σ3 v2 ((zgi σ3 36 (20 : Int32).toNatClampNeg) >>> ((8 : Int32) &&& 31)) v4 ((x1 >>> ((3 : Int32) &&& 31)) &&& 7)) else
  fX5_turns_47 σ3 v2 v4 v4 ((x1 >>> ((3 : Int32) &&& 31)) &&& 7) else
  zbi (fX5_turned σ3 x1 v4) (fun σ5 v6 =>
  zbu (fX5_putOne σ5 v2 v6) (fun σ7 =>
  if v2 = 6 then fX5_turns_88 σ7 15 else
  fX5_turns_88 σ7 8))))
set_option maxRecDepth 20000 in
set_option maxHeartbeats 4000000 in
theorem bX5_turns_63 {st : Nat → Nat} {p : Program} {l : Launch} {e : Env} {s : State} {m : MethodId} {args : Array Value} {below : List Frame} {meth : Method} {c : Code} {D : va_G} {A : Nat → Prop} {ad : Nat → Nat} {cy : Nat → ClassId} (hC : zC p m c cX5_turns 4 s args wzX5_turns RX5 meth (some .int))  {res : zSt × Int32} {H : Heap} {locs : List Loc} {σ : zSt} {ls : Array Slot} {s0 : Int32} (hI : zI st D (tC cy) (wC ad cy σ) A s H locs) (hl : lv_has ls 4 []) (hf : fX5_turns_63  σ s0 = some res) : W p l e rmX5_turns s m args below meth c H locs 0 0 (zQi below args s D (tC cy) (wC ad cy) A res) (F0 m 63 ls [.int s0]) := by
  have hx := hC.1
  have hb := hC.2.1
  unfold fX5_turns_63 at hf
  exact z_ireturn hC hI hf dX5_turns_63
set_option maxRecDepth 20000 in
set_option maxHeartbeats 4000000 in
theorem bX5_turns_47 {st : Nat → Nat} {p : Program} {l : Launch} {e : Env} {s : State} {m : MethodId} {args : Array Value} {below : List Frame} {meth : Method} {c : Code} {D : va_G} {A : Nat → Prop} {ad : Nat → Nat} {cy : Nat → ClassId} (hC : zC p m c cX5_turns 4 s args wzX5_turns RX5 meth (some .int))  {res : zSt × Int32} {H : Heap} {locs : List Loc} {σ : zSt} {ls : Array Slot} {x2 : Int32} {s0 : Int32} {s1 : Int32} {s2 : Int32} (hI : zI st D (tC cy) (wC ad cy σ) A s H locs) (hl : lv_has ls 4 [(2, .int x2)]) (hf : fX5_turns_47  σ x2 s0 s1 s2 = some res) : W p l e rmX5_turns s m args below meth c H locs 0 0 (zQi below args s D (tC cy) (wC ad cy) A res) (F0 m 47 ls [.int s0, .int s1, .int s2, .ref (ad 7)]) := by
  have hx := hC.1
  have hb := hC.2.1
  unfold fX5_turns_47 at hf
  obtain ⟨σ1, g1, hf⟩ := zbu_use hf
  refine z_callVu (As := [.int s2, .int s1, .int s0]) (rest := []) hC hI (cX5_askBit_met st l D ad cy σ s2 s1 s0 _ g1) (zgV zw22_7 zw22_8 zw22_9 zw2_21 zw22_10) rfl ⟨rfl, rfl⟩ 3 hdX5_askBit ⟨Nat.le_of_ble_eq_true rfl, Nat.le_of_ble_eq_true rfl⟩ rfl rfl (wC_e7 ad cy σ) rfl hl rfl (Nat.le_of_ble_eq_true rfl) dX5_turns_47 ⟨Nat.zero_le _, Nat.zero_le _⟩ (fun H locs hI => ?_)
  refine lv_iload_n hx hb dX5_turns_50 rfl (lv_at hl 0 rfl) ?_
  refine lv_bipush (v := 6) hx hb dX5_turns_51 (by decide) ?_
  refine lv_icmp_ne (tgt := 61) hx hb dX5_turns_53 (by decide) (fun q => ?_) (fun q => ?_)
  · replace hf := zif_f q hf
    refine lv_bipush (v := 8) hx hb dX5_turns_61 (by decide) ?_
    exact bX5_turns_63 hC  hI (lv_sub hl [] rfl) hf
  replace hf := zif_t q hf
  refine lv_bipush (v := 12) hx hb dX5_turns_56 (by decide) ?_
  refine lv_goto (tgt := 63) hx hb dX5_turns_58 (by decide) ?_
  exact bX5_turns_63 hC  hI (lv_sub hl [] rfl) hf
set_option maxRecDepth 20000 in
set_option maxHeartbeats 4000000 in
theorem bX5_turns_88 {st : Nat → Nat} {p : Program} {l : Launch} {e : Env} {s : State} {m : MethodId} {args : Array Value} {below : List Frame} {meth : Method} {c : Code} {D : va_G} {A : Nat → Prop} {ad : Nat → Nat} {cy : Nat → ClassId} (hC : zC p m c cX5_turns 4 s args wzX5_turns RX5 meth (some .int))  {res : zSt × Int32} {H : Heap} {locs : List Loc} {σ : zSt} {ls : Array Slot} {s0 : Int32} (hI : zI st D (tC cy) (wC ad cy σ) A s H locs) (hl : lv_has ls 4 []) (hf : fX5_turns_88  σ s0 = some res) : W p l e rmX5_turns s m args below meth c H locs 0 0 (zQi below args s D (tC cy) (wC ad cy) A res) (F0 m 88 ls [.int s0]) := by
  have hx := hC.1
  have hb := hC.2.1
  unfold fX5_turns_88 at hf
  exact z_ireturn hC hI hf dX5_turns_88
set_option maxRecDepth 20000 in
set_option maxHeartbeats 4000000 in
theorem bX5_turns {st : Nat → Nat} {p : Program} {l : Launch} {e : Env} {s : State} {m : MethodId} {args : Array Value} {below : List Frame} {meth : Method} {c : Code} {D : va_G} {A : Nat → Prop} {ad : Nat → Nat} {cy : Nat → ClassId} (hC : zC p m c cX5_turns 4 s args wzX5_turns RX5 meth (some .int))  {res : zSt × Int32} {H : Heap} {locs : List Loc} {σ : zSt} {ls : Array Slot} {x1 : Int32} (hI : zI st D (tC cy) (wC ad cy σ) A s H locs) (hl : lv_has ls 4 [(0, .ref (ad 7)), (1, .int x1)]) (hf : fX5_turns  σ x1 = some res) : W p l e rmX5_turns s m args below meth c H locs 0 0 (zQi below args s D (tC cy) (wC ad cy) A res) (F0 m 0 ls []) := by
  have hx := hC.1
  have hb := hC.2.1
  unfold fX5_turns at hf
  refine lv_iload_n hx hb dX5_turns_0 rfl (lv_at hl 1 rfl) ?_
  refine lv_bipush (v := 7) hx hb dX5_turns_1 (by decide) ?_
  refine lv_iand hx hb dX5_turns_3 ?_
  refine lv_topi (fun v2 ev2 => ?_)
  replace hf := zbv_use ev2 hf
  refine lv_istore_n (lv' := [(2, .int v2), (0, .ref (ad 7)), (1, .int x1)]) hx hb dX5_turns_4 rfl hl (by decide) rfl (fun ls hl => ?_)
  refine lv_aload_n hx hb dX5_turns_5 rfl (lv_at hl 1 rfl) ?_
  refine lv_iload_n hx hb dX5_turns_6 rfl (lv_at hl 0 rfl) ?_
  obtain ⟨σ3, v4, g3, hf⟩ := zbi_use hf
  refine z_callVi (As := [.int v2]) (rest := []) hC hI (cX5_one_met st l D ad cy σ v2 _ g3) (zgV zw24_4 zw24_5 zw24_6 zw2_21 zw24_7) rfl ⟨rfl, rfl⟩ 1 hdX5_one ⟨Nat.le_of_ble_eq_true rfl, Nat.le_of_ble_eq_true rfl⟩ rfl rfl (wC_e7 ad cy σ) rfl hl rfl (Nat.le_of_ble_eq_true rfl) dX5_turns_7 ⟨Nat.zero_le _, Nat.zero_le _⟩ (fun H locs hI => ?_)
  refine lv_istore_n (lv' := [(3, .int v4), (2, .int v2), (0, .ref (ad 7)), (1, .int x1)]) hx hb dX5_turns_10 rfl hl (by decide) rfl (fun ls hl => ?_)
  refine lv_iload_n hx hb dX5_turns_11 rfl (lv_at hl 3 rfl) ?_
  refine lv_bipush (v := 6) hx hb dX5_turns_12 (by decide) ?_
  refine lv_ishr hx hb dX5_turns_14 ?_
  refine lv_iconst (v := 1) hx hb dX5_turns_15 (by decide) ?_
  refine lv_icmp_ne (tgt := 64) hx hb dX5_turns_16 (by decide) (fun q => ?_) (fun q => ?_)
  · replace hf := zif_f q hf
    refine lv_aload_n hx hb dX5_turns_64 rfl (lv_at hl 2 rfl) ?_
    refine lv_iload_n hx hb dX5_turns_65 rfl (lv_at hl 1 rfl) ?_
    refine lv_aload_n hx hb dX5_turns_66 rfl (lv_at hl 2 rfl) ?_
    refine lv_iload_n hx hb dX5_turns_67 rfl (lv_at hl 3 rfl) ?_
    refine lv_iload_n hx hb dX5_turns_68 rfl (lv_at hl 0 rfl) ?_
    obtain ⟨σ5, v6, g5, hf⟩ := zbi_use hf
    refine z_callVi (As := [.int x1, .int v4]) (rest := [.int v2, .ref (ad 7)]) hC hI (cX5_turned_met st l D ad cy σ3 x1 v4 _ g5) (zgV zw22_11 zw22_12 zw22_13 zw2_21 zw22_14) rfl ⟨rfl, rfl⟩ 2 hdX5_turned ⟨Nat.le_of_ble_eq_true rfl, Nat.le_of_ble_eq_true rfl⟩ rfl rfl (wC_e7 ad cy σ3) rfl hl rfl (Nat.le_of_ble_eq_true rfl) dX5_turns_69 ⟨Nat.zero_le _, Nat.zero_le _⟩ (fun H locs hI => ?_)
    obtain ⟨σ7, g7, hf⟩ := zbu_use hf
    refine z_callVu (As := [.int v2, .int v6]) (rest := []) hC hI (cX5_putOne_met st l D ad cy σ5 v2 v6 _ g7) (zgV zw23_8 zw23_9 zw23_10 zw2_21 zw23_11) rfl ⟨rfl, rfl⟩ 2 hdX5_putOne ⟨Nat.le_of_ble_eq_true rfl, Nat.le_of_ble_eq_true rfl⟩ rfl rfl (wC_e7 ad cy σ5) rfl hl rfl (Nat.le_of_ble_eq_true rfl) dX5_turns_72 ⟨Nat.zero_le _, Nat.zero_le _⟩ (fun H locs hI => ?_)
    refine lv_iload_n hx hb dX5_turns_75 rfl (lv_at hl 1 rfl) ?_
    refine lv_bipush (v := 6) hx hb dX5_turns_76 (by decide) ?_
    refine lv_icmp_ne (tgt := 86) hx hb dX5_turns_78 (by decide) (fun q => ?_) (fun q => ?_)
    · replace hf := zif_f q hf
      refine lv_bipush (v := 8) hx hb dX5_turns_86 (by decide) ?_
      exact bX5_turns_88 hC  hI (lv_sub hl [] rfl) hf
    replace hf := zif_t q hf
    refine lv_bipush (v := 15) hx hb dX5_turns_81 (by decide) ?_
    refine lv_goto (tgt := 88) hx hb dX5_turns_83 (by decide) ?_
    exact bX5_turns_88 hC  hI (lv_sub hl [] rfl) hf
  replace hf := zif_t q hf
  refine lv_aload_n hx hb dX5_turns_19 rfl (lv_at hl 2 rfl) ?_
  refine lv_iload_n hx hb dX5_turns_20 rfl (lv_at hl 3 rfl) ?_
  refine lv_iconst (v := 3) hx hb dX5_turns_21 (by decide) ?_
  refine lv_ishr hx hb dX5_turns_22 ?_
  refine lv_bipush (v := 7) hx hb dX5_turns_23 (by decide) ?_
  refine lv_iand hx hb dX5_turns_25 ?_
  refine lv_iload_n hx hb dX5_turns_26 rfl (lv_at hl 0 rfl) ?_
  refine lv_iload_n hx hb dX5_turns_27 rfl (lv_at hl 1 rfl) ?_
  refine lv_bipush (v := 6) hx hb dX5_turns_28 (by decide) ?_
  refine lv_icmp_ne (tgt := 46) hx hb dX5_turns_30 (by decide) (fun q => ?_) (fun q => ?_)
  · replace hf := zif_f q hf
    refine lv_iload_n hx hb dX5_turns_46 rfl (lv_at hl 0 rfl) ?_
    exact bX5_turns_47 hC  hI (lv_sub hl [1] rfl) hf
  replace hf := zif_t q hf
  refine lv_aload_n hx hb dX5_turns_33 rfl (lv_at hl 2 rfl) ?_
  refine z_get hC hI hinX5_turns_X50 7 (wC_e7 ad cy σ3) rfl 2 (by decide) (List.mem_cons_of_mem _ zw7_5) rfl dX5_turns_34 ?_
  refine lv_bipush (v := 20) hx hb dX5_turns_37 (by decide) ?_
  obtain ⟨q, hf⟩ := zck_use hf
  refine z_iald hC hI 36 23 (wC_e36 ad cy σ3) (tC_t36 cy) q dX5_turns_39 ?_
  refine lv_bipush (v := 8) hx hb dX5_turns_40 (by decide) ?_
  refine lv_ishr hx hb dX5_turns_42 ?_
  refine lv_goto (tgt := 47) hx hb dX5_turns_43 (by decide) ?_
  exact bX5_turns_47 hC  hI (lv_sub hl [1] rfl) hf
set_option maxRecDepth 20000 in
theorem cX5_turns_met (st : Nat → Nat) (l : Launch) (D : va_G) (ad : Nat → Nat) (cy : Nat → ClassId) (σ : zSt) (x1 : Int32) (res : zSt × Int32) (hf : fX5_turns σ x1 = some res) (sz : Nat) : zMi st l yX5_turns wzX5_turns rmX5_turns [.ref (ad 7), .int x1] D (tC cy) (wC ad cy) sz σ res :=
  zMi.of (cc := cX5_turns) (maxL := 4) (ret := (some .int)) (by decide) rfl (Nat.le_of_ble_eq_true rfl) (fun p e s m args below meth c hC A hI ls hl => bX5_turns hC hI hl hf)
theorem hdX5_turns : yX5_turns.cls = RX5 ∧ yX5_turns.cls ≠ "java/lang/invoke/MethodHandle" ∧ yX5_turns.cls ≠ "java/lang/invoke/VarHandle" ∧ (parseMethodDescriptor yX5_turns.desc).map (fun d => d.parameters.length) = some 1 := by decide +kernel
def rmX5_putPairAt : Room := { frames := 0, cells := 0, slots := 0, locals := 0 }
def wzX5_putPairAt : List Cond := .code yX5_putPairAt cX5_putPairAt 3 none :: wsL_law
theorem hinX5_putPairAt_X50 : ∀ w ∈ wsX50, w ∈ wzX5_putPairAt := fun w h => List.mem_cons_of_mem _ (inlX5 w h)
def fX5_putPairAt  (σ : zSt) (x1 : Int32) (x2 : Int32) : Option (zSt) :=
  zck (zin x1 29) (zbv (zsi σ 36 (x1.toNatClampNeg) ((x2 >>> ((8 : Int32) &&& 31)) &&& 255)) (fun σ1 =>
  zck (zin (x1 + 1) 29) (zbv (zsi σ1 36 ((x1 + 1).toNatClampNeg) (x2 &&& 255)) (fun σ2 =>
  some σ2))))
set_option maxRecDepth 20000 in
set_option maxHeartbeats 4000000 in
theorem bX5_putPairAt {st : Nat → Nat} {p : Program} {l : Launch} {e : Env} {s : State} {m : MethodId} {args : Array Value} {below : List Frame} {meth : Method} {c : Code} {D : va_G} {A : Nat → Prop} {ad : Nat → Nat} {cy : Nat → ClassId} (hC : zC p m c cX5_putPairAt 3 s args wzX5_putPairAt RX5 meth none)  {res : zSt} {H : Heap} {locs : List Loc} {σ : zSt} {ls : Array Slot} {x1 : Int32} {x2 : Int32} (hI : zI st D (tC cy) (wC ad cy σ) A s H locs) (hl : lv_has ls 3 [(0, .ref (ad 7)), (1, .int x1), (2, .int x2)]) (hf : fX5_putPairAt  σ x1 x2 = some res) : W p l e rmX5_putPairAt s m args below meth c H locs 0 0 (zQu below args s D (tC cy) (wC ad cy) A res) (F0 m 0 ls []) := by
  have hx := hC.1
  have hb := hC.2.1
  unfold fX5_putPairAt at hf
  refine lv_aload_n hx hb dX5_putPairAt_0 rfl (lv_at hl 0 rfl) ?_
  refine z_get hC hI hinX5_putPairAt_X50 7 (wC_e7 ad cy σ) rfl 2 (by decide) (List.mem_cons_of_mem _ zw7_5) rfl dX5_putPairAt_1 ?_
  refine lv_iload_n hx hb dX5_putPairAt_4 rfl (lv_at hl 1 rfl) ?_
  refine lv_iload_n hx hb dX5_putPairAt_5 rfl (lv_at hl 2 rfl) ?_
  refine lv_bipush (v := 8) hx hb dX5_putPairAt_6 (by decide) ?_
  refine lv_ishr hx hb dX5_putPairAt_8 ?_
  refine lv_sipush (v := 255) hx hb dX5_putPairAt_9 (by decide) ?_
  refine lv_iand hx hb dX5_putPairAt_12 ?_
  obtain ⟨q, hf⟩ := zck_use hf
  obtain ⟨σ1, eσ1⟩ : ∃ z, z = zsi σ 36 (x1.toNatClampNeg) ((x2 >>> ((8 : Int32) &&& 31)) &&& 255) := ⟨_, rfl⟩
  replace hf := zbv_use eσ1 hf
  refine z_iast hC hI 36 23 (wC_e36 ad cy σ) (tC_t36 cy) q ((wC_s36 ad cy σ _ _).trans (congrArg (wC ad cy) eσ1.symm)) dX5_putPairAt_13 (fun H locs hI => ?_)
  refine lv_aload_n hx hb dX5_putPairAt_14 rfl (lv_at hl 0 rfl) ?_
  refine z_get hC hI hinX5_putPairAt_X50 7 (wC_e7 ad cy σ1) rfl 2 (by decide) (List.mem_cons_of_mem _ zw7_5) rfl dX5_putPairAt_15 ?_
  refine lv_iload_n hx hb dX5_putPairAt_18 rfl (lv_at hl 1 rfl) ?_
  refine lv_iconst (v := 1) hx hb dX5_putPairAt_19 (by decide) ?_
  refine lv_iadd hx hb dX5_putPairAt_20 ?_
  refine lv_iload_n hx hb dX5_putPairAt_21 rfl (lv_at hl 2 rfl) ?_
  refine lv_sipush (v := 255) hx hb dX5_putPairAt_22 (by decide) ?_
  refine lv_iand hx hb dX5_putPairAt_25 ?_
  obtain ⟨q, hf⟩ := zck_use hf
  obtain ⟨σ2, eσ2⟩ : ∃ z, z = zsi σ1 36 ((x1 + 1).toNatClampNeg) (x2 &&& 255) := ⟨_, rfl⟩
  replace hf := zbv_use eσ2 hf
  refine z_iast hC hI 36 23 (wC_e36 ad cy σ1) (tC_t36 cy) q ((wC_s36 ad cy σ1 _ _).trans (congrArg (wC ad cy) eσ2.symm)) dX5_putPairAt_26 (fun H locs hI => ?_)
  exact z_return hC hI hf dX5_putPairAt_27
set_option maxRecDepth 20000 in
theorem cX5_putPairAt_met (st : Nat → Nat) (l : Launch) (D : va_G) (ad : Nat → Nat) (cy : Nat → ClassId) (σ : zSt) (x1 : Int32) (x2 : Int32) (res : zSt) (hf : fX5_putPairAt σ x1 x2 = some res) (sz : Nat) : zMu st l yX5_putPairAt wzX5_putPairAt rmX5_putPairAt [.ref (ad 7), .int x1, .int x2] D (tC cy) (wC ad cy) sz σ res :=
  zMu.of (cc := cX5_putPairAt) (maxL := 3) (ret := none) (by decide) rfl (Nat.le_of_ble_eq_true rfl) (fun p e s m args below meth c hC A hI ls hl => bX5_putPairAt hC hI hl hf)
theorem hdX5_putPairAt : yX5_putPairAt.cls = RX5 ∧ yX5_putPairAt.cls ≠ "java/lang/invoke/MethodHandle" ∧ yX5_putPairAt.cls ≠ "java/lang/invoke/VarHandle" ∧ (parseMethodDescriptor yX5_putPairAt.desc).map (fun d => d.parameters.length) = some 2 := by decide +kernel
def rmX5_tellOfPort : Room := { frames := 2, cells := 0, slots := 0, locals := 40 }
def wzX5_tellOfPort : List Cond := .code yX5_tellOfPort cX5_tellOfPort 3 none :: wsL_law
theorem hinX5_tellOfPort_X50 : ∀ w ∈ wsX50, w ∈ wzX5_tellOfPort := fun w h => List.mem_cons_of_mem _ (inlX5 w h)
def fX5_tellOfPort_34  (σ : zSt) (x2 : Int32) (s0 : Int32) (s1 : Int32) (s2 : Int32) : Option (zSt) :=
  zck (zin 2 29) (
  zbi (fX5_parity σ ((x2 &&& 7) ^^^ (zgi σ 36 (2 : Int32).toNatClampNeg))) (fun σ1 v2 =>
  zck (zin s2 29) (zbv (zsi σ1 36 (s2.toNatClampNeg) ((s1 ||| s0) ||| v2)) (fun σ3 =>
  some σ3))))
def fX5_tellOfPort  (σ : zSt) (x1 : Int32) (x2 : Int32) : Option (zSt) :=
  zck (zin 2 29) (
  zbi (fX5_by σ (zgi σ 36 (2 : Int32).toNatClampNeg)) (fun σ4 v5 =>
  if x2 ≤ 255 then fX5_tellOfPort_34 σ4 x2 0 (v5 ||| ((x1 >>> ((6 : Int32) &&& 31)) &&& 2)) 1 else
  fX5_tellOfPort_34 σ4 x2 17 (v5 ||| ((x1 >>> ((6 : Int32) &&& 31)) &&& 2)) 1))
set_option maxRecDepth 20000 in
set_option maxHeartbeats 4000000 in
theorem bX5_tellOfPort_34 {st : Nat → Nat} {p : Program} {l : Launch} {e : Env} {s : State} {m : MethodId} {args : Array Value} {below : List Frame} {meth : Method} {c : Code} {D : va_G} {A : Nat → Prop} {ad : Nat → Nat} {cy : Nat → ClassId} (hC : zC p m c cX5_tellOfPort 3 s args wzX5_tellOfPort RX5 meth none)  {res : zSt} {H : Heap} {locs : List Loc} {σ : zSt} {ls : Array Slot} {x2 : Int32} {s0 : Int32} {s1 : Int32} {s2 : Int32} (hI : zI st D (tC cy) (wC ad cy σ) A s H locs) (hl : lv_has ls 3 [(0, .ref (ad 7)), (2, .int x2)]) (hf : fX5_tellOfPort_34  σ x2 s0 s1 s2 = some res) : W p l e rmX5_tellOfPort s m args below meth c H locs 0 0 (zQu below args s D (tC cy) (wC ad cy) A res) (F0 m 34 ls [.int s0, .int s1, .int s2, .ref (ad 36)]) := by
  have hx := hC.1
  have hb := hC.2.1
  unfold fX5_tellOfPort_34 at hf
  refine lv_ior hx hb dX5_tellOfPort_34 ?_
  refine lv_iload_n hx hb dX5_tellOfPort_35 rfl (lv_at hl 1 rfl) ?_
  refine lv_bipush (v := 7) hx hb dX5_tellOfPort_36 (by decide) ?_
  refine lv_iand hx hb dX5_tellOfPort_38 ?_
  refine lv_aload_n hx hb dX5_tellOfPort_39 rfl (lv_at hl 0 rfl) ?_
  refine z_get hC hI hinX5_tellOfPort_X50 7 (wC_e7 ad cy σ) rfl 2 (by decide) (List.mem_cons_of_mem _ zw7_5) rfl dX5_tellOfPort_40 ?_
  refine lv_iconst (v := 2) hx hb dX5_tellOfPort_43 (by decide) ?_
  obtain ⟨q, hf⟩ := zck_use hf
  refine z_iald hC hI 36 23 (wC_e36 ad cy σ) (tC_t36 cy) q dX5_tellOfPort_44 ?_
  refine lv_ixor hx hb dX5_tellOfPort_45 ?_
  obtain ⟨σ1, v2, g1, hf⟩ := zbi_use hf
  refine z_callSi (As := [.int ((x2 &&& 7) ^^^ (zgi σ 36 (2 : Int32).toNatClampNeg))]) (rest := [.int (s1 ||| s0), .int s2, .ref (ad 36)]) hC hI (cX5_parity_met st l D ad cy σ ((x2 &&& 7) ^^^ (zgi σ 36 (2 : Int32).toNatClampNeg)) _ g1) (zgS zw22_22 zw22_23 zw2_21 zw23_0) rfl ⟨rfl, rfl⟩ 1 hdX5_parity ⟨Nat.le_of_ble_eq_true rfl, Nat.le_of_ble_eq_true rfl⟩ rfl hl rfl (Nat.le_of_ble_eq_true rfl) dX5_tellOfPort_46 ⟨Nat.zero_le _, Nat.zero_le _⟩ (fun H locs hI => ?_)
  refine lv_ior hx hb dX5_tellOfPort_49 ?_
  obtain ⟨q, hf⟩ := zck_use hf
  obtain ⟨σ3, eσ3⟩ : ∃ z, z = zsi σ1 36 (s2.toNatClampNeg) ((s1 ||| s0) ||| v2) := ⟨_, rfl⟩
  replace hf := zbv_use eσ3 hf
  refine z_iast hC hI 36 23 (wC_e36 ad cy σ1) (tC_t36 cy) q ((wC_s36 ad cy σ1 _ _).trans (congrArg (wC ad cy) eσ3.symm)) dX5_tellOfPort_50 (fun H locs hI => ?_)
  exact z_return hC hI hf dX5_tellOfPort_51
set_option maxRecDepth 20000 in
set_option maxHeartbeats 4000000 in
theorem bX5_tellOfPort {st : Nat → Nat} {p : Program} {l : Launch} {e : Env} {s : State} {m : MethodId} {args : Array Value} {below : List Frame} {meth : Method} {c : Code} {D : va_G} {A : Nat → Prop} {ad : Nat → Nat} {cy : Nat → ClassId} (hC : zC p m c cX5_tellOfPort 3 s args wzX5_tellOfPort RX5 meth none)  {res : zSt} {H : Heap} {locs : List Loc} {σ : zSt} {ls : Array Slot} {x1 : Int32} {x2 : Int32} (hI : zI st D (tC cy) (wC ad cy σ) A s H locs) (hl : lv_has ls 3 [(0, .ref (ad 7)), (1, .int x1), (2, .int x2)]) (hf : fX5_tellOfPort  σ x1 x2 = some res) : W p l e rmX5_tellOfPort s m args below meth c H locs 0 0 (zQu below args s D (tC cy) (wC ad cy) A res) (F0 m 0 ls []) := by
  have hx := hC.1
  have hb := hC.2.1
  unfold fX5_tellOfPort at hf
  refine lv_aload_n hx hb dX5_tellOfPort_0 rfl (lv_at hl 0 rfl) ?_
  refine z_get hC hI hinX5_tellOfPort_X50 7 (wC_e7 ad cy σ) rfl 2 (by decide) (List.mem_cons_of_mem _ zw7_5) rfl dX5_tellOfPort_1 ?_
  refine lv_iconst (v := 1) hx hb dX5_tellOfPort_4 (by decide) ?_
  refine lv_aload_n hx hb dX5_tellOfPort_5 rfl (lv_at hl 0 rfl) ?_
  refine z_get hC hI hinX5_tellOfPort_X50 7 (wC_e7 ad cy σ) rfl 2 (by decide) (List.mem_cons_of_mem _ zw7_5) rfl dX5_tellOfPort_6 ?_
  refine lv_iconst (v := 2) hx hb dX5_tellOfPort_9 (by decide) ?_
  obtain ⟨q, hf⟩ := zck_use hf
  refine z_iald hC hI 36 23 (wC_e36 ad cy σ) (tC_t36 cy) q dX5_tellOfPort_10 ?_
  obtain ⟨σ4, v5, g4, hf⟩ := zbi_use hf
  refine z_callSi (As := [.int (zgi σ 36 (2 : Int32).toNatClampNeg)]) (rest := [.int 1, .ref (ad 36)]) hC hI (cX5_by_met st l D ad cy σ (zgi σ 36 (2 : Int32).toNatClampNeg) _ g4) (zgS zw22_19 zw22_20 zw2_21 zw22_21) rfl ⟨rfl, rfl⟩ 1 hdX5_by ⟨Nat.le_of_ble_eq_true rfl, Nat.le_of_ble_eq_true rfl⟩ rfl hl rfl (Nat.le_of_ble_eq_true rfl) dX5_tellOfPort_11 ⟨Nat.zero_le _, Nat.zero_le _⟩ (fun H locs hI => ?_)
  refine lv_iload_n hx hb dX5_tellOfPort_14 rfl (lv_at hl 1 rfl) ?_
  refine lv_bipush (v := 6) hx hb dX5_tellOfPort_15 (by decide) ?_
  refine lv_ishr hx hb dX5_tellOfPort_17 ?_
  refine lv_iconst (v := 2) hx hb dX5_tellOfPort_18 (by decide) ?_
  refine lv_iand hx hb dX5_tellOfPort_19 ?_
  refine lv_ior hx hb dX5_tellOfPort_20 ?_
  refine lv_iload_n hx hb dX5_tellOfPort_21 rfl (lv_at hl 2 rfl) ?_
  refine lv_sipush (v := 255) hx hb dX5_tellOfPort_22 (by decide) ?_
  refine lv_icmp_le (tgt := 33) hx hb dX5_tellOfPort_25 (by decide) (fun q => ?_) (fun q => ?_)
  · replace hf := zif_t q hf
    refine lv_iconst (v := 0) hx hb dX5_tellOfPort_33 (by decide) ?_
    exact bX5_tellOfPort_34 hC  hI (lv_sub hl [0, 2] rfl) hf
  replace hf := zif_f q hf
  refine lv_bipush (v := 17) hx hb dX5_tellOfPort_28 (by decide) ?_
  refine lv_goto (tgt := 34) hx hb dX5_tellOfPort_30 (by decide) ?_
  exact bX5_tellOfPort_34 hC  hI (lv_sub hl [0, 2] rfl) hf
set_option maxRecDepth 20000 in
theorem cX5_tellOfPort_met (st : Nat → Nat) (l : Launch) (D : va_G) (ad : Nat → Nat) (cy : Nat → ClassId) (σ : zSt) (x1 : Int32) (x2 : Int32) (res : zSt) (hf : fX5_tellOfPort σ x1 x2 = some res) (sz : Nat) : zMu st l yX5_tellOfPort wzX5_tellOfPort rmX5_tellOfPort [.ref (ad 7), .int x1, .int x2] D (tC cy) (wC ad cy) sz σ res :=
  zMu.of (cc := cX5_tellOfPort) (maxL := 3) (ret := none) (by decide) rfl (Nat.le_of_ble_eq_true rfl) (fun p e s m args below meth c hC A hI ls hl => bX5_tellOfPort hC hI hl hf)
theorem hdX5_tellOfPort : yX5_tellOfPort.cls = RX5 ∧ yX5_tellOfPort.cls ≠ "java/lang/invoke/MethodHandle" ∧ yX5_tellOfPort.cls ≠ "java/lang/invoke/VarHandle" ∧ (parseMethodDescriptor yX5_tellOfPort.desc).map (fun d => d.parameters.length) = some 2 := by decide +kernel
def rmX5_giveOne : Room := { frames := 3, cells := 0, slots := 0, locals := 69 }
def wzX5_giveOne : List Cond := .code yX5_giveOne cX5_giveOne 3 (some .boolean) :: wsL_law
theorem hinX5_giveOne_X50 : ∀ w ∈ wsX50, w ∈ wzX5_giveOne := fun w h => List.mem_cons_of_mem _ (inlX5 w h)
def fX5_giveOne_105  (σ : zSt) (s0 : Int32) : Option (zSt × Int32) :=
  zck (zbo s0) (some (σ, s0))
def fX5_giveOne  (σ : zSt) (x1 : Int32) : Option (zSt × Int32) :=
  zbi (fX5_pairAt σ 6) (fun σ1 v2 =>
  zbi (fX2_read σ1 v2) (fun σ3 v4 =>
  zck (zin 2 29) (
  zck (zin 2 29) (zbv (zsi σ3 36 ((2 : Int32).toNatClampNeg) (((zgi σ3 36 (2 : Int32).toNatClampNeg) - 1) &&& 255)) (fun σ5 =>
  zck (zin 3 29) (
  zbu (fX4_write σ5 (zgi σ5 36 (3 : Int32).toNatClampNeg) v4) (fun σ6 =>
  zbi (fX5_pairAt σ6 6) (fun σ7 v8 =>
  zbu (fX5_putPairAt σ7 6 (v8 + x1)) (fun σ9 =>
  zbi (fX5_pairAt σ9 2) (fun σ10 v11 =>
  zck (zin 20 29) (zbv (zsi σ10 36 ((20 : Int32).toNatClampNeg) ((v11 + x1) &&& 65535)) (fun σ12 =>
  zck (zin 7 29) (
  zbu (fX5_tellOfPort σ12 v4 (v4 + (zgi σ12 36 (7 : Int32).toNatClampNeg))) (fun σ13 =>
  zck (zin 2 29) (
  if (zgi σ13 36 (2 : Int32).toNatClampNeg) = 0 then fX5_giveOne_105 σ13 0 else
  fX5_giveOne_105 σ13 1)))))))))))))))
set_option maxRecDepth 20000 in
set_option maxHeartbeats 4000000 in
theorem bX5_giveOne_105 {st : Nat → Nat} {p : Program} {l : Launch} {e : Env} {s : State} {m : MethodId} {args : Array Value} {below : List Frame} {meth : Method} {c : Code} {D : va_G} {A : Nat → Prop} {ad : Nat → Nat} {cy : Nat → ClassId} (hC : zC p m c cX5_giveOne 3 s args wzX5_giveOne RX5 meth (some .boolean))  {res : zSt × Int32} {H : Heap} {locs : List Loc} {σ : zSt} {ls : Array Slot} {s0 : Int32} (hI : zI st D (tC cy) (wC ad cy σ) A s H locs) (hl : lv_has ls 3 []) (hf : fX5_giveOne_105  σ s0 = some res) : W p l e rmX5_giveOne s m args below meth c H locs 0 0 (zQi below args s D (tC cy) (wC ad cy) A res) (F0 m 105 ls [.int s0]) := by
  have hx := hC.1
  have hb := hC.2.1
  unfold fX5_giveOne_105 at hf
  obtain ⟨q, hf⟩ := zck_use hf
  exact z_zreturn hC hI (zbo_n q) hf dX5_giveOne_105
set_option maxRecDepth 20000 in
set_option maxHeartbeats 4000000 in
theorem bX5_giveOne {st : Nat → Nat} {p : Program} {l : Launch} {e : Env} {s : State} {m : MethodId} {args : Array Value} {below : List Frame} {meth : Method} {c : Code} {D : va_G} {A : Nat → Prop} {ad : Nat → Nat} {cy : Nat → ClassId} (hC : zC p m c cX5_giveOne 3 s args wzX5_giveOne RX5 meth (some .boolean))  {res : zSt × Int32} {H : Heap} {locs : List Loc} {σ : zSt} {ls : Array Slot} {x1 : Int32} (hI : zI st D (tC cy) (wC ad cy σ) A s H locs) (hl : lv_has ls 3 [(0, .ref (ad 7)), (1, .int x1)]) (hf : fX5_giveOne  σ x1 = some res) : W p l e rmX5_giveOne s m args below meth c H locs 0 0 (zQi below args s D (tC cy) (wC ad cy) A res) (F0 m 0 ls []) := by
  have hx := hC.1
  have hb := hC.2.1
  unfold fX5_giveOne at hf
  refine lv_aload_n hx hb dX5_giveOne_0 rfl (lv_at hl 0 rfl) ?_
  refine z_get hC hI hinX5_giveOne_X50 7 (wC_e7 ad cy σ) rfl 0 (by decide) (List.mem_cons_of_mem _ zw7_8) rfl dX5_giveOne_1 ?_
  refine lv_aload_n hx hb dX5_giveOne_4 rfl (lv_at hl 0 rfl) ?_
  refine lv_bipush (v := 6) hx hb dX5_giveOne_5 (by decide) ?_
  obtain ⟨σ1, v2, g1, hf⟩ := zbi_use hf
  refine z_callVi (As := [.int 6]) (rest := [.ref (ad 1)]) hC hI (cX5_pairAt_met st l D ad cy σ 6 _ g1) (zgV zw21_15 zw21_16 zw21_17 zw2_21 zw21_18) rfl ⟨rfl, rfl⟩ 1 hdX5_pairAt ⟨Nat.le_of_ble_eq_true rfl, Nat.le_of_ble_eq_true rfl⟩ rfl rfl (wC_e7 ad cy σ) rfl hl rfl (Nat.le_of_ble_eq_true rfl) dX5_giveOne_7 ⟨Nat.zero_le _, Nat.zero_le _⟩ (fun H locs hI => ?_)
  obtain ⟨σ3, v4, g3, hf⟩ := zbi_use hf
  refine z_callVi (As := [.int v2]) (rest := []) hC hI (cX2_read_met st l D ad cy σ1 v2 _ g3) (zgV zw21_6 zw21_7 zw21_8 zw1_21 zw21_9) rfl ⟨rfl, rfl⟩ 1 hdX2_read ⟨Nat.le_of_ble_eq_true rfl, Nat.le_of_ble_eq_true rfl⟩ rfl rfl (wC_e1 ad cy σ1) rfl hl rfl (Nat.le_of_ble_eq_true rfl) dX5_giveOne_10 ⟨Nat.zero_le _, Nat.zero_le _⟩ (fun H locs hI => ?_)
  refine lv_istore_n (lv' := [(2, .int v4), (0, .ref (ad 7)), (1, .int x1)]) hx hb dX5_giveOne_13 rfl hl (by decide) rfl (fun ls hl => ?_)
  refine lv_aload_n hx hb dX5_giveOne_14 rfl (lv_at hl 1 rfl) ?_
  refine z_get hC hI hinX5_giveOne_X50 7 (wC_e7 ad cy σ3) rfl 2 (by decide) (List.mem_cons_of_mem _ zw7_5) rfl dX5_giveOne_15 ?_
  refine lv_iconst (v := 2) hx hb dX5_giveOne_18 (by decide) ?_
  refine lv_aload_n hx hb dX5_giveOne_19 rfl (lv_at hl 1 rfl) ?_
  refine z_get hC hI hinX5_giveOne_X50 7 (wC_e7 ad cy σ3) rfl 2 (by decide) (List.mem_cons_of_mem _ zw7_5) rfl dX5_giveOne_20 ?_
  refine lv_iconst (v := 2) hx hb dX5_giveOne_23 (by decide) ?_
  obtain ⟨q, hf⟩ := zck_use hf
  refine z_iald hC hI 36 23 (wC_e36 ad cy σ3) (tC_t36 cy) q dX5_giveOne_24 ?_
  refine lv_iconst (v := 1) hx hb dX5_giveOne_25 (by decide) ?_
  refine lv_isub hx hb dX5_giveOne_26 ?_
  refine lv_sipush (v := 255) hx hb dX5_giveOne_27 (by decide) ?_
  refine lv_iand hx hb dX5_giveOne_30 ?_
  obtain ⟨q, hf⟩ := zck_use hf
  obtain ⟨σ5, eσ5⟩ : ∃ z, z = zsi σ3 36 ((2 : Int32).toNatClampNeg) (((zgi σ3 36 (2 : Int32).toNatClampNeg) - 1) &&& 255) := ⟨_, rfl⟩
  replace hf := zbv_use eσ5 hf
  refine z_iast hC hI 36 23 (wC_e36 ad cy σ3) (tC_t36 cy) q ((wC_s36 ad cy σ3 _ _).trans (congrArg (wC ad cy) eσ5.symm)) dX5_giveOne_31 (fun H locs hI => ?_)
  refine lv_aload_n hx hb dX5_giveOne_32 rfl (lv_at hl 1 rfl) ?_
  refine z_get hC hI hinX5_giveOne_X50 7 (wC_e7 ad cy σ5) rfl 1 (by decide) (List.mem_cons_of_mem _ zw7_9) rfl dX5_giveOne_33 ?_
  refine lv_aload_n hx hb dX5_giveOne_36 rfl (lv_at hl 1 rfl) ?_
  refine z_get hC hI hinX5_giveOne_X50 7 (wC_e7 ad cy σ5) rfl 2 (by decide) (List.mem_cons_of_mem _ zw7_5) rfl dX5_giveOne_37 ?_
  refine lv_iconst (v := 3) hx hb dX5_giveOne_40 (by decide) ?_
  obtain ⟨q, hf⟩ := zck_use hf
  refine z_iald hC hI 36 23 (wC_e36 ad cy σ5) (tC_t36 cy) q dX5_giveOne_41 ?_
  refine lv_iload_n hx hb dX5_giveOne_42 rfl (lv_at hl 0 rfl) ?_
  obtain ⟨σ6, g6, hf⟩ := zbu_use hf
  refine z_callVu (As := [.int (zgi σ5 36 (3 : Int32).toNatClampNeg), .int v4]) (rest := []) hC hI (cX4_write_met st l D ad cy σ5 (zgi σ5 36 (3 : Int32).toNatClampNeg) v4 _ g6) (zgV zw27_9 zw27_10 zw27_11 zw2_17 zw27_12) rfl ⟨rfl, rfl⟩ 2 hdX4_write ⟨Nat.le_of_ble_eq_true rfl, Nat.le_of_ble_eq_true rfl⟩ rfl rfl (wC_e6 ad cy σ5) rfl hl rfl (Nat.le_of_ble_eq_true rfl) dX5_giveOne_43 ⟨Nat.zero_le _, Nat.zero_le _⟩ (fun H locs hI => ?_)
  refine lv_aload_n hx hb dX5_giveOne_46 rfl (lv_at hl 1 rfl) ?_
  refine lv_bipush (v := 6) hx hb dX5_giveOne_47 (by decide) ?_
  refine lv_aload_n hx hb dX5_giveOne_49 rfl (lv_at hl 1 rfl) ?_
  refine lv_bipush (v := 6) hx hb dX5_giveOne_50 (by decide) ?_
  obtain ⟨σ7, v8, g7, hf⟩ := zbi_use hf
  refine z_callVi (As := [.int 6]) (rest := [.int 6, .ref (ad 7)]) hC hI (cX5_pairAt_met st l D ad cy σ6 6 _ g7) (zgV zw21_15 zw21_16 zw21_17 zw2_21 zw21_18) rfl ⟨rfl, rfl⟩ 1 hdX5_pairAt ⟨Nat.le_of_ble_eq_true rfl, Nat.le_of_ble_eq_true rfl⟩ rfl rfl (wC_e7 ad cy σ6) rfl hl rfl (Nat.le_of_ble_eq_true rfl) dX5_giveOne_52 ⟨Nat.zero_le _, Nat.zero_le _⟩ (fun H locs hI => ?_)
  refine lv_iload_n hx hb dX5_giveOne_55 rfl (lv_at hl 2 rfl) ?_
  refine lv_iadd hx hb dX5_giveOne_56 ?_
  obtain ⟨σ9, g9, hf⟩ := zbu_use hf
  refine z_callVu (As := [.int 6, .int (v8 + x1)]) (rest := []) hC hI (cX5_putPairAt_met st l D ad cy σ7 6 (v8 + x1) _ g9) (zgV zw24_16 zw24_17 zw24_18 zw2_21 zw24_19) rfl ⟨rfl, rfl⟩ 2 hdX5_putPairAt ⟨Nat.le_of_ble_eq_true rfl, Nat.le_of_ble_eq_true rfl⟩ rfl rfl (wC_e7 ad cy σ7) rfl hl rfl (Nat.le_of_ble_eq_true rfl) dX5_giveOne_57 ⟨Nat.zero_le _, Nat.zero_le _⟩ (fun H locs hI => ?_)
  refine lv_aload_n hx hb dX5_giveOne_60 rfl (lv_at hl 1 rfl) ?_
  refine z_get hC hI hinX5_giveOne_X50 7 (wC_e7 ad cy σ9) rfl 2 (by decide) (List.mem_cons_of_mem _ zw7_5) rfl dX5_giveOne_61 ?_
  refine lv_bipush (v := 20) hx hb dX5_giveOne_64 (by decide) ?_
  refine lv_aload_n hx hb dX5_giveOne_66 rfl (lv_at hl 1 rfl) ?_
  refine lv_iconst (v := 2) hx hb dX5_giveOne_67 (by decide) ?_
  obtain ⟨σ10, v11, g10, hf⟩ := zbi_use hf
  refine z_callVi (As := [.int 2]) (rest := [.int 20, .ref (ad 36)]) hC hI (cX5_pairAt_met st l D ad cy σ9 2 _ g10) (zgV zw21_15 zw21_16 zw21_17 zw2_21 zw21_18) rfl ⟨rfl, rfl⟩ 1 hdX5_pairAt ⟨Nat.le_of_ble_eq_true rfl, Nat.le_of_ble_eq_true rfl⟩ rfl rfl (wC_e7 ad cy σ9) rfl hl rfl (Nat.le_of_ble_eq_true rfl) dX5_giveOne_68 ⟨Nat.zero_le _, Nat.zero_le _⟩ (fun H locs hI => ?_)
  refine lv_iload_n hx hb dX5_giveOne_71 rfl (lv_at hl 2 rfl) ?_
  refine lv_iadd hx hb dX5_giveOne_72 ?_
  refine lv_ldc (v := 65535) hx hb hC.2.2.2.1 (hC.2.2.2.2.1 _ (List.mem_cons_of_mem _ zw20_6)) dX5_giveOne_73 ?_
  refine lv_iand hx hb dX5_giveOne_75 ?_
  obtain ⟨q, hf⟩ := zck_use hf
  obtain ⟨σ12, eσ12⟩ : ∃ z, z = zsi σ10 36 ((20 : Int32).toNatClampNeg) ((v11 + x1) &&& 65535) := ⟨_, rfl⟩
  replace hf := zbv_use eσ12 hf
  refine z_iast hC hI 36 23 (wC_e36 ad cy σ10) (tC_t36 cy) q ((wC_s36 ad cy σ10 _ _).trans (congrArg (wC ad cy) eσ12.symm)) dX5_giveOne_76 (fun H locs hI => ?_)
  refine lv_aload_n hx hb dX5_giveOne_77 rfl (lv_at hl 1 rfl) ?_
  refine lv_iload_n hx hb dX5_giveOne_78 rfl (lv_at hl 0 rfl) ?_
  refine lv_iload_n hx hb dX5_giveOne_79 rfl (lv_at hl 0 rfl) ?_
  refine lv_aload_n hx hb dX5_giveOne_80 rfl (lv_at hl 1 rfl) ?_
  refine z_get hC hI hinX5_giveOne_X50 7 (wC_e7 ad cy σ12) rfl 2 (by decide) (List.mem_cons_of_mem _ zw7_5) rfl dX5_giveOne_81 ?_
  refine lv_bipush (v := 7) hx hb dX5_giveOne_84 (by decide) ?_
  obtain ⟨q, hf⟩ := zck_use hf
  refine z_iald hC hI 36 23 (wC_e36 ad cy σ12) (tC_t36 cy) q dX5_giveOne_86 ?_
  refine lv_iadd hx hb dX5_giveOne_87 ?_
  obtain ⟨σ13, g13, hf⟩ := zbu_use hf
  refine z_callVu (As := [.int v4, .int (v4 + (zgi σ12 36 (7 : Int32).toNatClampNeg))]) (rest := []) hC hI (cX5_tellOfPort_met st l D ad cy σ12 v4 (v4 + (zgi σ12 36 (7 : Int32).toNatClampNeg)) _ g13) (zgV zw27_1 zw27_2 zw27_3 zw2_21 zw27_4) rfl ⟨rfl, rfl⟩ 2 hdX5_tellOfPort ⟨Nat.le_of_ble_eq_true rfl, Nat.le_of_ble_eq_true rfl⟩ rfl rfl (wC_e7 ad cy σ12) rfl hl rfl (Nat.le_of_ble_eq_true rfl) dX5_giveOne_88 ⟨Nat.zero_le _, Nat.zero_le _⟩ (fun H locs hI => ?_)
  refine lv_aload_n hx hb dX5_giveOne_91 rfl (lv_at hl 1 rfl) ?_
  refine z_get hC hI hinX5_giveOne_X50 7 (wC_e7 ad cy σ13) rfl 2 (by decide) (List.mem_cons_of_mem _ zw7_5) rfl dX5_giveOne_92 ?_
  refine lv_iconst (v := 2) hx hb dX5_giveOne_95 (by decide) ?_
  obtain ⟨q, hf⟩ := zck_use hf
  refine z_iald hC hI 36 23 (wC_e36 ad cy σ13) (tC_t36 cy) q dX5_giveOne_96 ?_
  refine lv_if_eq (tgt := 104) hx hb dX5_giveOne_97 (by decide) (fun q => ?_) (fun q => ?_)
  · replace hf := zif_t q hf
    refine lv_iconst (v := 0) hx hb dX5_giveOne_104 (by decide) ?_
    exact bX5_giveOne_105 hC  hI (lv_sub hl [] rfl) hf
  replace hf := zif_f q hf
  refine lv_iconst (v := 1) hx hb dX5_giveOne_100 (by decide) ?_
  refine lv_goto (tgt := 105) hx hb dX5_giveOne_101 (by decide) ?_
  exact bX5_giveOne_105 hC  hI (lv_sub hl [] rfl) hf
set_option maxRecDepth 20000 in
theorem cX5_giveOne_met (st : Nat → Nat) (l : Launch) (D : va_G) (ad : Nat → Nat) (cy : Nat → ClassId) (σ : zSt) (x1 : Int32) (res : zSt × Int32) (hf : fX5_giveOne σ x1 = some res) (sz : Nat) : zMi st l yX5_giveOne wzX5_giveOne rmX5_giveOne [.ref (ad 7), .int x1] D (tC cy) (wC ad cy) sz σ res :=
  zMi.of (cc := cX5_giveOne) (maxL := 3) (ret := (some .boolean)) (by decide) rfl (Nat.le_of_ble_eq_true rfl) (fun p e s m args below meth c hC A hI ls hl => bX5_giveOne hC hI hl hf)
theorem hdX5_giveOne : yX5_giveOne.cls = RX5 ∧ yX5_giveOne.cls ≠ "java/lang/invoke/MethodHandle" ∧ yX5_giveOne.cls ≠ "java/lang/invoke/VarHandle" ∧ (parseMethodDescriptor yX5_giveOne.desc).map (fun d => d.parameters.length) = some 1 := by decide +kernel
def rmX5_takeOne : Room := { frames := 3, cells := 0, slots := 0, locals := 66 }
def wzX5_takeOne : List Cond := .code yX5_takeOne cX5_takeOne 3 (some .boolean) :: wsL_law
theorem hinX5_takeOne_X50 : ∀ w ∈ wsX50, w ∈ wzX5_takeOne := fun w h => List.mem_cons_of_mem _ (inlX5 w h)
def fX5_takeOne_110  (σ : zSt) (s0 : Int32) : Option (zSt × Int32) :=
  zck (zbo s0) (some (σ, s0))
def fX5_takeOne  (σ : zSt) (x1 : Int32) : Option (zSt × Int32) :=
  zbi (fX5_pairAt σ 2) (fun σ1 v2 =>
  zck (zin 20 29) (zbv (zsi σ1 36 ((20 : Int32).toNatClampNeg) ((v2 + x1) &&& 65535)) (fun σ3 =>
  zck (zin 3 29) (
  zbi (fX4_read σ3 (zgi σ3 36 (3 : Int32).toNatClampNeg)) (fun σ4 v5 =>
  zck (zin 2 29) (
  zck (zin 2 29) (zbv (zsi σ4 36 ((2 : Int32).toNatClampNeg) (((zgi σ4 36 (2 : Int32).toNatClampNeg) - 1) &&& 255)) (fun σ6 =>
  zbi (fX5_pairAt σ6 6) (fun σ7 v8 =>
  zbu (fX2_write σ7 v8 v5) (fun σ9 =>
  zbi (fX5_pairAt σ9 6) (fun σ10 v11 =>
  zbu (fX5_putPairAt σ10 6 (v11 + x1)) (fun σ12 =>
  zck (zin 3 29) (
  zbu (fX5_tellOfPort σ12 v5 (v5 + (((zgi σ12 36 (3 : Int32).toNatClampNeg) + x1) &&& 255))) (fun σ13 =>
  zck (zin 2 29) (
  if (zgi σ13 36 (2 : Int32).toNatClampNeg) = 0 then fX5_takeOne_110 σ13 0 else
  fX5_takeOne_110 σ13 1)))))))))))))))
set_option maxRecDepth 20000 in
set_option maxHeartbeats 4000000 in
theorem bX5_takeOne_110 {st : Nat → Nat} {p : Program} {l : Launch} {e : Env} {s : State} {m : MethodId} {args : Array Value} {below : List Frame} {meth : Method} {c : Code} {D : va_G} {A : Nat → Prop} {ad : Nat → Nat} {cy : Nat → ClassId} (hC : zC p m c cX5_takeOne 3 s args wzX5_takeOne RX5 meth (some .boolean))  {res : zSt × Int32} {H : Heap} {locs : List Loc} {σ : zSt} {ls : Array Slot} {s0 : Int32} (hI : zI st D (tC cy) (wC ad cy σ) A s H locs) (hl : lv_has ls 3 []) (hf : fX5_takeOne_110  σ s0 = some res) : W p l e rmX5_takeOne s m args below meth c H locs 0 0 (zQi below args s D (tC cy) (wC ad cy) A res) (F0 m 110 ls [.int s0]) := by
  have hx := hC.1
  have hb := hC.2.1
  unfold fX5_takeOne_110 at hf
  obtain ⟨q, hf⟩ := zck_use hf
  exact z_zreturn hC hI (zbo_n q) hf dX5_takeOne_110
set_option maxRecDepth 20000 in
set_option maxHeartbeats 4000000 in
theorem bX5_takeOne {st : Nat → Nat} {p : Program} {l : Launch} {e : Env} {s : State} {m : MethodId} {args : Array Value} {below : List Frame} {meth : Method} {c : Code} {D : va_G} {A : Nat → Prop} {ad : Nat → Nat} {cy : Nat → ClassId} (hC : zC p m c cX5_takeOne 3 s args wzX5_takeOne RX5 meth (some .boolean))  {res : zSt × Int32} {H : Heap} {locs : List Loc} {σ : zSt} {ls : Array Slot} {x1 : Int32} (hI : zI st D (tC cy) (wC ad cy σ) A s H locs) (hl : lv_has ls 3 [(0, .ref (ad 7)), (1, .int x1)]) (hf : fX5_takeOne  σ x1 = some res) : W p l e rmX5_takeOne s m args below meth c H locs 0 0 (zQi below args s D (tC cy) (wC ad cy) A res) (F0 m 0 ls []) := by
  have hx := hC.1
  have hb := hC.2.1
  unfold fX5_takeOne at hf
  refine lv_aload_n hx hb dX5_takeOne_0 rfl (lv_at hl 0 rfl) ?_
  refine z_get hC hI hinX5_takeOne_X50 7 (wC_e7 ad cy σ) rfl 2 (by decide) (List.mem_cons_of_mem _ zw7_5) rfl dX5_takeOne_1 ?_
  refine lv_bipush (v := 20) hx hb dX5_takeOne_4 (by decide) ?_
  refine lv_aload_n hx hb dX5_takeOne_6 rfl (lv_at hl 0 rfl) ?_
  refine lv_iconst (v := 2) hx hb dX5_takeOne_7 (by decide) ?_
  obtain ⟨σ1, v2, g1, hf⟩ := zbi_use hf
  refine z_callVi (As := [.int 2]) (rest := [.int 20, .ref (ad 36)]) hC hI (cX5_pairAt_met st l D ad cy σ 2 _ g1) (zgV zw21_15 zw21_16 zw21_17 zw2_21 zw21_18) rfl ⟨rfl, rfl⟩ 1 hdX5_pairAt ⟨Nat.le_of_ble_eq_true rfl, Nat.le_of_ble_eq_true rfl⟩ rfl rfl (wC_e7 ad cy σ) rfl hl rfl (Nat.le_of_ble_eq_true rfl) dX5_takeOne_8 ⟨Nat.zero_le _, Nat.zero_le _⟩ (fun H locs hI => ?_)
  refine lv_iload_n hx hb dX5_takeOne_11 rfl (lv_at hl 1 rfl) ?_
  refine lv_iadd hx hb dX5_takeOne_12 ?_
  refine lv_ldc (v := 65535) hx hb hC.2.2.2.1 (hC.2.2.2.2.1 _ (List.mem_cons_of_mem _ zw20_6)) dX5_takeOne_13 ?_
  refine lv_iand hx hb dX5_takeOne_15 ?_
  obtain ⟨q, hf⟩ := zck_use hf
  obtain ⟨σ3, eσ3⟩ : ∃ z, z = zsi σ1 36 ((20 : Int32).toNatClampNeg) ((v2 + x1) &&& 65535) := ⟨_, rfl⟩
  replace hf := zbv_use eσ3 hf
  refine z_iast hC hI 36 23 (wC_e36 ad cy σ1) (tC_t36 cy) q ((wC_s36 ad cy σ1 _ _).trans (congrArg (wC ad cy) eσ3.symm)) dX5_takeOne_16 (fun H locs hI => ?_)
  refine lv_aload_n hx hb dX5_takeOne_17 rfl (lv_at hl 0 rfl) ?_
  refine z_get hC hI hinX5_takeOne_X50 7 (wC_e7 ad cy σ3) rfl 1 (by decide) (List.mem_cons_of_mem _ zw7_9) rfl dX5_takeOne_18 ?_
  refine lv_aload_n hx hb dX5_takeOne_21 rfl (lv_at hl 0 rfl) ?_
  refine z_get hC hI hinX5_takeOne_X50 7 (wC_e7 ad cy σ3) rfl 2 (by decide) (List.mem_cons_of_mem _ zw7_5) rfl dX5_takeOne_22 ?_
  refine lv_iconst (v := 3) hx hb dX5_takeOne_25 (by decide) ?_
  obtain ⟨q, hf⟩ := zck_use hf
  refine z_iald hC hI 36 23 (wC_e36 ad cy σ3) (tC_t36 cy) q dX5_takeOne_26 ?_
  obtain ⟨σ4, v5, g4, hf⟩ := zbi_use hf
  refine z_callVi (As := [.int (zgi σ3 36 (3 : Int32).toNatClampNeg)]) (rest := []) hC hI (cX4_read_met st l D ad cy σ3 (zgi σ3 36 (3 : Int32).toNatClampNeg) _ g4) (zgV zw25_4 zw25_5 zw25_6 zw2_17 zw25_7) rfl ⟨rfl, rfl⟩ 1 hdX4_read ⟨Nat.le_of_ble_eq_true rfl, Nat.le_of_ble_eq_true rfl⟩ rfl rfl (wC_e6 ad cy σ3) rfl hl rfl (Nat.le_of_ble_eq_true rfl) dX5_takeOne_27 ⟨Nat.zero_le _, Nat.zero_le _⟩ (fun H locs hI => ?_)
  refine lv_istore_n (lv' := [(2, .int v5), (0, .ref (ad 7)), (1, .int x1)]) hx hb dX5_takeOne_30 rfl hl (by decide) rfl (fun ls hl => ?_)
  refine lv_aload_n hx hb dX5_takeOne_31 rfl (lv_at hl 1 rfl) ?_
  refine z_get hC hI hinX5_takeOne_X50 7 (wC_e7 ad cy σ4) rfl 2 (by decide) (List.mem_cons_of_mem _ zw7_5) rfl dX5_takeOne_32 ?_
  refine lv_iconst (v := 2) hx hb dX5_takeOne_35 (by decide) ?_
  refine lv_aload_n hx hb dX5_takeOne_36 rfl (lv_at hl 1 rfl) ?_
  refine z_get hC hI hinX5_takeOne_X50 7 (wC_e7 ad cy σ4) rfl 2 (by decide) (List.mem_cons_of_mem _ zw7_5) rfl dX5_takeOne_37 ?_
  refine lv_iconst (v := 2) hx hb dX5_takeOne_40 (by decide) ?_
  obtain ⟨q, hf⟩ := zck_use hf
  refine z_iald hC hI 36 23 (wC_e36 ad cy σ4) (tC_t36 cy) q dX5_takeOne_41 ?_
  refine lv_iconst (v := 1) hx hb dX5_takeOne_42 (by decide) ?_
  refine lv_isub hx hb dX5_takeOne_43 ?_
  refine lv_sipush (v := 255) hx hb dX5_takeOne_44 (by decide) ?_
  refine lv_iand hx hb dX5_takeOne_47 ?_
  obtain ⟨q, hf⟩ := zck_use hf
  obtain ⟨σ6, eσ6⟩ : ∃ z, z = zsi σ4 36 ((2 : Int32).toNatClampNeg) (((zgi σ4 36 (2 : Int32).toNatClampNeg) - 1) &&& 255) := ⟨_, rfl⟩
  replace hf := zbv_use eσ6 hf
  refine z_iast hC hI 36 23 (wC_e36 ad cy σ4) (tC_t36 cy) q ((wC_s36 ad cy σ4 _ _).trans (congrArg (wC ad cy) eσ6.symm)) dX5_takeOne_48 (fun H locs hI => ?_)
  refine lv_aload_n hx hb dX5_takeOne_49 rfl (lv_at hl 1 rfl) ?_
  refine z_get hC hI hinX5_takeOne_X50 7 (wC_e7 ad cy σ6) rfl 0 (by decide) (List.mem_cons_of_mem _ zw7_8) rfl dX5_takeOne_50 ?_
  refine lv_aload_n hx hb dX5_takeOne_53 rfl (lv_at hl 1 rfl) ?_
  refine lv_bipush (v := 6) hx hb dX5_takeOne_54 (by decide) ?_
  obtain ⟨σ7, v8, g7, hf⟩ := zbi_use hf
  refine z_callVi (As := [.int 6]) (rest := [.ref (ad 1)]) hC hI (cX5_pairAt_met st l D ad cy σ6 6 _ g7) (zgV zw21_15 zw21_16 zw21_17 zw2_21 zw21_18) rfl ⟨rfl, rfl⟩ 1 hdX5_pairAt ⟨Nat.le_of_ble_eq_true rfl, Nat.le_of_ble_eq_true rfl⟩ rfl rfl (wC_e7 ad cy σ6) rfl hl rfl (Nat.le_of_ble_eq_true rfl) dX5_takeOne_56 ⟨Nat.zero_le _, Nat.zero_le _⟩ (fun H locs hI => ?_)
  refine lv_iload_n hx hb dX5_takeOne_59 rfl (lv_at hl 0 rfl) ?_
  obtain ⟨σ9, g9, hf⟩ := zbu_use hf
  refine z_callVu (As := [.int v8, .int v5]) (rest := []) hC hI (cX2_write_met st l D ad cy σ7 v8 v5 _ g9) (zgV zw20_7 zw20_8 zw20_9 zw1_21 zw20_10) rfl ⟨rfl, rfl⟩ 2 hdX2_write ⟨Nat.le_of_ble_eq_true rfl, Nat.le_of_ble_eq_true rfl⟩ rfl rfl (wC_e1 ad cy σ7) rfl hl rfl (Nat.le_of_ble_eq_true rfl) dX5_takeOne_60 ⟨Nat.zero_le _, Nat.zero_le _⟩ (fun H locs hI => ?_)
  refine lv_aload_n hx hb dX5_takeOne_63 rfl (lv_at hl 1 rfl) ?_
  refine lv_bipush (v := 6) hx hb dX5_takeOne_64 (by decide) ?_
  refine lv_aload_n hx hb dX5_takeOne_66 rfl (lv_at hl 1 rfl) ?_
  refine lv_bipush (v := 6) hx hb dX5_takeOne_67 (by decide) ?_
  obtain ⟨σ10, v11, g10, hf⟩ := zbi_use hf
  refine z_callVi (As := [.int 6]) (rest := [.int 6, .ref (ad 7)]) hC hI (cX5_pairAt_met st l D ad cy σ9 6 _ g10) (zgV zw21_15 zw21_16 zw21_17 zw2_21 zw21_18) rfl ⟨rfl, rfl⟩ 1 hdX5_pairAt ⟨Nat.le_of_ble_eq_true rfl, Nat.le_of_ble_eq_true rfl⟩ rfl rfl (wC_e7 ad cy σ9) rfl hl rfl (Nat.le_of_ble_eq_true rfl) dX5_takeOne_69 ⟨Nat.zero_le _, Nat.zero_le _⟩ (fun H locs hI => ?_)
  refine lv_iload_n hx hb dX5_takeOne_72 rfl (lv_at hl 2 rfl) ?_
  refine lv_iadd hx hb dX5_takeOne_73 ?_
  obtain ⟨σ12, g12, hf⟩ := zbu_use hf
  refine z_callVu (As := [.int 6, .int (v11 + x1)]) (rest := []) hC hI (cX5_putPairAt_met st l D ad cy σ10 6 (v11 + x1) _ g12) (zgV zw24_16 zw24_17 zw24_18 zw2_21 zw24_19) rfl ⟨rfl, rfl⟩ 2 hdX5_putPairAt ⟨Nat.le_of_ble_eq_true rfl, Nat.le_of_ble_eq_true rfl⟩ rfl rfl (wC_e7 ad cy σ10) rfl hl rfl (Nat.le_of_ble_eq_true rfl) dX5_takeOne_74 ⟨Nat.zero_le _, Nat.zero_le _⟩ (fun H locs hI => ?_)
  refine lv_aload_n hx hb dX5_takeOne_77 rfl (lv_at hl 1 rfl) ?_
  refine lv_iload_n hx hb dX5_takeOne_78 rfl (lv_at hl 0 rfl) ?_
  refine lv_iload_n hx hb dX5_takeOne_79 rfl (lv_at hl 0 rfl) ?_
  refine lv_aload_n hx hb dX5_takeOne_80 rfl (lv_at hl 1 rfl) ?_
  refine z_get hC hI hinX5_takeOne_X50 7 (wC_e7 ad cy σ12) rfl 2 (by decide) (List.mem_cons_of_mem _ zw7_5) rfl dX5_takeOne_81 ?_
  refine lv_iconst (v := 3) hx hb dX5_takeOne_84 (by decide) ?_
  obtain ⟨q, hf⟩ := zck_use hf
  refine z_iald hC hI 36 23 (wC_e36 ad cy σ12) (tC_t36 cy) q dX5_takeOne_85 ?_
  refine lv_iload_n hx hb dX5_takeOne_86 rfl (lv_at hl 2 rfl) ?_
  refine lv_iadd hx hb dX5_takeOne_87 ?_
  refine lv_sipush (v := 255) hx hb dX5_takeOne_88 (by decide) ?_
  refine lv_iand hx hb dX5_takeOne_91 ?_
  refine lv_iadd hx hb dX5_takeOne_92 ?_
  obtain ⟨σ13, g13, hf⟩ := zbu_use hf
  refine z_callVu (As := [.int v5, .int (v5 + (((zgi σ12 36 (3 : Int32).toNatClampNeg) + x1) &&& 255))]) (rest := []) hC hI (cX5_tellOfPort_met st l D ad cy σ12 v5 (v5 + (((zgi σ12 36 (3 : Int32).toNatClampNeg) + x1) &&& 255)) _ g13) (zgV zw27_1 zw27_2 zw27_3 zw2_21 zw27_4) rfl ⟨rfl, rfl⟩ 2 hdX5_tellOfPort ⟨Nat.le_of_ble_eq_true rfl, Nat.le_of_ble_eq_true rfl⟩ rfl rfl (wC_e7 ad cy σ12) rfl hl rfl (Nat.le_of_ble_eq_true rfl) dX5_takeOne_93 ⟨Nat.zero_le _, Nat.zero_le _⟩ (fun H locs hI => ?_)
  refine lv_aload_n hx hb dX5_takeOne_96 rfl (lv_at hl 1 rfl) ?_
  refine z_get hC hI hinX5_takeOne_X50 7 (wC_e7 ad cy σ13) rfl 2 (by decide) (List.mem_cons_of_mem _ zw7_5) rfl dX5_takeOne_97 ?_
  refine lv_iconst (v := 2) hx hb dX5_takeOne_100 (by decide) ?_
  obtain ⟨q, hf⟩ := zck_use hf
  refine z_iald hC hI 36 23 (wC_e36 ad cy σ13) (tC_t36 cy) q dX5_takeOne_101 ?_
  refine lv_if_eq (tgt := 109) hx hb dX5_takeOne_102 (by decide) (fun q => ?_) (fun q => ?_)
  · replace hf := zif_t q hf
    refine lv_iconst (v := 0) hx hb dX5_takeOne_109 (by decide) ?_
    exact bX5_takeOne_110 hC  hI (lv_sub hl [] rfl) hf
  replace hf := zif_f q hf
  refine lv_iconst (v := 1) hx hb dX5_takeOne_105 (by decide) ?_
  refine lv_goto (tgt := 110) hx hb dX5_takeOne_106 (by decide) ?_
  exact bX5_takeOne_110 hC  hI (lv_sub hl [] rfl) hf
set_option maxRecDepth 20000 in
theorem cX5_takeOne_met (st : Nat → Nat) (l : Launch) (D : va_G) (ad : Nat → Nat) (cy : Nat → ClassId) (σ : zSt) (x1 : Int32) (res : zSt × Int32) (hf : fX5_takeOne σ x1 = some res) (sz : Nat) : zMi st l yX5_takeOne wzX5_takeOne rmX5_takeOne [.ref (ad 7), .int x1] D (tC cy) (wC ad cy) sz σ res :=
  zMi.of (cc := cX5_takeOne) (maxL := 3) (ret := (some .boolean)) (by decide) rfl (Nat.le_of_ble_eq_true rfl) (fun p e s m args below meth c hC A hI ls hl => bX5_takeOne hC hI hl hf)
theorem hdX5_takeOne : yX5_takeOne.cls = RX5 ∧ yX5_takeOne.cls ≠ "java/lang/invoke/MethodHandle" ∧ yX5_takeOne.cls ≠ "java/lang/invoke/VarHandle" ∧ (parseMethodDescriptor yX5_takeOne.desc).map (fun d => d.parameters.length) = some 1 := by decide +kernel
def rmX5_compareOne : Room := { frames := 2, cells := 0, slots := 0, locals := 47 }
def wzX5_compareOne : List Cond := .code yX5_compareOne cX5_compareOne 7 (some .boolean) :: wsL_law
theorem hinX5_compareOne_X50 : ∀ w ∈ wsX50, w ∈ wzX5_compareOne := fun w h => List.mem_cons_of_mem _ (inlX5 w h)
def fX5_compareOne_184  (σ : zSt) (s0 : Int32) : Option (zSt × Int32) :=
  zck (zbo s0) (some (σ, s0))
def fX5_compareOne_183  (σ : zSt)  : Option (zSt × Int32) :=
  fX5_compareOne_184 σ 0
def fX5_compareOne_166  (σ : zSt) (x3 : Int32) (x5 : Int32) (s0 : Int32) (s1 : Int32) (s2 : Int32) : Option (zSt × Int32) :=
  zck (zin s2 29) (zbv (zsi σ 36 (s2.toNatClampNeg) ((s1 ||| s0) ||| 2)) (fun σ1 =>
  if x5 = 0 then fX5_compareOne_183 σ1 else
  if x3 = 0 then fX5_compareOne_183 σ1 else
  fX5_compareOne_184 σ1 1))
def fX5_compareOne_139  (σ : zSt) (x3 : Int32) (x4 : Int32) (x5 : Int32) (x6 : Int32) (s0 : Int32) (s1 : Int32) (s2 : Int32) : Option (zSt × Int32) :=
  if x5 = 0 then fX5_compareOne_166 σ x3 x5 0 ((((s1 ||| s0) ||| x4) ||| ((x6 &&& 2) <<< ((4 : Int32) &&& 31))) ||| (x6 &&& 8)) s2 else
  fX5_compareOne_166 σ x3 x5 4 ((((s1 ||| s0) ||| x4) ||| ((x6 &&& 2) <<< ((4 : Int32) &&& 31))) ||| (x6 &&& 8)) s2
def fX5_compareOne_100  (σ : zSt) (x3 : Int32) (x4 : Int32) (s0 : Int32) : Option (zSt × Int32) :=
  zbv (x3 - (x4 >>> ((4 : Int32) &&& 31))) (fun v2 =>
  zck (zin 1 29) (
  if x3 = 0 then fX5_compareOne_139 σ x3 x4 s0 v2 64 (((zgi σ 36 (1 : Int32).toNatClampNeg) &&& 1) ||| (x3 &&& 128)) 1 else
  fX5_compareOne_139 σ x3 x4 s0 v2 0 (((zgi σ 36 (1 : Int32).toNatClampNeg) &&& 1) ||| (x3 &&& 128)) 1))
def fX5_compareOne  (σ : zSt) (x1 : Int32) : Option (zSt × Int32) :=
  zbi (fX5_pairAt σ 6) (fun σ3 v4 =>
  zbi (fX2_read σ3 v4) (fun σ5 v6 =>
  zck (zin 0 29) (
  zbv (((zgi σ5 36 (0 : Int32).toNatClampNeg) - v6) &&& 255) (fun v7 =>
  zck (zin 0 29) (
  zbv ((((zgi σ5 36 (0 : Int32).toNatClampNeg) ^^^ v6) ^^^ v7) &&& 16) (fun v8 =>
  zbi (fX5_pairAt σ5 6) (fun σ9 v10 =>
  zbu (fX5_putPairAt σ9 6 (v10 + x1)) (fun σ11 =>
  zbi (fX5_pairAt σ11 2) (fun σ12 v13 =>
  zbu (fX5_putPairAt σ12 2 (v13 - 1)) (fun σ14 =>
  zck (zin 20 29) (
  zck (zin 20 29) (zbv (zsi σ14 36 ((20 : Int32).toNatClampNeg) (((zgi σ14 36 (20 : Int32).toNatClampNeg) + x1) &&& 65535)) (fun σ15 =>
  zbi (fX5_pairAt σ15 2) (fun σ16 v17 =>
  if v17 = 0 then fX5_compareOne_100 σ16 v7 v8 0 else
  fX5_compareOne_100 σ16 v7 v8 1))))))))))))))
set_option maxRecDepth 20000 in
set_option maxHeartbeats 4000000 in
theorem bX5_compareOne_184 {st : Nat → Nat} {p : Program} {l : Launch} {e : Env} {s : State} {m : MethodId} {args : Array Value} {below : List Frame} {meth : Method} {c : Code} {D : va_G} {A : Nat → Prop} {ad : Nat → Nat} {cy : Nat → ClassId} (hC : zC p m c cX5_compareOne 7 s args wzX5_compareOne RX5 meth (some .boolean))  {res : zSt × Int32} {H : Heap} {locs : List Loc} {σ : zSt} {ls : Array Slot} {s0 : Int32} (hI : zI st D (tC cy) (wC ad cy σ) A s H locs) (hl : lv_has ls 7 []) (hf : fX5_compareOne_184  σ s0 = some res) : W p l e rmX5_compareOne s m args below meth c H locs 0 0 (zQi below args s D (tC cy) (wC ad cy) A res) (F0 m 184 ls [.int s0]) := by
  have hx := hC.1
  have hb := hC.2.1
  unfold fX5_compareOne_184 at hf
  obtain ⟨q, hf⟩ := zck_use hf
  exact z_zreturn hC hI (zbo_n q) hf dX5_compareOne_184
set_option maxRecDepth 20000 in
set_option maxHeartbeats 4000000 in
theorem bX5_compareOne_183 {st : Nat → Nat} {p : Program} {l : Launch} {e : Env} {s : State} {m : MethodId} {args : Array Value} {below : List Frame} {meth : Method} {c : Code} {D : va_G} {A : Nat → Prop} {ad : Nat → Nat} {cy : Nat → ClassId} (hC : zC p m c cX5_compareOne 7 s args wzX5_compareOne RX5 meth (some .boolean))  {res : zSt × Int32} {H : Heap} {locs : List Loc} {σ : zSt} {ls : Array Slot}  (hI : zI st D (tC cy) (wC ad cy σ) A s H locs) (hl : lv_has ls 7 []) (hf : fX5_compareOne_183  σ  = some res) : W p l e rmX5_compareOne s m args below meth c H locs 0 0 (zQi below args s D (tC cy) (wC ad cy) A res) (F0 m 183 ls []) := by
  have hx := hC.1
  have hb := hC.2.1
  unfold fX5_compareOne_183 at hf
  refine lv_iconst (v := 0) hx hb dX5_compareOne_183 (by decide) ?_
  exact bX5_compareOne_184 hC  hI hl hf
set_option maxRecDepth 20000 in
set_option maxHeartbeats 4000000 in
theorem bX5_compareOne_166 {st : Nat → Nat} {p : Program} {l : Launch} {e : Env} {s : State} {m : MethodId} {args : Array Value} {below : List Frame} {meth : Method} {c : Code} {D : va_G} {A : Nat → Prop} {ad : Nat → Nat} {cy : Nat → ClassId} (hC : zC p m c cX5_compareOne 7 s args wzX5_compareOne RX5 meth (some .boolean))  {res : zSt × Int32} {H : Heap} {locs : List Loc} {σ : zSt} {ls : Array Slot} {x3 : Int32} {x5 : Int32} {s0 : Int32} {s1 : Int32} {s2 : Int32} (hI : zI st D (tC cy) (wC ad cy σ) A s H locs) (hl : lv_has ls 7 [(3, .int x3), (5, .int x5)]) (hf : fX5_compareOne_166  σ x3 x5 s0 s1 s2 = some res) : W p l e rmX5_compareOne s m args below meth c H locs 0 0 (zQi below args s D (tC cy) (wC ad cy) A res) (F0 m 166 ls [.int s0, .int s1, .int s2, .ref (ad 36)]) := by
  have hx := hC.1
  have hb := hC.2.1
  unfold fX5_compareOne_166 at hf
  refine lv_ior hx hb dX5_compareOne_166 ?_
  refine lv_iconst (v := 2) hx hb dX5_compareOne_167 (by decide) ?_
  refine lv_ior hx hb dX5_compareOne_168 ?_
  obtain ⟨q, hf⟩ := zck_use hf
  obtain ⟨σ1, eσ1⟩ : ∃ z, z = zsi σ 36 (s2.toNatClampNeg) ((s1 ||| s0) ||| 2) := ⟨_, rfl⟩
  replace hf := zbv_use eσ1 hf
  refine z_iast hC hI 36 23 (wC_e36 ad cy σ) (tC_t36 cy) q ((wC_s36 ad cy σ _ _).trans (congrArg (wC ad cy) eσ1.symm)) dX5_compareOne_169 (fun H locs hI => ?_)
  refine lv_iload hx hb dX5_compareOne_170 (lv_at hl 1 rfl) ?_
  refine lv_if_eq (tgt := 183) hx hb dX5_compareOne_172 (by decide) (fun q => ?_) (fun q => ?_)
  · replace hf := zif_t q hf
    exact bX5_compareOne_183 hC  hI (lv_sub hl [] rfl) hf
  replace hf := zif_f q hf
  refine lv_iload_n hx hb dX5_compareOne_175 rfl (lv_at hl 0 rfl) ?_
  refine lv_if_eq (tgt := 183) hx hb dX5_compareOne_176 (by decide) (fun q => ?_) (fun q => ?_)
  · replace hf := zif_t q hf
    exact bX5_compareOne_183 hC  hI (lv_sub hl [] rfl) hf
  replace hf := zif_f q hf
  refine lv_iconst (v := 1) hx hb dX5_compareOne_179 (by decide) ?_
  refine lv_goto (tgt := 184) hx hb dX5_compareOne_180 (by decide) ?_
  exact bX5_compareOne_184 hC  hI (lv_sub hl [] rfl) hf
set_option maxRecDepth 20000 in
set_option maxHeartbeats 4000000 in
theorem bX5_compareOne_139 {st : Nat → Nat} {p : Program} {l : Launch} {e : Env} {s : State} {m : MethodId} {args : Array Value} {below : List Frame} {meth : Method} {c : Code} {D : va_G} {A : Nat → Prop} {ad : Nat → Nat} {cy : Nat → ClassId} (hC : zC p m c cX5_compareOne 7 s args wzX5_compareOne RX5 meth (some .boolean))  {res : zSt × Int32} {H : Heap} {locs : List Loc} {σ : zSt} {ls : Array Slot} {x3 : Int32} {x4 : Int32} {x5 : Int32} {x6 : Int32} {s0 : Int32} {s1 : Int32} {s2 : Int32} (hI : zI st D (tC cy) (wC ad cy σ) A s H locs) (hl : lv_has ls 7 [(3, .int x3), (4, .int x4), (5, .int x5), (6, .int x6)]) (hf : fX5_compareOne_139  σ x3 x4 x5 x6 s0 s1 s2 = some res) : W p l e rmX5_compareOne s m args below meth c H locs 0 0 (zQi below args s D (tC cy) (wC ad cy) A res) (F0 m 139 ls [.int s0, .int s1, .int s2, .ref (ad 36)]) := by
  have hx := hC.1
  have hb := hC.2.1
  unfold fX5_compareOne_139 at hf
  refine lv_ior hx hb dX5_compareOne_139 ?_
  refine lv_iload hx hb dX5_compareOne_140 (lv_at hl 1 rfl) ?_
  refine lv_ior hx hb dX5_compareOne_142 ?_
  refine lv_iload hx hb dX5_compareOne_143 (lv_at hl 3 rfl) ?_
  refine lv_iconst (v := 2) hx hb dX5_compareOne_145 (by decide) ?_
  refine lv_iand hx hb dX5_compareOne_146 ?_
  refine lv_iconst (v := 4) hx hb dX5_compareOne_147 (by decide) ?_
  refine lv_ishl hx hb dX5_compareOne_148 ?_
  refine lv_ior hx hb dX5_compareOne_149 ?_
  refine lv_iload hx hb dX5_compareOne_150 (lv_at hl 3 rfl) ?_
  refine lv_bipush (v := 8) hx hb dX5_compareOne_152 (by decide) ?_
  refine lv_iand hx hb dX5_compareOne_154 ?_
  refine lv_ior hx hb dX5_compareOne_155 ?_
  refine lv_iload hx hb dX5_compareOne_156 (lv_at hl 2 rfl) ?_
  refine lv_if_eq (tgt := 165) hx hb dX5_compareOne_158 (by decide) (fun q => ?_) (fun q => ?_)
  · replace hf := zif_t q hf
    refine lv_iconst (v := 0) hx hb dX5_compareOne_165 (by decide) ?_
    exact bX5_compareOne_166 hC  hI (lv_sub hl [0, 2] rfl) hf
  replace hf := zif_f q hf
  refine lv_iconst (v := 4) hx hb dX5_compareOne_161 (by decide) ?_
  refine lv_goto (tgt := 166) hx hb dX5_compareOne_162 (by decide) ?_
  exact bX5_compareOne_166 hC  hI (lv_sub hl [0, 2] rfl) hf
set_option maxRecDepth 20000 in
set_option maxHeartbeats 4000000 in
theorem bX5_compareOne_100 {st : Nat → Nat} {p : Program} {l : Launch} {e : Env} {s : State} {m : MethodId} {args : Array Value} {below : List Frame} {meth : Method} {c : Code} {D : va_G} {A : Nat → Prop} {ad : Nat → Nat} {cy : Nat → ClassId} (hC : zC p m c cX5_compareOne 7 s args wzX5_compareOne RX5 meth (some .boolean))  {res : zSt × Int32} {H : Heap} {locs : List Loc} {σ : zSt} {ls : Array Slot} {x3 : Int32} {x4 : Int32} {s0 : Int32} (hI : zI st D (tC cy) (wC ad cy σ) A s H locs) (hl : lv_has ls 7 [(0, .ref (ad 7)), (3, .int x3), (4, .int x4)]) (hf : fX5_compareOne_100  σ x3 x4 s0 = some res) : W p l e rmX5_compareOne s m args below meth c H locs 0 0 (zQi below args s D (tC cy) (wC ad cy) A res) (F0 m 100 ls [.int s0]) := by
  have hx := hC.1
  have hb := hC.2.1
  unfold fX5_compareOne_100 at hf
  refine lv_istore (lv' := [(5, .int s0), (0, .ref (ad 7)), (3, .int x3), (4, .int x4)]) hx hb dX5_compareOne_100 hl (by decide) rfl (fun ls hl => ?_)
  refine lv_iload_n hx hb dX5_compareOne_102 rfl (lv_at hl 2 rfl) ?_
  refine lv_iload hx hb dX5_compareOne_103 (lv_at hl 3 rfl) ?_
  refine lv_iconst (v := 4) hx hb dX5_compareOne_105 (by decide) ?_
  refine lv_ishr hx hb dX5_compareOne_106 ?_
  refine lv_isub hx hb dX5_compareOne_107 ?_
  refine lv_topi (fun v2 ev2 => ?_)
  replace hf := zbv_use ev2 hf
  refine lv_istore (lv' := [(6, .int v2), (5, .int s0), (0, .ref (ad 7)), (3, .int x3), (4, .int x4)]) hx hb dX5_compareOne_108 hl (by decide) rfl (fun ls hl => ?_)
  refine lv_aload_n hx hb dX5_compareOne_110 rfl (lv_at hl 2 rfl) ?_
  refine z_get hC hI hinX5_compareOne_X50 7 (wC_e7 ad cy σ) rfl 2 (by decide) (List.mem_cons_of_mem _ zw7_5) rfl dX5_compareOne_111 ?_
  refine lv_iconst (v := 1) hx hb dX5_compareOne_114 (by decide) ?_
  refine lv_aload_n hx hb dX5_compareOne_115 rfl (lv_at hl 2 rfl) ?_
  refine z_get hC hI hinX5_compareOne_X50 7 (wC_e7 ad cy σ) rfl 2 (by decide) (List.mem_cons_of_mem _ zw7_5) rfl dX5_compareOne_116 ?_
  refine lv_iconst (v := 1) hx hb dX5_compareOne_119 (by decide) ?_
  obtain ⟨q, hf⟩ := zck_use hf
  refine z_iald hC hI 36 23 (wC_e36 ad cy σ) (tC_t36 cy) q dX5_compareOne_120 ?_
  refine lv_iconst (v := 1) hx hb dX5_compareOne_121 (by decide) ?_
  refine lv_iand hx hb dX5_compareOne_122 ?_
  refine lv_iload_n hx hb dX5_compareOne_123 rfl (lv_at hl 3 rfl) ?_
  refine lv_sipush (v := 128) hx hb dX5_compareOne_124 (by decide) ?_
  refine lv_iand hx hb dX5_compareOne_127 ?_
  refine lv_ior hx hb dX5_compareOne_128 ?_
  refine lv_iload_n hx hb dX5_compareOne_129 rfl (lv_at hl 3 rfl) ?_
  refine lv_if_ne (tgt := 138) hx hb dX5_compareOne_130 (by decide) (fun q => ?_) (fun q => ?_)
  · replace hf := zif_f q hf
    refine lv_iconst (v := 0) hx hb dX5_compareOne_138 (by decide) ?_
    exact bX5_compareOne_139 hC  hI (lv_sub hl [3, 4, 1, 0] rfl) hf
  replace hf := zif_t q hf
  refine lv_bipush (v := 64) hx hb dX5_compareOne_133 (by decide) ?_
  refine lv_goto (tgt := 139) hx hb dX5_compareOne_135 (by decide) ?_
  exact bX5_compareOne_139 hC  hI (lv_sub hl [3, 4, 1, 0] rfl) hf
set_option maxRecDepth 20000 in
set_option maxHeartbeats 4000000 in
theorem bX5_compareOne {st : Nat → Nat} {p : Program} {l : Launch} {e : Env} {s : State} {m : MethodId} {args : Array Value} {below : List Frame} {meth : Method} {c : Code} {D : va_G} {A : Nat → Prop} {ad : Nat → Nat} {cy : Nat → ClassId} (hC : zC p m c cX5_compareOne 7 s args wzX5_compareOne RX5 meth (some .boolean))  {res : zSt × Int32} {H : Heap} {locs : List Loc} {σ : zSt} {ls : Array Slot} {x1 : Int32} (hI : zI st D (tC cy) (wC ad cy σ) A s H locs) (hl : lv_has ls 7 [(0, .ref (ad 7)), (1, .int x1)]) (hf : fX5_compareOne  σ x1 = some res) : W p l e rmX5_compareOne s m args below meth c H locs 0 0 (zQi below args s D (tC cy) (wC ad cy) A res) (F0 m 0 ls []) := by
  have hx := hC.1
  have hb := hC.2.1
  unfold fX5_compareOne at hf
  refine lv_aload_n hx hb dX5_compareOne_0 rfl (lv_at hl 0 rfl) ?_
  refine z_get hC hI hinX5_compareOne_X50 7 (wC_e7 ad cy σ) rfl 0 (by decide) (List.mem_cons_of_mem _ zw7_8) rfl dX5_compareOne_1 ?_
  refine lv_aload_n hx hb dX5_compareOne_4 rfl (lv_at hl 0 rfl) ?_
  refine lv_bipush (v := 6) hx hb dX5_compareOne_5 (by decide) ?_
  obtain ⟨σ3, v4, g3, hf⟩ := zbi_use hf
  refine z_callVi (As := [.int 6]) (rest := [.ref (ad 1)]) hC hI (cX5_pairAt_met st l D ad cy σ 6 _ g3) (zgV zw21_15 zw21_16 zw21_17 zw2_21 zw21_18) rfl ⟨rfl, rfl⟩ 1 hdX5_pairAt ⟨Nat.le_of_ble_eq_true rfl, Nat.le_of_ble_eq_true rfl⟩ rfl rfl (wC_e7 ad cy σ) rfl hl rfl (Nat.le_of_ble_eq_true rfl) dX5_compareOne_7 ⟨Nat.zero_le _, Nat.zero_le _⟩ (fun H locs hI => ?_)
  obtain ⟨σ5, v6, g5, hf⟩ := zbi_use hf
  refine z_callVi (As := [.int v4]) (rest := []) hC hI (cX2_read_met st l D ad cy σ3 v4 _ g5) (zgV zw21_6 zw21_7 zw21_8 zw1_21 zw21_9) rfl ⟨rfl, rfl⟩ 1 hdX2_read ⟨Nat.le_of_ble_eq_true rfl, Nat.le_of_ble_eq_true rfl⟩ rfl rfl (wC_e1 ad cy σ3) rfl hl rfl (Nat.le_of_ble_eq_true rfl) dX5_compareOne_10 ⟨Nat.zero_le _, Nat.zero_le _⟩ (fun H locs hI => ?_)
  refine lv_istore_n (lv' := [(2, .int v6), (0, .ref (ad 7)), (1, .int x1)]) hx hb dX5_compareOne_13 rfl hl (by decide) rfl (fun ls hl => ?_)
  refine lv_aload_n hx hb dX5_compareOne_14 rfl (lv_at hl 1 rfl) ?_
  refine z_get hC hI hinX5_compareOne_X50 7 (wC_e7 ad cy σ5) rfl 2 (by decide) (List.mem_cons_of_mem _ zw7_5) rfl dX5_compareOne_15 ?_
  refine lv_iconst (v := 0) hx hb dX5_compareOne_18 (by decide) ?_
  obtain ⟨q, hf⟩ := zck_use hf
  refine z_iald hC hI 36 23 (wC_e36 ad cy σ5) (tC_t36 cy) q dX5_compareOne_19 ?_
  refine lv_iload_n hx hb dX5_compareOne_20 rfl (lv_at hl 0 rfl) ?_
  refine lv_isub hx hb dX5_compareOne_21 ?_
  refine lv_sipush (v := 255) hx hb dX5_compareOne_22 (by decide) ?_
  refine lv_iand hx hb dX5_compareOne_25 ?_
  refine lv_topi (fun v7 ev7 => ?_)
  replace hf := zbv_use ev7 hf
  refine lv_istore_n (lv' := [(3, .int v7), (2, .int v6), (0, .ref (ad 7)), (1, .int x1)]) hx hb dX5_compareOne_26 rfl hl (by decide) rfl (fun ls hl => ?_)
  refine lv_aload_n hx hb dX5_compareOne_27 rfl (lv_at hl 2 rfl) ?_
  refine z_get hC hI hinX5_compareOne_X50 7 (wC_e7 ad cy σ5) rfl 2 (by decide) (List.mem_cons_of_mem _ zw7_5) rfl dX5_compareOne_28 ?_
  refine lv_iconst (v := 0) hx hb dX5_compareOne_31 (by decide) ?_
  obtain ⟨q, hf⟩ := zck_use hf
  refine z_iald hC hI 36 23 (wC_e36 ad cy σ5) (tC_t36 cy) q dX5_compareOne_32 ?_
  refine lv_iload_n hx hb dX5_compareOne_33 rfl (lv_at hl 1 rfl) ?_
  refine lv_ixor hx hb dX5_compareOne_34 ?_
  refine lv_iload_n hx hb dX5_compareOne_35 rfl (lv_at hl 0 rfl) ?_
  refine lv_ixor hx hb dX5_compareOne_36 ?_
  refine lv_bipush (v := 16) hx hb dX5_compareOne_37 (by decide) ?_
  refine lv_iand hx hb dX5_compareOne_39 ?_
  refine lv_topi (fun v8 ev8 => ?_)
  replace hf := zbv_use ev8 hf
  refine lv_istore (lv' := [(4, .int v8), (3, .int v7), (2, .int v6), (0, .ref (ad 7)), (1, .int x1)]) hx hb dX5_compareOne_40 hl (by decide) rfl (fun ls hl => ?_)
  refine lv_aload_n hx hb dX5_compareOne_42 rfl (lv_at hl 3 rfl) ?_
  refine lv_bipush (v := 6) hx hb dX5_compareOne_43 (by decide) ?_
  refine lv_aload_n hx hb dX5_compareOne_45 rfl (lv_at hl 3 rfl) ?_
  refine lv_bipush (v := 6) hx hb dX5_compareOne_46 (by decide) ?_
  obtain ⟨σ9, v10, g9, hf⟩ := zbi_use hf
  refine z_callVi (As := [.int 6]) (rest := [.int 6, .ref (ad 7)]) hC hI (cX5_pairAt_met st l D ad cy σ5 6 _ g9) (zgV zw21_15 zw21_16 zw21_17 zw2_21 zw21_18) rfl ⟨rfl, rfl⟩ 1 hdX5_pairAt ⟨Nat.le_of_ble_eq_true rfl, Nat.le_of_ble_eq_true rfl⟩ rfl rfl (wC_e7 ad cy σ5) rfl hl rfl (Nat.le_of_ble_eq_true rfl) dX5_compareOne_48 ⟨Nat.zero_le _, Nat.zero_le _⟩ (fun H locs hI => ?_)
  refine lv_iload_n hx hb dX5_compareOne_51 rfl (lv_at hl 4 rfl) ?_
  refine lv_iadd hx hb dX5_compareOne_52 ?_
  obtain ⟨σ11, g11, hf⟩ := zbu_use hf
  refine z_callVu (As := [.int 6, .int (v10 + x1)]) (rest := []) hC hI (cX5_putPairAt_met st l D ad cy σ9 6 (v10 + x1) _ g11) (zgV zw24_16 zw24_17 zw24_18 zw2_21 zw24_19) rfl ⟨rfl, rfl⟩ 2 hdX5_putPairAt ⟨Nat.le_of_ble_eq_true rfl, Nat.le_of_ble_eq_true rfl⟩ rfl rfl (wC_e7 ad cy σ9) rfl hl rfl (Nat.le_of_ble_eq_true rfl) dX5_compareOne_53 ⟨Nat.zero_le _, Nat.zero_le _⟩ (fun H locs hI => ?_)
  refine lv_aload_n hx hb dX5_compareOne_56 rfl (lv_at hl 3 rfl) ?_
  refine lv_iconst (v := 2) hx hb dX5_compareOne_57 (by decide) ?_
  refine lv_aload_n hx hb dX5_compareOne_58 rfl (lv_at hl 3 rfl) ?_
  refine lv_iconst (v := 2) hx hb dX5_compareOne_59 (by decide) ?_
  obtain ⟨σ12, v13, g12, hf⟩ := zbi_use hf
  refine z_callVi (As := [.int 2]) (rest := [.int 2, .ref (ad 7)]) hC hI (cX5_pairAt_met st l D ad cy σ11 2 _ g12) (zgV zw21_15 zw21_16 zw21_17 zw2_21 zw21_18) rfl ⟨rfl, rfl⟩ 1 hdX5_pairAt ⟨Nat.le_of_ble_eq_true rfl, Nat.le_of_ble_eq_true rfl⟩ rfl rfl (wC_e7 ad cy σ11) rfl hl rfl (Nat.le_of_ble_eq_true rfl) dX5_compareOne_60 ⟨Nat.zero_le _, Nat.zero_le _⟩ (fun H locs hI => ?_)
  refine lv_iconst (v := 1) hx hb dX5_compareOne_63 (by decide) ?_
  refine lv_isub hx hb dX5_compareOne_64 ?_
  obtain ⟨σ14, g14, hf⟩ := zbu_use hf
  refine z_callVu (As := [.int 2, .int (v13 - 1)]) (rest := []) hC hI (cX5_putPairAt_met st l D ad cy σ12 2 (v13 - 1) _ g14) (zgV zw24_16 zw24_17 zw24_18 zw2_21 zw24_19) rfl ⟨rfl, rfl⟩ 2 hdX5_putPairAt ⟨Nat.le_of_ble_eq_true rfl, Nat.le_of_ble_eq_true rfl⟩ rfl rfl (wC_e7 ad cy σ12) rfl hl rfl (Nat.le_of_ble_eq_true rfl) dX5_compareOne_65 ⟨Nat.zero_le _, Nat.zero_le _⟩ (fun H locs hI => ?_)
  refine lv_aload_n hx hb dX5_compareOne_68 rfl (lv_at hl 3 rfl) ?_
  refine z_get hC hI hinX5_compareOne_X50 7 (wC_e7 ad cy σ14) rfl 2 (by decide) (List.mem_cons_of_mem _ zw7_5) rfl dX5_compareOne_69 ?_
  refine lv_bipush (v := 20) hx hb dX5_compareOne_72 (by decide) ?_
  refine lv_aload_n hx hb dX5_compareOne_74 rfl (lv_at hl 3 rfl) ?_
  refine z_get hC hI hinX5_compareOne_X50 7 (wC_e7 ad cy σ14) rfl 2 (by decide) (List.mem_cons_of_mem _ zw7_5) rfl dX5_compareOne_75 ?_
  refine lv_bipush (v := 20) hx hb dX5_compareOne_78 (by decide) ?_
  obtain ⟨q, hf⟩ := zck_use hf
  refine z_iald hC hI 36 23 (wC_e36 ad cy σ14) (tC_t36 cy) q dX5_compareOne_80 ?_
  refine lv_iload_n hx hb dX5_compareOne_81 rfl (lv_at hl 4 rfl) ?_
  refine lv_iadd hx hb dX5_compareOne_82 ?_
  refine lv_ldc (v := 65535) hx hb hC.2.2.2.1 (hC.2.2.2.2.1 _ (List.mem_cons_of_mem _ zw20_6)) dX5_compareOne_83 ?_
  refine lv_iand hx hb dX5_compareOne_85 ?_
  obtain ⟨q, hf⟩ := zck_use hf
  obtain ⟨σ15, eσ15⟩ : ∃ z, z = zsi σ14 36 ((20 : Int32).toNatClampNeg) (((zgi σ14 36 (20 : Int32).toNatClampNeg) + x1) &&& 65535) := ⟨_, rfl⟩
  replace hf := zbv_use eσ15 hf
  refine z_iast hC hI 36 23 (wC_e36 ad cy σ14) (tC_t36 cy) q ((wC_s36 ad cy σ14 _ _).trans (congrArg (wC ad cy) eσ15.symm)) dX5_compareOne_86 (fun H locs hI => ?_)
  refine lv_aload_n hx hb dX5_compareOne_87 rfl (lv_at hl 3 rfl) ?_
  refine lv_iconst (v := 2) hx hb dX5_compareOne_88 (by decide) ?_
  obtain ⟨σ16, v17, g16, hf⟩ := zbi_use hf
  refine z_callVi (As := [.int 2]) (rest := []) hC hI (cX5_pairAt_met st l D ad cy σ15 2 _ g16) (zgV zw21_15 zw21_16 zw21_17 zw2_21 zw21_18) rfl ⟨rfl, rfl⟩ 1 hdX5_pairAt ⟨Nat.le_of_ble_eq_true rfl, Nat.le_of_ble_eq_true rfl⟩ rfl rfl (wC_e7 ad cy σ15) rfl hl rfl (Nat.le_of_ble_eq_true rfl) dX5_compareOne_89 ⟨Nat.zero_le _, Nat.zero_le _⟩ (fun H locs hI => ?_)
  refine lv_if_eq (tgt := 99) hx hb dX5_compareOne_92 (by decide) (fun q => ?_) (fun q => ?_)
  · replace hf := zif_t q hf
    refine lv_iconst (v := 0) hx hb dX5_compareOne_99 (by decide) ?_
    exact bX5_compareOne_100 hC  hI (lv_sub hl [3, 1, 0] rfl) hf
  replace hf := zif_f q hf
  refine lv_iconst (v := 1) hx hb dX5_compareOne_95 (by decide) ?_
  refine lv_goto (tgt := 100) hx hb dX5_compareOne_96 (by decide) ?_
  exact bX5_compareOne_100 hC  hI (lv_sub hl [3, 1, 0] rfl) hf
set_option maxRecDepth 20000 in
theorem cX5_compareOne_met (st : Nat → Nat) (l : Launch) (D : va_G) (ad : Nat → Nat) (cy : Nat → ClassId) (σ : zSt) (x1 : Int32) (res : zSt × Int32) (hf : fX5_compareOne σ x1 = some res) (sz : Nat) : zMi st l yX5_compareOne wzX5_compareOne rmX5_compareOne [.ref (ad 7), .int x1] D (tC cy) (wC ad cy) sz σ res :=
  zMi.of (cc := cX5_compareOne) (maxL := 7) (ret := (some .boolean)) (by decide) rfl (Nat.le_of_ble_eq_true rfl) (fun p e s m args below meth c hC A hI ls hl => bX5_compareOne hC hI hl hf)
theorem hdX5_compareOne : yX5_compareOne.cls = RX5 ∧ yX5_compareOne.cls ≠ "java/lang/invoke/MethodHandle" ∧ yX5_compareOne.cls ≠ "java/lang/invoke/VarHandle" ∧ (parseMethodDescriptor yX5_compareOne.desc).map (fun d => d.parameters.length) = some 1 := by decide +kernel
def rmX5_copyOne : Room := { frames := 2, cells := 0, slots := 0, locals := 47 }
def wzX5_copyOne : List Cond := .code yX5_copyOne cX5_copyOne 5 (some .boolean) :: wsL_law
theorem hinX5_copyOne_X50 : ∀ w ∈ wsX50, w ∈ wzX5_copyOne := fun w h => List.mem_cons_of_mem _ (inlX5 w h)
def fX5_copyOne_126  (σ : zSt) (x3 : Int32) (s0 : Int32) (s1 : Int32) (s2 : Int32) : Option (zSt × Int32) :=
  zck (zin s2 29) (zbv (zsi σ 36 (s2.toNatClampNeg) (s1 ||| s0)) (fun σ1 =>
  zck (zbo x3) (some (σ1, x3))))
def fX5_copyOne_78  (σ : zSt) (x2 : Int32) (s0 : Int32) : Option (zSt × Int32) :=
  zck (zin 0 29) (
  zbv ((zgi σ 36 (0 : Int32).toNatClampNeg) + x2) (fun v2 =>
  zck (zin 1 29) (
  if s0 = 0 then fX5_copyOne_126 σ s0 0 ((((zgi σ 36 (1 : Int32).toNatClampNeg) &&& 193) ||| ((v2 &&& 2) <<< ((4 : Int32) &&& 31))) ||| (v2 &&& 8)) 1 else
  fX5_copyOne_126 σ s0 4 ((((zgi σ 36 (1 : Int32).toNatClampNeg) &&& 193) ||| ((v2 &&& 2) <<< ((4 : Int32) &&& 31))) ||| (v2 &&& 8)) 1)))
def fX5_copyOne  (σ : zSt) (x1 : Int32) : Option (zSt × Int32) :=
  zbi (fX5_pairAt σ 6) (fun σ3 v4 =>
  zbi (fX2_read σ3 v4) (fun σ5 v6 =>
  zbi (fX5_pairAt σ5 4) (fun σ7 v8 =>
  zbu (fX2_write σ7 v8 v6) (fun σ9 =>
  zbi (fX5_pairAt σ9 6) (fun σ10 v11 =>
  zbu (fX5_putPairAt σ10 6 (v11 + x1)) (fun σ12 =>
  zbi (fX5_pairAt σ12 4) (fun σ13 v14 =>
  zbu (fX5_putPairAt σ13 4 (v14 + x1)) (fun σ15 =>
  zbi (fX5_pairAt σ15 2) (fun σ16 v17 =>
  zbu (fX5_putPairAt σ16 2 (v17 - 1)) (fun σ18 =>
  zbi (fX5_pairAt σ18 2) (fun σ19 v20 =>
  if v20 = 0 then fX5_copyOne_78 σ19 v6 0 else
  fX5_copyOne_78 σ19 v6 1)))))))))))
set_option maxRecDepth 20000 in
set_option maxHeartbeats 4000000 in
theorem bX5_copyOne_126 {st : Nat → Nat} {p : Program} {l : Launch} {e : Env} {s : State} {m : MethodId} {args : Array Value} {below : List Frame} {meth : Method} {c : Code} {D : va_G} {A : Nat → Prop} {ad : Nat → Nat} {cy : Nat → ClassId} (hC : zC p m c cX5_copyOne 5 s args wzX5_copyOne RX5 meth (some .boolean))  {res : zSt × Int32} {H : Heap} {locs : List Loc} {σ : zSt} {ls : Array Slot} {x3 : Int32} {s0 : Int32} {s1 : Int32} {s2 : Int32} (hI : zI st D (tC cy) (wC ad cy σ) A s H locs) (hl : lv_has ls 5 [(3, .int x3)]) (hf : fX5_copyOne_126  σ x3 s0 s1 s2 = some res) : W p l e rmX5_copyOne s m args below meth c H locs 0 0 (zQi below args s D (tC cy) (wC ad cy) A res) (F0 m 126 ls [.int s0, .int s1, .int s2, .ref (ad 36)]) := by
  have hx := hC.1
  have hb := hC.2.1
  unfold fX5_copyOne_126 at hf
  refine lv_ior hx hb dX5_copyOne_126 ?_
  obtain ⟨q, hf⟩ := zck_use hf
  obtain ⟨σ1, eσ1⟩ : ∃ z, z = zsi σ 36 (s2.toNatClampNeg) (s1 ||| s0) := ⟨_, rfl⟩
  replace hf := zbv_use eσ1 hf
  refine z_iast hC hI 36 23 (wC_e36 ad cy σ) (tC_t36 cy) q ((wC_s36 ad cy σ _ _).trans (congrArg (wC ad cy) eσ1.symm)) dX5_copyOne_127 (fun H locs hI => ?_)
  refine lv_iload_n hx hb dX5_copyOne_128 rfl (lv_at hl 0 rfl) ?_
  obtain ⟨q, hf⟩ := zck_use hf
  exact z_zreturn hC hI (zbo_n q) hf dX5_copyOne_129
set_option maxRecDepth 20000 in
set_option maxHeartbeats 4000000 in
theorem bX5_copyOne_78 {st : Nat → Nat} {p : Program} {l : Launch} {e : Env} {s : State} {m : MethodId} {args : Array Value} {below : List Frame} {meth : Method} {c : Code} {D : va_G} {A : Nat → Prop} {ad : Nat → Nat} {cy : Nat → ClassId} (hC : zC p m c cX5_copyOne 5 s args wzX5_copyOne RX5 meth (some .boolean))  {res : zSt × Int32} {H : Heap} {locs : List Loc} {σ : zSt} {ls : Array Slot} {x2 : Int32} {s0 : Int32} (hI : zI st D (tC cy) (wC ad cy σ) A s H locs) (hl : lv_has ls 5 [(0, .ref (ad 7)), (2, .int x2)]) (hf : fX5_copyOne_78  σ x2 s0 = some res) : W p l e rmX5_copyOne s m args below meth c H locs 0 0 (zQi below args s D (tC cy) (wC ad cy) A res) (F0 m 78 ls [.int s0]) := by
  have hx := hC.1
  have hb := hC.2.1
  unfold fX5_copyOne_78 at hf
  refine lv_istore_n (lv' := [(3, .int s0), (0, .ref (ad 7)), (2, .int x2)]) hx hb dX5_copyOne_78 rfl hl (by decide) rfl (fun ls hl => ?_)
  refine lv_aload_n hx hb dX5_copyOne_79 rfl (lv_at hl 1 rfl) ?_
  refine z_get hC hI hinX5_copyOne_X50 7 (wC_e7 ad cy σ) rfl 2 (by decide) (List.mem_cons_of_mem _ zw7_5) rfl dX5_copyOne_80 ?_
  refine lv_iconst (v := 0) hx hb dX5_copyOne_83 (by decide) ?_
  obtain ⟨q, hf⟩ := zck_use hf
  refine z_iald hC hI 36 23 (wC_e36 ad cy σ) (tC_t36 cy) q dX5_copyOne_84 ?_
  refine lv_iload_n hx hb dX5_copyOne_85 rfl (lv_at hl 2 rfl) ?_
  refine lv_iadd hx hb dX5_copyOne_86 ?_
  refine lv_topi (fun v2 ev2 => ?_)
  replace hf := zbv_use ev2 hf
  refine lv_istore (lv' := [(4, .int v2), (3, .int s0), (0, .ref (ad 7)), (2, .int x2)]) hx hb dX5_copyOne_87 hl (by decide) rfl (fun ls hl => ?_)
  refine lv_aload_n hx hb dX5_copyOne_89 rfl (lv_at hl 2 rfl) ?_
  refine z_get hC hI hinX5_copyOne_X50 7 (wC_e7 ad cy σ) rfl 2 (by decide) (List.mem_cons_of_mem _ zw7_5) rfl dX5_copyOne_90 ?_
  refine lv_iconst (v := 1) hx hb dX5_copyOne_93 (by decide) ?_
  refine lv_aload_n hx hb dX5_copyOne_94 rfl (lv_at hl 2 rfl) ?_
  refine z_get hC hI hinX5_copyOne_X50 7 (wC_e7 ad cy σ) rfl 2 (by decide) (List.mem_cons_of_mem _ zw7_5) rfl dX5_copyOne_95 ?_
  refine lv_iconst (v := 1) hx hb dX5_copyOne_98 (by decide) ?_
  obtain ⟨q, hf⟩ := zck_use hf
  refine z_iald hC hI 36 23 (wC_e36 ad cy σ) (tC_t36 cy) q dX5_copyOne_99 ?_
  refine lv_sipush (v := 193) hx hb dX5_copyOne_100 (by decide) ?_
  refine lv_iand hx hb dX5_copyOne_103 ?_
  refine lv_iload hx hb dX5_copyOne_104 (lv_at hl 0 rfl) ?_
  refine lv_iconst (v := 2) hx hb dX5_copyOne_106 (by decide) ?_
  refine lv_iand hx hb dX5_copyOne_107 ?_
  refine lv_iconst (v := 4) hx hb dX5_copyOne_108 (by decide) ?_
  refine lv_ishl hx hb dX5_copyOne_109 ?_
  refine lv_ior hx hb dX5_copyOne_110 ?_
  refine lv_iload hx hb dX5_copyOne_111 (lv_at hl 0 rfl) ?_
  refine lv_bipush (v := 8) hx hb dX5_copyOne_113 (by decide) ?_
  refine lv_iand hx hb dX5_copyOne_115 ?_
  refine lv_ior hx hb dX5_copyOne_116 ?_
  refine lv_iload_n hx hb dX5_copyOne_117 rfl (lv_at hl 1 rfl) ?_
  refine lv_if_eq (tgt := 125) hx hb dX5_copyOne_118 (by decide) (fun q => ?_) (fun q => ?_)
  · replace hf := zif_t q hf
    refine lv_iconst (v := 0) hx hb dX5_copyOne_125 (by decide) ?_
    exact bX5_copyOne_126 hC  hI (lv_sub hl [1] rfl) hf
  replace hf := zif_f q hf
  refine lv_iconst (v := 4) hx hb dX5_copyOne_121 (by decide) ?_
  refine lv_goto (tgt := 126) hx hb dX5_copyOne_122 (by decide) ?_
  exact bX5_copyOne_126 hC  hI (lv_sub hl [1] rfl) hf
set_option maxRecDepth 20000 in
set_option maxHeartbeats 4000000 in
theorem bX5_copyOne {st : Nat → Nat} {p : Program} {l : Launch} {e : Env} {s : State} {m : MethodId} {args : Array Value} {below : List Frame} {meth : Method} {c : Code} {D : va_G} {A : Nat → Prop} {ad : Nat → Nat} {cy : Nat → ClassId} (hC : zC p m c cX5_copyOne 5 s args wzX5_copyOne RX5 meth (some .boolean))  {res : zSt × Int32} {H : Heap} {locs : List Loc} {σ : zSt} {ls : Array Slot} {x1 : Int32} (hI : zI st D (tC cy) (wC ad cy σ) A s H locs) (hl : lv_has ls 5 [(0, .ref (ad 7)), (1, .int x1)]) (hf : fX5_copyOne  σ x1 = some res) : W p l e rmX5_copyOne s m args below meth c H locs 0 0 (zQi below args s D (tC cy) (wC ad cy) A res) (F0 m 0 ls []) := by
  have hx := hC.1
  have hb := hC.2.1
  unfold fX5_copyOne at hf
  refine lv_aload_n hx hb dX5_copyOne_0 rfl (lv_at hl 0 rfl) ?_
  refine z_get hC hI hinX5_copyOne_X50 7 (wC_e7 ad cy σ) rfl 0 (by decide) (List.mem_cons_of_mem _ zw7_8) rfl dX5_copyOne_1 ?_
  refine lv_aload_n hx hb dX5_copyOne_4 rfl (lv_at hl 0 rfl) ?_
  refine lv_bipush (v := 6) hx hb dX5_copyOne_5 (by decide) ?_
  obtain ⟨σ3, v4, g3, hf⟩ := zbi_use hf
  refine z_callVi (As := [.int 6]) (rest := [.ref (ad 1)]) hC hI (cX5_pairAt_met st l D ad cy σ 6 _ g3) (zgV zw21_15 zw21_16 zw21_17 zw2_21 zw21_18) rfl ⟨rfl, rfl⟩ 1 hdX5_pairAt ⟨Nat.le_of_ble_eq_true rfl, Nat.le_of_ble_eq_true rfl⟩ rfl rfl (wC_e7 ad cy σ) rfl hl rfl (Nat.le_of_ble_eq_true rfl) dX5_copyOne_7 ⟨Nat.zero_le _, Nat.zero_le _⟩ (fun H locs hI => ?_)
  obtain ⟨σ5, v6, g5, hf⟩ := zbi_use hf
  refine z_callVi (As := [.int v4]) (rest := []) hC hI (cX2_read_met st l D ad cy σ3 v4 _ g5) (zgV zw21_6 zw21_7 zw21_8 zw1_21 zw21_9) rfl ⟨rfl, rfl⟩ 1 hdX2_read ⟨Nat.le_of_ble_eq_true rfl, Nat.le_of_ble_eq_true rfl⟩ rfl rfl (wC_e1 ad cy σ3) rfl hl rfl (Nat.le_of_ble_eq_true rfl) dX5_copyOne_10 ⟨Nat.zero_le _, Nat.zero_le _⟩ (fun H locs hI => ?_)
  refine lv_istore_n (lv' := [(2, .int v6), (0, .ref (ad 7)), (1, .int x1)]) hx hb dX5_copyOne_13 rfl hl (by decide) rfl (fun ls hl => ?_)
  refine lv_aload_n hx hb dX5_copyOne_14 rfl (lv_at hl 1 rfl) ?_
  refine z_get hC hI hinX5_copyOne_X50 7 (wC_e7 ad cy σ5) rfl 0 (by decide) (List.mem_cons_of_mem _ zw7_8) rfl dX5_copyOne_15 ?_
  refine lv_aload_n hx hb dX5_copyOne_18 rfl (lv_at hl 1 rfl) ?_
  refine lv_iconst (v := 4) hx hb dX5_copyOne_19 (by decide) ?_
  obtain ⟨σ7, v8, g7, hf⟩ := zbi_use hf
  refine z_callVi (As := [.int 4]) (rest := [.ref (ad 1)]) hC hI (cX5_pairAt_met st l D ad cy σ5 4 _ g7) (zgV zw21_15 zw21_16 zw21_17 zw2_21 zw21_18) rfl ⟨rfl, rfl⟩ 1 hdX5_pairAt ⟨Nat.le_of_ble_eq_true rfl, Nat.le_of_ble_eq_true rfl⟩ rfl rfl (wC_e7 ad cy σ5) rfl hl rfl (Nat.le_of_ble_eq_true rfl) dX5_copyOne_20 ⟨Nat.zero_le _, Nat.zero_le _⟩ (fun H locs hI => ?_)
  refine lv_iload_n hx hb dX5_copyOne_23 rfl (lv_at hl 0 rfl) ?_
  obtain ⟨σ9, g9, hf⟩ := zbu_use hf
  refine z_callVu (As := [.int v8, .int v6]) (rest := []) hC hI (cX2_write_met st l D ad cy σ7 v8 v6 _ g9) (zgV zw20_7 zw20_8 zw20_9 zw1_21 zw20_10) rfl ⟨rfl, rfl⟩ 2 hdX2_write ⟨Nat.le_of_ble_eq_true rfl, Nat.le_of_ble_eq_true rfl⟩ rfl rfl (wC_e1 ad cy σ7) rfl hl rfl (Nat.le_of_ble_eq_true rfl) dX5_copyOne_24 ⟨Nat.zero_le _, Nat.zero_le _⟩ (fun H locs hI => ?_)
  refine lv_aload_n hx hb dX5_copyOne_27 rfl (lv_at hl 1 rfl) ?_
  refine lv_bipush (v := 6) hx hb dX5_copyOne_28 (by decide) ?_
  refine lv_aload_n hx hb dX5_copyOne_30 rfl (lv_at hl 1 rfl) ?_
  refine lv_bipush (v := 6) hx hb dX5_copyOne_31 (by decide) ?_
  obtain ⟨σ10, v11, g10, hf⟩ := zbi_use hf
  refine z_callVi (As := [.int 6]) (rest := [.int 6, .ref (ad 7)]) hC hI (cX5_pairAt_met st l D ad cy σ9 6 _ g10) (zgV zw21_15 zw21_16 zw21_17 zw2_21 zw21_18) rfl ⟨rfl, rfl⟩ 1 hdX5_pairAt ⟨Nat.le_of_ble_eq_true rfl, Nat.le_of_ble_eq_true rfl⟩ rfl rfl (wC_e7 ad cy σ9) rfl hl rfl (Nat.le_of_ble_eq_true rfl) dX5_copyOne_33 ⟨Nat.zero_le _, Nat.zero_le _⟩ (fun H locs hI => ?_)
  refine lv_iload_n hx hb dX5_copyOne_36 rfl (lv_at hl 2 rfl) ?_
  refine lv_iadd hx hb dX5_copyOne_37 ?_
  obtain ⟨σ12, g12, hf⟩ := zbu_use hf
  refine z_callVu (As := [.int 6, .int (v11 + x1)]) (rest := []) hC hI (cX5_putPairAt_met st l D ad cy σ10 6 (v11 + x1) _ g12) (zgV zw24_16 zw24_17 zw24_18 zw2_21 zw24_19) rfl ⟨rfl, rfl⟩ 2 hdX5_putPairAt ⟨Nat.le_of_ble_eq_true rfl, Nat.le_of_ble_eq_true rfl⟩ rfl rfl (wC_e7 ad cy σ10) rfl hl rfl (Nat.le_of_ble_eq_true rfl) dX5_copyOne_38 ⟨Nat.zero_le _, Nat.zero_le _⟩ (fun H locs hI => ?_)
  refine lv_aload_n hx hb dX5_copyOne_41 rfl (lv_at hl 1 rfl) ?_
  refine lv_iconst (v := 4) hx hb dX5_copyOne_42 (by decide) ?_
  refine lv_aload_n hx hb dX5_copyOne_43 rfl (lv_at hl 1 rfl) ?_
  refine lv_iconst (v := 4) hx hb dX5_copyOne_44 (by decide) ?_
  obtain ⟨σ13, v14, g13, hf⟩ := zbi_use hf
  refine z_callVi (As := [.int 4]) (rest := [.int 4, .ref (ad 7)]) hC hI (cX5_pairAt_met st l D ad cy σ12 4 _ g13) (zgV zw21_15 zw21_16 zw21_17 zw2_21 zw21_18) rfl ⟨rfl, rfl⟩ 1 hdX5_pairAt ⟨Nat.le_of_ble_eq_true rfl, Nat.le_of_ble_eq_true rfl⟩ rfl rfl (wC_e7 ad cy σ12) rfl hl rfl (Nat.le_of_ble_eq_true rfl) dX5_copyOne_45 ⟨Nat.zero_le _, Nat.zero_le _⟩ (fun H locs hI => ?_)
  refine lv_iload_n hx hb dX5_copyOne_48 rfl (lv_at hl 2 rfl) ?_
  refine lv_iadd hx hb dX5_copyOne_49 ?_
  obtain ⟨σ15, g15, hf⟩ := zbu_use hf
  refine z_callVu (As := [.int 4, .int (v14 + x1)]) (rest := []) hC hI (cX5_putPairAt_met st l D ad cy σ13 4 (v14 + x1) _ g15) (zgV zw24_16 zw24_17 zw24_18 zw2_21 zw24_19) rfl ⟨rfl, rfl⟩ 2 hdX5_putPairAt ⟨Nat.le_of_ble_eq_true rfl, Nat.le_of_ble_eq_true rfl⟩ rfl rfl (wC_e7 ad cy σ13) rfl hl rfl (Nat.le_of_ble_eq_true rfl) dX5_copyOne_50 ⟨Nat.zero_le _, Nat.zero_le _⟩ (fun H locs hI => ?_)
  refine lv_aload_n hx hb dX5_copyOne_53 rfl (lv_at hl 1 rfl) ?_
  refine lv_iconst (v := 2) hx hb dX5_copyOne_54 (by decide) ?_
  refine lv_aload_n hx hb dX5_copyOne_55 rfl (lv_at hl 1 rfl) ?_
  refine lv_iconst (v := 2) hx hb dX5_copyOne_56 (by decide) ?_
  obtain ⟨σ16, v17, g16, hf⟩ := zbi_use hf
  refine z_callVi (As := [.int 2]) (rest := [.int 2, .ref (ad 7)]) hC hI (cX5_pairAt_met st l D ad cy σ15 2 _ g16) (zgV zw21_15 zw21_16 zw21_17 zw2_21 zw21_18) rfl ⟨rfl, rfl⟩ 1 hdX5_pairAt ⟨Nat.le_of_ble_eq_true rfl, Nat.le_of_ble_eq_true rfl⟩ rfl rfl (wC_e7 ad cy σ15) rfl hl rfl (Nat.le_of_ble_eq_true rfl) dX5_copyOne_57 ⟨Nat.zero_le _, Nat.zero_le _⟩ (fun H locs hI => ?_)
  refine lv_iconst (v := 1) hx hb dX5_copyOne_60 (by decide) ?_
  refine lv_isub hx hb dX5_copyOne_61 ?_
  obtain ⟨σ18, g18, hf⟩ := zbu_use hf
  refine z_callVu (As := [.int 2, .int (v17 - 1)]) (rest := []) hC hI (cX5_putPairAt_met st l D ad cy σ16 2 (v17 - 1) _ g18) (zgV zw24_16 zw24_17 zw24_18 zw2_21 zw24_19) rfl ⟨rfl, rfl⟩ 2 hdX5_putPairAt ⟨Nat.le_of_ble_eq_true rfl, Nat.le_of_ble_eq_true rfl⟩ rfl rfl (wC_e7 ad cy σ16) rfl hl rfl (Nat.le_of_ble_eq_true rfl) dX5_copyOne_62 ⟨Nat.zero_le _, Nat.zero_le _⟩ (fun H locs hI => ?_)
  refine lv_aload_n hx hb dX5_copyOne_65 rfl (lv_at hl 1 rfl) ?_
  refine lv_iconst (v := 2) hx hb dX5_copyOne_66 (by decide) ?_
  obtain ⟨σ19, v20, g19, hf⟩ := zbi_use hf
  refine z_callVi (As := [.int 2]) (rest := []) hC hI (cX5_pairAt_met st l D ad cy σ18 2 _ g19) (zgV zw21_15 zw21_16 zw21_17 zw2_21 zw21_18) rfl ⟨rfl, rfl⟩ 1 hdX5_pairAt ⟨Nat.le_of_ble_eq_true rfl, Nat.le_of_ble_eq_true rfl⟩ rfl rfl (wC_e7 ad cy σ18) rfl hl rfl (Nat.le_of_ble_eq_true rfl) dX5_copyOne_67 ⟨Nat.zero_le _, Nat.zero_le _⟩ (fun H locs hI => ?_)
  refine lv_if_eq (tgt := 77) hx hb dX5_copyOne_70 (by decide) (fun q => ?_) (fun q => ?_)
  · replace hf := zif_t q hf
    refine lv_iconst (v := 0) hx hb dX5_copyOne_77 (by decide) ?_
    exact bX5_copyOne_78 hC  hI (lv_sub hl [1, 0] rfl) hf
  replace hf := zif_f q hf
  refine lv_iconst (v := 1) hx hb dX5_copyOne_73 (by decide) ?_
  refine lv_goto (tgt := 78) hx hb dX5_copyOne_74 (by decide) ?_
  exact bX5_copyOne_78 hC  hI (lv_sub hl [1, 0] rfl) hf
set_option maxRecDepth 20000 in
theorem cX5_copyOne_met (st : Nat → Nat) (l : Launch) (D : va_G) (ad : Nat → Nat) (cy : Nat → ClassId) (σ : zSt) (x1 : Int32) (res : zSt × Int32) (hf : fX5_copyOne σ x1 = some res) (sz : Nat) : zMi st l yX5_copyOne wzX5_copyOne rmX5_copyOne [.ref (ad 7), .int x1] D (tC cy) (wC ad cy) sz σ res :=
  zMi.of (cc := cX5_copyOne) (maxL := 5) (ret := (some .boolean)) (by decide) rfl (Nat.le_of_ble_eq_true rfl) (fun p e s m args below meth c hC A hI ls hl => bX5_copyOne hC hI hl hf)
theorem hdX5_copyOne : yX5_copyOne.cls = RX5 ∧ yX5_copyOne.cls ≠ "java/lang/invoke/MethodHandle" ∧ yX5_copyOne.cls ≠ "java/lang/invoke/VarHandle" ∧ (parseMethodDescriptor yX5_copyOne.desc).map (fun d => d.parameters.length) = some 1 := by decide +kernel
def rmX5_block : Room := { frames := 4, cells := 0, slots := 0, locals := 91 }
def wzX5_block : List Cond := .code yX5_block cX5_block 4 (some .int) :: wsL_law
theorem hinX5_block_X50 : ∀ w ∈ wsX50, w ∈ wzX5_block := fun w h => List.mem_cons_of_mem _ (inlX5 w h)
def fX5_block_88  (σ : zSt)  : Option (zSt × Int32) :=
  some (σ, 16)
def fX5_block_135  (σ : zSt)  : Option (zSt × Int32) :=
  some (σ, 21)
def fX5_block_77  (σ : zSt) (x1 : Int32) (x3 : Int32) : Option (zSt × Int32) :=
  if x3 = 0 then fX5_block_88 σ else
  if (x1 &&& 16) = 0 then fX5_block_88 σ else
  zck (zin 19 29) (
  zck (zin 19 29) (zbv (zsi σ 36 ((19 : Int32).toNatClampNeg) (((zgi σ 36 (19 : Int32).toNatClampNeg) - 2) &&& 65535)) (fun σ1 =>
  if (x1 &&& 2) = 0 then zck (zin 19 29) (
  zck (zin 20 29) (zbv (zsi σ1 36 ((20 : Int32).toNatClampNeg) (((zgi σ1 36 (19 : Int32).toNatClampNeg) + 1) &&& 65535)) (fun σ2 =>
  fX5_block_135 σ2))) else
  fX5_block_135 σ1)))
def fX5_block_12  (σ : zSt) (x1 : Int32) (s0 : Int32) : Option (zSt × Int32) :=
  if (x1 &&& 3) = 0 then zbi (fX5_copyOne σ s0) (fun σ3 v4 =>
  fX5_block_77 σ3 x1 v4) else
  if (x1 &&& 3) = 1 then zbi (fX5_compareOne σ s0) (fun σ5 v6 =>
  fX5_block_77 σ5 x1 v6) else
  if (x1 &&& 3) = 2 then zbi (fX5_takeOne σ s0) (fun σ7 v8 =>
  fX5_block_77 σ7 x1 v8) else
  zbi (fX5_giveOne σ s0) (fun σ9 v10 =>
  fX5_block_77 σ9 x1 v10)
def fX5_block  (σ : zSt) (x1 : Int32) : Option (zSt × Int32) :=
  if (x1 &&& 8) = 0 then fX5_block_12 σ x1 1 else
  fX5_block_12 σ x1 (-1)
set_option maxRecDepth 20000 in
set_option maxHeartbeats 4000000 in
theorem bX5_block_88 {st : Nat → Nat} {p : Program} {l : Launch} {e : Env} {s : State} {m : MethodId} {args : Array Value} {below : List Frame} {meth : Method} {c : Code} {D : va_G} {A : Nat → Prop} {ad : Nat → Nat} {cy : Nat → ClassId} (hC : zC p m c cX5_block 4 s args wzX5_block RX5 meth (some .int))  {res : zSt × Int32} {H : Heap} {locs : List Loc} {σ : zSt} {ls : Array Slot}  (hI : zI st D (tC cy) (wC ad cy σ) A s H locs) (hl : lv_has ls 4 []) (hf : fX5_block_88  σ  = some res) : W p l e rmX5_block s m args below meth c H locs 0 0 (zQi below args s D (tC cy) (wC ad cy) A res) (F0 m 88 ls []) := by
  have hx := hC.1
  have hb := hC.2.1
  unfold fX5_block_88 at hf
  refine lv_bipush (v := 16) hx hb dX5_block_88 (by decide) ?_
  exact z_ireturn hC hI hf dX5_block_90
set_option maxRecDepth 20000 in
set_option maxHeartbeats 4000000 in
theorem bX5_block_135 {st : Nat → Nat} {p : Program} {l : Launch} {e : Env} {s : State} {m : MethodId} {args : Array Value} {below : List Frame} {meth : Method} {c : Code} {D : va_G} {A : Nat → Prop} {ad : Nat → Nat} {cy : Nat → ClassId} (hC : zC p m c cX5_block 4 s args wzX5_block RX5 meth (some .int))  {res : zSt × Int32} {H : Heap} {locs : List Loc} {σ : zSt} {ls : Array Slot}  (hI : zI st D (tC cy) (wC ad cy σ) A s H locs) (hl : lv_has ls 4 []) (hf : fX5_block_135  σ  = some res) : W p l e rmX5_block s m args below meth c H locs 0 0 (zQi below args s D (tC cy) (wC ad cy) A res) (F0 m 135 ls []) := by
  have hx := hC.1
  have hb := hC.2.1
  unfold fX5_block_135 at hf
  refine lv_bipush (v := 21) hx hb dX5_block_135 (by decide) ?_
  exact z_ireturn hC hI hf dX5_block_137
set_option maxRecDepth 20000 in
set_option maxHeartbeats 4000000 in
theorem bX5_block_77 {st : Nat → Nat} {p : Program} {l : Launch} {e : Env} {s : State} {m : MethodId} {args : Array Value} {below : List Frame} {meth : Method} {c : Code} {D : va_G} {A : Nat → Prop} {ad : Nat → Nat} {cy : Nat → ClassId} (hC : zC p m c cX5_block 4 s args wzX5_block RX5 meth (some .int))  {res : zSt × Int32} {H : Heap} {locs : List Loc} {σ : zSt} {ls : Array Slot} {x1 : Int32} {x3 : Int32} (hI : zI st D (tC cy) (wC ad cy σ) A s H locs) (hl : lv_has ls 4 [(0, .ref (ad 7)), (1, .int x1), (3, .int x3)]) (hf : fX5_block_77  σ x1 x3 = some res) : W p l e rmX5_block s m args below meth c H locs 0 0 (zQi below args s D (tC cy) (wC ad cy) A res) (F0 m 77 ls []) := by
  have hx := hC.1
  have hb := hC.2.1
  unfold fX5_block_77 at hf
  refine lv_iload_n hx hb dX5_block_77 rfl (lv_at hl 2 rfl) ?_
  refine lv_if_eq (tgt := 88) hx hb dX5_block_78 (by decide) (fun q => ?_) (fun q => ?_)
  · replace hf := zif_t q hf
    exact bX5_block_88 hC  hI (lv_sub hl [] rfl) hf
  replace hf := zif_f q hf
  refine lv_iload_n hx hb dX5_block_81 rfl (lv_at hl 1 rfl) ?_
  refine lv_bipush (v := 16) hx hb dX5_block_82 (by decide) ?_
  refine lv_iand hx hb dX5_block_84 ?_
  refine lv_if_ne (tgt := 91) hx hb dX5_block_85 (by decide) (fun q => ?_) (fun q => ?_)
  · replace hf := zif_f q hf
    refine lv_aload_n hx hb dX5_block_91 rfl (lv_at hl 0 rfl) ?_
    refine z_get hC hI hinX5_block_X50 7 (wC_e7 ad cy σ) rfl 2 (by decide) (List.mem_cons_of_mem _ zw7_5) rfl dX5_block_92 ?_
    refine lv_bipush (v := 19) hx hb dX5_block_95 (by decide) ?_
    refine lv_aload_n hx hb dX5_block_97 rfl (lv_at hl 0 rfl) ?_
    refine z_get hC hI hinX5_block_X50 7 (wC_e7 ad cy σ) rfl 2 (by decide) (List.mem_cons_of_mem _ zw7_5) rfl dX5_block_98 ?_
    refine lv_bipush (v := 19) hx hb dX5_block_101 (by decide) ?_
    obtain ⟨q, hf⟩ := zck_use hf
    refine z_iald hC hI 36 23 (wC_e36 ad cy σ) (tC_t36 cy) q dX5_block_103 ?_
    refine lv_iconst (v := 2) hx hb dX5_block_104 (by decide) ?_
    refine lv_isub hx hb dX5_block_105 ?_
    refine lv_ldc (v := 65535) hx hb hC.2.2.2.1 (hC.2.2.2.2.1 _ (List.mem_cons_of_mem _ zw20_6)) dX5_block_106 ?_
    refine lv_iand hx hb dX5_block_108 ?_
    obtain ⟨q, hf⟩ := zck_use hf
    obtain ⟨σ1, eσ1⟩ : ∃ z, z = zsi σ 36 ((19 : Int32).toNatClampNeg) (((zgi σ 36 (19 : Int32).toNatClampNeg) - 2) &&& 65535) := ⟨_, rfl⟩
    replace hf := zbv_use eσ1 hf
    refine z_iast hC hI 36 23 (wC_e36 ad cy σ) (tC_t36 cy) q ((wC_s36 ad cy σ _ _).trans (congrArg (wC ad cy) eσ1.symm)) dX5_block_109 (fun H locs hI => ?_)
    refine lv_iload_n hx hb dX5_block_110 rfl (lv_at hl 1 rfl) ?_
    refine lv_iconst (v := 2) hx hb dX5_block_111 (by decide) ?_
    refine lv_iand hx hb dX5_block_112 ?_
    refine lv_if_ne (tgt := 135) hx hb dX5_block_113 (by decide) (fun q => ?_) (fun q => ?_)
    · replace hf := zif_f q hf
      exact bX5_block_135 hC  hI (lv_sub hl [] rfl) hf
    replace hf := zif_t q hf
    refine lv_aload_n hx hb dX5_block_116 rfl (lv_at hl 0 rfl) ?_
    refine z_get hC hI hinX5_block_X50 7 (wC_e7 ad cy σ1) rfl 2 (by decide) (List.mem_cons_of_mem _ zw7_5) rfl dX5_block_117 ?_
    refine lv_bipush (v := 20) hx hb dX5_block_120 (by decide) ?_
    refine lv_aload_n hx hb dX5_block_122 rfl (lv_at hl 0 rfl) ?_
    refine z_get hC hI hinX5_block_X50 7 (wC_e7 ad cy σ1) rfl 2 (by decide) (List.mem_cons_of_mem _ zw7_5) rfl dX5_block_123 ?_
    refine lv_bipush (v := 19) hx hb dX5_block_126 (by decide) ?_
    obtain ⟨q, hf⟩ := zck_use hf
    refine z_iald hC hI 36 23 (wC_e36 ad cy σ1) (tC_t36 cy) q dX5_block_128 ?_
    refine lv_iconst (v := 1) hx hb dX5_block_129 (by decide) ?_
    refine lv_iadd hx hb dX5_block_130 ?_
    refine lv_ldc (v := 65535) hx hb hC.2.2.2.1 (hC.2.2.2.2.1 _ (List.mem_cons_of_mem _ zw20_6)) dX5_block_131 ?_
    refine lv_iand hx hb dX5_block_133 ?_
    obtain ⟨q, hf⟩ := zck_use hf
    obtain ⟨σ2, eσ2⟩ : ∃ z, z = zsi σ1 36 ((20 : Int32).toNatClampNeg) (((zgi σ1 36 (19 : Int32).toNatClampNeg) + 1) &&& 65535) := ⟨_, rfl⟩
    replace hf := zbv_use eσ2 hf
    refine z_iast hC hI 36 23 (wC_e36 ad cy σ1) (tC_t36 cy) q ((wC_s36 ad cy σ1 _ _).trans (congrArg (wC ad cy) eσ2.symm)) dX5_block_134 (fun H locs hI => ?_)
    exact bX5_block_135 hC  hI (lv_sub hl [] rfl) hf
  replace hf := zif_t q hf
  exact bX5_block_88 hC  hI (lv_sub hl [] rfl) hf
set_option maxRecDepth 20000 in
set_option maxHeartbeats 4000000 in
theorem bX5_block_12 {st : Nat → Nat} {p : Program} {l : Launch} {e : Env} {s : State} {m : MethodId} {args : Array Value} {below : List Frame} {meth : Method} {c : Code} {D : va_G} {A : Nat → Prop} {ad : Nat → Nat} {cy : Nat → ClassId} (hC : zC p m c cX5_block 4 s args wzX5_block RX5 meth (some .int))  {res : zSt × Int32} {H : Heap} {locs : List Loc} {σ : zSt} {ls : Array Slot} {x1 : Int32} {s0 : Int32} (hI : zI st D (tC cy) (wC ad cy σ) A s H locs) (hl : lv_has ls 4 [(0, .ref (ad 7)), (1, .int x1)]) (hf : fX5_block_12  σ x1 s0 = some res) : W p l e rmX5_block s m args below meth c H locs 0 0 (zQi below args s D (tC cy) (wC ad cy) A res) (F0 m 12 ls [.int s0]) := by
  have hx := hC.1
  have hb := hC.2.1
  unfold fX5_block_12 at hf
  refine lv_istore_n (lv' := [(2, .int s0), (0, .ref (ad 7)), (1, .int x1)]) hx hb dX5_block_12 rfl hl (by decide) rfl (fun ls hl => ?_)
  refine lv_iload_n hx hb dX5_block_13 rfl (lv_at hl 2 rfl) ?_
  refine lv_iconst (v := 3) hx hb dX5_block_14 (by decide) ?_
  refine lv_iand hx hb dX5_block_15 ?_
  by_cases q0 : (x1 &&& 3) = 0
  · replace hf := zif_t q0 hf
    refine lv_tableIn (tgt := 44) hx hb dX5_block_16 (by rw [q0]; decide) (by rw [q0]; decide) (by rw [q0]; rfl) (by decide) ?_
    refine lv_aload_n hx hb dX5_block_44 rfl (lv_at hl 1 rfl) ?_
    refine lv_iload_n hx hb dX5_block_45 rfl (lv_at hl 0 rfl) ?_
    obtain ⟨σ3, v4, g3, hf⟩ := zbi_use hf
    refine z_callVi (As := [.int s0]) (rest := []) hC hI (cX5_copyOne_met st l D ad cy σ s0 _ g3) (zgV zw24_12 zw24_13 zw24_14 zw2_21 zw24_15) rfl ⟨rfl, rfl⟩ 1 hdX5_copyOne ⟨Nat.le_of_ble_eq_true rfl, Nat.le_of_ble_eq_true rfl⟩ rfl rfl (wC_e7 ad cy σ) rfl hl rfl (Nat.le_of_ble_eq_true rfl) dX5_block_46 ⟨Nat.zero_le _, Nat.zero_le _⟩ (fun H locs hI => ?_)
    refine lv_istore_n (lv' := [(3, .int v4), (2, .int s0), (0, .ref (ad 7)), (1, .int x1)]) hx hb dX5_block_49 rfl hl (by decide) rfl (fun ls hl => ?_)
    refine lv_goto (tgt := 77) hx hb dX5_block_50 (by decide) ?_
    exact bX5_block_77 hC  hI (lv_sub hl [2, 3, 0] rfl) hf
  replace hf := zif_f q0 hf
  by_cases q1 : (x1 &&& 3) = 1
  · replace hf := zif_t q1 hf
    refine lv_tableIn (tgt := 53) hx hb dX5_block_16 (by rw [q1]; decide) (by rw [q1]; decide) (by rw [q1]; rfl) (by decide) ?_
    refine lv_aload_n hx hb dX5_block_53 rfl (lv_at hl 1 rfl) ?_
    refine lv_iload_n hx hb dX5_block_54 rfl (lv_at hl 0 rfl) ?_
    obtain ⟨σ5, v6, g5, hf⟩ := zbi_use hf
    refine z_callVi (As := [.int s0]) (rest := []) hC hI (cX5_compareOne_met st l D ad cy σ s0 _ g5) (zgV zw24_20 zw24_21 zw24_22 zw2_21 zw24_23) rfl ⟨rfl, rfl⟩ 1 hdX5_compareOne ⟨Nat.le_of_ble_eq_true rfl, Nat.le_of_ble_eq_true rfl⟩ rfl rfl (wC_e7 ad cy σ) rfl hl rfl (Nat.le_of_ble_eq_true rfl) dX5_block_55 ⟨Nat.zero_le _, Nat.zero_le _⟩ (fun H locs hI => ?_)
    refine lv_istore_n (lv' := [(3, .int v6), (2, .int s0), (0, .ref (ad 7)), (1, .int x1)]) hx hb dX5_block_58 rfl hl (by decide) rfl (fun ls hl => ?_)
    refine lv_goto (tgt := 77) hx hb dX5_block_59 (by decide) ?_
    exact bX5_block_77 hC  hI (lv_sub hl [2, 3, 0] rfl) hf
  replace hf := zif_f q1 hf
  by_cases q2 : (x1 &&& 3) = 2
  · replace hf := zif_t q2 hf
    refine lv_tableIn (tgt := 62) hx hb dX5_block_16 (by rw [q2]; decide) (by rw [q2]; decide) (by rw [q2]; rfl) (by decide) ?_
    refine lv_aload_n hx hb dX5_block_62 rfl (lv_at hl 1 rfl) ?_
    refine lv_iload_n hx hb dX5_block_63 rfl (lv_at hl 0 rfl) ?_
    obtain ⟨σ7, v8, g7, hf⟩ := zbi_use hf
    refine z_callVi (As := [.int s0]) (rest := []) hC hI (cX5_takeOne_met st l D ad cy σ s0 _ g7) (zgV zw25_0 zw25_1 zw25_2 zw2_21 zw25_3) rfl ⟨rfl, rfl⟩ 1 hdX5_takeOne ⟨Nat.le_of_ble_eq_true rfl, Nat.le_of_ble_eq_true rfl⟩ rfl rfl (wC_e7 ad cy σ) rfl hl rfl (Nat.le_of_ble_eq_true rfl) dX5_block_64 ⟨Nat.zero_le _, Nat.zero_le _⟩ (fun H locs hI => ?_)
    refine lv_istore_n (lv' := [(3, .int v8), (2, .int s0), (0, .ref (ad 7)), (1, .int x1)]) hx hb dX5_block_67 rfl hl (by decide) rfl (fun ls hl => ?_)
    refine lv_goto (tgt := 77) hx hb dX5_block_68 (by decide) ?_
    exact bX5_block_77 hC  hI (lv_sub hl [2, 3, 0] rfl) hf
  replace hf := zif_f q2 hf
  refine lv_tableOut (tgt := 71) hx hb dX5_block_16 (zsw (fun k h1 h2 => by rcases (show k = 0 ∨ k = 1 ∨ k = 2 by omega) with rfl | rfl | rfl <;> assumption)) (by decide) ?_
  refine lv_aload_n hx hb dX5_block_71 rfl (lv_at hl 1 rfl) ?_
  refine lv_iload_n hx hb dX5_block_72 rfl (lv_at hl 0 rfl) ?_
  obtain ⟨σ9, v10, g9, hf⟩ := zbi_use hf
  refine z_callVi (As := [.int s0]) (rest := []) hC hI (cX5_giveOne_met st l D ad cy σ s0 _ g9) (zgV zw27_5 zw27_6 zw27_7 zw2_21 zw27_8) rfl ⟨rfl, rfl⟩ 1 hdX5_giveOne ⟨Nat.le_of_ble_eq_true rfl, Nat.le_of_ble_eq_true rfl⟩ rfl rfl (wC_e7 ad cy σ) rfl hl rfl (Nat.le_of_ble_eq_true rfl) dX5_block_73 ⟨Nat.zero_le _, Nat.zero_le _⟩ (fun H locs hI => ?_)
  refine lv_istore_n (lv' := [(3, .int v10), (2, .int s0), (0, .ref (ad 7)), (1, .int x1)]) hx hb dX5_block_76 rfl hl (by decide) rfl (fun ls hl => ?_)
  exact bX5_block_77 hC  hI (lv_sub hl [2, 3, 0] rfl) hf
set_option maxRecDepth 20000 in
set_option maxHeartbeats 4000000 in
theorem bX5_block {st : Nat → Nat} {p : Program} {l : Launch} {e : Env} {s : State} {m : MethodId} {args : Array Value} {below : List Frame} {meth : Method} {c : Code} {D : va_G} {A : Nat → Prop} {ad : Nat → Nat} {cy : Nat → ClassId} (hC : zC p m c cX5_block 4 s args wzX5_block RX5 meth (some .int))  {res : zSt × Int32} {H : Heap} {locs : List Loc} {σ : zSt} {ls : Array Slot} {x1 : Int32} (hI : zI st D (tC cy) (wC ad cy σ) A s H locs) (hl : lv_has ls 4 [(0, .ref (ad 7)), (1, .int x1)]) (hf : fX5_block  σ x1 = some res) : W p l e rmX5_block s m args below meth c H locs 0 0 (zQi below args s D (tC cy) (wC ad cy) A res) (F0 m 0 ls []) := by
  have hx := hC.1
  have hb := hC.2.1
  unfold fX5_block at hf
  refine lv_iload_n hx hb dX5_block_0 rfl (lv_at hl 1 rfl) ?_
  refine lv_bipush (v := 8) hx hb dX5_block_1 (by decide) ?_
  refine lv_iand hx hb dX5_block_3 ?_
  refine lv_if_ne (tgt := 11) hx hb dX5_block_4 (by decide) (fun q => ?_) (fun q => ?_)
  · replace hf := zif_f q hf
    refine lv_iconst (v := (-1)) hx hb dX5_block_11 (by decide) ?_
    exact bX5_block_12 hC  hI hl hf
  replace hf := zif_t q hf
  refine lv_iconst (v := 1) hx hb dX5_block_7 (by decide) ?_
  refine lv_goto (tgt := 12) hx hb dX5_block_8 (by decide) ?_
  exact bX5_block_12 hC  hI hl hf
set_option maxRecDepth 20000 in
theorem cX5_block_met (st : Nat → Nat) (l : Launch) (D : va_G) (ad : Nat → Nat) (cy : Nat → ClassId) (σ : zSt) (x1 : Int32) (res : zSt × Int32) (hf : fX5_block σ x1 = some res) (sz : Nat) : zMi st l yX5_block wzX5_block rmX5_block [.ref (ad 7), .int x1] D (tC cy) (wC ad cy) sz σ res :=
  zMi.of (cc := cX5_block) (maxL := 4) (ret := (some .int)) (by decide) rfl (Nat.le_of_ble_eq_true rfl) (fun p e s m args below meth c hC A hI ls hl => bX5_block hC hI hl hf)
theorem hdX5_block : yX5_block.cls = RX5 ∧ yX5_block.cls ≠ "java/lang/invoke/MethodHandle" ∧ yX5_block.cls ≠ "java/lang/invoke/VarHandle" ∧ (parseMethodDescriptor yX5_block.desc).map (fun d => d.parameters.length) = some 1 := by decide +kernel
def rmX5_turnDigits : Room := { frames := 2, cells := 0, slots := 0, locals := 47 }
def wzX5_turnDigits : List Cond := .code yX5_turnDigits cX5_turnDigits 5 none :: wsL_law
theorem hinX5_turnDigits_X50 : ∀ w ∈ wsX50, w ∈ wzX5_turnDigits := fun w h => List.mem_cons_of_mem _ (inlX5 w h)
def fX5_turnDigits_102  (σ : zSt) (s0 : Int32) (s1 : Int32) (s2 : Int32) : Option (zSt) :=
  zck (zin s2 29) (zbv (zsi σ 36 (s2.toNatClampNeg) (s1 ||| s0)) (fun σ1 =>
  zck (zin 1 29) (
  zck (zin 0 29) (
  zbi (fX5_by σ1 (zgi σ1 36 (0 : Int32).toNatClampNeg)) (fun σ2 v3 =>
  zck (zin 0 29) (
  zbi (fX5_parity σ2 (zgi σ2 36 (0 : Int32).toNatClampNeg)) (fun σ4 v5 =>
  zck (zin 1 29) (zbv (zsi σ4 36 ((1 : Int32).toNatClampNeg) ((((zgi σ1 36 (1 : Int32).toNatClampNeg) &&& 1) ||| v3) ||| v5)) (fun σ6 =>
  some σ6)))))))))
def fX5_turnDigits_70  (σ : zSt) (x1 : Int32) (x3 : Int32) (s0 : Int32) (s1 : Int32) : Option (zSt) :=
  zbu (fX2_write σ s1 s0) (fun σ7 =>
  zck (zin 0 29) (
  if x1 = 0 then fX5_turnDigits_102 σ7 (x3 >>> ((4 : Int32) &&& 31)) ((zgi σ7 36 (0 : Int32).toNatClampNeg) &&& 240) 0 else
  fX5_turnDigits_102 σ7 (x3 &&& 15) ((zgi σ7 36 (0 : Int32).toNatClampNeg) &&& 240) 0))
def fX5_turnDigits  (σ : zSt) (x1 : Int32) : Option (zSt) :=
  zbi (fX5_pairAt σ 6) (fun σ8 v9 =>
  zbi (fX2_read σ8 v9) (fun σ10 v11 =>
  zck (zin 0 29) (
  zbv ((zgi σ10 36 (0 : Int32).toNatClampNeg) &&& 15) (fun v12 =>
  zck (zin 20 29) (zbv (zsi σ10 36 ((20 : Int32).toNatClampNeg) ((v9 + 1) &&& 65535)) (fun σ13 =>
  if x1 = 0 then fX5_turnDigits_70 σ13 x1 v11 (((v11 <<< ((4 : Int32) &&& 31)) &&& 255) ||| v12) v9 else
  fX5_turnDigits_70 σ13 x1 v11 ((v12 <<< ((4 : Int32) &&& 31)) ||| (v11 >>> ((4 : Int32) &&& 31))) v9))))))
set_option maxRecDepth 20000 in
set_option maxHeartbeats 4000000 in
theorem bX5_turnDigits_102 {st : Nat → Nat} {p : Program} {l : Launch} {e : Env} {s : State} {m : MethodId} {args : Array Value} {below : List Frame} {meth : Method} {c : Code} {D : va_G} {A : Nat → Prop} {ad : Nat → Nat} {cy : Nat → ClassId} (hC : zC p m c cX5_turnDigits 5 s args wzX5_turnDigits RX5 meth none)  {res : zSt} {H : Heap} {locs : List Loc} {σ : zSt} {ls : Array Slot} {s0 : Int32} {s1 : Int32} {s2 : Int32} (hI : zI st D (tC cy) (wC ad cy σ) A s H locs) (hl : lv_has ls 5 [(0, .ref (ad 7))]) (hf : fX5_turnDigits_102  σ s0 s1 s2 = some res) : W p l e rmX5_turnDigits s m args below meth c H locs 0 0 (zQu below args s D (tC cy) (wC ad cy) A res) (F0 m 102 ls [.int s0, .int s1, .int s2, .ref (ad 36)]) := by
  have hx := hC.1
  have hb := hC.2.1
  unfold fX5_turnDigits_102 at hf
  refine lv_ior hx hb dX5_turnDigits_102 ?_
  obtain ⟨q, hf⟩ := zck_use hf
  obtain ⟨σ1, eσ1⟩ : ∃ z, z = zsi σ 36 (s2.toNatClampNeg) (s1 ||| s0) := ⟨_, rfl⟩
  replace hf := zbv_use eσ1 hf
  refine z_iast hC hI 36 23 (wC_e36 ad cy σ) (tC_t36 cy) q ((wC_s36 ad cy σ _ _).trans (congrArg (wC ad cy) eσ1.symm)) dX5_turnDigits_103 (fun H locs hI => ?_)
  refine lv_aload_n hx hb dX5_turnDigits_104 rfl (lv_at hl 0 rfl) ?_
  refine z_get hC hI hinX5_turnDigits_X50 7 (wC_e7 ad cy σ1) rfl 2 (by decide) (List.mem_cons_of_mem _ zw7_5) rfl dX5_turnDigits_105 ?_
  refine lv_iconst (v := 1) hx hb dX5_turnDigits_108 (by decide) ?_
  refine lv_aload_n hx hb dX5_turnDigits_109 rfl (lv_at hl 0 rfl) ?_
  refine z_get hC hI hinX5_turnDigits_X50 7 (wC_e7 ad cy σ1) rfl 2 (by decide) (List.mem_cons_of_mem _ zw7_5) rfl dX5_turnDigits_110 ?_
  refine lv_iconst (v := 1) hx hb dX5_turnDigits_113 (by decide) ?_
  obtain ⟨q, hf⟩ := zck_use hf
  refine z_iald hC hI 36 23 (wC_e36 ad cy σ1) (tC_t36 cy) q dX5_turnDigits_114 ?_
  refine lv_iconst (v := 1) hx hb dX5_turnDigits_115 (by decide) ?_
  refine lv_iand hx hb dX5_turnDigits_116 ?_
  refine lv_aload_n hx hb dX5_turnDigits_117 rfl (lv_at hl 0 rfl) ?_
  refine z_get hC hI hinX5_turnDigits_X50 7 (wC_e7 ad cy σ1) rfl 2 (by decide) (List.mem_cons_of_mem _ zw7_5) rfl dX5_turnDigits_118 ?_
  refine lv_iconst (v := 0) hx hb dX5_turnDigits_121 (by decide) ?_
  obtain ⟨q, hf⟩ := zck_use hf
  refine z_iald hC hI 36 23 (wC_e36 ad cy σ1) (tC_t36 cy) q dX5_turnDigits_122 ?_
  obtain ⟨σ2, v3, g2, hf⟩ := zbi_use hf
  refine z_callSi (As := [.int (zgi σ1 36 (0 : Int32).toNatClampNeg)]) (rest := [.int ((zgi σ1 36 (1 : Int32).toNatClampNeg) &&& 1), .int 1, .ref (ad 36)]) hC hI (cX5_by_met st l D ad cy σ1 (zgi σ1 36 (0 : Int32).toNatClampNeg) _ g2) (zgS zw22_19 zw22_20 zw2_21 zw22_21) rfl ⟨rfl, rfl⟩ 1 hdX5_by ⟨Nat.le_of_ble_eq_true rfl, Nat.le_of_ble_eq_true rfl⟩ rfl hl rfl (Nat.le_of_ble_eq_true rfl) dX5_turnDigits_123 ⟨Nat.zero_le _, Nat.zero_le _⟩ (fun H locs hI => ?_)
  refine lv_ior hx hb dX5_turnDigits_126 ?_
  refine lv_aload_n hx hb dX5_turnDigits_127 rfl (lv_at hl 0 rfl) ?_
  refine z_get hC hI hinX5_turnDigits_X50 7 (wC_e7 ad cy σ2) rfl 2 (by decide) (List.mem_cons_of_mem _ zw7_5) rfl dX5_turnDigits_128 ?_
  refine lv_iconst (v := 0) hx hb dX5_turnDigits_131 (by decide) ?_
  obtain ⟨q, hf⟩ := zck_use hf
  refine z_iald hC hI 36 23 (wC_e36 ad cy σ2) (tC_t36 cy) q dX5_turnDigits_132 ?_
  obtain ⟨σ4, v5, g4, hf⟩ := zbi_use hf
  refine z_callSi (As := [.int (zgi σ2 36 (0 : Int32).toNatClampNeg)]) (rest := [.int (((zgi σ1 36 (1 : Int32).toNatClampNeg) &&& 1) ||| v3), .int 1, .ref (ad 36)]) hC hI (cX5_parity_met st l D ad cy σ2 (zgi σ2 36 (0 : Int32).toNatClampNeg) _ g4) (zgS zw22_22 zw22_23 zw2_21 zw23_0) rfl ⟨rfl, rfl⟩ 1 hdX5_parity ⟨Nat.le_of_ble_eq_true rfl, Nat.le_of_ble_eq_true rfl⟩ rfl hl rfl (Nat.le_of_ble_eq_true rfl) dX5_turnDigits_133 ⟨Nat.zero_le _, Nat.zero_le _⟩ (fun H locs hI => ?_)
  refine lv_ior hx hb dX5_turnDigits_136 ?_
  obtain ⟨q, hf⟩ := zck_use hf
  obtain ⟨σ6, eσ6⟩ : ∃ z, z = zsi σ4 36 ((1 : Int32).toNatClampNeg) ((((zgi σ1 36 (1 : Int32).toNatClampNeg) &&& 1) ||| v3) ||| v5) := ⟨_, rfl⟩
  replace hf := zbv_use eσ6 hf
  refine z_iast hC hI 36 23 (wC_e36 ad cy σ4) (tC_t36 cy) q ((wC_s36 ad cy σ4 _ _).trans (congrArg (wC ad cy) eσ6.symm)) dX5_turnDigits_137 (fun H locs hI => ?_)
  exact z_return hC hI hf dX5_turnDigits_138
set_option maxRecDepth 20000 in
set_option maxHeartbeats 4000000 in
theorem bX5_turnDigits_70 {st : Nat → Nat} {p : Program} {l : Launch} {e : Env} {s : State} {m : MethodId} {args : Array Value} {below : List Frame} {meth : Method} {c : Code} {D : va_G} {A : Nat → Prop} {ad : Nat → Nat} {cy : Nat → ClassId} (hC : zC p m c cX5_turnDigits 5 s args wzX5_turnDigits RX5 meth none)  {res : zSt} {H : Heap} {locs : List Loc} {σ : zSt} {ls : Array Slot} {x1 : Int32} {x3 : Int32} {s0 : Int32} {s1 : Int32} (hI : zI st D (tC cy) (wC ad cy σ) A s H locs) (hl : lv_has ls 5 [(0, .ref (ad 7)), (1, .int x1), (3, .int x3)]) (hf : fX5_turnDigits_70  σ x1 x3 s0 s1 = some res) : W p l e rmX5_turnDigits s m args below meth c H locs 0 0 (zQu below args s D (tC cy) (wC ad cy) A res) (F0 m 70 ls [.int s0, .int s1, .ref (ad 1)]) := by
  have hx := hC.1
  have hb := hC.2.1
  unfold fX5_turnDigits_70 at hf
  obtain ⟨σ7, g7, hf⟩ := zbu_use hf
  refine z_callVu (As := [.int s1, .int s0]) (rest := []) hC hI (cX2_write_met st l D ad cy σ s1 s0 _ g7) (zgV zw20_7 zw20_8 zw20_9 zw1_21 zw20_10) rfl ⟨rfl, rfl⟩ 2 hdX2_write ⟨Nat.le_of_ble_eq_true rfl, Nat.le_of_ble_eq_true rfl⟩ rfl rfl (wC_e1 ad cy σ) rfl hl rfl (Nat.le_of_ble_eq_true rfl) dX5_turnDigits_70 ⟨Nat.zero_le _, Nat.zero_le _⟩ (fun H locs hI => ?_)
  refine lv_aload_n hx hb dX5_turnDigits_73 rfl (lv_at hl 0 rfl) ?_
  refine z_get hC hI hinX5_turnDigits_X50 7 (wC_e7 ad cy σ7) rfl 2 (by decide) (List.mem_cons_of_mem _ zw7_5) rfl dX5_turnDigits_74 ?_
  refine lv_iconst (v := 0) hx hb dX5_turnDigits_77 (by decide) ?_
  refine lv_aload_n hx hb dX5_turnDigits_78 rfl (lv_at hl 0 rfl) ?_
  refine z_get hC hI hinX5_turnDigits_X50 7 (wC_e7 ad cy σ7) rfl 2 (by decide) (List.mem_cons_of_mem _ zw7_5) rfl dX5_turnDigits_79 ?_
  refine lv_iconst (v := 0) hx hb dX5_turnDigits_82 (by decide) ?_
  obtain ⟨q, hf⟩ := zck_use hf
  refine z_iald hC hI 36 23 (wC_e36 ad cy σ7) (tC_t36 cy) q dX5_turnDigits_83 ?_
  refine lv_sipush (v := 240) hx hb dX5_turnDigits_84 (by decide) ?_
  refine lv_iand hx hb dX5_turnDigits_87 ?_
  refine lv_iload_n hx hb dX5_turnDigits_88 rfl (lv_at hl 1 rfl) ?_
  refine lv_if_eq (tgt := 99) hx hb dX5_turnDigits_89 (by decide) (fun q => ?_) (fun q => ?_)
  · replace hf := zif_t q hf
    refine lv_iload_n hx hb dX5_turnDigits_99 rfl (lv_at hl 2 rfl) ?_
    refine lv_iconst (v := 4) hx hb dX5_turnDigits_100 (by decide) ?_
    refine lv_ishr hx hb dX5_turnDigits_101 ?_
    exact bX5_turnDigits_102 hC  hI (lv_sub hl [0] rfl) hf
  replace hf := zif_f q hf
  refine lv_iload_n hx hb dX5_turnDigits_92 rfl (lv_at hl 2 rfl) ?_
  refine lv_bipush (v := 15) hx hb dX5_turnDigits_93 (by decide) ?_
  refine lv_iand hx hb dX5_turnDigits_95 ?_
  refine lv_goto (tgt := 102) hx hb dX5_turnDigits_96 (by decide) ?_
  exact bX5_turnDigits_102 hC  hI (lv_sub hl [0] rfl) hf
set_option maxRecDepth 20000 in
set_option maxHeartbeats 4000000 in
theorem bX5_turnDigits {st : Nat → Nat} {p : Program} {l : Launch} {e : Env} {s : State} {m : MethodId} {args : Array Value} {below : List Frame} {meth : Method} {c : Code} {D : va_G} {A : Nat → Prop} {ad : Nat → Nat} {cy : Nat → ClassId} (hC : zC p m c cX5_turnDigits 5 s args wzX5_turnDigits RX5 meth none)  {res : zSt} {H : Heap} {locs : List Loc} {σ : zSt} {ls : Array Slot} {x1 : Int32} (hI : zI st D (tC cy) (wC ad cy σ) A s H locs) (hl : lv_has ls 5 [(0, .ref (ad 7)), (1, .int x1)]) (hf : fX5_turnDigits  σ x1 = some res) : W p l e rmX5_turnDigits s m args below meth c H locs 0 0 (zQu below args s D (tC cy) (wC ad cy) A res) (F0 m 0 ls []) := by
  have hx := hC.1
  have hb := hC.2.1
  unfold fX5_turnDigits at hf
  refine lv_aload_n hx hb dX5_turnDigits_0 rfl (lv_at hl 0 rfl) ?_
  refine lv_bipush (v := 6) hx hb dX5_turnDigits_1 (by decide) ?_
  obtain ⟨σ8, v9, g8, hf⟩ := zbi_use hf
  refine z_callVi (As := [.int 6]) (rest := []) hC hI (cX5_pairAt_met st l D ad cy σ 6 _ g8) (zgV zw21_15 zw21_16 zw21_17 zw2_21 zw21_18) rfl ⟨rfl, rfl⟩ 1 hdX5_pairAt ⟨Nat.le_of_ble_eq_true rfl, Nat.le_of_ble_eq_true rfl⟩ rfl rfl (wC_e7 ad cy σ) rfl hl rfl (Nat.le_of_ble_eq_true rfl) dX5_turnDigits_3 ⟨Nat.zero_le _, Nat.zero_le _⟩ (fun H locs hI => ?_)
  refine lv_istore_n (lv' := [(2, .int v9), (0, .ref (ad 7)), (1, .int x1)]) hx hb dX5_turnDigits_6 rfl hl (by decide) rfl (fun ls hl => ?_)
  refine lv_aload_n hx hb dX5_turnDigits_7 rfl (lv_at hl 1 rfl) ?_
  refine z_get hC hI hinX5_turnDigits_X50 7 (wC_e7 ad cy σ8) rfl 0 (by decide) (List.mem_cons_of_mem _ zw7_8) rfl dX5_turnDigits_8 ?_
  refine lv_iload_n hx hb dX5_turnDigits_11 rfl (lv_at hl 0 rfl) ?_
  obtain ⟨σ10, v11, g10, hf⟩ := zbi_use hf
  refine z_callVi (As := [.int v9]) (rest := []) hC hI (cX2_read_met st l D ad cy σ8 v9 _ g10) (zgV zw21_6 zw21_7 zw21_8 zw1_21 zw21_9) rfl ⟨rfl, rfl⟩ 1 hdX2_read ⟨Nat.le_of_ble_eq_true rfl, Nat.le_of_ble_eq_true rfl⟩ rfl rfl (wC_e1 ad cy σ8) rfl hl rfl (Nat.le_of_ble_eq_true rfl) dX5_turnDigits_12 ⟨Nat.zero_le _, Nat.zero_le _⟩ (fun H locs hI => ?_)
  refine lv_istore_n (lv' := [(3, .int v11), (2, .int v9), (0, .ref (ad 7)), (1, .int x1)]) hx hb dX5_turnDigits_15 rfl hl (by decide) rfl (fun ls hl => ?_)
  refine lv_aload_n hx hb dX5_turnDigits_16 rfl (lv_at hl 2 rfl) ?_
  refine z_get hC hI hinX5_turnDigits_X50 7 (wC_e7 ad cy σ10) rfl 2 (by decide) (List.mem_cons_of_mem _ zw7_5) rfl dX5_turnDigits_17 ?_
  refine lv_iconst (v := 0) hx hb dX5_turnDigits_20 (by decide) ?_
  obtain ⟨q, hf⟩ := zck_use hf
  refine z_iald hC hI 36 23 (wC_e36 ad cy σ10) (tC_t36 cy) q dX5_turnDigits_21 ?_
  refine lv_bipush (v := 15) hx hb dX5_turnDigits_22 (by decide) ?_
  refine lv_iand hx hb dX5_turnDigits_24 ?_
  refine lv_topi (fun v12 ev12 => ?_)
  replace hf := zbv_use ev12 hf
  refine lv_istore (lv' := [(4, .int v12), (3, .int v11), (2, .int v9), (0, .ref (ad 7)), (1, .int x1)]) hx hb dX5_turnDigits_25 hl (by decide) rfl (fun ls hl => ?_)
  refine lv_aload_n hx hb dX5_turnDigits_27 rfl (lv_at hl 3 rfl) ?_
  refine z_get hC hI hinX5_turnDigits_X50 7 (wC_e7 ad cy σ10) rfl 2 (by decide) (List.mem_cons_of_mem _ zw7_5) rfl dX5_turnDigits_28 ?_
  refine lv_bipush (v := 20) hx hb dX5_turnDigits_31 (by decide) ?_
  refine lv_iload_n hx hb dX5_turnDigits_33 rfl (lv_at hl 2 rfl) ?_
  refine lv_iconst (v := 1) hx hb dX5_turnDigits_34 (by decide) ?_
  refine lv_iadd hx hb dX5_turnDigits_35 ?_
  refine lv_ldc (v := 65535) hx hb hC.2.2.2.1 (hC.2.2.2.2.1 _ (List.mem_cons_of_mem _ zw20_6)) dX5_turnDigits_36 ?_
  refine lv_iand hx hb dX5_turnDigits_38 ?_
  obtain ⟨q, hf⟩ := zck_use hf
  obtain ⟨σ13, eσ13⟩ : ∃ z, z = zsi σ10 36 ((20 : Int32).toNatClampNeg) ((v9 + 1) &&& 65535) := ⟨_, rfl⟩
  replace hf := zbv_use eσ13 hf
  refine z_iast hC hI 36 23 (wC_e36 ad cy σ10) (tC_t36 cy) q ((wC_s36 ad cy σ10 _ _).trans (congrArg (wC ad cy) eσ13.symm)) dX5_turnDigits_39 (fun H locs hI => ?_)
  refine lv_aload_n hx hb dX5_turnDigits_40 rfl (lv_at hl 3 rfl) ?_
  refine z_get hC hI hinX5_turnDigits_X50 7 (wC_e7 ad cy σ13) rfl 0 (by decide) (List.mem_cons_of_mem _ zw7_8) rfl dX5_turnDigits_41 ?_
  refine lv_iload_n hx hb dX5_turnDigits_44 rfl (lv_at hl 2 rfl) ?_
  refine lv_iload_n hx hb dX5_turnDigits_45 rfl (lv_at hl 4 rfl) ?_
  refine lv_if_eq (tgt := 60) hx hb dX5_turnDigits_46 (by decide) (fun q => ?_) (fun q => ?_)
  · replace hf := zif_t q hf
    refine lv_iload_n hx hb dX5_turnDigits_60 rfl (lv_at hl 1 rfl) ?_
    refine lv_iconst (v := 4) hx hb dX5_turnDigits_61 (by decide) ?_
    refine lv_ishl hx hb dX5_turnDigits_62 ?_
    refine lv_sipush (v := 255) hx hb dX5_turnDigits_63 (by decide) ?_
    refine lv_iand hx hb dX5_turnDigits_66 ?_
    refine lv_iload hx hb dX5_turnDigits_67 (lv_at hl 0 rfl) ?_
    refine lv_ior hx hb dX5_turnDigits_69 ?_
    exact bX5_turnDigits_70 hC  hI (lv_sub hl [3, 4, 1] rfl) hf
  replace hf := zif_f q hf
  refine lv_iload hx hb dX5_turnDigits_49 (lv_at hl 0 rfl) ?_
  refine lv_iconst (v := 4) hx hb dX5_turnDigits_51 (by decide) ?_
  refine lv_ishl hx hb dX5_turnDigits_52 ?_
  refine lv_iload_n hx hb dX5_turnDigits_53 rfl (lv_at hl 1 rfl) ?_
  refine lv_iconst (v := 4) hx hb dX5_turnDigits_54 (by decide) ?_
  refine lv_ishr hx hb dX5_turnDigits_55 ?_
  refine lv_ior hx hb dX5_turnDigits_56 ?_
  refine lv_goto (tgt := 70) hx hb dX5_turnDigits_57 (by decide) ?_
  exact bX5_turnDigits_70 hC  hI (lv_sub hl [3, 4, 1] rfl) hf
set_option maxRecDepth 20000 in
theorem cX5_turnDigits_met (st : Nat → Nat) (l : Launch) (D : va_G) (ad : Nat → Nat) (cy : Nat → ClassId) (σ : zSt) (x1 : Int32) (res : zSt) (hf : fX5_turnDigits σ x1 = some res) (sz : Nat) : zMu st l yX5_turnDigits wzX5_turnDigits rmX5_turnDigits [.ref (ad 7), .int x1] D (tC cy) (wC ad cy) sz σ res :=
  zMu.of (cc := cX5_turnDigits) (maxL := 5) (ret := none) (by decide) rfl (Nat.le_of_ble_eq_true rfl) (fun p e s m args below meth c hC A hI ls hl => bX5_turnDigits hC hI hl hf)
theorem hdX5_turnDigits : yX5_turnDigits.cls = RX5 ∧ yX5_turnDigits.cls ≠ "java/lang/invoke/MethodHandle" ∧ yX5_turnDigits.cls ≠ "java/lang/invoke/VarHandle" ∧ (parseMethodDescriptor yX5_turnDigits.desc).map (fun d => d.parameters.length) = some 1 := by decide +kernel
def rmX5_moreOfA : Room := { frames := 3, cells := 0, slots := 0, locals := 71 }
def wzX5_moreOfA : List Cond := .code yX5_moreOfA cX5_moreOfA 2 (some .int) :: wsL_law
theorem hinX5_moreOfA_X50 : ∀ w ∈ wsX50, w ∈ wzX5_moreOfA := fun w h => List.mem_cons_of_mem _ (inlX5 w h)
def fX5_moreOfA_139  (σ : zSt) (s0 : Int32) (s1 : Int32) (s2 : Int32) : Option (zSt × Int32) :=
  zck (zin s2 29) (zbv (zsi σ 36 (s2.toNatClampNeg) (s1 ||| s0)) (fun σ1 =>
  some (σ1, 9)))
def fX5_moreOfA_99  (σ : zSt) (s0 : Int32) (s1 : Int32) : Option (zSt × Int32) :=
  zck (zin s1 29) (zbv (zsi σ 36 (s1.toNatClampNeg) s0) (fun σ2 =>
  zck (zin 1 29) (
  zck (zin 0 29) (
  zbi (fX5_by σ2 (zgi σ2 36 (0 : Int32).toNatClampNeg)) (fun σ3 v4 =>
  zck (zin 24 29) (
  if (zgi σ3 36 (24 : Int32).toNatClampNeg) = 1 then fX5_moreOfA_139 σ3 4 (((zgi σ2 36 (1 : Int32).toNatClampNeg) &&& 1) ||| v4) 1 else
  fX5_moreOfA_139 σ3 0 (((zgi σ2 36 (1 : Int32).toNatClampNeg) &&& 1) ||| v4) 1))))))
def fX5_moreOfA_72  (σ : zSt) (x1 : Int32) : Option (zSt × Int32) :=
  if x1 = 2 then zck (zin 21 29) (
  fX5_moreOfA_99 σ (zgi σ 36 (21 : Int32).toNatClampNeg) 0) else
  zck (zin 22 29) (
  fX5_moreOfA_99 σ (zgi σ 36 (22 : Int32).toNatClampNeg) 0)
def fX5_moreOfA_155  (σ : zSt) (s0 : Int32) : Option (zSt × Int32) :=
  zbu (fX5_turnDigits σ s0) (fun σ5 =>
  some (σ5, 18))
def fX5_moreOfA_144  (σ : zSt) (x1 : Int32) : Option (zSt × Int32) :=
  if x1 = 4 then fX5_moreOfA_155 σ 1 else
  fX5_moreOfA_155 σ 0
def fX5_moreOfA  (σ : zSt) (x1 : Int32) : Option (zSt × Int32) :=
  if x1 = 0 then zck (zin 0 29) (
  zck (zin 21 29) (zbv (zsi σ 36 ((21 : Int32).toNatClampNeg) (zgi σ 36 (0 : Int32).toNatClampNeg)) (fun σ6 =>
  some (σ6, 9)))) else
  if x1 = 1 then zck (zin 0 29) (
  zck (zin 22 29) (zbv (zsi σ 36 ((22 : Int32).toNatClampNeg) (zgi σ 36 (0 : Int32).toNatClampNeg)) (fun σ7 =>
  some (σ7, 9)))) else
  if x1 = 2 then fX5_moreOfA_72 σ x1 else
  if x1 = 3 then fX5_moreOfA_72 σ x1 else
  if x1 = 4 then fX5_moreOfA_144 σ x1 else
  if x1 = 5 then fX5_moreOfA_144 σ x1 else
  some (σ, 8)
set_option maxRecDepth 20000 in
set_option maxHeartbeats 4000000 in
theorem bX5_moreOfA_139 {st : Nat → Nat} {p : Program} {l : Launch} {e : Env} {s : State} {m : MethodId} {args : Array Value} {below : List Frame} {meth : Method} {c : Code} {D : va_G} {A : Nat → Prop} {ad : Nat → Nat} {cy : Nat → ClassId} (hC : zC p m c cX5_moreOfA 2 s args wzX5_moreOfA RX5 meth (some .int))  {res : zSt × Int32} {H : Heap} {locs : List Loc} {σ : zSt} {ls : Array Slot} {s0 : Int32} {s1 : Int32} {s2 : Int32} (hI : zI st D (tC cy) (wC ad cy σ) A s H locs) (hl : lv_has ls 2 []) (hf : fX5_moreOfA_139  σ s0 s1 s2 = some res) : W p l e rmX5_moreOfA s m args below meth c H locs 0 0 (zQi below args s D (tC cy) (wC ad cy) A res) (F0 m 139 ls [.int s0, .int s1, .int s2, .ref (ad 36)]) := by
  have hx := hC.1
  have hb := hC.2.1
  unfold fX5_moreOfA_139 at hf
  refine lv_ior hx hb dX5_moreOfA_139 ?_
  obtain ⟨q, hf⟩ := zck_use hf
  obtain ⟨σ1, eσ1⟩ : ∃ z, z = zsi σ 36 (s2.toNatClampNeg) (s1 ||| s0) := ⟨_, rfl⟩
  replace hf := zbv_use eσ1 hf
  refine z_iast hC hI 36 23 (wC_e36 ad cy σ) (tC_t36 cy) q ((wC_s36 ad cy σ _ _).trans (congrArg (wC ad cy) eσ1.symm)) dX5_moreOfA_140 (fun H locs hI => ?_)
  refine lv_bipush (v := 9) hx hb dX5_moreOfA_141 (by decide) ?_
  exact z_ireturn hC hI hf dX5_moreOfA_143
set_option maxRecDepth 20000 in
set_option maxHeartbeats 4000000 in
theorem bX5_moreOfA_99 {st : Nat → Nat} {p : Program} {l : Launch} {e : Env} {s : State} {m : MethodId} {args : Array Value} {below : List Frame} {meth : Method} {c : Code} {D : va_G} {A : Nat → Prop} {ad : Nat → Nat} {cy : Nat → ClassId} (hC : zC p m c cX5_moreOfA 2 s args wzX5_moreOfA RX5 meth (some .int))  {res : zSt × Int32} {H : Heap} {locs : List Loc} {σ : zSt} {ls : Array Slot} {s0 : Int32} {s1 : Int32} (hI : zI st D (tC cy) (wC ad cy σ) A s H locs) (hl : lv_has ls 2 [(0, .ref (ad 7))]) (hf : fX5_moreOfA_99  σ s0 s1 = some res) : W p l e rmX5_moreOfA s m args below meth c H locs 0 0 (zQi below args s D (tC cy) (wC ad cy) A res) (F0 m 99 ls [.int s0, .int s1, .ref (ad 36)]) := by
  have hx := hC.1
  have hb := hC.2.1
  unfold fX5_moreOfA_99 at hf
  obtain ⟨q, hf⟩ := zck_use hf
  obtain ⟨σ2, eσ2⟩ : ∃ z, z = zsi σ 36 (s1.toNatClampNeg) s0 := ⟨_, rfl⟩
  replace hf := zbv_use eσ2 hf
  refine z_iast hC hI 36 23 (wC_e36 ad cy σ) (tC_t36 cy) q ((wC_s36 ad cy σ _ _).trans (congrArg (wC ad cy) eσ2.symm)) dX5_moreOfA_99 (fun H locs hI => ?_)
  refine lv_aload_n hx hb dX5_moreOfA_100 rfl (lv_at hl 0 rfl) ?_
  refine z_get hC hI hinX5_moreOfA_X50 7 (wC_e7 ad cy σ2) rfl 2 (by decide) (List.mem_cons_of_mem _ zw7_5) rfl dX5_moreOfA_101 ?_
  refine lv_iconst (v := 1) hx hb dX5_moreOfA_104 (by decide) ?_
  refine lv_aload_n hx hb dX5_moreOfA_105 rfl (lv_at hl 0 rfl) ?_
  refine z_get hC hI hinX5_moreOfA_X50 7 (wC_e7 ad cy σ2) rfl 2 (by decide) (List.mem_cons_of_mem _ zw7_5) rfl dX5_moreOfA_106 ?_
  refine lv_iconst (v := 1) hx hb dX5_moreOfA_109 (by decide) ?_
  obtain ⟨q, hf⟩ := zck_use hf
  refine z_iald hC hI 36 23 (wC_e36 ad cy σ2) (tC_t36 cy) q dX5_moreOfA_110 ?_
  refine lv_iconst (v := 1) hx hb dX5_moreOfA_111 (by decide) ?_
  refine lv_iand hx hb dX5_moreOfA_112 ?_
  refine lv_aload_n hx hb dX5_moreOfA_113 rfl (lv_at hl 0 rfl) ?_
  refine z_get hC hI hinX5_moreOfA_X50 7 (wC_e7 ad cy σ2) rfl 2 (by decide) (List.mem_cons_of_mem _ zw7_5) rfl dX5_moreOfA_114 ?_
  refine lv_iconst (v := 0) hx hb dX5_moreOfA_117 (by decide) ?_
  obtain ⟨q, hf⟩ := zck_use hf
  refine z_iald hC hI 36 23 (wC_e36 ad cy σ2) (tC_t36 cy) q dX5_moreOfA_118 ?_
  obtain ⟨σ3, v4, g3, hf⟩ := zbi_use hf
  refine z_callSi (As := [.int (zgi σ2 36 (0 : Int32).toNatClampNeg)]) (rest := [.int ((zgi σ2 36 (1 : Int32).toNatClampNeg) &&& 1), .int 1, .ref (ad 36)]) hC hI (cX5_by_met st l D ad cy σ2 (zgi σ2 36 (0 : Int32).toNatClampNeg) _ g3) (zgS zw22_19 zw22_20 zw2_21 zw22_21) rfl ⟨rfl, rfl⟩ 1 hdX5_by ⟨Nat.le_of_ble_eq_true rfl, Nat.le_of_ble_eq_true rfl⟩ rfl hl rfl (Nat.le_of_ble_eq_true rfl) dX5_moreOfA_119 ⟨Nat.zero_le _, Nat.zero_le _⟩ (fun H locs hI => ?_)
  refine lv_ior hx hb dX5_moreOfA_122 ?_
  refine lv_aload_n hx hb dX5_moreOfA_123 rfl (lv_at hl 0 rfl) ?_
  refine z_get hC hI hinX5_moreOfA_X50 7 (wC_e7 ad cy σ3) rfl 2 (by decide) (List.mem_cons_of_mem _ zw7_5) rfl dX5_moreOfA_124 ?_
  refine lv_bipush (v := 24) hx hb dX5_moreOfA_127 (by decide) ?_
  obtain ⟨q, hf⟩ := zck_use hf
  refine z_iald hC hI 36 23 (wC_e36 ad cy σ3) (tC_t36 cy) q dX5_moreOfA_129 ?_
  refine lv_iconst (v := 1) hx hb dX5_moreOfA_130 (by decide) ?_
  refine lv_icmp_ne (tgt := 138) hx hb dX5_moreOfA_131 (by decide) (fun q => ?_) (fun q => ?_)
  · replace hf := zif_f q hf
    refine lv_iconst (v := 0) hx hb dX5_moreOfA_138 (by decide) ?_
    exact bX5_moreOfA_139 hC  hI (lv_sub hl [] rfl) hf
  replace hf := zif_t q hf
  refine lv_iconst (v := 4) hx hb dX5_moreOfA_134 (by decide) ?_
  refine lv_goto (tgt := 139) hx hb dX5_moreOfA_135 (by decide) ?_
  exact bX5_moreOfA_139 hC  hI (lv_sub hl [] rfl) hf
set_option maxRecDepth 20000 in
set_option maxHeartbeats 4000000 in
theorem bX5_moreOfA_72 {st : Nat → Nat} {p : Program} {l : Launch} {e : Env} {s : State} {m : MethodId} {args : Array Value} {below : List Frame} {meth : Method} {c : Code} {D : va_G} {A : Nat → Prop} {ad : Nat → Nat} {cy : Nat → ClassId} (hC : zC p m c cX5_moreOfA 2 s args wzX5_moreOfA RX5 meth (some .int))  {res : zSt × Int32} {H : Heap} {locs : List Loc} {σ : zSt} {ls : Array Slot} {x1 : Int32} (hI : zI st D (tC cy) (wC ad cy σ) A s H locs) (hl : lv_has ls 2 [(0, .ref (ad 7)), (1, .int x1)]) (hf : fX5_moreOfA_72  σ x1 = some res) : W p l e rmX5_moreOfA s m args below meth c H locs 0 0 (zQi below args s D (tC cy) (wC ad cy) A res) (F0 m 72 ls []) := by
  have hx := hC.1
  have hb := hC.2.1
  unfold fX5_moreOfA_72 at hf
  refine lv_aload_n hx hb dX5_moreOfA_72 rfl (lv_at hl 0 rfl) ?_
  refine z_get hC hI hinX5_moreOfA_X50 7 (wC_e7 ad cy σ) rfl 2 (by decide) (List.mem_cons_of_mem _ zw7_5) rfl dX5_moreOfA_73 ?_
  refine lv_iconst (v := 0) hx hb dX5_moreOfA_76 (by decide) ?_
  refine lv_iload_n hx hb dX5_moreOfA_77 rfl (lv_at hl 1 rfl) ?_
  refine lv_iconst (v := 2) hx hb dX5_moreOfA_78 (by decide) ?_
  refine lv_icmp_ne (tgt := 92) hx hb dX5_moreOfA_79 (by decide) (fun q => ?_) (fun q => ?_)
  · replace hf := zif_f q hf
    refine lv_aload_n hx hb dX5_moreOfA_92 rfl (lv_at hl 0 rfl) ?_
    refine z_get hC hI hinX5_moreOfA_X50 7 (wC_e7 ad cy σ) rfl 2 (by decide) (List.mem_cons_of_mem _ zw7_5) rfl dX5_moreOfA_93 ?_
    refine lv_bipush (v := 22) hx hb dX5_moreOfA_96 (by decide) ?_
    obtain ⟨q, hf⟩ := zck_use hf
    refine z_iald hC hI 36 23 (wC_e36 ad cy σ) (tC_t36 cy) q dX5_moreOfA_98 ?_
    exact bX5_moreOfA_99 hC  hI (lv_sub hl [0] rfl) hf
  replace hf := zif_t q hf
  refine lv_aload_n hx hb dX5_moreOfA_82 rfl (lv_at hl 0 rfl) ?_
  refine z_get hC hI hinX5_moreOfA_X50 7 (wC_e7 ad cy σ) rfl 2 (by decide) (List.mem_cons_of_mem _ zw7_5) rfl dX5_moreOfA_83 ?_
  refine lv_bipush (v := 21) hx hb dX5_moreOfA_86 (by decide) ?_
  obtain ⟨q, hf⟩ := zck_use hf
  refine z_iald hC hI 36 23 (wC_e36 ad cy σ) (tC_t36 cy) q dX5_moreOfA_88 ?_
  refine lv_goto (tgt := 99) hx hb dX5_moreOfA_89 (by decide) ?_
  exact bX5_moreOfA_99 hC  hI (lv_sub hl [0] rfl) hf
set_option maxRecDepth 20000 in
set_option maxHeartbeats 4000000 in
theorem bX5_moreOfA_155 {st : Nat → Nat} {p : Program} {l : Launch} {e : Env} {s : State} {m : MethodId} {args : Array Value} {below : List Frame} {meth : Method} {c : Code} {D : va_G} {A : Nat → Prop} {ad : Nat → Nat} {cy : Nat → ClassId} (hC : zC p m c cX5_moreOfA 2 s args wzX5_moreOfA RX5 meth (some .int))  {res : zSt × Int32} {H : Heap} {locs : List Loc} {σ : zSt} {ls : Array Slot} {s0 : Int32} (hI : zI st D (tC cy) (wC ad cy σ) A s H locs) (hl : lv_has ls 2 []) (hf : fX5_moreOfA_155  σ s0 = some res) : W p l e rmX5_moreOfA s m args below meth c H locs 0 0 (zQi below args s D (tC cy) (wC ad cy) A res) (F0 m 155 ls [.int s0, .ref (ad 7)]) := by
  have hx := hC.1
  have hb := hC.2.1
  unfold fX5_moreOfA_155 at hf
  obtain ⟨σ5, g5, hf⟩ := zbu_use hf
  refine z_callVu (As := [.int s0]) (rest := []) hC hI (cX5_turnDigits_met st l D ad cy σ s0 _ g5) (zgV zw31_15 zw31_16 zw31_17 zw2_21 zw31_18) rfl ⟨rfl, rfl⟩ 1 hdX5_turnDigits ⟨Nat.le_of_ble_eq_true rfl, Nat.le_of_ble_eq_true rfl⟩ rfl rfl (wC_e7 ad cy σ) rfl hl rfl (Nat.le_of_ble_eq_true rfl) dX5_moreOfA_155 ⟨Nat.zero_le _, Nat.zero_le _⟩ (fun H locs hI => ?_)
  refine lv_bipush (v := 18) hx hb dX5_moreOfA_158 (by decide) ?_
  exact z_ireturn hC hI hf dX5_moreOfA_160
set_option maxRecDepth 20000 in
set_option maxHeartbeats 4000000 in
theorem bX5_moreOfA_144 {st : Nat → Nat} {p : Program} {l : Launch} {e : Env} {s : State} {m : MethodId} {args : Array Value} {below : List Frame} {meth : Method} {c : Code} {D : va_G} {A : Nat → Prop} {ad : Nat → Nat} {cy : Nat → ClassId} (hC : zC p m c cX5_moreOfA 2 s args wzX5_moreOfA RX5 meth (some .int))  {res : zSt × Int32} {H : Heap} {locs : List Loc} {σ : zSt} {ls : Array Slot} {x1 : Int32} (hI : zI st D (tC cy) (wC ad cy σ) A s H locs) (hl : lv_has ls 2 [(0, .ref (ad 7)), (1, .int x1)]) (hf : fX5_moreOfA_144  σ x1 = some res) : W p l e rmX5_moreOfA s m args below meth c H locs 0 0 (zQi below args s D (tC cy) (wC ad cy) A res) (F0 m 144 ls []) := by
  have hx := hC.1
  have hb := hC.2.1
  unfold fX5_moreOfA_144 at hf
  refine lv_aload_n hx hb dX5_moreOfA_144 rfl (lv_at hl 0 rfl) ?_
  refine lv_iload_n hx hb dX5_moreOfA_145 rfl (lv_at hl 1 rfl) ?_
  refine lv_iconst (v := 4) hx hb dX5_moreOfA_146 (by decide) ?_
  refine lv_icmp_ne (tgt := 154) hx hb dX5_moreOfA_147 (by decide) (fun q => ?_) (fun q => ?_)
  · replace hf := zif_f q hf
    refine lv_iconst (v := 0) hx hb dX5_moreOfA_154 (by decide) ?_
    exact bX5_moreOfA_155 hC  hI (lv_sub hl [] rfl) hf
  replace hf := zif_t q hf
  refine lv_iconst (v := 1) hx hb dX5_moreOfA_150 (by decide) ?_
  refine lv_goto (tgt := 155) hx hb dX5_moreOfA_151 (by decide) ?_
  exact bX5_moreOfA_155 hC  hI (lv_sub hl [] rfl) hf
set_option maxRecDepth 20000 in
set_option maxHeartbeats 4000000 in
theorem bX5_moreOfA {st : Nat → Nat} {p : Program} {l : Launch} {e : Env} {s : State} {m : MethodId} {args : Array Value} {below : List Frame} {meth : Method} {c : Code} {D : va_G} {A : Nat → Prop} {ad : Nat → Nat} {cy : Nat → ClassId} (hC : zC p m c cX5_moreOfA 2 s args wzX5_moreOfA RX5 meth (some .int))  {res : zSt × Int32} {H : Heap} {locs : List Loc} {σ : zSt} {ls : Array Slot} {x1 : Int32} (hI : zI st D (tC cy) (wC ad cy σ) A s H locs) (hl : lv_has ls 2 [(0, .ref (ad 7)), (1, .int x1)]) (hf : fX5_moreOfA  σ x1 = some res) : W p l e rmX5_moreOfA s m args below meth c H locs 0 0 (zQi below args s D (tC cy) (wC ad cy) A res) (F0 m 0 ls []) := by
  have hx := hC.1
  have hb := hC.2.1
  unfold fX5_moreOfA at hf
  refine lv_iload_n hx hb dX5_moreOfA_0 rfl (lv_at hl 1 rfl) ?_
  by_cases q0 : x1 = 0
  · replace hf := zif_t q0 hf
    refine lv_tableIn (tgt := 40) hx hb dX5_moreOfA_1 (by rw [q0]; decide) (by rw [q0]; decide) (by rw [q0]; rfl) (by decide) ?_
    refine lv_aload_n hx hb dX5_moreOfA_40 rfl (lv_at hl 0 rfl) ?_
    refine z_get hC hI hinX5_moreOfA_X50 7 (wC_e7 ad cy σ) rfl 2 (by decide) (List.mem_cons_of_mem _ zw7_5) rfl dX5_moreOfA_41 ?_
    refine lv_bipush (v := 21) hx hb dX5_moreOfA_44 (by decide) ?_
    refine lv_aload_n hx hb dX5_moreOfA_46 rfl (lv_at hl 0 rfl) ?_
    refine z_get hC hI hinX5_moreOfA_X50 7 (wC_e7 ad cy σ) rfl 2 (by decide) (List.mem_cons_of_mem _ zw7_5) rfl dX5_moreOfA_47 ?_
    refine lv_iconst (v := 0) hx hb dX5_moreOfA_50 (by decide) ?_
    obtain ⟨q, hf⟩ := zck_use hf
    refine z_iald hC hI 36 23 (wC_e36 ad cy σ) (tC_t36 cy) q dX5_moreOfA_51 ?_
    obtain ⟨q, hf⟩ := zck_use hf
    obtain ⟨σ6, eσ6⟩ : ∃ z, z = zsi σ 36 ((21 : Int32).toNatClampNeg) (zgi σ 36 (0 : Int32).toNatClampNeg) := ⟨_, rfl⟩
    replace hf := zbv_use eσ6 hf
    refine z_iast hC hI 36 23 (wC_e36 ad cy σ) (tC_t36 cy) q ((wC_s36 ad cy σ _ _).trans (congrArg (wC ad cy) eσ6.symm)) dX5_moreOfA_52 (fun H locs hI => ?_)
    refine lv_bipush (v := 9) hx hb dX5_moreOfA_53 (by decide) ?_
    exact z_ireturn hC hI hf dX5_moreOfA_55
  replace hf := zif_f q0 hf
  by_cases q1 : x1 = 1
  · replace hf := zif_t q1 hf
    refine lv_tableIn (tgt := 56) hx hb dX5_moreOfA_1 (by rw [q1]; decide) (by rw [q1]; decide) (by rw [q1]; rfl) (by decide) ?_
    refine lv_aload_n hx hb dX5_moreOfA_56 rfl (lv_at hl 0 rfl) ?_
    refine z_get hC hI hinX5_moreOfA_X50 7 (wC_e7 ad cy σ) rfl 2 (by decide) (List.mem_cons_of_mem _ zw7_5) rfl dX5_moreOfA_57 ?_
    refine lv_bipush (v := 22) hx hb dX5_moreOfA_60 (by decide) ?_
    refine lv_aload_n hx hb dX5_moreOfA_62 rfl (lv_at hl 0 rfl) ?_
    refine z_get hC hI hinX5_moreOfA_X50 7 (wC_e7 ad cy σ) rfl 2 (by decide) (List.mem_cons_of_mem _ zw7_5) rfl dX5_moreOfA_63 ?_
    refine lv_iconst (v := 0) hx hb dX5_moreOfA_66 (by decide) ?_
    obtain ⟨q, hf⟩ := zck_use hf
    refine z_iald hC hI 36 23 (wC_e36 ad cy σ) (tC_t36 cy) q dX5_moreOfA_67 ?_
    obtain ⟨q, hf⟩ := zck_use hf
    obtain ⟨σ7, eσ7⟩ : ∃ z, z = zsi σ 36 ((22 : Int32).toNatClampNeg) (zgi σ 36 (0 : Int32).toNatClampNeg) := ⟨_, rfl⟩
    replace hf := zbv_use eσ7 hf
    refine z_iast hC hI 36 23 (wC_e36 ad cy σ) (tC_t36 cy) q ((wC_s36 ad cy σ _ _).trans (congrArg (wC ad cy) eσ7.symm)) dX5_moreOfA_68 (fun H locs hI => ?_)
    refine lv_bipush (v := 9) hx hb dX5_moreOfA_69 (by decide) ?_
    exact z_ireturn hC hI hf dX5_moreOfA_71
  replace hf := zif_f q1 hf
  by_cases q2 : x1 = 2
  · replace hf := zif_t q2 hf
    refine lv_tableIn (tgt := 72) hx hb dX5_moreOfA_1 (by rw [q2]; decide) (by rw [q2]; decide) (by rw [q2]; rfl) (by decide) ?_
    exact bX5_moreOfA_72 hC  hI hl hf
  replace hf := zif_f q2 hf
  by_cases q3 : x1 = 3
  · replace hf := zif_t q3 hf
    refine lv_tableIn (tgt := 72) hx hb dX5_moreOfA_1 (by rw [q3]; decide) (by rw [q3]; decide) (by rw [q3]; rfl) (by decide) ?_
    exact bX5_moreOfA_72 hC  hI hl hf
  replace hf := zif_f q3 hf
  by_cases q4 : x1 = 4
  · replace hf := zif_t q4 hf
    refine lv_tableIn (tgt := 144) hx hb dX5_moreOfA_1 (by rw [q4]; decide) (by rw [q4]; decide) (by rw [q4]; rfl) (by decide) ?_
    exact bX5_moreOfA_144 hC  hI hl hf
  replace hf := zif_f q4 hf
  by_cases q5 : x1 = 5
  · replace hf := zif_t q5 hf
    refine lv_tableIn (tgt := 144) hx hb dX5_moreOfA_1 (by rw [q5]; decide) (by rw [q5]; decide) (by rw [q5]; rfl) (by decide) ?_
    exact bX5_moreOfA_144 hC  hI hl hf
  replace hf := zif_f q5 hf
  refine lv_tableOut (tgt := 161) hx hb dX5_moreOfA_1 (zsw (fun k h1 h2 => by rcases (show k = 0 ∨ k = 1 ∨ k = 2 ∨ k = 3 ∨ k = 4 ∨ k = 5 by omega) with rfl | rfl | rfl | rfl | rfl | rfl <;> assumption)) (by decide) ?_
  refine lv_bipush (v := 8) hx hb dX5_moreOfA_161 (by decide) ?_
  exact z_ireturn hC hI hf dX5_moreOfA_163
set_option maxRecDepth 20000 in
theorem cX5_moreOfA_met (st : Nat → Nat) (l : Launch) (D : va_G) (ad : Nat → Nat) (cy : Nat → ClassId) (σ : zSt) (x1 : Int32) (res : zSt × Int32) (hf : fX5_moreOfA σ x1 = some res) (sz : Nat) : zMi st l yX5_moreOfA wzX5_moreOfA rmX5_moreOfA [.ref (ad 7), .int x1] D (tC cy) (wC ad cy) sz σ res :=
  zMi.of (cc := cX5_moreOfA) (maxL := 2) (ret := (some .int)) (by decide) rfl (Nat.le_of_ble_eq_true rfl) (fun p e s m args below meth c hC A hI ls hl => bX5_moreOfA hC hI hl hf)
theorem hdX5_moreOfA : yX5_moreOfA.cls = RX5 ∧ yX5_moreOfA.cls ≠ "java/lang/invoke/MethodHandle" ∧ yX5_moreOfA.cls ≠ "java/lang/invoke/VarHandle" ∧ (parseMethodDescriptor yX5_moreOfA.desc).map (fun d => d.parameters.length) = some 1 := by decide +kernel
def rmX5_pop : Room := { frames := 2, cells := 0, slots := 0, locals := 47 }
def wzX5_pop : List Cond := .code yX5_pop cX5_pop 2 (some .int) :: wsL_law
theorem hinX5_pop_X50 : ∀ w ∈ wsX50, w ∈ wzX5_pop := fun w h => List.mem_cons_of_mem _ (inlX5 w h)
def fX5_pop  (σ : zSt)  : Option (zSt × Int32) :=
  zck (zin 18 29) (
  zbi (fX2_read σ (zgi σ 36 (18 : Int32).toNatClampNeg)) (fun σ1 v2 =>
  zck (zin 18 29) (
  zbi (fX2_read σ1 ((zgi σ1 36 (18 : Int32).toNatClampNeg) + 1)) (fun σ3 v4 =>
  zbv (v2 ||| (v4 <<< ((8 : Int32) &&& 31))) (fun v5 =>
  zck (zin 18 29) (
  zck (zin 18 29) (zbv (zsi σ3 36 ((18 : Int32).toNatClampNeg) (((zgi σ3 36 (18 : Int32).toNatClampNeg) + 2) &&& 65535)) (fun σ6 =>
  some (σ6, v5)))))))))
set_option maxRecDepth 20000 in
set_option maxHeartbeats 4000000 in
theorem bX5_pop {st : Nat → Nat} {p : Program} {l : Launch} {e : Env} {s : State} {m : MethodId} {args : Array Value} {below : List Frame} {meth : Method} {c : Code} {D : va_G} {A : Nat → Prop} {ad : Nat → Nat} {cy : Nat → ClassId} (hC : zC p m c cX5_pop 2 s args wzX5_pop RX5 meth (some .int))  {res : zSt × Int32} {H : Heap} {locs : List Loc} {σ : zSt} {ls : Array Slot}  (hI : zI st D (tC cy) (wC ad cy σ) A s H locs) (hl : lv_has ls 2 [(0, .ref (ad 7))]) (hf : fX5_pop  σ  = some res) : W p l e rmX5_pop s m args below meth c H locs 0 0 (zQi below args s D (tC cy) (wC ad cy) A res) (F0 m 0 ls []) := by
  have hx := hC.1
  have hb := hC.2.1
  unfold fX5_pop at hf
  refine lv_aload_n hx hb dX5_pop_0 rfl (lv_at hl 0 rfl) ?_
  refine z_get hC hI hinX5_pop_X50 7 (wC_e7 ad cy σ) rfl 0 (by decide) (List.mem_cons_of_mem _ zw7_8) rfl dX5_pop_1 ?_
  refine lv_aload_n hx hb dX5_pop_4 rfl (lv_at hl 0 rfl) ?_
  refine z_get hC hI hinX5_pop_X50 7 (wC_e7 ad cy σ) rfl 2 (by decide) (List.mem_cons_of_mem _ zw7_5) rfl dX5_pop_5 ?_
  refine lv_bipush (v := 18) hx hb dX5_pop_8 (by decide) ?_
  obtain ⟨q, hf⟩ := zck_use hf
  refine z_iald hC hI 36 23 (wC_e36 ad cy σ) (tC_t36 cy) q dX5_pop_10 ?_
  obtain ⟨σ1, v2, g1, hf⟩ := zbi_use hf
  refine z_callVi (As := [.int (zgi σ 36 (18 : Int32).toNatClampNeg)]) (rest := []) hC hI (cX2_read_met st l D ad cy σ (zgi σ 36 (18 : Int32).toNatClampNeg) _ g1) (zgV zw21_6 zw21_7 zw21_8 zw1_21 zw21_9) rfl ⟨rfl, rfl⟩ 1 hdX2_read ⟨Nat.le_of_ble_eq_true rfl, Nat.le_of_ble_eq_true rfl⟩ rfl rfl (wC_e1 ad cy σ) rfl hl rfl (Nat.le_of_ble_eq_true rfl) dX5_pop_11 ⟨Nat.zero_le _, Nat.zero_le _⟩ (fun H locs hI => ?_)
  refine lv_aload_n hx hb dX5_pop_14 rfl (lv_at hl 0 rfl) ?_
  refine z_get hC hI hinX5_pop_X50 7 (wC_e7 ad cy σ1) rfl 0 (by decide) (List.mem_cons_of_mem _ zw7_8) rfl dX5_pop_15 ?_
  refine lv_aload_n hx hb dX5_pop_18 rfl (lv_at hl 0 rfl) ?_
  refine z_get hC hI hinX5_pop_X50 7 (wC_e7 ad cy σ1) rfl 2 (by decide) (List.mem_cons_of_mem _ zw7_5) rfl dX5_pop_19 ?_
  refine lv_bipush (v := 18) hx hb dX5_pop_22 (by decide) ?_
  obtain ⟨q, hf⟩ := zck_use hf
  refine z_iald hC hI 36 23 (wC_e36 ad cy σ1) (tC_t36 cy) q dX5_pop_24 ?_
  refine lv_iconst (v := 1) hx hb dX5_pop_25 (by decide) ?_
  refine lv_iadd hx hb dX5_pop_26 ?_
  obtain ⟨σ3, v4, g3, hf⟩ := zbi_use hf
  refine z_callVi (As := [.int ((zgi σ1 36 (18 : Int32).toNatClampNeg) + 1)]) (rest := [.int v2]) hC hI (cX2_read_met st l D ad cy σ1 ((zgi σ1 36 (18 : Int32).toNatClampNeg) + 1) _ g3) (zgV zw21_6 zw21_7 zw21_8 zw1_21 zw21_9) rfl ⟨rfl, rfl⟩ 1 hdX2_read ⟨Nat.le_of_ble_eq_true rfl, Nat.le_of_ble_eq_true rfl⟩ rfl rfl (wC_e1 ad cy σ1) rfl hl rfl (Nat.le_of_ble_eq_true rfl) dX5_pop_27 ⟨Nat.zero_le _, Nat.zero_le _⟩ (fun H locs hI => ?_)
  refine lv_bipush (v := 8) hx hb dX5_pop_30 (by decide) ?_
  refine lv_ishl hx hb dX5_pop_32 ?_
  refine lv_ior hx hb dX5_pop_33 ?_
  refine lv_topi (fun v5 ev5 => ?_)
  replace hf := zbv_use ev5 hf
  refine lv_istore_n (lv' := [(1, .int v5), (0, .ref (ad 7))]) hx hb dX5_pop_34 rfl hl (by decide) rfl (fun ls hl => ?_)
  refine lv_aload_n hx hb dX5_pop_35 rfl (lv_at hl 1 rfl) ?_
  refine z_get hC hI hinX5_pop_X50 7 (wC_e7 ad cy σ3) rfl 2 (by decide) (List.mem_cons_of_mem _ zw7_5) rfl dX5_pop_36 ?_
  refine lv_bipush (v := 18) hx hb dX5_pop_39 (by decide) ?_
  refine lv_aload_n hx hb dX5_pop_41 rfl (lv_at hl 1 rfl) ?_
  refine z_get hC hI hinX5_pop_X50 7 (wC_e7 ad cy σ3) rfl 2 (by decide) (List.mem_cons_of_mem _ zw7_5) rfl dX5_pop_42 ?_
  refine lv_bipush (v := 18) hx hb dX5_pop_45 (by decide) ?_
  obtain ⟨q, hf⟩ := zck_use hf
  refine z_iald hC hI 36 23 (wC_e36 ad cy σ3) (tC_t36 cy) q dX5_pop_47 ?_
  refine lv_iconst (v := 2) hx hb dX5_pop_48 (by decide) ?_
  refine lv_iadd hx hb dX5_pop_49 ?_
  refine lv_ldc (v := 65535) hx hb hC.2.2.2.1 (hC.2.2.2.2.1 _ (List.mem_cons_of_mem _ zw20_6)) dX5_pop_50 ?_
  refine lv_iand hx hb dX5_pop_52 ?_
  obtain ⟨q, hf⟩ := zck_use hf
  obtain ⟨σ6, eσ6⟩ : ∃ z, z = zsi σ3 36 ((18 : Int32).toNatClampNeg) (((zgi σ3 36 (18 : Int32).toNatClampNeg) + 2) &&& 65535) := ⟨_, rfl⟩
  replace hf := zbv_use eσ6 hf
  refine z_iast hC hI 36 23 (wC_e36 ad cy σ3) (tC_t36 cy) q ((wC_s36 ad cy σ3 _ _).trans (congrArg (wC ad cy) eσ6.symm)) dX5_pop_53 (fun H locs hI => ?_)
  refine lv_iload_n hx hb dX5_pop_54 rfl (lv_at hl 0 rfl) ?_
  exact z_ireturn hC hI hf dX5_pop_55
set_option maxRecDepth 20000 in
theorem cX5_pop_met (st : Nat → Nat) (l : Launch) (D : va_G) (ad : Nat → Nat) (cy : Nat → ClassId) (σ : zSt)  (res : zSt × Int32) (hf : fX5_pop σ  = some res) (sz : Nat) : zMi st l yX5_pop wzX5_pop rmX5_pop [.ref (ad 7)] D (tC cy) (wC ad cy) sz σ res :=
  zMi.of (cc := cX5_pop) (maxL := 2) (ret := (some .int)) (by decide) rfl (Nat.le_of_ble_eq_true rfl) (fun p e s m args below meth c hC A hI ls hl => bX5_pop hC hI hl hf)
theorem hdX5_pop : yX5_pop.cls = RX5 ∧ yX5_pop.cls ≠ "java/lang/invoke/MethodHandle" ∧ yX5_pop.cls ≠ "java/lang/invoke/VarHandle" ∧ (parseMethodDescriptor yX5_pop.desc).map (fun d => d.parameters.length) = some 0 := by decide +kernel
def rmX5_difference : Room := { frames := 1, cells := 0, slots := 0, locals := 20 }
def wzX5_difference : List Cond := .code yX5_difference cX5_difference 7 (some .int) :: wsL_law
theorem hinX5_difference_X50 : ∀ w ∈ wsX50, w ∈ wzX5_difference := fun w h => List.mem_cons_of_mem _ (inlX5 w h)
def fX5_difference_72  (σ : zSt) (x5 : Int32) (s0 : Int32) (s1 : Int32) (s2 : Int32) : Option (zSt × Int32) :=
  zck (zin s2 29) (zbv (zsi σ 36 (s2.toNatClampNeg) (s1 ||| s0)) (fun σ1 =>
  some (σ1, x5)))
def fX5_difference_59  (σ : zSt) (x4 : Int32) (x5 : Int32) (s0 : Int32) (s1 : Int32) (s2 : Int32) : Option (zSt × Int32) :=
  if 0 ≤ x4 then fX5_difference_72 σ x5 0 ((s1 ||| s0) ||| 2) s2 else
  fX5_difference_72 σ x5 1 ((s1 ||| s0) ||| 2) s2
def fX5_difference  (σ : zSt) (x1 : Int32) (x2 : Int32) (x3 : Int32) : Option (zSt × Int32) :=
  zbv ((x1 - x2) - x3) (fun v2 =>
  zbv (v2 &&& 255) (fun v3 =>
  zbv (((x1 ^^^ x2) &&& (x1 ^^^ v3)) &&& 128) (fun v4 =>
  zbi (fX5_by σ v3) (fun σ5 v6 =>
  if v4 = 0 then fX5_difference_59 σ5 v2 v3 0 (v6 ||| (((x1 ^^^ x2) ^^^ v3) &&& 16)) 1 else
  fX5_difference_59 σ5 v2 v3 4 (v6 ||| (((x1 ^^^ x2) ^^^ v3) &&& 16)) 1))))
set_option maxRecDepth 20000 in
set_option maxHeartbeats 4000000 in
theorem bX5_difference_72 {st : Nat → Nat} {p : Program} {l : Launch} {e : Env} {s : State} {m : MethodId} {args : Array Value} {below : List Frame} {meth : Method} {c : Code} {D : va_G} {A : Nat → Prop} {ad : Nat → Nat} {cy : Nat → ClassId} (hC : zC p m c cX5_difference 7 s args wzX5_difference RX5 meth (some .int))  {res : zSt × Int32} {H : Heap} {locs : List Loc} {σ : zSt} {ls : Array Slot} {x5 : Int32} {s0 : Int32} {s1 : Int32} {s2 : Int32} (hI : zI st D (tC cy) (wC ad cy σ) A s H locs) (hl : lv_has ls 7 [(5, .int x5)]) (hf : fX5_difference_72  σ x5 s0 s1 s2 = some res) : W p l e rmX5_difference s m args below meth c H locs 0 0 (zQi below args s D (tC cy) (wC ad cy) A res) (F0 m 72 ls [.int s0, .int s1, .int s2, .ref (ad 36)]) := by
  have hx := hC.1
  have hb := hC.2.1
  unfold fX5_difference_72 at hf
  refine lv_ior hx hb dX5_difference_72 ?_
  obtain ⟨q, hf⟩ := zck_use hf
  obtain ⟨σ1, eσ1⟩ : ∃ z, z = zsi σ 36 (s2.toNatClampNeg) (s1 ||| s0) := ⟨_, rfl⟩
  replace hf := zbv_use eσ1 hf
  refine z_iast hC hI 36 23 (wC_e36 ad cy σ) (tC_t36 cy) q ((wC_s36 ad cy σ _ _).trans (congrArg (wC ad cy) eσ1.symm)) dX5_difference_73 (fun H locs hI => ?_)
  refine lv_iload hx hb dX5_difference_74 (lv_at hl 0 rfl) ?_
  exact z_ireturn hC hI hf dX5_difference_76
set_option maxRecDepth 20000 in
set_option maxHeartbeats 4000000 in
theorem bX5_difference_59 {st : Nat → Nat} {p : Program} {l : Launch} {e : Env} {s : State} {m : MethodId} {args : Array Value} {below : List Frame} {meth : Method} {c : Code} {D : va_G} {A : Nat → Prop} {ad : Nat → Nat} {cy : Nat → ClassId} (hC : zC p m c cX5_difference 7 s args wzX5_difference RX5 meth (some .int))  {res : zSt × Int32} {H : Heap} {locs : List Loc} {σ : zSt} {ls : Array Slot} {x4 : Int32} {x5 : Int32} {s0 : Int32} {s1 : Int32} {s2 : Int32} (hI : zI st D (tC cy) (wC ad cy σ) A s H locs) (hl : lv_has ls 7 [(4, .int x4), (5, .int x5)]) (hf : fX5_difference_59  σ x4 x5 s0 s1 s2 = some res) : W p l e rmX5_difference s m args below meth c H locs 0 0 (zQi below args s D (tC cy) (wC ad cy) A res) (F0 m 59 ls [.int s0, .int s1, .int s2, .ref (ad 36)]) := by
  have hx := hC.1
  have hb := hC.2.1
  unfold fX5_difference_59 at hf
  refine lv_ior hx hb dX5_difference_59 ?_
  refine lv_iconst (v := 2) hx hb dX5_difference_60 (by decide) ?_
  refine lv_ior hx hb dX5_difference_61 ?_
  refine lv_iload hx hb dX5_difference_62 (lv_at hl 0 rfl) ?_
  refine lv_if_ge (tgt := 71) hx hb dX5_difference_64 (by decide) (fun q => ?_) (fun q => ?_)
  · replace hf := zif_t q hf
    refine lv_iconst (v := 0) hx hb dX5_difference_71 (by decide) ?_
    exact bX5_difference_72 hC  hI (lv_sub hl [1] rfl) hf
  replace hf := zif_f q hf
  refine lv_iconst (v := 1) hx hb dX5_difference_67 (by decide) ?_
  refine lv_goto (tgt := 72) hx hb dX5_difference_68 (by decide) ?_
  exact bX5_difference_72 hC  hI (lv_sub hl [1] rfl) hf
set_option maxRecDepth 20000 in
set_option maxHeartbeats 4000000 in
theorem bX5_difference {st : Nat → Nat} {p : Program} {l : Launch} {e : Env} {s : State} {m : MethodId} {args : Array Value} {below : List Frame} {meth : Method} {c : Code} {D : va_G} {A : Nat → Prop} {ad : Nat → Nat} {cy : Nat → ClassId} (hC : zC p m c cX5_difference 7 s args wzX5_difference RX5 meth (some .int))  {res : zSt × Int32} {H : Heap} {locs : List Loc} {σ : zSt} {ls : Array Slot} {x1 : Int32} {x2 : Int32} {x3 : Int32} (hI : zI st D (tC cy) (wC ad cy σ) A s H locs) (hl : lv_has ls 7 [(0, .ref (ad 7)), (1, .int x1), (2, .int x2), (3, .int x3)]) (hf : fX5_difference  σ x1 x2 x3 = some res) : W p l e rmX5_difference s m args below meth c H locs 0 0 (zQi below args s D (tC cy) (wC ad cy) A res) (F0 m 0 ls []) := by
  have hx := hC.1
  have hb := hC.2.1
  unfold fX5_difference at hf
  refine lv_iload_n hx hb dX5_difference_0 rfl (lv_at hl 1 rfl) ?_
  refine lv_iload_n hx hb dX5_difference_1 rfl (lv_at hl 2 rfl) ?_
  refine lv_isub hx hb dX5_difference_2 ?_
  refine lv_iload_n hx hb dX5_difference_3 rfl (lv_at hl 3 rfl) ?_
  refine lv_isub hx hb dX5_difference_4 ?_
  refine lv_topi (fun v2 ev2 => ?_)
  replace hf := zbv_use ev2 hf
  refine lv_istore (lv' := [(4, .int v2), (0, .ref (ad 7)), (1, .int x1), (2, .int x2), (3, .int x3)]) hx hb dX5_difference_5 hl (by decide) rfl (fun ls hl => ?_)
  refine lv_iload hx hb dX5_difference_7 (lv_at hl 0 rfl) ?_
  refine lv_sipush (v := 255) hx hb dX5_difference_9 (by decide) ?_
  refine lv_iand hx hb dX5_difference_12 ?_
  refine lv_topi (fun v3 ev3 => ?_)
  replace hf := zbv_use ev3 hf
  refine lv_istore (lv' := [(5, .int v3), (4, .int v2), (0, .ref (ad 7)), (1, .int x1), (2, .int x2), (3, .int x3)]) hx hb dX5_difference_13 hl (by decide) rfl (fun ls hl => ?_)
  refine lv_iload_n hx hb dX5_difference_15 rfl (lv_at hl 3 rfl) ?_
  refine lv_iload_n hx hb dX5_difference_16 rfl (lv_at hl 4 rfl) ?_
  refine lv_ixor hx hb dX5_difference_17 ?_
  refine lv_iload_n hx hb dX5_difference_18 rfl (lv_at hl 3 rfl) ?_
  refine lv_iload hx hb dX5_difference_19 (lv_at hl 0 rfl) ?_
  refine lv_ixor hx hb dX5_difference_21 ?_
  refine lv_iand hx hb dX5_difference_22 ?_
  refine lv_sipush (v := 128) hx hb dX5_difference_23 (by decide) ?_
  refine lv_iand hx hb dX5_difference_26 ?_
  refine lv_topi (fun v4 ev4 => ?_)
  replace hf := zbv_use ev4 hf
  refine lv_istore (lv' := [(6, .int v4), (5, .int v3), (4, .int v2), (0, .ref (ad 7)), (1, .int x1), (2, .int x2), (3, .int x3)]) hx hb dX5_difference_27 hl (by decide) rfl (fun ls hl => ?_)
  refine lv_aload_n hx hb dX5_difference_29 rfl (lv_at hl 3 rfl) ?_
  refine z_get hC hI hinX5_difference_X50 7 (wC_e7 ad cy σ) rfl 2 (by decide) (List.mem_cons_of_mem _ zw7_5) rfl dX5_difference_30 ?_
  refine lv_iconst (v := 1) hx hb dX5_difference_33 (by decide) ?_
  refine lv_iload hx hb dX5_difference_34 (lv_at hl 1 rfl) ?_
  obtain ⟨σ5, v6, g5, hf⟩ := zbi_use hf
  refine z_callSi (As := [.int v3]) (rest := [.int 1, .ref (ad 36)]) hC hI (cX5_by_met st l D ad cy σ v3 _ g5) (zgS zw22_19 zw22_20 zw2_21 zw22_21) rfl ⟨rfl, rfl⟩ 1 hdX5_by ⟨Nat.le_of_ble_eq_true rfl, Nat.le_of_ble_eq_true rfl⟩ rfl hl rfl (Nat.le_of_ble_eq_true rfl) dX5_difference_36 ⟨Nat.zero_le _, Nat.zero_le _⟩ (fun H locs hI => ?_)
  refine lv_iload_n hx hb dX5_difference_39 rfl (lv_at hl 4 rfl) ?_
  refine lv_iload_n hx hb dX5_difference_40 rfl (lv_at hl 5 rfl) ?_
  refine lv_ixor hx hb dX5_difference_41 ?_
  refine lv_iload hx hb dX5_difference_42 (lv_at hl 1 rfl) ?_
  refine lv_ixor hx hb dX5_difference_44 ?_
  refine lv_bipush (v := 16) hx hb dX5_difference_45 (by decide) ?_
  refine lv_iand hx hb dX5_difference_47 ?_
  refine lv_ior hx hb dX5_difference_48 ?_
  refine lv_iload hx hb dX5_difference_49 (lv_at hl 0 rfl) ?_
  refine lv_if_eq (tgt := 58) hx hb dX5_difference_51 (by decide) (fun q => ?_) (fun q => ?_)
  · replace hf := zif_t q hf
    refine lv_iconst (v := 0) hx hb dX5_difference_58 (by decide) ?_
    exact bX5_difference_59 hC  hI (lv_sub hl [2, 1] rfl) hf
  replace hf := zif_f q hf
  refine lv_iconst (v := 4) hx hb dX5_difference_54 (by decide) ?_
  refine lv_goto (tgt := 59) hx hb dX5_difference_55 (by decide) ?_
  exact bX5_difference_59 hC  hI (lv_sub hl [2, 1] rfl) hf
set_option maxRecDepth 20000 in
theorem cX5_difference_met (st : Nat → Nat) (l : Launch) (D : va_G) (ad : Nat → Nat) (cy : Nat → ClassId) (σ : zSt) (x1 : Int32) (x2 : Int32) (x3 : Int32) (res : zSt × Int32) (hf : fX5_difference σ x1 x2 x3 = some res) (sz : Nat) : zMi st l yX5_difference wzX5_difference rmX5_difference [.ref (ad 7), .int x1, .int x2, .int x3] D (tC cy) (wC ad cy) sz σ res :=
  zMi.of (cc := cX5_difference) (maxL := 7) (ret := (some .int)) (by decide) rfl (Nat.le_of_ble_eq_true rfl) (fun p e s m args below meth c hC A hI ls hl => bX5_difference hC hI hl hf)
theorem hdX5_difference : yX5_difference.cls = RX5 ∧ yX5_difference.cls ≠ "java/lang/invoke/MethodHandle" ∧ yX5_difference.cls ≠ "java/lang/invoke/VarHandle" ∧ (parseMethodDescriptor yX5_difference.desc).map (fun d => d.parameters.length) = some 3 := by decide +kernel
def rmX5_fetchWord : Room := { frames := 2, cells := 0, slots := 0, locals := 47 }
def wzX5_fetchWord : List Cond := .code yX5_fetchWord cX5_fetchWord 2 (some .int) :: wsL_law
theorem hinX5_fetchWord_X50 : ∀ w ∈ wsX50, w ∈ wzX5_fetchWord := fun w h => List.mem_cons_of_mem _ (inlX5 w h)
def fX5_fetchWord  (σ : zSt)  : Option (zSt × Int32) :=
  zck (zin 19 29) (
  zbi (fX2_read σ (zgi σ 36 (19 : Int32).toNatClampNeg)) (fun σ1 v2 =>
  zck (zin 19 29) (
  zbi (fX2_read σ1 ((zgi σ1 36 (19 : Int32).toNatClampNeg) + 1)) (fun σ3 v4 =>
  zbv (v2 ||| (v4 <<< ((8 : Int32) &&& 31))) (fun v5 =>
  zck (zin 19 29) (
  zck (zin 19 29) (zbv (zsi σ3 36 ((19 : Int32).toNatClampNeg) (((zgi σ3 36 (19 : Int32).toNatClampNeg) + 2) &&& 65535)) (fun σ6 =>
  some (σ6, v5)))))))))
set_option maxRecDepth 20000 in
set_option maxHeartbeats 4000000 in
theorem bX5_fetchWord {st : Nat → Nat} {p : Program} {l : Launch} {e : Env} {s : State} {m : MethodId} {args : Array Value} {below : List Frame} {meth : Method} {c : Code} {D : va_G} {A : Nat → Prop} {ad : Nat → Nat} {cy : Nat → ClassId} (hC : zC p m c cX5_fetchWord 2 s args wzX5_fetchWord RX5 meth (some .int))  {res : zSt × Int32} {H : Heap} {locs : List Loc} {σ : zSt} {ls : Array Slot}  (hI : zI st D (tC cy) (wC ad cy σ) A s H locs) (hl : lv_has ls 2 [(0, .ref (ad 7))]) (hf : fX5_fetchWord  σ  = some res) : W p l e rmX5_fetchWord s m args below meth c H locs 0 0 (zQi below args s D (tC cy) (wC ad cy) A res) (F0 m 0 ls []) := by
  have hx := hC.1
  have hb := hC.2.1
  unfold fX5_fetchWord at hf
  refine lv_aload_n hx hb dX5_fetchWord_0 rfl (lv_at hl 0 rfl) ?_
  refine z_get hC hI hinX5_fetchWord_X50 7 (wC_e7 ad cy σ) rfl 0 (by decide) (List.mem_cons_of_mem _ zw7_8) rfl dX5_fetchWord_1 ?_
  refine lv_aload_n hx hb dX5_fetchWord_4 rfl (lv_at hl 0 rfl) ?_
  refine z_get hC hI hinX5_fetchWord_X50 7 (wC_e7 ad cy σ) rfl 2 (by decide) (List.mem_cons_of_mem _ zw7_5) rfl dX5_fetchWord_5 ?_
  refine lv_bipush (v := 19) hx hb dX5_fetchWord_8 (by decide) ?_
  obtain ⟨q, hf⟩ := zck_use hf
  refine z_iald hC hI 36 23 (wC_e36 ad cy σ) (tC_t36 cy) q dX5_fetchWord_10 ?_
  obtain ⟨σ1, v2, g1, hf⟩ := zbi_use hf
  refine z_callVi (As := [.int (zgi σ 36 (19 : Int32).toNatClampNeg)]) (rest := []) hC hI (cX2_read_met st l D ad cy σ (zgi σ 36 (19 : Int32).toNatClampNeg) _ g1) (zgV zw21_6 zw21_7 zw21_8 zw1_21 zw21_9) rfl ⟨rfl, rfl⟩ 1 hdX2_read ⟨Nat.le_of_ble_eq_true rfl, Nat.le_of_ble_eq_true rfl⟩ rfl rfl (wC_e1 ad cy σ) rfl hl rfl (Nat.le_of_ble_eq_true rfl) dX5_fetchWord_11 ⟨Nat.zero_le _, Nat.zero_le _⟩ (fun H locs hI => ?_)
  refine lv_aload_n hx hb dX5_fetchWord_14 rfl (lv_at hl 0 rfl) ?_
  refine z_get hC hI hinX5_fetchWord_X50 7 (wC_e7 ad cy σ1) rfl 0 (by decide) (List.mem_cons_of_mem _ zw7_8) rfl dX5_fetchWord_15 ?_
  refine lv_aload_n hx hb dX5_fetchWord_18 rfl (lv_at hl 0 rfl) ?_
  refine z_get hC hI hinX5_fetchWord_X50 7 (wC_e7 ad cy σ1) rfl 2 (by decide) (List.mem_cons_of_mem _ zw7_5) rfl dX5_fetchWord_19 ?_
  refine lv_bipush (v := 19) hx hb dX5_fetchWord_22 (by decide) ?_
  obtain ⟨q, hf⟩ := zck_use hf
  refine z_iald hC hI 36 23 (wC_e36 ad cy σ1) (tC_t36 cy) q dX5_fetchWord_24 ?_
  refine lv_iconst (v := 1) hx hb dX5_fetchWord_25 (by decide) ?_
  refine lv_iadd hx hb dX5_fetchWord_26 ?_
  obtain ⟨σ3, v4, g3, hf⟩ := zbi_use hf
  refine z_callVi (As := [.int ((zgi σ1 36 (19 : Int32).toNatClampNeg) + 1)]) (rest := [.int v2]) hC hI (cX2_read_met st l D ad cy σ1 ((zgi σ1 36 (19 : Int32).toNatClampNeg) + 1) _ g3) (zgV zw21_6 zw21_7 zw21_8 zw1_21 zw21_9) rfl ⟨rfl, rfl⟩ 1 hdX2_read ⟨Nat.le_of_ble_eq_true rfl, Nat.le_of_ble_eq_true rfl⟩ rfl rfl (wC_e1 ad cy σ1) rfl hl rfl (Nat.le_of_ble_eq_true rfl) dX5_fetchWord_27 ⟨Nat.zero_le _, Nat.zero_le _⟩ (fun H locs hI => ?_)
  refine lv_bipush (v := 8) hx hb dX5_fetchWord_30 (by decide) ?_
  refine lv_ishl hx hb dX5_fetchWord_32 ?_
  refine lv_ior hx hb dX5_fetchWord_33 ?_
  refine lv_topi (fun v5 ev5 => ?_)
  replace hf := zbv_use ev5 hf
  refine lv_istore_n (lv' := [(1, .int v5), (0, .ref (ad 7))]) hx hb dX5_fetchWord_34 rfl hl (by decide) rfl (fun ls hl => ?_)
  refine lv_aload_n hx hb dX5_fetchWord_35 rfl (lv_at hl 1 rfl) ?_
  refine z_get hC hI hinX5_fetchWord_X50 7 (wC_e7 ad cy σ3) rfl 2 (by decide) (List.mem_cons_of_mem _ zw7_5) rfl dX5_fetchWord_36 ?_
  refine lv_bipush (v := 19) hx hb dX5_fetchWord_39 (by decide) ?_
  refine lv_aload_n hx hb dX5_fetchWord_41 rfl (lv_at hl 1 rfl) ?_
  refine z_get hC hI hinX5_fetchWord_X50 7 (wC_e7 ad cy σ3) rfl 2 (by decide) (List.mem_cons_of_mem _ zw7_5) rfl dX5_fetchWord_42 ?_
  refine lv_bipush (v := 19) hx hb dX5_fetchWord_45 (by decide) ?_
  obtain ⟨q, hf⟩ := zck_use hf
  refine z_iald hC hI 36 23 (wC_e36 ad cy σ3) (tC_t36 cy) q dX5_fetchWord_47 ?_
  refine lv_iconst (v := 2) hx hb dX5_fetchWord_48 (by decide) ?_
  refine lv_iadd hx hb dX5_fetchWord_49 ?_
  refine lv_ldc (v := 65535) hx hb hC.2.2.2.1 (hC.2.2.2.2.1 _ (List.mem_cons_of_mem _ zw20_6)) dX5_fetchWord_50 ?_
  refine lv_iand hx hb dX5_fetchWord_52 ?_
  obtain ⟨q, hf⟩ := zck_use hf
  obtain ⟨σ6, eσ6⟩ : ∃ z, z = zsi σ3 36 ((19 : Int32).toNatClampNeg) (((zgi σ3 36 (19 : Int32).toNatClampNeg) + 2) &&& 65535) := ⟨_, rfl⟩
  replace hf := zbv_use eσ6 hf
  refine z_iast hC hI 36 23 (wC_e36 ad cy σ3) (tC_t36 cy) q ((wC_s36 ad cy σ3 _ _).trans (congrArg (wC ad cy) eσ6.symm)) dX5_fetchWord_53 (fun H locs hI => ?_)
  refine lv_iload_n hx hb dX5_fetchWord_54 rfl (lv_at hl 0 rfl) ?_
  exact z_ireturn hC hI hf dX5_fetchWord_55
set_option maxRecDepth 20000 in
theorem cX5_fetchWord_met (st : Nat → Nat) (l : Launch) (D : va_G) (ad : Nat → Nat) (cy : Nat → ClassId) (σ : zSt)  (res : zSt × Int32) (hf : fX5_fetchWord σ  = some res) (sz : Nat) : zMi st l yX5_fetchWord wzX5_fetchWord rmX5_fetchWord [.ref (ad 7)] D (tC cy) (wC ad cy) sz σ res :=
  zMi.of (cc := cX5_fetchWord) (maxL := 2) (ret := (some .int)) (by decide) rfl (Nat.le_of_ble_eq_true rfl) (fun p e s m args below meth c hC A hI ls hl => bX5_fetchWord hC hI hl hf)
theorem hdX5_fetchWord : yX5_fetchWord.cls = RX5 ∧ yX5_fetchWord.cls ≠ "java/lang/invoke/MethodHandle" ∧ yX5_fetchWord.cls ≠ "java/lang/invoke/VarHandle" ∧ (parseMethodDescriptor yX5_fetchWord.desc).map (fun d => d.parameters.length) = some 0 := by decide +kernel
def rmX5_hl : Room := { frames := 1, cells := 0, slots := 0, locals := 21 }
def wzX5_hl : List Cond := .code yX5_hl cX5_hl 1 (some .int) :: wsL_law
theorem hinX5_hl_X50 : ∀ w ∈ wsX50, w ∈ wzX5_hl := fun w h => List.mem_cons_of_mem _ (inlX5 w h)
def fX5_hl_27  (σ : zSt) (s0 : Int32) : Option (zSt × Int32) :=
  some (σ, s0)
def fX5_hl  (σ : zSt)  : Option (zSt × Int32) :=
  if (zgi σ 7 4) = 6 then zbi (fX5_pairAt σ 6) (fun σ1 v2 =>
  fX5_hl_27 σ1 v2) else
  zck (zin (zgi σ 7 4) 29) (
  fX5_hl_27 σ (zgi σ 36 (zgi σ 7 4).toNatClampNeg))
set_option maxRecDepth 20000 in
set_option maxHeartbeats 4000000 in
theorem bX5_hl_27 {st : Nat → Nat} {p : Program} {l : Launch} {e : Env} {s : State} {m : MethodId} {args : Array Value} {below : List Frame} {meth : Method} {c : Code} {D : va_G} {A : Nat → Prop} {ad : Nat → Nat} {cy : Nat → ClassId} (hC : zC p m c cX5_hl 1 s args wzX5_hl RX5 meth (some .int))  {res : zSt × Int32} {H : Heap} {locs : List Loc} {σ : zSt} {ls : Array Slot} {s0 : Int32} (hI : zI st D (tC cy) (wC ad cy σ) A s H locs) (hl : lv_has ls 1 []) (hf : fX5_hl_27  σ s0 = some res) : W p l e rmX5_hl s m args below meth c H locs 0 0 (zQi below args s D (tC cy) (wC ad cy) A res) (F0 m 27 ls [.int s0]) := by
  have hx := hC.1
  have hb := hC.2.1
  unfold fX5_hl_27 at hf
  exact z_ireturn hC hI hf dX5_hl_27
set_option maxRecDepth 20000 in
set_option maxHeartbeats 4000000 in
theorem bX5_hl {st : Nat → Nat} {p : Program} {l : Launch} {e : Env} {s : State} {m : MethodId} {args : Array Value} {below : List Frame} {meth : Method} {c : Code} {D : va_G} {A : Nat → Prop} {ad : Nat → Nat} {cy : Nat → ClassId} (hC : zC p m c cX5_hl 1 s args wzX5_hl RX5 meth (some .int))  {res : zSt × Int32} {H : Heap} {locs : List Loc} {σ : zSt} {ls : Array Slot}  (hI : zI st D (tC cy) (wC ad cy σ) A s H locs) (hl : lv_has ls 1 [(0, .ref (ad 7))]) (hf : fX5_hl  σ  = some res) : W p l e rmX5_hl s m args below meth c H locs 0 0 (zQi below args s D (tC cy) (wC ad cy) A res) (F0 m 0 ls []) := by
  have hx := hC.1
  have hb := hC.2.1
  unfold fX5_hl at hf
  refine lv_aload_n hx hb dX5_hl_0 rfl (lv_at hl 0 rfl) ?_
  refine z_get hC hI hinX5_hl_X50 7 (wC_e7 ad cy σ) rfl 4 (by decide) (List.mem_cons_of_mem _ zw7_7) rfl dX5_hl_1 ?_
  refine lv_bipush (v := 6) hx hb dX5_hl_4 (by decide) ?_
  refine lv_icmp_ne (tgt := 18) hx hb dX5_hl_6 (by decide) (fun q => ?_) (fun q => ?_)
  · replace hf := zif_f q hf
    refine lv_aload_n hx hb dX5_hl_18 rfl (lv_at hl 0 rfl) ?_
    refine z_get hC hI hinX5_hl_X50 7 (wC_e7 ad cy σ) rfl 2 (by decide) (List.mem_cons_of_mem _ zw7_5) rfl dX5_hl_19 ?_
    refine lv_aload_n hx hb dX5_hl_22 rfl (lv_at hl 0 rfl) ?_
    refine z_get hC hI hinX5_hl_X50 7 (wC_e7 ad cy σ) rfl 4 (by decide) (List.mem_cons_of_mem _ zw7_7) rfl dX5_hl_23 ?_
    obtain ⟨q, hf⟩ := zck_use hf
    refine z_iald hC hI 36 23 (wC_e36 ad cy σ) (tC_t36 cy) q dX5_hl_26 ?_
    exact bX5_hl_27 hC  hI (lv_sub hl [] rfl) hf
  replace hf := zif_t q hf
  refine lv_aload_n hx hb dX5_hl_9 rfl (lv_at hl 0 rfl) ?_
  refine lv_bipush (v := 6) hx hb dX5_hl_10 (by decide) ?_
  obtain ⟨σ1, v2, g1, hf⟩ := zbi_use hf
  refine z_callVi (As := [.int 6]) (rest := []) hC hI (cX5_pairAt_met st l D ad cy σ 6 _ g1) (zgV zw21_15 zw21_16 zw21_17 zw2_21 zw21_18) rfl ⟨rfl, rfl⟩ 1 hdX5_pairAt ⟨Nat.le_of_ble_eq_true rfl, Nat.le_of_ble_eq_true rfl⟩ rfl rfl (wC_e7 ad cy σ) rfl hl rfl (Nat.le_of_ble_eq_true rfl) dX5_hl_12 ⟨Nat.zero_le _, Nat.zero_le _⟩ (fun H locs hI => ?_)
  refine lv_goto (tgt := 27) hx hb dX5_hl_15 (by decide) ?_
  exact bX5_hl_27 hC  hI (lv_sub hl [] rfl) hf
set_option maxRecDepth 20000 in
theorem cX5_hl_met (st : Nat → Nat) (l : Launch) (D : va_G) (ad : Nat → Nat) (cy : Nat → ClassId) (σ : zSt)  (res : zSt × Int32) (hf : fX5_hl σ  = some res) (sz : Nat) : zMi st l yX5_hl wzX5_hl rmX5_hl [.ref (ad 7)] D (tC cy) (wC ad cy) sz σ res :=
  zMi.of (cc := cX5_hl) (maxL := 1) (ret := (some .int)) (by decide) rfl (Nat.le_of_ble_eq_true rfl) (fun p e s m args below meth c hC A hI ls hl => bX5_hl hC hI hl hf)
theorem hdX5_hl : yX5_hl.cls = RX5 ∧ yX5_hl.cls ≠ "java/lang/invoke/MethodHandle" ∧ yX5_hl.cls ≠ "java/lang/invoke/VarHandle" ∧ (parseMethodDescriptor yX5_hl.desc).map (fun d => d.parameters.length) = some 0 := by decide +kernel
def rmX5_pair : Room := { frames := 2, cells := 0, slots := 0, locals := 41 }
def wzX5_pair : List Cond := .code yX5_pair cX5_pair 2 (some .int) :: wsL_law
theorem hinX5_pair_X50 : ∀ w ∈ wsX50, w ∈ wzX5_pair := fun w h => List.mem_cons_of_mem _ (inlX5 w h)
def fX5_pair  (σ : zSt) (x1 : Int32) : Option (zSt × Int32) :=
  if x1 = 0 then zbi (fX5_pairAt σ 2) (fun σ1 v2 =>
  some (σ1, v2)) else
  if x1 = 1 then zbi (fX5_pairAt σ 4) (fun σ3 v4 =>
  some (σ3, v4)) else
  if x1 = 2 then zbi (fX5_hl σ ) (fun σ5 v6 =>
  some (σ5, v6)) else
  zck (zin 18 29) (
  some (σ, zgi σ 36 (18 : Int32).toNatClampNeg))
set_option maxRecDepth 20000 in
set_option maxHeartbeats 4000000 in
theorem bX5_pair {st : Nat → Nat} {p : Program} {l : Launch} {e : Env} {s : State} {m : MethodId} {args : Array Value} {below : List Frame} {meth : Method} {c : Code} {D : va_G} {A : Nat → Prop} {ad : Nat → Nat} {cy : Nat → ClassId} (hC : zC p m c cX5_pair 2 s args wzX5_pair RX5 meth (some .int))  {res : zSt × Int32} {H : Heap} {locs : List Loc} {σ : zSt} {ls : Array Slot} {x1 : Int32} (hI : zI st D (tC cy) (wC ad cy σ) A s H locs) (hl : lv_has ls 2 [(0, .ref (ad 7)), (1, .int x1)]) (hf : fX5_pair  σ x1 = some res) : W p l e rmX5_pair s m args below meth c H locs 0 0 (zQi below args s D (tC cy) (wC ad cy) A res) (F0 m 0 ls []) := by
  have hx := hC.1
  have hb := hC.2.1
  unfold fX5_pair at hf
  refine lv_iload_n hx hb dX5_pair_0 rfl (lv_at hl 1 rfl) ?_
  by_cases q0 : x1 = 0
  · replace hf := zif_t q0 hf
    refine lv_tableIn (tgt := 28) hx hb dX5_pair_1 (by rw [q0]; decide) (by rw [q0]; decide) (by rw [q0]; rfl) (by decide) ?_
    refine lv_aload_n hx hb dX5_pair_28 rfl (lv_at hl 0 rfl) ?_
    refine lv_iconst (v := 2) hx hb dX5_pair_29 (by decide) ?_
    obtain ⟨σ1, v2, g1, hf⟩ := zbi_use hf
    refine z_callVi (As := [.int 2]) (rest := []) hC hI (cX5_pairAt_met st l D ad cy σ 2 _ g1) (zgV zw21_15 zw21_16 zw21_17 zw2_21 zw21_18) rfl ⟨rfl, rfl⟩ 1 hdX5_pairAt ⟨Nat.le_of_ble_eq_true rfl, Nat.le_of_ble_eq_true rfl⟩ rfl rfl (wC_e7 ad cy σ) rfl hl rfl (Nat.le_of_ble_eq_true rfl) dX5_pair_30 ⟨Nat.zero_le _, Nat.zero_le _⟩ (fun H locs hI => ?_)
    exact z_ireturn hC hI hf dX5_pair_33
  replace hf := zif_f q0 hf
  by_cases q1 : x1 = 1
  · replace hf := zif_t q1 hf
    refine lv_tableIn (tgt := 34) hx hb dX5_pair_1 (by rw [q1]; decide) (by rw [q1]; decide) (by rw [q1]; rfl) (by decide) ?_
    refine lv_aload_n hx hb dX5_pair_34 rfl (lv_at hl 0 rfl) ?_
    refine lv_iconst (v := 4) hx hb dX5_pair_35 (by decide) ?_
    obtain ⟨σ3, v4, g3, hf⟩ := zbi_use hf
    refine z_callVi (As := [.int 4]) (rest := []) hC hI (cX5_pairAt_met st l D ad cy σ 4 _ g3) (zgV zw21_15 zw21_16 zw21_17 zw2_21 zw21_18) rfl ⟨rfl, rfl⟩ 1 hdX5_pairAt ⟨Nat.le_of_ble_eq_true rfl, Nat.le_of_ble_eq_true rfl⟩ rfl rfl (wC_e7 ad cy σ) rfl hl rfl (Nat.le_of_ble_eq_true rfl) dX5_pair_36 ⟨Nat.zero_le _, Nat.zero_le _⟩ (fun H locs hI => ?_)
    exact z_ireturn hC hI hf dX5_pair_39
  replace hf := zif_f q1 hf
  by_cases q2 : x1 = 2
  · replace hf := zif_t q2 hf
    refine lv_tableIn (tgt := 40) hx hb dX5_pair_1 (by rw [q2]; decide) (by rw [q2]; decide) (by rw [q2]; rfl) (by decide) ?_
    refine lv_aload_n hx hb dX5_pair_40 rfl (lv_at hl 0 rfl) ?_
    obtain ⟨σ5, v6, g5, hf⟩ := zbi_use hf
    refine z_callVi (As := []) (rest := []) hC hI (cX5_hl_met st l D ad cy σ  _ g5) (zgV zw29_15 zw29_16 zw29_17 zw2_21 zw29_18) rfl ⟨rfl, rfl⟩ 0 hdX5_hl ⟨Nat.le_of_ble_eq_true rfl, Nat.le_of_ble_eq_true rfl⟩ rfl rfl (wC_e7 ad cy σ) rfl hl rfl (Nat.le_of_ble_eq_true rfl) dX5_pair_41 ⟨Nat.zero_le _, Nat.zero_le _⟩ (fun H locs hI => ?_)
    exact z_ireturn hC hI hf dX5_pair_44
  replace hf := zif_f q2 hf
  refine lv_tableOut (tgt := 45) hx hb dX5_pair_1 (zsw (fun k h1 h2 => by rcases (show k = 0 ∨ k = 1 ∨ k = 2 by omega) with rfl | rfl | rfl <;> assumption)) (by decide) ?_
  refine lv_aload_n hx hb dX5_pair_45 rfl (lv_at hl 0 rfl) ?_
  refine z_get hC hI hinX5_pair_X50 7 (wC_e7 ad cy σ) rfl 2 (by decide) (List.mem_cons_of_mem _ zw7_5) rfl dX5_pair_46 ?_
  refine lv_bipush (v := 18) hx hb dX5_pair_49 (by decide) ?_
  obtain ⟨q, hf⟩ := zck_use hf
  refine z_iald hC hI 36 23 (wC_e36 ad cy σ) (tC_t36 cy) q dX5_pair_51 ?_
  exact z_ireturn hC hI hf dX5_pair_52
set_option maxRecDepth 20000 in
theorem cX5_pair_met (st : Nat → Nat) (l : Launch) (D : va_G) (ad : Nat → Nat) (cy : Nat → ClassId) (σ : zSt) (x1 : Int32) (res : zSt × Int32) (hf : fX5_pair σ x1 = some res) (sz : Nat) : zMi st l yX5_pair wzX5_pair rmX5_pair [.ref (ad 7), .int x1] D (tC cy) (wC ad cy) sz σ res :=
  zMi.of (cc := cX5_pair) (maxL := 2) (ret := (some .int)) (by decide) rfl (Nat.le_of_ble_eq_true rfl) (fun p e s m args below meth c hC A hI ls hl => bX5_pair hC hI hl hf)
theorem hdX5_pair : yX5_pair.cls = RX5 ∧ yX5_pair.cls ≠ "java/lang/invoke/MethodHandle" ∧ yX5_pair.cls ≠ "java/lang/invoke/VarHandle" ∧ (parseMethodDescriptor yX5_pair.desc).map (fun d => d.parameters.length) = some 1 := by decide +kernel
def rmX5_writeWord : Room := { frames := 2, cells := 0, slots := 0, locals := 44 }
def wzX5_writeWord : List Cond := .code yX5_writeWord cX5_writeWord 3 none :: wsL_law
theorem hinX5_writeWord_X50 : ∀ w ∈ wsX50, w ∈ wzX5_writeWord := fun w h => List.mem_cons_of_mem _ (inlX5 w h)
def fX5_writeWord  (σ : zSt) (x1 : Int32) (x2 : Int32) : Option (zSt) :=
  zbu (fX2_write σ x1 (x2 &&& 255)) (fun σ1 =>
  zbu (fX2_write σ1 (x1 + 1) (x2 >>> ((8 : Int32) &&& 31))) (fun σ2 =>
  some σ2))
set_option maxRecDepth 20000 in
set_option maxHeartbeats 4000000 in
theorem bX5_writeWord {st : Nat → Nat} {p : Program} {l : Launch} {e : Env} {s : State} {m : MethodId} {args : Array Value} {below : List Frame} {meth : Method} {c : Code} {D : va_G} {A : Nat → Prop} {ad : Nat → Nat} {cy : Nat → ClassId} (hC : zC p m c cX5_writeWord 3 s args wzX5_writeWord RX5 meth none)  {res : zSt} {H : Heap} {locs : List Loc} {σ : zSt} {ls : Array Slot} {x1 : Int32} {x2 : Int32} (hI : zI st D (tC cy) (wC ad cy σ) A s H locs) (hl : lv_has ls 3 [(0, .ref (ad 7)), (1, .int x1), (2, .int x2)]) (hf : fX5_writeWord  σ x1 x2 = some res) : W p l e rmX5_writeWord s m args below meth c H locs 0 0 (zQu below args s D (tC cy) (wC ad cy) A res) (F0 m 0 ls []) := by
  have hx := hC.1
  have hb := hC.2.1
  unfold fX5_writeWord at hf
  refine lv_aload_n hx hb dX5_writeWord_0 rfl (lv_at hl 0 rfl) ?_
  refine z_get hC hI hinX5_writeWord_X50 7 (wC_e7 ad cy σ) rfl 0 (by decide) (List.mem_cons_of_mem _ zw7_8) rfl dX5_writeWord_1 ?_
  refine lv_iload_n hx hb dX5_writeWord_4 rfl (lv_at hl 1 rfl) ?_
  refine lv_iload_n hx hb dX5_writeWord_5 rfl (lv_at hl 2 rfl) ?_
  refine lv_sipush (v := 255) hx hb dX5_writeWord_6 (by decide) ?_
  refine lv_iand hx hb dX5_writeWord_9 ?_
  obtain ⟨σ1, g1, hf⟩ := zbu_use hf
  refine z_callVu (As := [.int x1, .int (x2 &&& 255)]) (rest := []) hC hI (cX2_write_met st l D ad cy σ x1 (x2 &&& 255) _ g1) (zgV zw20_7 zw20_8 zw20_9 zw1_21 zw20_10) rfl ⟨rfl, rfl⟩ 2 hdX2_write ⟨Nat.le_of_ble_eq_true rfl, Nat.le_of_ble_eq_true rfl⟩ rfl rfl (wC_e1 ad cy σ) rfl hl rfl (Nat.le_of_ble_eq_true rfl) dX5_writeWord_10 ⟨Nat.zero_le _, Nat.zero_le _⟩ (fun H locs hI => ?_)
  refine lv_aload_n hx hb dX5_writeWord_13 rfl (lv_at hl 0 rfl) ?_
  refine z_get hC hI hinX5_writeWord_X50 7 (wC_e7 ad cy σ1) rfl 0 (by decide) (List.mem_cons_of_mem _ zw7_8) rfl dX5_writeWord_14 ?_
  refine lv_iload_n hx hb dX5_writeWord_17 rfl (lv_at hl 1 rfl) ?_
  refine lv_iconst (v := 1) hx hb dX5_writeWord_18 (by decide) ?_
  refine lv_iadd hx hb dX5_writeWord_19 ?_
  refine lv_iload_n hx hb dX5_writeWord_20 rfl (lv_at hl 2 rfl) ?_
  refine lv_bipush (v := 8) hx hb dX5_writeWord_21 (by decide) ?_
  refine lv_ishr hx hb dX5_writeWord_23 ?_
  obtain ⟨σ2, g2, hf⟩ := zbu_use hf
  refine z_callVu (As := [.int (x1 + 1), .int (x2 >>> ((8 : Int32) &&& 31))]) (rest := []) hC hI (cX2_write_met st l D ad cy σ1 (x1 + 1) (x2 >>> ((8 : Int32) &&& 31)) _ g2) (zgV zw20_7 zw20_8 zw20_9 zw1_21 zw20_10) rfl ⟨rfl, rfl⟩ 2 hdX2_write ⟨Nat.le_of_ble_eq_true rfl, Nat.le_of_ble_eq_true rfl⟩ rfl rfl (wC_e1 ad cy σ1) rfl hl rfl (Nat.le_of_ble_eq_true rfl) dX5_writeWord_24 ⟨Nat.zero_le _, Nat.zero_le _⟩ (fun H locs hI => ?_)
  exact z_return hC hI hf dX5_writeWord_27
set_option maxRecDepth 20000 in
theorem cX5_writeWord_met (st : Nat → Nat) (l : Launch) (D : va_G) (ad : Nat → Nat) (cy : Nat → ClassId) (σ : zSt) (x1 : Int32) (x2 : Int32) (res : zSt) (hf : fX5_writeWord σ x1 x2 = some res) (sz : Nat) : zMu st l yX5_writeWord wzX5_writeWord rmX5_writeWord [.ref (ad 7), .int x1, .int x2] D (tC cy) (wC ad cy) sz σ res :=
  zMu.of (cc := cX5_writeWord) (maxL := 3) (ret := none) (by decide) rfl (Nat.le_of_ble_eq_true rfl) (fun p e s m args below meth c hC A hI ls hl => bX5_writeWord hC hI hl hf)
theorem hdX5_writeWord : yX5_writeWord.cls = RX5 ∧ yX5_writeWord.cls ≠ "java/lang/invoke/MethodHandle" ∧ yX5_writeWord.cls ≠ "java/lang/invoke/VarHandle" ∧ (parseMethodDescriptor yX5_writeWord.desc).map (fun d => d.parameters.length) = some 2 := by decide +kernel
def rmX5_putHl : Room := { frames := 1, cells := 0, slots := 0, locals := 22 }
def wzX5_putHl : List Cond := .code yX5_putHl cX5_putHl 2 none :: wsL_law
theorem hinX5_putHl_X50 : ∀ w ∈ wsX50, w ∈ wzX5_putHl := fun w h => List.mem_cons_of_mem _ (inlX5 w h)
def fX5_putHl_32  (σ : zSt)  : Option (zSt) :=
  some σ
def fX5_putHl  (σ : zSt) (x1 : Int32) : Option (zSt) :=
  if (zgi σ 7 4) = 6 then zbu (fX5_putPairAt σ 6 x1) (fun σ2 =>
  fX5_putHl_32 σ2) else
  zck (zin (zgi σ 7 4) 29) (zbv (zsi σ 36 ((zgi σ 7 4).toNatClampNeg) (x1 &&& 65535)) (fun σ1 =>
  fX5_putHl_32 σ1))
set_option maxRecDepth 20000 in
set_option maxHeartbeats 4000000 in
theorem bX5_putHl_32 {st : Nat → Nat} {p : Program} {l : Launch} {e : Env} {s : State} {m : MethodId} {args : Array Value} {below : List Frame} {meth : Method} {c : Code} {D : va_G} {A : Nat → Prop} {ad : Nat → Nat} {cy : Nat → ClassId} (hC : zC p m c cX5_putHl 2 s args wzX5_putHl RX5 meth none)  {res : zSt} {H : Heap} {locs : List Loc} {σ : zSt} {ls : Array Slot}  (hI : zI st D (tC cy) (wC ad cy σ) A s H locs) (hl : lv_has ls 2 []) (hf : fX5_putHl_32  σ  = some res) : W p l e rmX5_putHl s m args below meth c H locs 0 0 (zQu below args s D (tC cy) (wC ad cy) A res) (F0 m 32 ls []) := by
  have hx := hC.1
  have hb := hC.2.1
  unfold fX5_putHl_32 at hf
  exact z_return hC hI hf dX5_putHl_32
set_option maxRecDepth 20000 in
set_option maxHeartbeats 4000000 in
theorem bX5_putHl {st : Nat → Nat} {p : Program} {l : Launch} {e : Env} {s : State} {m : MethodId} {args : Array Value} {below : List Frame} {meth : Method} {c : Code} {D : va_G} {A : Nat → Prop} {ad : Nat → Nat} {cy : Nat → ClassId} (hC : zC p m c cX5_putHl 2 s args wzX5_putHl RX5 meth none)  {res : zSt} {H : Heap} {locs : List Loc} {σ : zSt} {ls : Array Slot} {x1 : Int32} (hI : zI st D (tC cy) (wC ad cy σ) A s H locs) (hl : lv_has ls 2 [(0, .ref (ad 7)), (1, .int x1)]) (hf : fX5_putHl  σ x1 = some res) : W p l e rmX5_putHl s m args below meth c H locs 0 0 (zQu below args s D (tC cy) (wC ad cy) A res) (F0 m 0 ls []) := by
  have hx := hC.1
  have hb := hC.2.1
  unfold fX5_putHl at hf
  refine lv_aload_n hx hb dX5_putHl_0 rfl (lv_at hl 0 rfl) ?_
  refine z_get hC hI hinX5_putHl_X50 7 (wC_e7 ad cy σ) rfl 4 (by decide) (List.mem_cons_of_mem _ zw7_7) rfl dX5_putHl_1 ?_
  refine lv_bipush (v := 6) hx hb dX5_putHl_4 (by decide) ?_
  refine lv_icmp_ne (tgt := 19) hx hb dX5_putHl_6 (by decide) (fun q => ?_) (fun q => ?_)
  · replace hf := zif_f q hf
    refine lv_aload_n hx hb dX5_putHl_19 rfl (lv_at hl 0 rfl) ?_
    refine z_get hC hI hinX5_putHl_X50 7 (wC_e7 ad cy σ) rfl 2 (by decide) (List.mem_cons_of_mem _ zw7_5) rfl dX5_putHl_20 ?_
    refine lv_aload_n hx hb dX5_putHl_23 rfl (lv_at hl 0 rfl) ?_
    refine z_get hC hI hinX5_putHl_X50 7 (wC_e7 ad cy σ) rfl 4 (by decide) (List.mem_cons_of_mem _ zw7_7) rfl dX5_putHl_24 ?_
    refine lv_iload_n hx hb dX5_putHl_27 rfl (lv_at hl 1 rfl) ?_
    refine lv_ldc (v := 65535) hx hb hC.2.2.2.1 (hC.2.2.2.2.1 _ (List.mem_cons_of_mem _ zw20_6)) dX5_putHl_28 ?_
    refine lv_iand hx hb dX5_putHl_30 ?_
    obtain ⟨q, hf⟩ := zck_use hf
    obtain ⟨σ1, eσ1⟩ : ∃ z, z = zsi σ 36 ((zgi σ 7 4).toNatClampNeg) (x1 &&& 65535) := ⟨_, rfl⟩
    replace hf := zbv_use eσ1 hf
    refine z_iast hC hI 36 23 (wC_e36 ad cy σ) (tC_t36 cy) q ((wC_s36 ad cy σ _ _).trans (congrArg (wC ad cy) eσ1.symm)) dX5_putHl_31 (fun H locs hI => ?_)
    exact bX5_putHl_32 hC  hI (lv_sub hl [] rfl) hf
  replace hf := zif_t q hf
  refine lv_aload_n hx hb dX5_putHl_9 rfl (lv_at hl 0 rfl) ?_
  refine lv_bipush (v := 6) hx hb dX5_putHl_10 (by decide) ?_
  refine lv_iload_n hx hb dX5_putHl_12 rfl (lv_at hl 1 rfl) ?_
  obtain ⟨σ2, g2, hf⟩ := zbu_use hf
  refine z_callVu (As := [.int 6, .int x1]) (rest := []) hC hI (cX5_putPairAt_met st l D ad cy σ 6 x1 _ g2) (zgV zw24_16 zw24_17 zw24_18 zw2_21 zw24_19) rfl ⟨rfl, rfl⟩ 2 hdX5_putPairAt ⟨Nat.le_of_ble_eq_true rfl, Nat.le_of_ble_eq_true rfl⟩ rfl rfl (wC_e7 ad cy σ) rfl hl rfl (Nat.le_of_ble_eq_true rfl) dX5_putHl_13 ⟨Nat.zero_le _, Nat.zero_le _⟩ (fun H locs hI => ?_)
  refine lv_goto (tgt := 32) hx hb dX5_putHl_16 (by decide) ?_
  exact bX5_putHl_32 hC  hI (lv_sub hl [] rfl) hf
set_option maxRecDepth 20000 in
theorem cX5_putHl_met (st : Nat → Nat) (l : Launch) (D : va_G) (ad : Nat → Nat) (cy : Nat → ClassId) (σ : zSt) (x1 : Int32) (res : zSt) (hf : fX5_putHl σ x1 = some res) (sz : Nat) : zMu st l yX5_putHl wzX5_putHl rmX5_putHl [.ref (ad 7), .int x1] D (tC cy) (wC ad cy) sz σ res :=
  zMu.of (cc := cX5_putHl) (maxL := 2) (ret := none) (by decide) rfl (Nat.le_of_ble_eq_true rfl) (fun p e s m args below meth c hC A hI ls hl => bX5_putHl hC hI hl hf)
theorem hdX5_putHl : yX5_putHl.cls = RX5 ∧ yX5_putHl.cls ≠ "java/lang/invoke/MethodHandle" ∧ yX5_putHl.cls ≠ "java/lang/invoke/VarHandle" ∧ (parseMethodDescriptor yX5_putHl.desc).map (fun d => d.parameters.length) = some 1 := by decide +kernel
def rmX5_putPair : Room := { frames := 2, cells := 0, slots := 0, locals := 43 }
def wzX5_putPair : List Cond := .code yX5_putPair cX5_putPair 3 none :: wsL_law
theorem hinX5_putPair_X50 : ∀ w ∈ wsX50, w ∈ wzX5_putPair := fun w h => List.mem_cons_of_mem _ (inlX5 w h)
def fX5_putPair_65  (σ : zSt)  : Option (zSt) :=
  some σ
def fX5_putPair  (σ : zSt) (x1 : Int32) (x2 : Int32) : Option (zSt) :=
  if x1 = 0 then zbu (fX5_putPairAt σ 2 x2) (fun σ1 =>
  fX5_putPair_65 σ1) else
  if x1 = 1 then zbu (fX5_putPairAt σ 4 x2) (fun σ2 =>
  fX5_putPair_65 σ2) else
  if x1 = 2 then zbu (fX5_putHl σ x2) (fun σ3 =>
  fX5_putPair_65 σ3) else
  zck (zin 18 29) (zbv (zsi σ 36 ((18 : Int32).toNatClampNeg) (x2 &&& 65535)) (fun σ4 =>
  fX5_putPair_65 σ4))
set_option maxRecDepth 20000 in
set_option maxHeartbeats 4000000 in
theorem bX5_putPair_65 {st : Nat → Nat} {p : Program} {l : Launch} {e : Env} {s : State} {m : MethodId} {args : Array Value} {below : List Frame} {meth : Method} {c : Code} {D : va_G} {A : Nat → Prop} {ad : Nat → Nat} {cy : Nat → ClassId} (hC : zC p m c cX5_putPair 3 s args wzX5_putPair RX5 meth none)  {res : zSt} {H : Heap} {locs : List Loc} {σ : zSt} {ls : Array Slot}  (hI : zI st D (tC cy) (wC ad cy σ) A s H locs) (hl : lv_has ls 3 []) (hf : fX5_putPair_65  σ  = some res) : W p l e rmX5_putPair s m args below meth c H locs 0 0 (zQu below args s D (tC cy) (wC ad cy) A res) (F0 m 65 ls []) := by
  have hx := hC.1
  have hb := hC.2.1
  unfold fX5_putPair_65 at hf
  exact z_return hC hI hf dX5_putPair_65
set_option maxRecDepth 20000 in
set_option maxHeartbeats 4000000 in
theorem bX5_putPair {st : Nat → Nat} {p : Program} {l : Launch} {e : Env} {s : State} {m : MethodId} {args : Array Value} {below : List Frame} {meth : Method} {c : Code} {D : va_G} {A : Nat → Prop} {ad : Nat → Nat} {cy : Nat → ClassId} (hC : zC p m c cX5_putPair 3 s args wzX5_putPair RX5 meth none)  {res : zSt} {H : Heap} {locs : List Loc} {σ : zSt} {ls : Array Slot} {x1 : Int32} {x2 : Int32} (hI : zI st D (tC cy) (wC ad cy σ) A s H locs) (hl : lv_has ls 3 [(0, .ref (ad 7)), (1, .int x1), (2, .int x2)]) (hf : fX5_putPair  σ x1 x2 = some res) : W p l e rmX5_putPair s m args below meth c H locs 0 0 (zQu below args s D (tC cy) (wC ad cy) A res) (F0 m 0 ls []) := by
  have hx := hC.1
  have hb := hC.2.1
  unfold fX5_putPair at hf
  refine lv_iload_n hx hb dX5_putPair_0 rfl (lv_at hl 1 rfl) ?_
  by_cases q0 : x1 = 0
  · replace hf := zif_t q0 hf
    refine lv_tableIn (tgt := 28) hx hb dX5_putPair_1 (by rw [q0]; decide) (by rw [q0]; decide) (by rw [q0]; rfl) (by decide) ?_
    refine lv_aload_n hx hb dX5_putPair_28 rfl (lv_at hl 0 rfl) ?_
    refine lv_iconst (v := 2) hx hb dX5_putPair_29 (by decide) ?_
    refine lv_iload_n hx hb dX5_putPair_30 rfl (lv_at hl 2 rfl) ?_
    obtain ⟨σ1, g1, hf⟩ := zbu_use hf
    refine z_callVu (As := [.int 2, .int x2]) (rest := []) hC hI (cX5_putPairAt_met st l D ad cy σ 2 x2 _ g1) (zgV zw24_16 zw24_17 zw24_18 zw2_21 zw24_19) rfl ⟨rfl, rfl⟩ 2 hdX5_putPairAt ⟨Nat.le_of_ble_eq_true rfl, Nat.le_of_ble_eq_true rfl⟩ rfl rfl (wC_e7 ad cy σ) rfl hl rfl (Nat.le_of_ble_eq_true rfl) dX5_putPair_31 ⟨Nat.zero_le _, Nat.zero_le _⟩ (fun H locs hI => ?_)
    refine lv_goto (tgt := 65) hx hb dX5_putPair_34 (by decide) ?_
    exact bX5_putPair_65 hC  hI (lv_sub hl [] rfl) hf
  replace hf := zif_f q0 hf
  by_cases q1 : x1 = 1
  · replace hf := zif_t q1 hf
    refine lv_tableIn (tgt := 37) hx hb dX5_putPair_1 (by rw [q1]; decide) (by rw [q1]; decide) (by rw [q1]; rfl) (by decide) ?_
    refine lv_aload_n hx hb dX5_putPair_37 rfl (lv_at hl 0 rfl) ?_
    refine lv_iconst (v := 4) hx hb dX5_putPair_38 (by decide) ?_
    refine lv_iload_n hx hb dX5_putPair_39 rfl (lv_at hl 2 rfl) ?_
    obtain ⟨σ2, g2, hf⟩ := zbu_use hf
    refine z_callVu (As := [.int 4, .int x2]) (rest := []) hC hI (cX5_putPairAt_met st l D ad cy σ 4 x2 _ g2) (zgV zw24_16 zw24_17 zw24_18 zw2_21 zw24_19) rfl ⟨rfl, rfl⟩ 2 hdX5_putPairAt ⟨Nat.le_of_ble_eq_true rfl, Nat.le_of_ble_eq_true rfl⟩ rfl rfl (wC_e7 ad cy σ) rfl hl rfl (Nat.le_of_ble_eq_true rfl) dX5_putPair_40 ⟨Nat.zero_le _, Nat.zero_le _⟩ (fun H locs hI => ?_)
    refine lv_goto (tgt := 65) hx hb dX5_putPair_43 (by decide) ?_
    exact bX5_putPair_65 hC  hI (lv_sub hl [] rfl) hf
  replace hf := zif_f q1 hf
  by_cases q2 : x1 = 2
  · replace hf := zif_t q2 hf
    refine lv_tableIn (tgt := 46) hx hb dX5_putPair_1 (by rw [q2]; decide) (by rw [q2]; decide) (by rw [q2]; rfl) (by decide) ?_
    refine lv_aload_n hx hb dX5_putPair_46 rfl (lv_at hl 0 rfl) ?_
    refine lv_iload_n hx hb dX5_putPair_47 rfl (lv_at hl 2 rfl) ?_
    obtain ⟨σ3, g3, hf⟩ := zbu_use hf
    refine z_callVu (As := [.int x2]) (rest := []) hC hI (cX5_putHl_met st l D ad cy σ x2 _ g3) (zgV zw30_3 zw30_4 zw30_5 zw2_21 zw30_6) rfl ⟨rfl, rfl⟩ 1 hdX5_putHl ⟨Nat.le_of_ble_eq_true rfl, Nat.le_of_ble_eq_true rfl⟩ rfl rfl (wC_e7 ad cy σ) rfl hl rfl (Nat.le_of_ble_eq_true rfl) dX5_putPair_48 ⟨Nat.zero_le _, Nat.zero_le _⟩ (fun H locs hI => ?_)
    refine lv_goto (tgt := 65) hx hb dX5_putPair_51 (by decide) ?_
    exact bX5_putPair_65 hC  hI (lv_sub hl [] rfl) hf
  replace hf := zif_f q2 hf
  refine lv_tableOut (tgt := 54) hx hb dX5_putPair_1 (zsw (fun k h1 h2 => by rcases (show k = 0 ∨ k = 1 ∨ k = 2 by omega) with rfl | rfl | rfl <;> assumption)) (by decide) ?_
  refine lv_aload_n hx hb dX5_putPair_54 rfl (lv_at hl 0 rfl) ?_
  refine z_get hC hI hinX5_putPair_X50 7 (wC_e7 ad cy σ) rfl 2 (by decide) (List.mem_cons_of_mem _ zw7_5) rfl dX5_putPair_55 ?_
  refine lv_bipush (v := 18) hx hb dX5_putPair_58 (by decide) ?_
  refine lv_iload_n hx hb dX5_putPair_60 rfl (lv_at hl 2 rfl) ?_
  refine lv_ldc (v := 65535) hx hb hC.2.2.2.1 (hC.2.2.2.2.1 _ (List.mem_cons_of_mem _ zw20_6)) dX5_putPair_61 ?_
  refine lv_iand hx hb dX5_putPair_63 ?_
  obtain ⟨q, hf⟩ := zck_use hf
  obtain ⟨σ4, eσ4⟩ : ∃ z, z = zsi σ 36 ((18 : Int32).toNatClampNeg) (x2 &&& 65535) := ⟨_, rfl⟩
  replace hf := zbv_use eσ4 hf
  refine z_iast hC hI 36 23 (wC_e36 ad cy σ) (tC_t36 cy) q ((wC_s36 ad cy σ _ _).trans (congrArg (wC ad cy) eσ4.symm)) dX5_putPair_64 (fun H locs hI => ?_)
  exact bX5_putPair_65 hC  hI (lv_sub hl [] rfl) hf
set_option maxRecDepth 20000 in
theorem cX5_putPair_met (st : Nat → Nat) (l : Launch) (D : va_G) (ad : Nat → Nat) (cy : Nat → ClassId) (σ : zSt) (x1 : Int32) (x2 : Int32) (res : zSt) (hf : fX5_putPair σ x1 x2 = some res) (sz : Nat) : zMu st l yX5_putPair wzX5_putPair rmX5_putPair [.ref (ad 7), .int x1, .int x2] D (tC cy) (wC ad cy) sz σ res :=
  zMu.of (cc := cX5_putPair) (maxL := 3) (ret := none) (by decide) rfl (Nat.le_of_ble_eq_true rfl) (fun p e s m args below meth c hC A hI ls hl => bX5_putPair hC hI hl hf)
theorem hdX5_putPair : yX5_putPair.cls = RX5 ∧ yX5_putPair.cls ≠ "java/lang/invoke/MethodHandle" ∧ yX5_putPair.cls ≠ "java/lang/invoke/VarHandle" ∧ (parseMethodDescriptor yX5_putPair.desc).map (fun d => d.parameters.length) = some 2 := by decide +kernel
