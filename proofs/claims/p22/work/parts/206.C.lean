def kn_cX5_holds : Nat := 0xac030400a7040700a0030400a7040700a0047e041b030400a7040700997e2e7e067a041b8600b22e040900b42a
theorem zk_cX5_holds : zkd cX5_holds.data.toList kn_cX5_holds = true := by decide +kernel
theorem zn_cX5_holds : cX5_holds.data.toList.length = 45 := by decide +kernel
theorem dX5_holds_0 : decode cX5_holds 0 = .ok (.aload_n 0, 1) := zo_42 (zkb zk_cX5_holds zn_cX5_holds (by decide +kernel))
theorem dX5_holds_1 : decode cX5_holds 1 = .ok (.getfield 9, 3) := zo_180 (b1 := 0) (b2 := 9) (zkb3 zk_cX5_holds zn_cX5_holds (by decide +kernel)) rfl
theorem dX5_holds_4 : decode cX5_holds 4 = .ok (.iconst 1, 1) := zo_4 (zkb zk_cX5_holds zn_cX5_holds (by decide +kernel))
theorem dX5_holds_5 : decode cX5_holds 5 = .ok (.iaload, 1) := zo_46 (zkb zk_cX5_holds zn_cX5_holds (by decide +kernel))
theorem dX5_holds_6 : decode cX5_holds 6 = .ok (.getstatic 134, 3) := zo_178 (b1 := 0) (b2 := 134) (zkb3 zk_cX5_holds zn_cX5_holds (by decide +kernel)) rfl
theorem dX5_holds_9 : decode cX5_holds 9 = .ok (.iload_n 1, 1) := zo_27 (zkb zk_cX5_holds zn_cX5_holds (by decide +kernel))
theorem dX5_holds_10 : decode cX5_holds 10 = .ok (.iconst 1, 1) := zo_4 (zkb zk_cX5_holds zn_cX5_holds (by decide +kernel))
theorem dX5_holds_11 : decode cX5_holds 11 = .ok (.ishr, 1) := zo_122 (zkb zk_cX5_holds zn_cX5_holds (by decide +kernel))
theorem dX5_holds_12 : decode cX5_holds 12 = .ok (.iconst 3, 1) := zo_6 (zkb zk_cX5_holds zn_cX5_holds (by decide +kernel))
theorem dX5_holds_13 : decode cX5_holds 13 = .ok (.iand, 1) := zo_126 (zkb zk_cX5_holds zn_cX5_holds (by decide +kernel))
theorem dX5_holds_14 : decode cX5_holds 14 = .ok (.iaload, 1) := zo_46 (zkb zk_cX5_holds zn_cX5_holds (by decide +kernel))
theorem dX5_holds_15 : decode cX5_holds 15 = .ok (.iand, 1) := zo_126 (zkb zk_cX5_holds zn_cX5_holds (by decide +kernel))
theorem dX5_holds_16 : decode cX5_holds 16 = .ok (.ifCond .eq 7, 3) := zo_153 (b1 := 0) (b2 := 7) (zkb3 zk_cX5_holds zn_cX5_holds (by decide +kernel)) rfl
theorem dX5_holds_19 : decode cX5_holds 19 = .ok (.iconst 1, 1) := zo_4 (zkb zk_cX5_holds zn_cX5_holds (by decide +kernel))
theorem dX5_holds_20 : decode cX5_holds 20 = .ok (.goto 4, 3) := zo_167 (b1 := 0) (b2 := 4) (zkb3 zk_cX5_holds zn_cX5_holds (by decide +kernel)) rfl
theorem dX5_holds_23 : decode cX5_holds 23 = .ok (.iconst 0, 1) := zo_3 (zkb zk_cX5_holds zn_cX5_holds (by decide +kernel))
theorem dX5_holds_24 : decode cX5_holds 24 = .ok (.iload_n 1, 1) := zo_27 (zkb zk_cX5_holds zn_cX5_holds (by decide +kernel))
theorem dX5_holds_25 : decode cX5_holds 25 = .ok (.iconst 1, 1) := zo_4 (zkb zk_cX5_holds zn_cX5_holds (by decide +kernel))
theorem dX5_holds_26 : decode cX5_holds 26 = .ok (.iand, 1) := zo_126 (zkb zk_cX5_holds zn_cX5_holds (by decide +kernel))
theorem dX5_holds_27 : decode cX5_holds 27 = .ok (.iconst 1, 1) := zo_4 (zkb zk_cX5_holds zn_cX5_holds (by decide +kernel))
theorem dX5_holds_28 : decode cX5_holds 28 = .ok (.if_icmp .ne 7, 3) := zo_160 (b1 := 0) (b2 := 7) (zkb3 zk_cX5_holds zn_cX5_holds (by decide +kernel)) rfl
theorem dX5_holds_31 : decode cX5_holds 31 = .ok (.iconst 1, 1) := zo_4 (zkb zk_cX5_holds zn_cX5_holds (by decide +kernel))
theorem dX5_holds_32 : decode cX5_holds 32 = .ok (.goto 4, 3) := zo_167 (b1 := 0) (b2 := 4) (zkb3 zk_cX5_holds zn_cX5_holds (by decide +kernel)) rfl
theorem dX5_holds_35 : decode cX5_holds 35 = .ok (.iconst 0, 1) := zo_3 (zkb zk_cX5_holds zn_cX5_holds (by decide +kernel))
theorem dX5_holds_36 : decode cX5_holds 36 = .ok (.if_icmp .ne 7, 3) := zo_160 (b1 := 0) (b2 := 7) (zkb3 zk_cX5_holds zn_cX5_holds (by decide +kernel)) rfl
theorem dX5_holds_39 : decode cX5_holds 39 = .ok (.iconst 1, 1) := zo_4 (zkb zk_cX5_holds zn_cX5_holds (by decide +kernel))
theorem dX5_holds_40 : decode cX5_holds 40 = .ok (.goto 4, 3) := zo_167 (b1 := 0) (b2 := 4) (zkb3 zk_cX5_holds zn_cX5_holds (by decide +kernel)) rfl
theorem dX5_holds_43 : decode cX5_holds 43 = .ok (.iconst 0, 1) := zo_3 (zkb zk_cX5_holds zn_cX5_holds (by decide +kernel))
theorem dX5_holds_44 : decode cX5_holds 44 = .ok (.ireturn, 1) := zo_172 (zkb zk_cX5_holds zn_cX5_holds (by decide +kernel))
def kn_cX5_changeWithOther : Nat := 0xb14f1c6008101b0900b42a4f2e6008101b0900b42a1b0900b42a3d2e1b0900b42a
theorem zk_cX5_changeWithOther : zkd cX5_changeWithOther.data.toList kn_cX5_changeWithOther = true := by decide +kernel
theorem zn_cX5_changeWithOther : cX5_changeWithOther.data.toList.length = 33 := by decide +kernel
theorem dX5_changeWithOther_0 : decode cX5_changeWithOther 0 = .ok (.aload_n 0, 1) := zo_42 (zkb zk_cX5_changeWithOther zn_cX5_changeWithOther (by decide +kernel))
theorem dX5_changeWithOther_1 : decode cX5_changeWithOther 1 = .ok (.getfield 9, 3) := zo_180 (b1 := 0) (b2 := 9) (zkb3 zk_cX5_changeWithOther zn_cX5_changeWithOther (by decide +kernel)) rfl
theorem dX5_changeWithOther_4 : decode cX5_changeWithOther 4 = .ok (.iload_n 1, 1) := zo_27 (zkb zk_cX5_changeWithOther zn_cX5_changeWithOther (by decide +kernel))
theorem dX5_changeWithOther_5 : decode cX5_changeWithOther 5 = .ok (.iaload, 1) := zo_46 (zkb zk_cX5_changeWithOther zn_cX5_changeWithOther (by decide +kernel))
theorem dX5_changeWithOther_6 : decode cX5_changeWithOther 6 = .ok (.istore_n 2, 1) := zo_61 (zkb zk_cX5_changeWithOther zn_cX5_changeWithOther (by decide +kernel))
theorem dX5_changeWithOther_7 : decode cX5_changeWithOther 7 = .ok (.aload_n 0, 1) := zo_42 (zkb zk_cX5_changeWithOther zn_cX5_changeWithOther (by decide +kernel))
theorem dX5_changeWithOther_8 : decode cX5_changeWithOther 8 = .ok (.getfield 9, 3) := zo_180 (b1 := 0) (b2 := 9) (zkb3 zk_cX5_changeWithOther zn_cX5_changeWithOther (by decide +kernel)) rfl
theorem dX5_changeWithOther_11 : decode cX5_changeWithOther 11 = .ok (.iload_n 1, 1) := zo_27 (zkb zk_cX5_changeWithOther zn_cX5_changeWithOther (by decide +kernel))
theorem dX5_changeWithOther_12 : decode cX5_changeWithOther 12 = .ok (.aload_n 0, 1) := zo_42 (zkb zk_cX5_changeWithOther zn_cX5_changeWithOther (by decide +kernel))
theorem dX5_changeWithOther_13 : decode cX5_changeWithOther 13 = .ok (.getfield 9, 3) := zo_180 (b1 := 0) (b2 := 9) (zkb3 zk_cX5_changeWithOther zn_cX5_changeWithOther (by decide +kernel)) rfl
theorem dX5_changeWithOther_16 : decode cX5_changeWithOther 16 = .ok (.iload_n 1, 1) := zo_27 (zkb zk_cX5_changeWithOther zn_cX5_changeWithOther (by decide +kernel))
theorem dX5_changeWithOther_17 : decode cX5_changeWithOther 17 = .ok (.bipush 8, 2) := zo_16 (b1 := 8) (zkb2 zk_cX5_changeWithOther zn_cX5_changeWithOther (by decide +kernel)) rfl
theorem dX5_changeWithOther_19 : decode cX5_changeWithOther 19 = .ok (.iadd, 1) := zo_96 (zkb zk_cX5_changeWithOther zn_cX5_changeWithOther (by decide +kernel))
theorem dX5_changeWithOther_20 : decode cX5_changeWithOther 20 = .ok (.iaload, 1) := zo_46 (zkb zk_cX5_changeWithOther zn_cX5_changeWithOther (by decide +kernel))
theorem dX5_changeWithOther_21 : decode cX5_changeWithOther 21 = .ok (.iastore, 1) := zo_79 (zkb zk_cX5_changeWithOther zn_cX5_changeWithOther (by decide +kernel))
theorem dX5_changeWithOther_22 : decode cX5_changeWithOther 22 = .ok (.aload_n 0, 1) := zo_42 (zkb zk_cX5_changeWithOther zn_cX5_changeWithOther (by decide +kernel))
theorem dX5_changeWithOther_23 : decode cX5_changeWithOther 23 = .ok (.getfield 9, 3) := zo_180 (b1 := 0) (b2 := 9) (zkb3 zk_cX5_changeWithOther zn_cX5_changeWithOther (by decide +kernel)) rfl
theorem dX5_changeWithOther_26 : decode cX5_changeWithOther 26 = .ok (.iload_n 1, 1) := zo_27 (zkb zk_cX5_changeWithOther zn_cX5_changeWithOther (by decide +kernel))
theorem dX5_changeWithOther_27 : decode cX5_changeWithOther 27 = .ok (.bipush 8, 2) := zo_16 (b1 := 8) (zkb2 zk_cX5_changeWithOther zn_cX5_changeWithOther (by decide +kernel)) rfl
theorem dX5_changeWithOther_29 : decode cX5_changeWithOther 29 = .ok (.iadd, 1) := zo_96 (zkb zk_cX5_changeWithOther zn_cX5_changeWithOther (by decide +kernel))
theorem dX5_changeWithOther_30 : decode cX5_changeWithOther 30 = .ok (.iload_n 2, 1) := zo_28 (zkb zk_cX5_changeWithOther zn_cX5_changeWithOther (by decide +kernel))
theorem dX5_changeWithOther_31 : decode cX5_changeWithOther 31 = .ok (.iastore, 1) := zo_79 (zkb zk_cX5_changeWithOther zn_cX5_changeWithOther (by decide +kernel))
theorem dX5_changeWithOther_32 : decode cX5_changeWithOther 32 = .ok (.return_, 1) := zo_177 (zkb zk_cX5_changeWithOther zn_cX5_changeWithOther (by decide +kernel))
def kn_cX5_adjustA : Nat := 0xb14f800415807e052e040900b42a80030400a71010080099061580c400b80715bb00b80715040900b42a4f0715030900b42a07367eff00116005152e030900b42a0c00a76405152e030900b42a0f00991d0636030400a7040700a409101b0e00a7031200a7040700a206101b0d00991c1500991d053660030400a760100800990415030400a706100800991c0700a309101b04367e042e040900b42a0b00a7040700a49900112e030900b42a3e030400a7040700997e052e040900b42a3d030400a7040700997e10102e040900b42a3c7e0f102e030900b42a
theorem zk_cX5_adjustA : zkd cX5_adjustA.data.toList kn_cX5_adjustA = true := by decide +kernel
theorem zn_cX5_adjustA : cX5_adjustA.data.toList.length = 217 := by decide +kernel
theorem dX5_adjustA_0 : decode cX5_adjustA 0 = .ok (.aload_n 0, 1) := zo_42 (zkb zk_cX5_adjustA zn_cX5_adjustA (by decide +kernel))
theorem dX5_adjustA_1 : decode cX5_adjustA 1 = .ok (.getfield 9, 3) := zo_180 (b1 := 0) (b2 := 9) (zkb3 zk_cX5_adjustA zn_cX5_adjustA (by decide +kernel)) rfl
theorem dX5_adjustA_4 : decode cX5_adjustA 4 = .ok (.iconst 0, 1) := zo_3 (zkb zk_cX5_adjustA zn_cX5_adjustA (by decide +kernel))
theorem dX5_adjustA_5 : decode cX5_adjustA 5 = .ok (.iaload, 1) := zo_46 (zkb zk_cX5_adjustA zn_cX5_adjustA (by decide +kernel))
theorem dX5_adjustA_6 : decode cX5_adjustA 6 = .ok (.bipush 15, 2) := zo_16 (b1 := 15) (zkb2 zk_cX5_adjustA zn_cX5_adjustA (by decide +kernel)) rfl
theorem dX5_adjustA_8 : decode cX5_adjustA 8 = .ok (.iand, 1) := zo_126 (zkb zk_cX5_adjustA zn_cX5_adjustA (by decide +kernel))
theorem dX5_adjustA_9 : decode cX5_adjustA 9 = .ok (.istore_n 1, 1) := zo_60 (zkb zk_cX5_adjustA zn_cX5_adjustA (by decide +kernel))
theorem dX5_adjustA_10 : decode cX5_adjustA 10 = .ok (.aload_n 0, 1) := zo_42 (zkb zk_cX5_adjustA zn_cX5_adjustA (by decide +kernel))
theorem dX5_adjustA_11 : decode cX5_adjustA 11 = .ok (.getfield 9, 3) := zo_180 (b1 := 0) (b2 := 9) (zkb3 zk_cX5_adjustA zn_cX5_adjustA (by decide +kernel)) rfl
theorem dX5_adjustA_14 : decode cX5_adjustA 14 = .ok (.iconst 1, 1) := zo_4 (zkb zk_cX5_adjustA zn_cX5_adjustA (by decide +kernel))
theorem dX5_adjustA_15 : decode cX5_adjustA 15 = .ok (.iaload, 1) := zo_46 (zkb zk_cX5_adjustA zn_cX5_adjustA (by decide +kernel))
theorem dX5_adjustA_16 : decode cX5_adjustA 16 = .ok (.bipush 16, 2) := zo_16 (b1 := 16) (zkb2 zk_cX5_adjustA zn_cX5_adjustA (by decide +kernel)) rfl
theorem dX5_adjustA_18 : decode cX5_adjustA 18 = .ok (.iand, 1) := zo_126 (zkb zk_cX5_adjustA zn_cX5_adjustA (by decide +kernel))
theorem dX5_adjustA_19 : decode cX5_adjustA 19 = .ok (.ifCond .eq 7, 3) := zo_153 (b1 := 0) (b2 := 7) (zkb3 zk_cX5_adjustA zn_cX5_adjustA (by decide +kernel)) rfl
theorem dX5_adjustA_22 : decode cX5_adjustA 22 = .ok (.iconst 1, 1) := zo_4 (zkb zk_cX5_adjustA zn_cX5_adjustA (by decide +kernel))
theorem dX5_adjustA_23 : decode cX5_adjustA 23 = .ok (.goto 4, 3) := zo_167 (b1 := 0) (b2 := 4) (zkb3 zk_cX5_adjustA zn_cX5_adjustA (by decide +kernel)) rfl
theorem dX5_adjustA_26 : decode cX5_adjustA 26 = .ok (.iconst 0, 1) := zo_3 (zkb zk_cX5_adjustA zn_cX5_adjustA (by decide +kernel))
theorem dX5_adjustA_27 : decode cX5_adjustA 27 = .ok (.istore_n 2, 1) := zo_61 (zkb zk_cX5_adjustA zn_cX5_adjustA (by decide +kernel))
theorem dX5_adjustA_28 : decode cX5_adjustA 28 = .ok (.aload_n 0, 1) := zo_42 (zkb zk_cX5_adjustA zn_cX5_adjustA (by decide +kernel))
theorem dX5_adjustA_29 : decode cX5_adjustA 29 = .ok (.getfield 9, 3) := zo_180 (b1 := 0) (b2 := 9) (zkb3 zk_cX5_adjustA zn_cX5_adjustA (by decide +kernel)) rfl
theorem dX5_adjustA_32 : decode cX5_adjustA 32 = .ok (.iconst 1, 1) := zo_4 (zkb zk_cX5_adjustA zn_cX5_adjustA (by decide +kernel))
theorem dX5_adjustA_33 : decode cX5_adjustA 33 = .ok (.iaload, 1) := zo_46 (zkb zk_cX5_adjustA zn_cX5_adjustA (by decide +kernel))
theorem dX5_adjustA_34 : decode cX5_adjustA 34 = .ok (.iconst 2, 1) := zo_5 (zkb zk_cX5_adjustA zn_cX5_adjustA (by decide +kernel))
theorem dX5_adjustA_35 : decode cX5_adjustA 35 = .ok (.iand, 1) := zo_126 (zkb zk_cX5_adjustA zn_cX5_adjustA (by decide +kernel))
theorem dX5_adjustA_36 : decode cX5_adjustA 36 = .ok (.ifCond .eq 7, 3) := zo_153 (b1 := 0) (b2 := 7) (zkb3 zk_cX5_adjustA zn_cX5_adjustA (by decide +kernel)) rfl
theorem dX5_adjustA_39 : decode cX5_adjustA 39 = .ok (.iconst 1, 1) := zo_4 (zkb zk_cX5_adjustA zn_cX5_adjustA (by decide +kernel))
theorem dX5_adjustA_40 : decode cX5_adjustA 40 = .ok (.goto 4, 3) := zo_167 (b1 := 0) (b2 := 4) (zkb3 zk_cX5_adjustA zn_cX5_adjustA (by decide +kernel)) rfl
theorem dX5_adjustA_43 : decode cX5_adjustA 43 = .ok (.iconst 0, 1) := zo_3 (zkb zk_cX5_adjustA zn_cX5_adjustA (by decide +kernel))
theorem dX5_adjustA_44 : decode cX5_adjustA 44 = .ok (.istore_n 3, 1) := zo_62 (zkb zk_cX5_adjustA zn_cX5_adjustA (by decide +kernel))
theorem dX5_adjustA_45 : decode cX5_adjustA 45 = .ok (.aload_n 0, 1) := zo_42 (zkb zk_cX5_adjustA zn_cX5_adjustA (by decide +kernel))
theorem dX5_adjustA_46 : decode cX5_adjustA 46 = .ok (.getfield 9, 3) := zo_180 (b1 := 0) (b2 := 9) (zkb3 zk_cX5_adjustA zn_cX5_adjustA (by decide +kernel)) rfl
theorem dX5_adjustA_49 : decode cX5_adjustA 49 = .ok (.iconst 0, 1) := zo_3 (zkb zk_cX5_adjustA zn_cX5_adjustA (by decide +kernel))
theorem dX5_adjustA_50 : decode cX5_adjustA 50 = .ok (.iaload, 1) := zo_46 (zkb zk_cX5_adjustA zn_cX5_adjustA (by decide +kernel))
theorem dX5_adjustA_51 : decode cX5_adjustA 51 = .ok (.sipush 153, 3) := zo_17 (b1 := 0) (b2 := 153) (zkb3 zk_cX5_adjustA zn_cX5_adjustA (by decide +kernel)) rfl
theorem dX5_adjustA_54 : decode cX5_adjustA 54 = .ok (.if_icmp .le 7, 3) := zo_164 (b1 := 0) (b2 := 7) (zkb3 zk_cX5_adjustA zn_cX5_adjustA (by decide +kernel)) rfl
theorem dX5_adjustA_57 : decode cX5_adjustA 57 = .ok (.iconst 1, 1) := zo_4 (zkb zk_cX5_adjustA zn_cX5_adjustA (by decide +kernel))
theorem dX5_adjustA_58 : decode cX5_adjustA 58 = .ok (.goto 11, 3) := zo_167 (b1 := 0) (b2 := 11) (zkb3 zk_cX5_adjustA zn_cX5_adjustA (by decide +kernel)) rfl
theorem dX5_adjustA_61 : decode cX5_adjustA 61 = .ok (.aload_n 0, 1) := zo_42 (zkb zk_cX5_adjustA zn_cX5_adjustA (by decide +kernel))
theorem dX5_adjustA_62 : decode cX5_adjustA 62 = .ok (.getfield 9, 3) := zo_180 (b1 := 0) (b2 := 9) (zkb3 zk_cX5_adjustA zn_cX5_adjustA (by decide +kernel)) rfl
theorem dX5_adjustA_65 : decode cX5_adjustA 65 = .ok (.iconst 1, 1) := zo_4 (zkb zk_cX5_adjustA zn_cX5_adjustA (by decide +kernel))
theorem dX5_adjustA_66 : decode cX5_adjustA 66 = .ok (.iaload, 1) := zo_46 (zkb zk_cX5_adjustA zn_cX5_adjustA (by decide +kernel))
theorem dX5_adjustA_67 : decode cX5_adjustA 67 = .ok (.iconst 1, 1) := zo_4 (zkb zk_cX5_adjustA zn_cX5_adjustA (by decide +kernel))
theorem dX5_adjustA_68 : decode cX5_adjustA 68 = .ok (.iand, 1) := zo_126 (zkb zk_cX5_adjustA zn_cX5_adjustA (by decide +kernel))
theorem dX5_adjustA_69 : decode cX5_adjustA 69 = .ok (.istore 4, 2) := zo_54 (b1 := 4) (zkb2 zk_cX5_adjustA zn_cX5_adjustA (by decide +kernel))
theorem dX5_adjustA_71 : decode cX5_adjustA 71 = .ok (.iload_n 1, 1) := zo_27 (zkb zk_cX5_adjustA zn_cX5_adjustA (by decide +kernel))
theorem dX5_adjustA_72 : decode cX5_adjustA 72 = .ok (.bipush 9, 2) := zo_16 (b1 := 9) (zkb2 zk_cX5_adjustA zn_cX5_adjustA (by decide +kernel)) rfl
theorem dX5_adjustA_74 : decode cX5_adjustA 74 = .ok (.if_icmp .gt 7, 3) := zo_163 (b1 := 0) (b2 := 7) (zkb3 zk_cX5_adjustA zn_cX5_adjustA (by decide +kernel)) rfl
theorem dX5_adjustA_77 : decode cX5_adjustA 77 = .ok (.iload_n 2, 1) := zo_28 (zkb zk_cX5_adjustA zn_cX5_adjustA (by decide +kernel))
theorem dX5_adjustA_78 : decode cX5_adjustA 78 = .ok (.ifCond .eq 8, 3) := zo_153 (b1 := 0) (b2 := 8) (zkb3 zk_cX5_adjustA zn_cX5_adjustA (by decide +kernel)) rfl
theorem dX5_adjustA_81 : decode cX5_adjustA 81 = .ok (.bipush 6, 2) := zo_16 (b1 := 6) (zkb2 zk_cX5_adjustA zn_cX5_adjustA (by decide +kernel)) rfl
theorem dX5_adjustA_83 : decode cX5_adjustA 83 = .ok (.goto 4, 3) := zo_167 (b1 := 0) (b2 := 4) (zkb3 zk_cX5_adjustA zn_cX5_adjustA (by decide +kernel)) rfl
theorem dX5_adjustA_86 : decode cX5_adjustA 86 = .ok (.iconst 0, 1) := zo_3 (zkb zk_cX5_adjustA zn_cX5_adjustA (by decide +kernel))
theorem dX5_adjustA_87 : decode cX5_adjustA 87 = .ok (.iload 4, 2) := zo_21 (b1 := 4) (zkb2 zk_cX5_adjustA zn_cX5_adjustA (by decide +kernel))
theorem dX5_adjustA_89 : decode cX5_adjustA 89 = .ok (.ifCond .eq 8, 3) := zo_153 (b1 := 0) (b2 := 8) (zkb3 zk_cX5_adjustA zn_cX5_adjustA (by decide +kernel)) rfl
theorem dX5_adjustA_92 : decode cX5_adjustA 92 = .ok (.bipush 96, 2) := zo_16 (b1 := 96) (zkb2 zk_cX5_adjustA zn_cX5_adjustA (by decide +kernel)) rfl
theorem dX5_adjustA_94 : decode cX5_adjustA 94 = .ok (.goto 4, 3) := zo_167 (b1 := 0) (b2 := 4) (zkb3 zk_cX5_adjustA zn_cX5_adjustA (by decide +kernel)) rfl
theorem dX5_adjustA_97 : decode cX5_adjustA 97 = .ok (.iconst 0, 1) := zo_3 (zkb zk_cX5_adjustA zn_cX5_adjustA (by decide +kernel))
theorem dX5_adjustA_98 : decode cX5_adjustA 98 = .ok (.iadd, 1) := zo_96 (zkb zk_cX5_adjustA zn_cX5_adjustA (by decide +kernel))
theorem dX5_adjustA_99 : decode cX5_adjustA 99 = .ok (.istore 5, 2) := zo_54 (b1 := 5) (zkb2 zk_cX5_adjustA zn_cX5_adjustA (by decide +kernel))
theorem dX5_adjustA_101 : decode cX5_adjustA 101 = .ok (.iload_n 3, 1) := zo_29 (zkb zk_cX5_adjustA zn_cX5_adjustA (by decide +kernel))
theorem dX5_adjustA_102 : decode cX5_adjustA 102 = .ok (.ifCond .eq 21, 3) := zo_153 (b1 := 0) (b2 := 21) (zkb3 zk_cX5_adjustA zn_cX5_adjustA (by decide +kernel)) rfl
theorem dX5_adjustA_105 : decode cX5_adjustA 105 = .ok (.iload_n 2, 1) := zo_28 (zkb zk_cX5_adjustA zn_cX5_adjustA (by decide +kernel))
theorem dX5_adjustA_106 : decode cX5_adjustA 106 = .ok (.ifCond .eq 13, 3) := zo_153 (b1 := 0) (b2 := 13) (zkb3 zk_cX5_adjustA zn_cX5_adjustA (by decide +kernel)) rfl
theorem dX5_adjustA_109 : decode cX5_adjustA 109 = .ok (.iload_n 1, 1) := zo_27 (zkb zk_cX5_adjustA zn_cX5_adjustA (by decide +kernel))
theorem dX5_adjustA_110 : decode cX5_adjustA 110 = .ok (.bipush 6, 2) := zo_16 (b1 := 6) (zkb2 zk_cX5_adjustA zn_cX5_adjustA (by decide +kernel)) rfl
theorem dX5_adjustA_112 : decode cX5_adjustA 112 = .ok (.if_icmp .ge 7, 3) := zo_162 (b1 := 0) (b2 := 7) (zkb3 zk_cX5_adjustA zn_cX5_adjustA (by decide +kernel)) rfl
theorem dX5_adjustA_115 : decode cX5_adjustA 115 = .ok (.iconst 1, 1) := zo_4 (zkb zk_cX5_adjustA zn_cX5_adjustA (by decide +kernel))
theorem dX5_adjustA_116 : decode cX5_adjustA 116 = .ok (.goto 18, 3) := zo_167 (b1 := 0) (b2 := 18) (zkb3 zk_cX5_adjustA zn_cX5_adjustA (by decide +kernel)) rfl
theorem dX5_adjustA_119 : decode cX5_adjustA 119 = .ok (.iconst 0, 1) := zo_3 (zkb zk_cX5_adjustA zn_cX5_adjustA (by decide +kernel))
theorem dX5_adjustA_120 : decode cX5_adjustA 120 = .ok (.goto 14, 3) := zo_167 (b1 := 0) (b2 := 14) (zkb3 zk_cX5_adjustA zn_cX5_adjustA (by decide +kernel)) rfl
theorem dX5_adjustA_123 : decode cX5_adjustA 123 = .ok (.iload_n 1, 1) := zo_27 (zkb zk_cX5_adjustA zn_cX5_adjustA (by decide +kernel))
theorem dX5_adjustA_124 : decode cX5_adjustA 124 = .ok (.bipush 9, 2) := zo_16 (b1 := 9) (zkb2 zk_cX5_adjustA zn_cX5_adjustA (by decide +kernel)) rfl
theorem dX5_adjustA_126 : decode cX5_adjustA 126 = .ok (.if_icmp .le 7, 3) := zo_164 (b1 := 0) (b2 := 7) (zkb3 zk_cX5_adjustA zn_cX5_adjustA (by decide +kernel)) rfl
theorem dX5_adjustA_129 : decode cX5_adjustA 129 = .ok (.iconst 1, 1) := zo_4 (zkb zk_cX5_adjustA zn_cX5_adjustA (by decide +kernel))
theorem dX5_adjustA_130 : decode cX5_adjustA 130 = .ok (.goto 4, 3) := zo_167 (b1 := 0) (b2 := 4) (zkb3 zk_cX5_adjustA zn_cX5_adjustA (by decide +kernel)) rfl
theorem dX5_adjustA_133 : decode cX5_adjustA 133 = .ok (.iconst 0, 1) := zo_3 (zkb zk_cX5_adjustA zn_cX5_adjustA (by decide +kernel))
theorem dX5_adjustA_134 : decode cX5_adjustA 134 = .ok (.istore 6, 2) := zo_54 (b1 := 6) (zkb2 zk_cX5_adjustA zn_cX5_adjustA (by decide +kernel))
theorem dX5_adjustA_136 : decode cX5_adjustA 136 = .ok (.iload_n 3, 1) := zo_29 (zkb zk_cX5_adjustA zn_cX5_adjustA (by decide +kernel))
theorem dX5_adjustA_137 : decode cX5_adjustA 137 = .ok (.ifCond .eq 15, 3) := zo_153 (b1 := 0) (b2 := 15) (zkb3 zk_cX5_adjustA zn_cX5_adjustA (by decide +kernel)) rfl
theorem dX5_adjustA_140 : decode cX5_adjustA 140 = .ok (.aload_n 0, 1) := zo_42 (zkb zk_cX5_adjustA zn_cX5_adjustA (by decide +kernel))
theorem dX5_adjustA_141 : decode cX5_adjustA 141 = .ok (.getfield 9, 3) := zo_180 (b1 := 0) (b2 := 9) (zkb3 zk_cX5_adjustA zn_cX5_adjustA (by decide +kernel)) rfl
theorem dX5_adjustA_144 : decode cX5_adjustA 144 = .ok (.iconst 0, 1) := zo_3 (zkb zk_cX5_adjustA zn_cX5_adjustA (by decide +kernel))
theorem dX5_adjustA_145 : decode cX5_adjustA 145 = .ok (.iaload, 1) := zo_46 (zkb zk_cX5_adjustA zn_cX5_adjustA (by decide +kernel))
theorem dX5_adjustA_146 : decode cX5_adjustA 146 = .ok (.iload 5, 2) := zo_21 (b1 := 5) (zkb2 zk_cX5_adjustA zn_cX5_adjustA (by decide +kernel))
theorem dX5_adjustA_148 : decode cX5_adjustA 148 = .ok (.isub, 1) := zo_100 (zkb zk_cX5_adjustA zn_cX5_adjustA (by decide +kernel))
theorem dX5_adjustA_149 : decode cX5_adjustA 149 = .ok (.goto 12, 3) := zo_167 (b1 := 0) (b2 := 12) (zkb3 zk_cX5_adjustA zn_cX5_adjustA (by decide +kernel)) rfl
theorem dX5_adjustA_152 : decode cX5_adjustA 152 = .ok (.aload_n 0, 1) := zo_42 (zkb zk_cX5_adjustA zn_cX5_adjustA (by decide +kernel))
theorem dX5_adjustA_153 : decode cX5_adjustA 153 = .ok (.getfield 9, 3) := zo_180 (b1 := 0) (b2 := 9) (zkb3 zk_cX5_adjustA zn_cX5_adjustA (by decide +kernel)) rfl
theorem dX5_adjustA_156 : decode cX5_adjustA 156 = .ok (.iconst 0, 1) := zo_3 (zkb zk_cX5_adjustA zn_cX5_adjustA (by decide +kernel))
theorem dX5_adjustA_157 : decode cX5_adjustA 157 = .ok (.iaload, 1) := zo_46 (zkb zk_cX5_adjustA zn_cX5_adjustA (by decide +kernel))
theorem dX5_adjustA_158 : decode cX5_adjustA 158 = .ok (.iload 5, 2) := zo_21 (b1 := 5) (zkb2 zk_cX5_adjustA zn_cX5_adjustA (by decide +kernel))
theorem dX5_adjustA_160 : decode cX5_adjustA 160 = .ok (.iadd, 1) := zo_96 (zkb zk_cX5_adjustA zn_cX5_adjustA (by decide +kernel))
theorem dX5_adjustA_161 : decode cX5_adjustA 161 = .ok (.sipush 255, 3) := zo_17 (b1 := 0) (b2 := 255) (zkb3 zk_cX5_adjustA zn_cX5_adjustA (by decide +kernel)) rfl
theorem dX5_adjustA_164 : decode cX5_adjustA 164 = .ok (.iand, 1) := zo_126 (zkb zk_cX5_adjustA zn_cX5_adjustA (by decide +kernel))
theorem dX5_adjustA_165 : decode cX5_adjustA 165 = .ok (.istore 7, 2) := zo_54 (b1 := 7) (zkb2 zk_cX5_adjustA zn_cX5_adjustA (by decide +kernel))
theorem dX5_adjustA_167 : decode cX5_adjustA 167 = .ok (.aload_n 0, 1) := zo_42 (zkb zk_cX5_adjustA zn_cX5_adjustA (by decide +kernel))
theorem dX5_adjustA_168 : decode cX5_adjustA 168 = .ok (.getfield 9, 3) := zo_180 (b1 := 0) (b2 := 9) (zkb3 zk_cX5_adjustA zn_cX5_adjustA (by decide +kernel)) rfl
theorem dX5_adjustA_171 : decode cX5_adjustA 171 = .ok (.iconst 0, 1) := zo_3 (zkb zk_cX5_adjustA zn_cX5_adjustA (by decide +kernel))
theorem dX5_adjustA_172 : decode cX5_adjustA 172 = .ok (.iload 7, 2) := zo_21 (b1 := 7) (zkb2 zk_cX5_adjustA zn_cX5_adjustA (by decide +kernel))
theorem dX5_adjustA_174 : decode cX5_adjustA 174 = .ok (.iastore, 1) := zo_79 (zkb zk_cX5_adjustA zn_cX5_adjustA (by decide +kernel))
theorem dX5_adjustA_175 : decode cX5_adjustA 175 = .ok (.aload_n 0, 1) := zo_42 (zkb zk_cX5_adjustA zn_cX5_adjustA (by decide +kernel))
theorem dX5_adjustA_176 : decode cX5_adjustA 176 = .ok (.getfield 9, 3) := zo_180 (b1 := 0) (b2 := 9) (zkb3 zk_cX5_adjustA zn_cX5_adjustA (by decide +kernel)) rfl
theorem dX5_adjustA_179 : decode cX5_adjustA 179 = .ok (.iconst 1, 1) := zo_4 (zkb zk_cX5_adjustA zn_cX5_adjustA (by decide +kernel))
theorem dX5_adjustA_180 : decode cX5_adjustA 180 = .ok (.iload 7, 2) := zo_21 (b1 := 7) (zkb2 zk_cX5_adjustA zn_cX5_adjustA (by decide +kernel))
theorem dX5_adjustA_182 : decode cX5_adjustA 182 = .ok (.invokestatic 187, 3) := zo_184 (b1 := 0) (b2 := 187) (zkb3 zk_cX5_adjustA zn_cX5_adjustA (by decide +kernel)) rfl
theorem dX5_adjustA_185 : decode cX5_adjustA 185 = .ok (.iload 7, 2) := zo_21 (b1 := 7) (zkb2 zk_cX5_adjustA zn_cX5_adjustA (by decide +kernel))
theorem dX5_adjustA_187 : decode cX5_adjustA 187 = .ok (.invokestatic 196, 3) := zo_184 (b1 := 0) (b2 := 196) (zkb3 zk_cX5_adjustA zn_cX5_adjustA (by decide +kernel)) rfl
theorem dX5_adjustA_190 : decode cX5_adjustA 190 = .ok (.ior, 1) := zo_128 (zkb zk_cX5_adjustA zn_cX5_adjustA (by decide +kernel))
theorem dX5_adjustA_191 : decode cX5_adjustA 191 = .ok (.iload 6, 2) := zo_21 (b1 := 6) (zkb2 zk_cX5_adjustA zn_cX5_adjustA (by decide +kernel))
theorem dX5_adjustA_193 : decode cX5_adjustA 193 = .ok (.ifCond .eq 8, 3) := zo_153 (b1 := 0) (b2 := 8) (zkb3 zk_cX5_adjustA zn_cX5_adjustA (by decide +kernel)) rfl
theorem dX5_adjustA_196 : decode cX5_adjustA 196 = .ok (.bipush 16, 2) := zo_16 (b1 := 16) (zkb2 zk_cX5_adjustA zn_cX5_adjustA (by decide +kernel)) rfl
theorem dX5_adjustA_198 : decode cX5_adjustA 198 = .ok (.goto 4, 3) := zo_167 (b1 := 0) (b2 := 4) (zkb3 zk_cX5_adjustA zn_cX5_adjustA (by decide +kernel)) rfl
theorem dX5_adjustA_201 : decode cX5_adjustA 201 = .ok (.iconst 0, 1) := zo_3 (zkb zk_cX5_adjustA zn_cX5_adjustA (by decide +kernel))
theorem dX5_adjustA_202 : decode cX5_adjustA 202 = .ok (.ior, 1) := zo_128 (zkb zk_cX5_adjustA zn_cX5_adjustA (by decide +kernel))
theorem dX5_adjustA_203 : decode cX5_adjustA 203 = .ok (.aload_n 0, 1) := zo_42 (zkb zk_cX5_adjustA zn_cX5_adjustA (by decide +kernel))
theorem dX5_adjustA_204 : decode cX5_adjustA 204 = .ok (.getfield 9, 3) := zo_180 (b1 := 0) (b2 := 9) (zkb3 zk_cX5_adjustA zn_cX5_adjustA (by decide +kernel)) rfl
theorem dX5_adjustA_207 : decode cX5_adjustA 207 = .ok (.iconst 1, 1) := zo_4 (zkb zk_cX5_adjustA zn_cX5_adjustA (by decide +kernel))
theorem dX5_adjustA_208 : decode cX5_adjustA 208 = .ok (.iaload, 1) := zo_46 (zkb zk_cX5_adjustA zn_cX5_adjustA (by decide +kernel))
theorem dX5_adjustA_209 : decode cX5_adjustA 209 = .ok (.iconst 2, 1) := zo_5 (zkb zk_cX5_adjustA zn_cX5_adjustA (by decide +kernel))
theorem dX5_adjustA_210 : decode cX5_adjustA 210 = .ok (.iand, 1) := zo_126 (zkb zk_cX5_adjustA zn_cX5_adjustA (by decide +kernel))
theorem dX5_adjustA_211 : decode cX5_adjustA 211 = .ok (.ior, 1) := zo_128 (zkb zk_cX5_adjustA zn_cX5_adjustA (by decide +kernel))
theorem dX5_adjustA_212 : decode cX5_adjustA 212 = .ok (.iload 4, 2) := zo_21 (b1 := 4) (zkb2 zk_cX5_adjustA zn_cX5_adjustA (by decide +kernel))
theorem dX5_adjustA_214 : decode cX5_adjustA 214 = .ok (.ior, 1) := zo_128 (zkb zk_cX5_adjustA zn_cX5_adjustA (by decide +kernel))
theorem dX5_adjustA_215 : decode cX5_adjustA 215 = .ok (.iastore, 1) := zo_79 (zkb zk_cX5_adjustA zn_cX5_adjustA (by decide +kernel))
theorem dX5_adjustA_216 : decode cX5_adjustA 216 = .ok (.return_, 1) := zo_177 (zkb zk_cX5_adjustA zn_cX5_adjustA (by decide +kernel))
def kn_cX5_move : Nat := 0xac070400a707100800a006101d09009f06101ca600b6a000b61d2a1c2a3e7e07101b3d7e07107a061bac074f041a100900b42a0d00a076101b
theorem zk_cX5_move : zkd cX5_move.data.toList kn_cX5_move = true := by decide +kernel
theorem zn_cX5_move : cX5_move.data.toList.length = 57 := by decide +kernel
theorem dX5_move_0 : decode cX5_move 0 = .ok (.iload_n 1, 1) := zo_27 (zkb zk_cX5_move zn_cX5_move (by decide +kernel))
theorem dX5_move_1 : decode cX5_move 1 = .ok (.bipush 118, 2) := zo_16 (b1 := 118) (zkb2 zk_cX5_move zn_cX5_move (by decide +kernel)) rfl
theorem dX5_move_3 : decode cX5_move 3 = .ok (.if_icmp .ne 13, 3) := zo_160 (b1 := 0) (b2 := 13) (zkb3 zk_cX5_move zn_cX5_move (by decide +kernel)) rfl
theorem dX5_move_6 : decode cX5_move 6 = .ok (.aload_n 0, 1) := zo_42 (zkb zk_cX5_move zn_cX5_move (by decide +kernel))
theorem dX5_move_7 : decode cX5_move 7 = .ok (.getfield 9, 3) := zo_180 (b1 := 0) (b2 := 9) (zkb3 zk_cX5_move zn_cX5_move (by decide +kernel)) rfl
theorem dX5_move_10 : decode cX5_move 10 = .ok (.bipush 26, 2) := zo_16 (b1 := 26) (zkb2 zk_cX5_move zn_cX5_move (by decide +kernel)) rfl
theorem dX5_move_12 : decode cX5_move 12 = .ok (.iconst 1, 1) := zo_4 (zkb zk_cX5_move zn_cX5_move (by decide +kernel))
theorem dX5_move_13 : decode cX5_move 13 = .ok (.iastore, 1) := zo_79 (zkb zk_cX5_move zn_cX5_move (by decide +kernel))
theorem dX5_move_14 : decode cX5_move 14 = .ok (.iconst 4, 1) := zo_7 (zkb zk_cX5_move zn_cX5_move (by decide +kernel))
theorem dX5_move_15 : decode cX5_move 15 = .ok (.ireturn, 1) := zo_172 (zkb zk_cX5_move zn_cX5_move (by decide +kernel))
theorem dX5_move_16 : decode cX5_move 16 = .ok (.iload_n 1, 1) := zo_27 (zkb zk_cX5_move zn_cX5_move (by decide +kernel))
theorem dX5_move_17 : decode cX5_move 17 = .ok (.iconst 3, 1) := zo_6 (zkb zk_cX5_move zn_cX5_move (by decide +kernel))
theorem dX5_move_18 : decode cX5_move 18 = .ok (.ishr, 1) := zo_122 (zkb zk_cX5_move zn_cX5_move (by decide +kernel))
theorem dX5_move_19 : decode cX5_move 19 = .ok (.bipush 7, 2) := zo_16 (b1 := 7) (zkb2 zk_cX5_move zn_cX5_move (by decide +kernel)) rfl
theorem dX5_move_21 : decode cX5_move 21 = .ok (.iand, 1) := zo_126 (zkb zk_cX5_move zn_cX5_move (by decide +kernel))
theorem dX5_move_22 : decode cX5_move 22 = .ok (.istore_n 2, 1) := zo_61 (zkb zk_cX5_move zn_cX5_move (by decide +kernel))
theorem dX5_move_23 : decode cX5_move 23 = .ok (.iload_n 1, 1) := zo_27 (zkb zk_cX5_move zn_cX5_move (by decide +kernel))
theorem dX5_move_24 : decode cX5_move 24 = .ok (.bipush 7, 2) := zo_16 (b1 := 7) (zkb2 zk_cX5_move zn_cX5_move (by decide +kernel)) rfl
theorem dX5_move_26 : decode cX5_move 26 = .ok (.iand, 1) := zo_126 (zkb zk_cX5_move zn_cX5_move (by decide +kernel))
theorem dX5_move_27 : decode cX5_move 27 = .ok (.istore_n 3, 1) := zo_62 (zkb zk_cX5_move zn_cX5_move (by decide +kernel))
theorem dX5_move_28 : decode cX5_move 28 = .ok (.aload_n 0, 1) := zo_42 (zkb zk_cX5_move zn_cX5_move (by decide +kernel))
theorem dX5_move_29 : decode cX5_move 29 = .ok (.iload_n 2, 1) := zo_28 (zkb zk_cX5_move zn_cX5_move (by decide +kernel))
theorem dX5_move_30 : decode cX5_move 30 = .ok (.aload_n 0, 1) := zo_42 (zkb zk_cX5_move zn_cX5_move (by decide +kernel))
theorem dX5_move_31 : decode cX5_move 31 = .ok (.iload_n 3, 1) := zo_29 (zkb zk_cX5_move zn_cX5_move (by decide +kernel))
theorem dX5_move_32 : decode cX5_move 32 = .ok (.invokevirtual 160, 3) := zo_182 (b1 := 0) (b2 := 160) (zkb3 zk_cX5_move zn_cX5_move (by decide +kernel)) rfl
theorem dX5_move_35 : decode cX5_move 35 = .ok (.invokevirtual 166, 3) := zo_182 (b1 := 0) (b2 := 166) (zkb3 zk_cX5_move zn_cX5_move (by decide +kernel)) rfl
theorem dX5_move_38 : decode cX5_move 38 = .ok (.iload_n 2, 1) := zo_28 (zkb zk_cX5_move zn_cX5_move (by decide +kernel))
theorem dX5_move_39 : decode cX5_move 39 = .ok (.bipush 6, 2) := zo_16 (b1 := 6) (zkb2 zk_cX5_move zn_cX5_move (by decide +kernel)) rfl
theorem dX5_move_41 : decode cX5_move 41 = .ok (.if_icmp .eq 9, 3) := zo_159 (b1 := 0) (b2 := 9) (zkb3 zk_cX5_move zn_cX5_move (by decide +kernel)) rfl
theorem dX5_move_44 : decode cX5_move 44 = .ok (.iload_n 3, 1) := zo_29 (zkb zk_cX5_move zn_cX5_move (by decide +kernel))
theorem dX5_move_45 : decode cX5_move 45 = .ok (.bipush 6, 2) := zo_16 (b1 := 6) (zkb2 zk_cX5_move zn_cX5_move (by decide +kernel)) rfl
theorem dX5_move_47 : decode cX5_move 47 = .ok (.if_icmp .ne 8, 3) := zo_160 (b1 := 0) (b2 := 8) (zkb3 zk_cX5_move zn_cX5_move (by decide +kernel)) rfl
theorem dX5_move_50 : decode cX5_move 50 = .ok (.bipush 7, 2) := zo_16 (b1 := 7) (zkb2 zk_cX5_move zn_cX5_move (by decide +kernel)) rfl
theorem dX5_move_52 : decode cX5_move 52 = .ok (.goto 4, 3) := zo_167 (b1 := 0) (b2 := 4) (zkb3 zk_cX5_move zn_cX5_move (by decide +kernel)) rfl
theorem dX5_move_55 : decode cX5_move 55 = .ok (.iconst 4, 1) := zo_7 (zkb zk_cX5_move zn_cX5_move (by decide +kernel))
theorem dX5_move_56 : decode cX5_move 56 = .ok (.ireturn, 1) := zo_172 (zkb zk_cX5_move zn_cX5_move (by decide +kernel))
def kn_cX5_doWithRegister : Nat := 0xac070400a707100800a006107e07101bc700b6a000b67e07101b2a7e07107a061b2a
theorem zk_cX5_doWithRegister : zkd cX5_doWithRegister.data.toList kn_cX5_doWithRegister = true := by decide +kernel
theorem zn_cX5_doWithRegister : cX5_doWithRegister.data.toList.length = 34 := by decide +kernel
theorem dX5_doWithRegister_0 : decode cX5_doWithRegister 0 = .ok (.aload_n 0, 1) := zo_42 (zkb zk_cX5_doWithRegister zn_cX5_doWithRegister (by decide +kernel))
theorem dX5_doWithRegister_1 : decode cX5_doWithRegister 1 = .ok (.iload_n 1, 1) := zo_27 (zkb zk_cX5_doWithRegister zn_cX5_doWithRegister (by decide +kernel))
theorem dX5_doWithRegister_2 : decode cX5_doWithRegister 2 = .ok (.iconst 3, 1) := zo_6 (zkb zk_cX5_doWithRegister zn_cX5_doWithRegister (by decide +kernel))
theorem dX5_doWithRegister_3 : decode cX5_doWithRegister 3 = .ok (.ishr, 1) := zo_122 (zkb zk_cX5_doWithRegister zn_cX5_doWithRegister (by decide +kernel))
theorem dX5_doWithRegister_4 : decode cX5_doWithRegister 4 = .ok (.bipush 7, 2) := zo_16 (b1 := 7) (zkb2 zk_cX5_doWithRegister zn_cX5_doWithRegister (by decide +kernel)) rfl
theorem dX5_doWithRegister_6 : decode cX5_doWithRegister 6 = .ok (.iand, 1) := zo_126 (zkb zk_cX5_doWithRegister zn_cX5_doWithRegister (by decide +kernel))
theorem dX5_doWithRegister_7 : decode cX5_doWithRegister 7 = .ok (.aload_n 0, 1) := zo_42 (zkb zk_cX5_doWithRegister zn_cX5_doWithRegister (by decide +kernel))
theorem dX5_doWithRegister_8 : decode cX5_doWithRegister 8 = .ok (.iload_n 1, 1) := zo_27 (zkb zk_cX5_doWithRegister zn_cX5_doWithRegister (by decide +kernel))
theorem dX5_doWithRegister_9 : decode cX5_doWithRegister 9 = .ok (.bipush 7, 2) := zo_16 (b1 := 7) (zkb2 zk_cX5_doWithRegister zn_cX5_doWithRegister (by decide +kernel)) rfl
theorem dX5_doWithRegister_11 : decode cX5_doWithRegister 11 = .ok (.iand, 1) := zo_126 (zkb zk_cX5_doWithRegister zn_cX5_doWithRegister (by decide +kernel))
theorem dX5_doWithRegister_12 : decode cX5_doWithRegister 12 = .ok (.invokevirtual 160, 3) := zo_182 (b1 := 0) (b2 := 160) (zkb3 zk_cX5_doWithRegister zn_cX5_doWithRegister (by decide +kernel)) rfl
theorem dX5_doWithRegister_15 : decode cX5_doWithRegister 15 = .ok (.invokevirtual 199, 3) := zo_182 (b1 := 0) (b2 := 199) (zkb3 zk_cX5_doWithRegister zn_cX5_doWithRegister (by decide +kernel)) rfl
theorem dX5_doWithRegister_18 : decode cX5_doWithRegister 18 = .ok (.iload_n 1, 1) := zo_27 (zkb zk_cX5_doWithRegister zn_cX5_doWithRegister (by decide +kernel))
theorem dX5_doWithRegister_19 : decode cX5_doWithRegister 19 = .ok (.bipush 7, 2) := zo_16 (b1 := 7) (zkb2 zk_cX5_doWithRegister zn_cX5_doWithRegister (by decide +kernel)) rfl
theorem dX5_doWithRegister_21 : decode cX5_doWithRegister 21 = .ok (.iand, 1) := zo_126 (zkb zk_cX5_doWithRegister zn_cX5_doWithRegister (by decide +kernel))
theorem dX5_doWithRegister_22 : decode cX5_doWithRegister 22 = .ok (.bipush 6, 2) := zo_16 (b1 := 6) (zkb2 zk_cX5_doWithRegister zn_cX5_doWithRegister (by decide +kernel)) rfl
theorem dX5_doWithRegister_24 : decode cX5_doWithRegister 24 = .ok (.if_icmp .ne 8, 3) := zo_160 (b1 := 0) (b2 := 8) (zkb3 zk_cX5_doWithRegister zn_cX5_doWithRegister (by decide +kernel)) rfl
theorem dX5_doWithRegister_27 : decode cX5_doWithRegister 27 = .ok (.bipush 7, 2) := zo_16 (b1 := 7) (zkb2 zk_cX5_doWithRegister zn_cX5_doWithRegister (by decide +kernel)) rfl
theorem dX5_doWithRegister_29 : decode cX5_doWithRegister 29 = .ok (.goto 4, 3) := zo_167 (b1 := 0) (b2 := 4) (zkb3 zk_cX5_doWithRegister zn_cX5_doWithRegister (by decide +kernel)) rfl
theorem dX5_doWithRegister_32 : decode cX5_doWithRegister 32 = .ok (.iconst 4, 1) := zo_7 (zkb zk_cX5_doWithRegister zn_cX5_doWithRegister (by decide +kernel))
theorem dX5_doWithRegister_33 : decode cX5_doWithRegister 33 = .ok (.ireturn, 1) := zo_172 (zkb zk_cX5_doWithRegister zn_cX5_doWithRegister (by decide +kernel))
def kn_cX5_doWith : Nat := 0xb14f807e28101c7ed7102e040900b42a040900b42a57ce00b6031c2e030900b42a2a2400a74f80c400b82e030900b42abb00b82e030900b42a040900b42a4f801c2e5c030900b42a4a00a74f80c400b82e030900b42abb00b82e030900b42a040900b42a4f821c2e5c030900b42a7000a74f80101080c400b82e030900b42abb00b82e030900b42a040900b42a4f7e1c2e5c030900b42a9900a74fce00b67e042e040900b42a1c2e030900b42a2a030900b42ab500a74fce00b6031c2e030900b42a2a030900b42aca00a74fca00b67e042e040900b42a1c2e030900b42a2a030900b42ae600a74fca00b6031c2e030900b42a2a030900b42adc000000b60000008d000000710000005c000000400000002b0000000600000000000000020100000000aa1b
theorem zk_cX5_doWith : zkd cX5_doWith.data.toList kn_cX5_doWith = true := by decide +kernel
theorem zn_cX5_doWith : cX5_doWith.data.toList.length = 293 := by decide +kernel
theorem dX5_doWith_0 : decode cX5_doWith 0 = .ok (.iload_n 1, 1) := zo_27 (zkb zk_cX5_doWith zn_cX5_doWith (by decide +kernel))
theorem dX5_doWith_1 : decode cX5_doWith 1 = .ok (.tableswitch 258 0 6 #[43, 64, 92, 113, 141, 182, 220], 43) := by decide +kernel
theorem dX5_doWith_44 : decode cX5_doWith 44 = .ok (.aload_n 0, 1) := zo_42 (zkb zk_cX5_doWith zn_cX5_doWith (by decide +kernel))
theorem dX5_doWith_45 : decode cX5_doWith 45 = .ok (.getfield 9, 3) := zo_180 (b1 := 0) (b2 := 9) (zkb3 zk_cX5_doWith zn_cX5_doWith (by decide +kernel)) rfl
theorem dX5_doWith_48 : decode cX5_doWith 48 = .ok (.iconst 0, 1) := zo_3 (zkb zk_cX5_doWith zn_cX5_doWith (by decide +kernel))
theorem dX5_doWith_49 : decode cX5_doWith 49 = .ok (.aload_n 0, 1) := zo_42 (zkb zk_cX5_doWith zn_cX5_doWith (by decide +kernel))
theorem dX5_doWith_50 : decode cX5_doWith 50 = .ok (.aload_n 0, 1) := zo_42 (zkb zk_cX5_doWith zn_cX5_doWith (by decide +kernel))
theorem dX5_doWith_51 : decode cX5_doWith 51 = .ok (.getfield 9, 3) := zo_180 (b1 := 0) (b2 := 9) (zkb3 zk_cX5_doWith zn_cX5_doWith (by decide +kernel)) rfl
theorem dX5_doWith_54 : decode cX5_doWith 54 = .ok (.iconst 0, 1) := zo_3 (zkb zk_cX5_doWith zn_cX5_doWith (by decide +kernel))
theorem dX5_doWith_55 : decode cX5_doWith 55 = .ok (.iaload, 1) := zo_46 (zkb zk_cX5_doWith zn_cX5_doWith (by decide +kernel))
theorem dX5_doWith_56 : decode cX5_doWith 56 = .ok (.iload_n 2, 1) := zo_28 (zkb zk_cX5_doWith zn_cX5_doWith (by decide +kernel))
theorem dX5_doWith_57 : decode cX5_doWith 57 = .ok (.iconst 0, 1) := zo_3 (zkb zk_cX5_doWith zn_cX5_doWith (by decide +kernel))
theorem dX5_doWith_58 : decode cX5_doWith 58 = .ok (.invokevirtual 202, 3) := zo_182 (b1 := 0) (b2 := 202) (zkb3 zk_cX5_doWith zn_cX5_doWith (by decide +kernel)) rfl
theorem dX5_doWith_61 : decode cX5_doWith 61 = .ok (.iastore, 1) := zo_79 (zkb zk_cX5_doWith zn_cX5_doWith (by decide +kernel))
theorem dX5_doWith_62 : decode cX5_doWith 62 = .ok (.goto 230, 3) := zo_167 (b1 := 0) (b2 := 230) (zkb3 zk_cX5_doWith zn_cX5_doWith (by decide +kernel)) rfl
theorem dX5_doWith_65 : decode cX5_doWith 65 = .ok (.aload_n 0, 1) := zo_42 (zkb zk_cX5_doWith zn_cX5_doWith (by decide +kernel))
theorem dX5_doWith_66 : decode cX5_doWith 66 = .ok (.getfield 9, 3) := zo_180 (b1 := 0) (b2 := 9) (zkb3 zk_cX5_doWith zn_cX5_doWith (by decide +kernel)) rfl
theorem dX5_doWith_69 : decode cX5_doWith 69 = .ok (.iconst 0, 1) := zo_3 (zkb zk_cX5_doWith zn_cX5_doWith (by decide +kernel))
theorem dX5_doWith_70 : decode cX5_doWith 70 = .ok (.aload_n 0, 1) := zo_42 (zkb zk_cX5_doWith zn_cX5_doWith (by decide +kernel))
theorem dX5_doWith_71 : decode cX5_doWith 71 = .ok (.aload_n 0, 1) := zo_42 (zkb zk_cX5_doWith zn_cX5_doWith (by decide +kernel))
theorem dX5_doWith_72 : decode cX5_doWith 72 = .ok (.getfield 9, 3) := zo_180 (b1 := 0) (b2 := 9) (zkb3 zk_cX5_doWith zn_cX5_doWith (by decide +kernel)) rfl
theorem dX5_doWith_75 : decode cX5_doWith 75 = .ok (.iconst 0, 1) := zo_3 (zkb zk_cX5_doWith zn_cX5_doWith (by decide +kernel))
theorem dX5_doWith_76 : decode cX5_doWith 76 = .ok (.iaload, 1) := zo_46 (zkb zk_cX5_doWith zn_cX5_doWith (by decide +kernel))
theorem dX5_doWith_77 : decode cX5_doWith 77 = .ok (.iload_n 2, 1) := zo_28 (zkb zk_cX5_doWith zn_cX5_doWith (by decide +kernel))
theorem dX5_doWith_78 : decode cX5_doWith 78 = .ok (.aload_n 0, 1) := zo_42 (zkb zk_cX5_doWith zn_cX5_doWith (by decide +kernel))
theorem dX5_doWith_79 : decode cX5_doWith 79 = .ok (.getfield 9, 3) := zo_180 (b1 := 0) (b2 := 9) (zkb3 zk_cX5_doWith zn_cX5_doWith (by decide +kernel)) rfl
theorem dX5_doWith_82 : decode cX5_doWith 82 = .ok (.iconst 1, 1) := zo_4 (zkb zk_cX5_doWith zn_cX5_doWith (by decide +kernel))
theorem dX5_doWith_83 : decode cX5_doWith 83 = .ok (.iaload, 1) := zo_46 (zkb zk_cX5_doWith zn_cX5_doWith (by decide +kernel))
theorem dX5_doWith_84 : decode cX5_doWith 84 = .ok (.iconst 1, 1) := zo_4 (zkb zk_cX5_doWith zn_cX5_doWith (by decide +kernel))
theorem dX5_doWith_85 : decode cX5_doWith 85 = .ok (.iand, 1) := zo_126 (zkb zk_cX5_doWith zn_cX5_doWith (by decide +kernel))
theorem dX5_doWith_86 : decode cX5_doWith 86 = .ok (.invokevirtual 202, 3) := zo_182 (b1 := 0) (b2 := 202) (zkb3 zk_cX5_doWith zn_cX5_doWith (by decide +kernel)) rfl
theorem dX5_doWith_89 : decode cX5_doWith 89 = .ok (.iastore, 1) := zo_79 (zkb zk_cX5_doWith zn_cX5_doWith (by decide +kernel))
theorem dX5_doWith_90 : decode cX5_doWith 90 = .ok (.goto 202, 3) := zo_167 (b1 := 0) (b2 := 202) (zkb3 zk_cX5_doWith zn_cX5_doWith (by decide +kernel)) rfl
theorem dX5_doWith_93 : decode cX5_doWith 93 = .ok (.aload_n 0, 1) := zo_42 (zkb zk_cX5_doWith zn_cX5_doWith (by decide +kernel))
theorem dX5_doWith_94 : decode cX5_doWith 94 = .ok (.getfield 9, 3) := zo_180 (b1 := 0) (b2 := 9) (zkb3 zk_cX5_doWith zn_cX5_doWith (by decide +kernel)) rfl
theorem dX5_doWith_97 : decode cX5_doWith 97 = .ok (.iconst 0, 1) := zo_3 (zkb zk_cX5_doWith zn_cX5_doWith (by decide +kernel))
theorem dX5_doWith_98 : decode cX5_doWith 98 = .ok (.aload_n 0, 1) := zo_42 (zkb zk_cX5_doWith zn_cX5_doWith (by decide +kernel))
theorem dX5_doWith_99 : decode cX5_doWith 99 = .ok (.aload_n 0, 1) := zo_42 (zkb zk_cX5_doWith zn_cX5_doWith (by decide +kernel))
theorem dX5_doWith_100 : decode cX5_doWith 100 = .ok (.getfield 9, 3) := zo_180 (b1 := 0) (b2 := 9) (zkb3 zk_cX5_doWith zn_cX5_doWith (by decide +kernel)) rfl
theorem dX5_doWith_103 : decode cX5_doWith 103 = .ok (.iconst 0, 1) := zo_3 (zkb zk_cX5_doWith zn_cX5_doWith (by decide +kernel))
theorem dX5_doWith_104 : decode cX5_doWith 104 = .ok (.iaload, 1) := zo_46 (zkb zk_cX5_doWith zn_cX5_doWith (by decide +kernel))
theorem dX5_doWith_105 : decode cX5_doWith 105 = .ok (.iload_n 2, 1) := zo_28 (zkb zk_cX5_doWith zn_cX5_doWith (by decide +kernel))
theorem dX5_doWith_106 : decode cX5_doWith 106 = .ok (.iconst 0, 1) := zo_3 (zkb zk_cX5_doWith zn_cX5_doWith (by decide +kernel))
theorem dX5_doWith_107 : decode cX5_doWith 107 = .ok (.invokevirtual 206, 3) := zo_182 (b1 := 0) (b2 := 206) (zkb3 zk_cX5_doWith zn_cX5_doWith (by decide +kernel)) rfl
theorem dX5_doWith_110 : decode cX5_doWith 110 = .ok (.iastore, 1) := zo_79 (zkb zk_cX5_doWith zn_cX5_doWith (by decide +kernel))
theorem dX5_doWith_111 : decode cX5_doWith 111 = .ok (.goto 181, 3) := zo_167 (b1 := 0) (b2 := 181) (zkb3 zk_cX5_doWith zn_cX5_doWith (by decide +kernel)) rfl
theorem dX5_doWith_114 : decode cX5_doWith 114 = .ok (.aload_n 0, 1) := zo_42 (zkb zk_cX5_doWith zn_cX5_doWith (by decide +kernel))
theorem dX5_doWith_115 : decode cX5_doWith 115 = .ok (.getfield 9, 3) := zo_180 (b1 := 0) (b2 := 9) (zkb3 zk_cX5_doWith zn_cX5_doWith (by decide +kernel)) rfl
theorem dX5_doWith_118 : decode cX5_doWith 118 = .ok (.iconst 0, 1) := zo_3 (zkb zk_cX5_doWith zn_cX5_doWith (by decide +kernel))
theorem dX5_doWith_119 : decode cX5_doWith 119 = .ok (.aload_n 0, 1) := zo_42 (zkb zk_cX5_doWith zn_cX5_doWith (by decide +kernel))
theorem dX5_doWith_120 : decode cX5_doWith 120 = .ok (.aload_n 0, 1) := zo_42 (zkb zk_cX5_doWith zn_cX5_doWith (by decide +kernel))
theorem dX5_doWith_121 : decode cX5_doWith 121 = .ok (.getfield 9, 3) := zo_180 (b1 := 0) (b2 := 9) (zkb3 zk_cX5_doWith zn_cX5_doWith (by decide +kernel)) rfl
theorem dX5_doWith_124 : decode cX5_doWith 124 = .ok (.iconst 0, 1) := zo_3 (zkb zk_cX5_doWith zn_cX5_doWith (by decide +kernel))
theorem dX5_doWith_125 : decode cX5_doWith 125 = .ok (.iaload, 1) := zo_46 (zkb zk_cX5_doWith zn_cX5_doWith (by decide +kernel))
theorem dX5_doWith_126 : decode cX5_doWith 126 = .ok (.iload_n 2, 1) := zo_28 (zkb zk_cX5_doWith zn_cX5_doWith (by decide +kernel))
theorem dX5_doWith_127 : decode cX5_doWith 127 = .ok (.aload_n 0, 1) := zo_42 (zkb zk_cX5_doWith zn_cX5_doWith (by decide +kernel))
theorem dX5_doWith_128 : decode cX5_doWith 128 = .ok (.getfield 9, 3) := zo_180 (b1 := 0) (b2 := 9) (zkb3 zk_cX5_doWith zn_cX5_doWith (by decide +kernel)) rfl
theorem dX5_doWith_131 : decode cX5_doWith 131 = .ok (.iconst 1, 1) := zo_4 (zkb zk_cX5_doWith zn_cX5_doWith (by decide +kernel))
theorem dX5_doWith_132 : decode cX5_doWith 132 = .ok (.iaload, 1) := zo_46 (zkb zk_cX5_doWith zn_cX5_doWith (by decide +kernel))
theorem dX5_doWith_133 : decode cX5_doWith 133 = .ok (.iconst 1, 1) := zo_4 (zkb zk_cX5_doWith zn_cX5_doWith (by decide +kernel))
theorem dX5_doWith_134 : decode cX5_doWith 134 = .ok (.iand, 1) := zo_126 (zkb zk_cX5_doWith zn_cX5_doWith (by decide +kernel))
theorem dX5_doWith_135 : decode cX5_doWith 135 = .ok (.invokevirtual 206, 3) := zo_182 (b1 := 0) (b2 := 206) (zkb3 zk_cX5_doWith zn_cX5_doWith (by decide +kernel)) rfl
theorem dX5_doWith_138 : decode cX5_doWith 138 = .ok (.iastore, 1) := zo_79 (zkb zk_cX5_doWith zn_cX5_doWith (by decide +kernel))
theorem dX5_doWith_139 : decode cX5_doWith 139 = .ok (.goto 153, 3) := zo_167 (b1 := 0) (b2 := 153) (zkb3 zk_cX5_doWith zn_cX5_doWith (by decide +kernel)) rfl
theorem dX5_doWith_142 : decode cX5_doWith 142 = .ok (.aload_n 0, 1) := zo_42 (zkb zk_cX5_doWith zn_cX5_doWith (by decide +kernel))
theorem dX5_doWith_143 : decode cX5_doWith 143 = .ok (.getfield 9, 3) := zo_180 (b1 := 0) (b2 := 9) (zkb3 zk_cX5_doWith zn_cX5_doWith (by decide +kernel)) rfl
theorem dX5_doWith_146 : decode cX5_doWith 146 = .ok (.iconst 0, 1) := zo_3 (zkb zk_cX5_doWith zn_cX5_doWith (by decide +kernel))
theorem dX5_doWith_147 : decode cX5_doWith 147 = .ok (.dup2, 1) := zo_92 (zkb zk_cX5_doWith zn_cX5_doWith (by decide +kernel))
theorem dX5_doWith_148 : decode cX5_doWith 148 = .ok (.iaload, 1) := zo_46 (zkb zk_cX5_doWith zn_cX5_doWith (by decide +kernel))
theorem dX5_doWith_149 : decode cX5_doWith 149 = .ok (.iload_n 2, 1) := zo_28 (zkb zk_cX5_doWith zn_cX5_doWith (by decide +kernel))
theorem dX5_doWith_150 : decode cX5_doWith 150 = .ok (.iand, 1) := zo_126 (zkb zk_cX5_doWith zn_cX5_doWith (by decide +kernel))
theorem dX5_doWith_151 : decode cX5_doWith 151 = .ok (.iastore, 1) := zo_79 (zkb zk_cX5_doWith zn_cX5_doWith (by decide +kernel))
theorem dX5_doWith_152 : decode cX5_doWith 152 = .ok (.aload_n 0, 1) := zo_42 (zkb zk_cX5_doWith zn_cX5_doWith (by decide +kernel))
theorem dX5_doWith_153 : decode cX5_doWith 153 = .ok (.getfield 9, 3) := zo_180 (b1 := 0) (b2 := 9) (zkb3 zk_cX5_doWith zn_cX5_doWith (by decide +kernel)) rfl
theorem dX5_doWith_156 : decode cX5_doWith 156 = .ok (.iconst 1, 1) := zo_4 (zkb zk_cX5_doWith zn_cX5_doWith (by decide +kernel))
theorem dX5_doWith_157 : decode cX5_doWith 157 = .ok (.aload_n 0, 1) := zo_42 (zkb zk_cX5_doWith zn_cX5_doWith (by decide +kernel))
theorem dX5_doWith_158 : decode cX5_doWith 158 = .ok (.getfield 9, 3) := zo_180 (b1 := 0) (b2 := 9) (zkb3 zk_cX5_doWith zn_cX5_doWith (by decide +kernel)) rfl
theorem dX5_doWith_161 : decode cX5_doWith 161 = .ok (.iconst 0, 1) := zo_3 (zkb zk_cX5_doWith zn_cX5_doWith (by decide +kernel))
theorem dX5_doWith_162 : decode cX5_doWith 162 = .ok (.iaload, 1) := zo_46 (zkb zk_cX5_doWith zn_cX5_doWith (by decide +kernel))
theorem dX5_doWith_163 : decode cX5_doWith 163 = .ok (.invokestatic 187, 3) := zo_184 (b1 := 0) (b2 := 187) (zkb3 zk_cX5_doWith zn_cX5_doWith (by decide +kernel)) rfl
theorem dX5_doWith_166 : decode cX5_doWith 166 = .ok (.aload_n 0, 1) := zo_42 (zkb zk_cX5_doWith zn_cX5_doWith (by decide +kernel))
theorem dX5_doWith_167 : decode cX5_doWith 167 = .ok (.getfield 9, 3) := zo_180 (b1 := 0) (b2 := 9) (zkb3 zk_cX5_doWith zn_cX5_doWith (by decide +kernel)) rfl
theorem dX5_doWith_170 : decode cX5_doWith 170 = .ok (.iconst 0, 1) := zo_3 (zkb zk_cX5_doWith zn_cX5_doWith (by decide +kernel))
theorem dX5_doWith_171 : decode cX5_doWith 171 = .ok (.iaload, 1) := zo_46 (zkb zk_cX5_doWith zn_cX5_doWith (by decide +kernel))
theorem dX5_doWith_172 : decode cX5_doWith 172 = .ok (.invokestatic 196, 3) := zo_184 (b1 := 0) (b2 := 196) (zkb3 zk_cX5_doWith zn_cX5_doWith (by decide +kernel)) rfl
theorem dX5_doWith_175 : decode cX5_doWith 175 = .ok (.ior, 1) := zo_128 (zkb zk_cX5_doWith zn_cX5_doWith (by decide +kernel))
theorem dX5_doWith_176 : decode cX5_doWith 176 = .ok (.bipush 16, 2) := zo_16 (b1 := 16) (zkb2 zk_cX5_doWith zn_cX5_doWith (by decide +kernel)) rfl
theorem dX5_doWith_178 : decode cX5_doWith 178 = .ok (.ior, 1) := zo_128 (zkb zk_cX5_doWith zn_cX5_doWith (by decide +kernel))
theorem dX5_doWith_179 : decode cX5_doWith 179 = .ok (.iastore, 1) := zo_79 (zkb zk_cX5_doWith zn_cX5_doWith (by decide +kernel))
theorem dX5_doWith_180 : decode cX5_doWith 180 = .ok (.goto 112, 3) := zo_167 (b1 := 0) (b2 := 112) (zkb3 zk_cX5_doWith zn_cX5_doWith (by decide +kernel)) rfl
theorem dX5_doWith_183 : decode cX5_doWith 183 = .ok (.aload_n 0, 1) := zo_42 (zkb zk_cX5_doWith zn_cX5_doWith (by decide +kernel))
theorem dX5_doWith_184 : decode cX5_doWith 184 = .ok (.getfield 9, 3) := zo_180 (b1 := 0) (b2 := 9) (zkb3 zk_cX5_doWith zn_cX5_doWith (by decide +kernel)) rfl
theorem dX5_doWith_187 : decode cX5_doWith 187 = .ok (.iconst 0, 1) := zo_3 (zkb zk_cX5_doWith zn_cX5_doWith (by decide +kernel))
theorem dX5_doWith_188 : decode cX5_doWith 188 = .ok (.dup2, 1) := zo_92 (zkb zk_cX5_doWith zn_cX5_doWith (by decide +kernel))
theorem dX5_doWith_189 : decode cX5_doWith 189 = .ok (.iaload, 1) := zo_46 (zkb zk_cX5_doWith zn_cX5_doWith (by decide +kernel))
theorem dX5_doWith_190 : decode cX5_doWith 190 = .ok (.iload_n 2, 1) := zo_28 (zkb zk_cX5_doWith zn_cX5_doWith (by decide +kernel))
theorem dX5_doWith_191 : decode cX5_doWith 191 = .ok (.ixor, 1) := zo_130 (zkb zk_cX5_doWith zn_cX5_doWith (by decide +kernel))
theorem dX5_doWith_192 : decode cX5_doWith 192 = .ok (.iastore, 1) := zo_79 (zkb zk_cX5_doWith zn_cX5_doWith (by decide +kernel))
theorem dX5_doWith_193 : decode cX5_doWith 193 = .ok (.aload_n 0, 1) := zo_42 (zkb zk_cX5_doWith zn_cX5_doWith (by decide +kernel))
theorem dX5_doWith_194 : decode cX5_doWith 194 = .ok (.getfield 9, 3) := zo_180 (b1 := 0) (b2 := 9) (zkb3 zk_cX5_doWith zn_cX5_doWith (by decide +kernel)) rfl
theorem dX5_doWith_197 : decode cX5_doWith 197 = .ok (.iconst 1, 1) := zo_4 (zkb zk_cX5_doWith zn_cX5_doWith (by decide +kernel))
theorem dX5_doWith_198 : decode cX5_doWith 198 = .ok (.aload_n 0, 1) := zo_42 (zkb zk_cX5_doWith zn_cX5_doWith (by decide +kernel))
theorem dX5_doWith_199 : decode cX5_doWith 199 = .ok (.getfield 9, 3) := zo_180 (b1 := 0) (b2 := 9) (zkb3 zk_cX5_doWith zn_cX5_doWith (by decide +kernel)) rfl
theorem dX5_doWith_202 : decode cX5_doWith 202 = .ok (.iconst 0, 1) := zo_3 (zkb zk_cX5_doWith zn_cX5_doWith (by decide +kernel))
theorem dX5_doWith_203 : decode cX5_doWith 203 = .ok (.iaload, 1) := zo_46 (zkb zk_cX5_doWith zn_cX5_doWith (by decide +kernel))
theorem dX5_doWith_204 : decode cX5_doWith 204 = .ok (.invokestatic 187, 3) := zo_184 (b1 := 0) (b2 := 187) (zkb3 zk_cX5_doWith zn_cX5_doWith (by decide +kernel)) rfl
theorem dX5_doWith_207 : decode cX5_doWith 207 = .ok (.aload_n 0, 1) := zo_42 (zkb zk_cX5_doWith zn_cX5_doWith (by decide +kernel))
theorem dX5_doWith_208 : decode cX5_doWith 208 = .ok (.getfield 9, 3) := zo_180 (b1 := 0) (b2 := 9) (zkb3 zk_cX5_doWith zn_cX5_doWith (by decide +kernel)) rfl
theorem dX5_doWith_211 : decode cX5_doWith 211 = .ok (.iconst 0, 1) := zo_3 (zkb zk_cX5_doWith zn_cX5_doWith (by decide +kernel))
theorem dX5_doWith_212 : decode cX5_doWith 212 = .ok (.iaload, 1) := zo_46 (zkb zk_cX5_doWith zn_cX5_doWith (by decide +kernel))
theorem dX5_doWith_213 : decode cX5_doWith 213 = .ok (.invokestatic 196, 3) := zo_184 (b1 := 0) (b2 := 196) (zkb3 zk_cX5_doWith zn_cX5_doWith (by decide +kernel)) rfl
theorem dX5_doWith_216 : decode cX5_doWith 216 = .ok (.ior, 1) := zo_128 (zkb zk_cX5_doWith zn_cX5_doWith (by decide +kernel))
theorem dX5_doWith_217 : decode cX5_doWith 217 = .ok (.iastore, 1) := zo_79 (zkb zk_cX5_doWith zn_cX5_doWith (by decide +kernel))
theorem dX5_doWith_218 : decode cX5_doWith 218 = .ok (.goto 74, 3) := zo_167 (b1 := 0) (b2 := 74) (zkb3 zk_cX5_doWith zn_cX5_doWith (by decide +kernel)) rfl
theorem dX5_doWith_221 : decode cX5_doWith 221 = .ok (.aload_n 0, 1) := zo_42 (zkb zk_cX5_doWith zn_cX5_doWith (by decide +kernel))
theorem dX5_doWith_222 : decode cX5_doWith 222 = .ok (.getfield 9, 3) := zo_180 (b1 := 0) (b2 := 9) (zkb3 zk_cX5_doWith zn_cX5_doWith (by decide +kernel)) rfl
theorem dX5_doWith_225 : decode cX5_doWith 225 = .ok (.iconst 0, 1) := zo_3 (zkb zk_cX5_doWith zn_cX5_doWith (by decide +kernel))
theorem dX5_doWith_226 : decode cX5_doWith 226 = .ok (.dup2, 1) := zo_92 (zkb zk_cX5_doWith zn_cX5_doWith (by decide +kernel))
theorem dX5_doWith_227 : decode cX5_doWith 227 = .ok (.iaload, 1) := zo_46 (zkb zk_cX5_doWith zn_cX5_doWith (by decide +kernel))
theorem dX5_doWith_228 : decode cX5_doWith 228 = .ok (.iload_n 2, 1) := zo_28 (zkb zk_cX5_doWith zn_cX5_doWith (by decide +kernel))
theorem dX5_doWith_229 : decode cX5_doWith 229 = .ok (.ior, 1) := zo_128 (zkb zk_cX5_doWith zn_cX5_doWith (by decide +kernel))
theorem dX5_doWith_230 : decode cX5_doWith 230 = .ok (.iastore, 1) := zo_79 (zkb zk_cX5_doWith zn_cX5_doWith (by decide +kernel))
theorem dX5_doWith_231 : decode cX5_doWith 231 = .ok (.aload_n 0, 1) := zo_42 (zkb zk_cX5_doWith zn_cX5_doWith (by decide +kernel))
theorem dX5_doWith_232 : decode cX5_doWith 232 = .ok (.getfield 9, 3) := zo_180 (b1 := 0) (b2 := 9) (zkb3 zk_cX5_doWith zn_cX5_doWith (by decide +kernel)) rfl
theorem dX5_doWith_235 : decode cX5_doWith 235 = .ok (.iconst 1, 1) := zo_4 (zkb zk_cX5_doWith zn_cX5_doWith (by decide +kernel))
theorem dX5_doWith_236 : decode cX5_doWith 236 = .ok (.aload_n 0, 1) := zo_42 (zkb zk_cX5_doWith zn_cX5_doWith (by decide +kernel))
theorem dX5_doWith_237 : decode cX5_doWith 237 = .ok (.getfield 9, 3) := zo_180 (b1 := 0) (b2 := 9) (zkb3 zk_cX5_doWith zn_cX5_doWith (by decide +kernel)) rfl
theorem dX5_doWith_240 : decode cX5_doWith 240 = .ok (.iconst 0, 1) := zo_3 (zkb zk_cX5_doWith zn_cX5_doWith (by decide +kernel))
theorem dX5_doWith_241 : decode cX5_doWith 241 = .ok (.iaload, 1) := zo_46 (zkb zk_cX5_doWith zn_cX5_doWith (by decide +kernel))
theorem dX5_doWith_242 : decode cX5_doWith 242 = .ok (.invokestatic 187, 3) := zo_184 (b1 := 0) (b2 := 187) (zkb3 zk_cX5_doWith zn_cX5_doWith (by decide +kernel)) rfl
theorem dX5_doWith_245 : decode cX5_doWith 245 = .ok (.aload_n 0, 1) := zo_42 (zkb zk_cX5_doWith zn_cX5_doWith (by decide +kernel))
theorem dX5_doWith_246 : decode cX5_doWith 246 = .ok (.getfield 9, 3) := zo_180 (b1 := 0) (b2 := 9) (zkb3 zk_cX5_doWith zn_cX5_doWith (by decide +kernel)) rfl
theorem dX5_doWith_249 : decode cX5_doWith 249 = .ok (.iconst 0, 1) := zo_3 (zkb zk_cX5_doWith zn_cX5_doWith (by decide +kernel))
theorem dX5_doWith_250 : decode cX5_doWith 250 = .ok (.iaload, 1) := zo_46 (zkb zk_cX5_doWith zn_cX5_doWith (by decide +kernel))
theorem dX5_doWith_251 : decode cX5_doWith 251 = .ok (.invokestatic 196, 3) := zo_184 (b1 := 0) (b2 := 196) (zkb3 zk_cX5_doWith zn_cX5_doWith (by decide +kernel)) rfl
theorem dX5_doWith_254 : decode cX5_doWith 254 = .ok (.ior, 1) := zo_128 (zkb zk_cX5_doWith zn_cX5_doWith (by decide +kernel))
theorem dX5_doWith_255 : decode cX5_doWith 255 = .ok (.iastore, 1) := zo_79 (zkb zk_cX5_doWith zn_cX5_doWith (by decide +kernel))
theorem dX5_doWith_256 : decode cX5_doWith 256 = .ok (.goto 36, 3) := zo_167 (b1 := 0) (b2 := 36) (zkb3 zk_cX5_doWith zn_cX5_doWith (by decide +kernel)) rfl
theorem dX5_doWith_259 : decode cX5_doWith 259 = .ok (.aload_n 0, 1) := zo_42 (zkb zk_cX5_doWith zn_cX5_doWith (by decide +kernel))
theorem dX5_doWith_260 : decode cX5_doWith 260 = .ok (.aload_n 0, 1) := zo_42 (zkb zk_cX5_doWith zn_cX5_doWith (by decide +kernel))
theorem dX5_doWith_261 : decode cX5_doWith 261 = .ok (.getfield 9, 3) := zo_180 (b1 := 0) (b2 := 9) (zkb3 zk_cX5_doWith zn_cX5_doWith (by decide +kernel)) rfl
theorem dX5_doWith_264 : decode cX5_doWith 264 = .ok (.iconst 0, 1) := zo_3 (zkb zk_cX5_doWith zn_cX5_doWith (by decide +kernel))
theorem dX5_doWith_265 : decode cX5_doWith 265 = .ok (.iaload, 1) := zo_46 (zkb zk_cX5_doWith zn_cX5_doWith (by decide +kernel))
theorem dX5_doWith_266 : decode cX5_doWith 266 = .ok (.iload_n 2, 1) := zo_28 (zkb zk_cX5_doWith zn_cX5_doWith (by decide +kernel))
theorem dX5_doWith_267 : decode cX5_doWith 267 = .ok (.iconst 0, 1) := zo_3 (zkb zk_cX5_doWith zn_cX5_doWith (by decide +kernel))
theorem dX5_doWith_268 : decode cX5_doWith 268 = .ok (.invokevirtual 206, 3) := zo_182 (b1 := 0) (b2 := 206) (zkb3 zk_cX5_doWith zn_cX5_doWith (by decide +kernel)) rfl
theorem dX5_doWith_271 : decode cX5_doWith 271 = .ok (.pop, 1) := zo_87 (zkb zk_cX5_doWith zn_cX5_doWith (by decide +kernel))
theorem dX5_doWith_272 : decode cX5_doWith 272 = .ok (.aload_n 0, 1) := zo_42 (zkb zk_cX5_doWith zn_cX5_doWith (by decide +kernel))
theorem dX5_doWith_273 : decode cX5_doWith 273 = .ok (.getfield 9, 3) := zo_180 (b1 := 0) (b2 := 9) (zkb3 zk_cX5_doWith zn_cX5_doWith (by decide +kernel)) rfl
theorem dX5_doWith_276 : decode cX5_doWith 276 = .ok (.iconst 1, 1) := zo_4 (zkb zk_cX5_doWith zn_cX5_doWith (by decide +kernel))
theorem dX5_doWith_277 : decode cX5_doWith 277 = .ok (.aload_n 0, 1) := zo_42 (zkb zk_cX5_doWith zn_cX5_doWith (by decide +kernel))
theorem dX5_doWith_278 : decode cX5_doWith 278 = .ok (.getfield 9, 3) := zo_180 (b1 := 0) (b2 := 9) (zkb3 zk_cX5_doWith zn_cX5_doWith (by decide +kernel)) rfl
theorem dX5_doWith_281 : decode cX5_doWith 281 = .ok (.iconst 1, 1) := zo_4 (zkb zk_cX5_doWith zn_cX5_doWith (by decide +kernel))
theorem dX5_doWith_282 : decode cX5_doWith 282 = .ok (.iaload, 1) := zo_46 (zkb zk_cX5_doWith zn_cX5_doWith (by decide +kernel))
theorem dX5_doWith_283 : decode cX5_doWith 283 = .ok (.bipush (-41), 2) := zo_16 (b1 := 215) (zkb2 zk_cX5_doWith zn_cX5_doWith (by decide +kernel)) rfl
theorem dX5_doWith_285 : decode cX5_doWith 285 = .ok (.iand, 1) := zo_126 (zkb zk_cX5_doWith zn_cX5_doWith (by decide +kernel))
theorem dX5_doWith_286 : decode cX5_doWith 286 = .ok (.iload_n 2, 1) := zo_28 (zkb zk_cX5_doWith zn_cX5_doWith (by decide +kernel))
theorem dX5_doWith_287 : decode cX5_doWith 287 = .ok (.bipush 40, 2) := zo_16 (b1 := 40) (zkb2 zk_cX5_doWith zn_cX5_doWith (by decide +kernel)) rfl
theorem dX5_doWith_289 : decode cX5_doWith 289 = .ok (.iand, 1) := zo_126 (zkb zk_cX5_doWith zn_cX5_doWith (by decide +kernel))
theorem dX5_doWith_290 : decode cX5_doWith 290 = .ok (.ior, 1) := zo_128 (zkb zk_cX5_doWith zn_cX5_doWith (by decide +kernel))
theorem dX5_doWith_291 : decode cX5_doWith 291 = .ok (.iastore, 1) := zo_79 (zkb zk_cX5_doWith zn_cX5_doWith (by decide +kernel))
theorem dX5_doWith_292 : decode cX5_doWith 292 = .ok (.return_, 1) := zo_177 (zkb zk_cX5_doWith zn_cX5_doWith (by decide +kernel))
def kn_cX5_sum : Nat := 0xac05154f807a0810041580030400a7070700990615807e1010820515821c1bbb00b80515040900b42a06367e8000117e8205151b8202821c1b05367eff001104150436601d601c1b
theorem zk_cX5_sum : zkd cX5_sum.data.toList kn_cX5_sum = true := by decide +kernel
theorem zn_cX5_sum : cX5_sum.data.toList.length = 72 := by decide +kernel
theorem dX5_sum_0 : decode cX5_sum 0 = .ok (.iload_n 1, 1) := zo_27 (zkb zk_cX5_sum zn_cX5_sum (by decide +kernel))
theorem dX5_sum_1 : decode cX5_sum 1 = .ok (.iload_n 2, 1) := zo_28 (zkb zk_cX5_sum zn_cX5_sum (by decide +kernel))
theorem dX5_sum_2 : decode cX5_sum 2 = .ok (.iadd, 1) := zo_96 (zkb zk_cX5_sum zn_cX5_sum (by decide +kernel))
theorem dX5_sum_3 : decode cX5_sum 3 = .ok (.iload_n 3, 1) := zo_29 (zkb zk_cX5_sum zn_cX5_sum (by decide +kernel))
theorem dX5_sum_4 : decode cX5_sum 4 = .ok (.iadd, 1) := zo_96 (zkb zk_cX5_sum zn_cX5_sum (by decide +kernel))
theorem dX5_sum_5 : decode cX5_sum 5 = .ok (.istore 4, 2) := zo_54 (b1 := 4) (zkb2 zk_cX5_sum zn_cX5_sum (by decide +kernel))
theorem dX5_sum_7 : decode cX5_sum 7 = .ok (.iload 4, 2) := zo_21 (b1 := 4) (zkb2 zk_cX5_sum zn_cX5_sum (by decide +kernel))
theorem dX5_sum_9 : decode cX5_sum 9 = .ok (.sipush 255, 3) := zo_17 (b1 := 0) (b2 := 255) (zkb3 zk_cX5_sum zn_cX5_sum (by decide +kernel)) rfl
theorem dX5_sum_12 : decode cX5_sum 12 = .ok (.iand, 1) := zo_126 (zkb zk_cX5_sum zn_cX5_sum (by decide +kernel))
theorem dX5_sum_13 : decode cX5_sum 13 = .ok (.istore 5, 2) := zo_54 (b1 := 5) (zkb2 zk_cX5_sum zn_cX5_sum (by decide +kernel))
theorem dX5_sum_15 : decode cX5_sum 15 = .ok (.iload_n 1, 1) := zo_27 (zkb zk_cX5_sum zn_cX5_sum (by decide +kernel))
theorem dX5_sum_16 : decode cX5_sum 16 = .ok (.iload_n 2, 1) := zo_28 (zkb zk_cX5_sum zn_cX5_sum (by decide +kernel))
theorem dX5_sum_17 : decode cX5_sum 17 = .ok (.ixor, 1) := zo_130 (zkb zk_cX5_sum zn_cX5_sum (by decide +kernel))
theorem dX5_sum_18 : decode cX5_sum 18 = .ok (.iconst (-1), 1) := zo_2 (zkb zk_cX5_sum zn_cX5_sum (by decide +kernel))
theorem dX5_sum_19 : decode cX5_sum 19 = .ok (.ixor, 1) := zo_130 (zkb zk_cX5_sum zn_cX5_sum (by decide +kernel))
theorem dX5_sum_20 : decode cX5_sum 20 = .ok (.iload_n 1, 1) := zo_27 (zkb zk_cX5_sum zn_cX5_sum (by decide +kernel))
theorem dX5_sum_21 : decode cX5_sum 21 = .ok (.iload 5, 2) := zo_21 (b1 := 5) (zkb2 zk_cX5_sum zn_cX5_sum (by decide +kernel))
theorem dX5_sum_23 : decode cX5_sum 23 = .ok (.ixor, 1) := zo_130 (zkb zk_cX5_sum zn_cX5_sum (by decide +kernel))
theorem dX5_sum_24 : decode cX5_sum 24 = .ok (.iand, 1) := zo_126 (zkb zk_cX5_sum zn_cX5_sum (by decide +kernel))
theorem dX5_sum_25 : decode cX5_sum 25 = .ok (.sipush 128, 3) := zo_17 (b1 := 0) (b2 := 128) (zkb3 zk_cX5_sum zn_cX5_sum (by decide +kernel)) rfl
theorem dX5_sum_28 : decode cX5_sum 28 = .ok (.iand, 1) := zo_126 (zkb zk_cX5_sum zn_cX5_sum (by decide +kernel))
theorem dX5_sum_29 : decode cX5_sum 29 = .ok (.istore 6, 2) := zo_54 (b1 := 6) (zkb2 zk_cX5_sum zn_cX5_sum (by decide +kernel))
theorem dX5_sum_31 : decode cX5_sum 31 = .ok (.aload_n 0, 1) := zo_42 (zkb zk_cX5_sum zn_cX5_sum (by decide +kernel))
theorem dX5_sum_32 : decode cX5_sum 32 = .ok (.getfield 9, 3) := zo_180 (b1 := 0) (b2 := 9) (zkb3 zk_cX5_sum zn_cX5_sum (by decide +kernel)) rfl
theorem dX5_sum_35 : decode cX5_sum 35 = .ok (.iconst 1, 1) := zo_4 (zkb zk_cX5_sum zn_cX5_sum (by decide +kernel))
theorem dX5_sum_36 : decode cX5_sum 36 = .ok (.iload 5, 2) := zo_21 (b1 := 5) (zkb2 zk_cX5_sum zn_cX5_sum (by decide +kernel))
theorem dX5_sum_38 : decode cX5_sum 38 = .ok (.invokestatic 187, 3) := zo_184 (b1 := 0) (b2 := 187) (zkb3 zk_cX5_sum zn_cX5_sum (by decide +kernel)) rfl
theorem dX5_sum_41 : decode cX5_sum 41 = .ok (.iload_n 1, 1) := zo_27 (zkb zk_cX5_sum zn_cX5_sum (by decide +kernel))
theorem dX5_sum_42 : decode cX5_sum 42 = .ok (.iload_n 2, 1) := zo_28 (zkb zk_cX5_sum zn_cX5_sum (by decide +kernel))
theorem dX5_sum_43 : decode cX5_sum 43 = .ok (.ixor, 1) := zo_130 (zkb zk_cX5_sum zn_cX5_sum (by decide +kernel))
theorem dX5_sum_44 : decode cX5_sum 44 = .ok (.iload 5, 2) := zo_21 (b1 := 5) (zkb2 zk_cX5_sum zn_cX5_sum (by decide +kernel))
theorem dX5_sum_46 : decode cX5_sum 46 = .ok (.ixor, 1) := zo_130 (zkb zk_cX5_sum zn_cX5_sum (by decide +kernel))
theorem dX5_sum_47 : decode cX5_sum 47 = .ok (.bipush 16, 2) := zo_16 (b1 := 16) (zkb2 zk_cX5_sum zn_cX5_sum (by decide +kernel)) rfl
theorem dX5_sum_49 : decode cX5_sum 49 = .ok (.iand, 1) := zo_126 (zkb zk_cX5_sum zn_cX5_sum (by decide +kernel))
theorem dX5_sum_50 : decode cX5_sum 50 = .ok (.ior, 1) := zo_128 (zkb zk_cX5_sum zn_cX5_sum (by decide +kernel))
theorem dX5_sum_51 : decode cX5_sum 51 = .ok (.iload 6, 2) := zo_21 (b1 := 6) (zkb2 zk_cX5_sum zn_cX5_sum (by decide +kernel))
theorem dX5_sum_53 : decode cX5_sum 53 = .ok (.ifCond .eq 7, 3) := zo_153 (b1 := 0) (b2 := 7) (zkb3 zk_cX5_sum zn_cX5_sum (by decide +kernel)) rfl
theorem dX5_sum_56 : decode cX5_sum 56 = .ok (.iconst 4, 1) := zo_7 (zkb zk_cX5_sum zn_cX5_sum (by decide +kernel))
theorem dX5_sum_57 : decode cX5_sum 57 = .ok (.goto 4, 3) := zo_167 (b1 := 0) (b2 := 4) (zkb3 zk_cX5_sum zn_cX5_sum (by decide +kernel)) rfl
theorem dX5_sum_60 : decode cX5_sum 60 = .ok (.iconst 0, 1) := zo_3 (zkb zk_cX5_sum zn_cX5_sum (by decide +kernel))
theorem dX5_sum_61 : decode cX5_sum 61 = .ok (.ior, 1) := zo_128 (zkb zk_cX5_sum zn_cX5_sum (by decide +kernel))
theorem dX5_sum_62 : decode cX5_sum 62 = .ok (.iload 4, 2) := zo_21 (b1 := 4) (zkb2 zk_cX5_sum zn_cX5_sum (by decide +kernel))
theorem dX5_sum_64 : decode cX5_sum 64 = .ok (.bipush 8, 2) := zo_16 (b1 := 8) (zkb2 zk_cX5_sum zn_cX5_sum (by decide +kernel)) rfl
theorem dX5_sum_66 : decode cX5_sum 66 = .ok (.ishr, 1) := zo_122 (zkb zk_cX5_sum zn_cX5_sum (by decide +kernel))
theorem dX5_sum_67 : decode cX5_sum 67 = .ok (.ior, 1) := zo_128 (zkb zk_cX5_sum zn_cX5_sum (by decide +kernel))
theorem dX5_sum_68 : decode cX5_sum 68 = .ok (.iastore, 1) := zo_79 (zkb zk_cX5_sum zn_cX5_sum (by decide +kernel))
theorem dX5_sum_69 : decode cX5_sum 69 = .ok (.iload 5, 2) := zo_21 (b1 := 5) (zkb2 zk_cX5_sum zn_cX5_sum (by decide +kernel))
theorem dX5_sum_71 : decode cX5_sum 71 = .ok (.ireturn, 1) := zo_172 (zkb zk_cX5_sum zn_cX5_sum (by decide +kernel))
def kn_cX5_lastQuarter : Nat := 0xac0b103e00b6681c08102a3b00b62e13100900b42a2aac0710c700b67200b62a1c2aac0b103b00b69a00b67a041c2a0a00a74100b6032a0b00a006101c2aacda00b6042a0900a0047e041cacda00b6b200b61c2a2aac0a104f2e14100900b42a13100900b42a110099b200b61c2a4fb500b62a14100900b42aacd700b67a041c2a0a00a7d400b67a041c2a0d009a7e041cac0b103e00b6d100b62a2aac0805009ab200b61c2aad000000840000007a000000b9000000560000003e000000290000000600000000000000b9000000aa7e07101b3d7e07107a061b
theorem zk_cX5_lastQuarter : zkd cX5_lastQuarter.data.toList kn_cX5_lastQuarter = true := by decide +kernel
theorem zn_cX5_lastQuarter : cX5_lastQuarter.data.toList.length = 218 := by decide +kernel
theorem dX5_lastQuarter_0 : decode cX5_lastQuarter 0 = .ok (.iload_n 1, 1) := zo_27 (zkb zk_cX5_lastQuarter zn_cX5_lastQuarter (by decide +kernel))
theorem dX5_lastQuarter_1 : decode cX5_lastQuarter 1 = .ok (.iconst 3, 1) := zo_6 (zkb zk_cX5_lastQuarter zn_cX5_lastQuarter (by decide +kernel))
theorem dX5_lastQuarter_2 : decode cX5_lastQuarter 2 = .ok (.ishr, 1) := zo_122 (zkb zk_cX5_lastQuarter zn_cX5_lastQuarter (by decide +kernel))
theorem dX5_lastQuarter_3 : decode cX5_lastQuarter 3 = .ok (.bipush 7, 2) := zo_16 (b1 := 7) (zkb2 zk_cX5_lastQuarter zn_cX5_lastQuarter (by decide +kernel)) rfl
theorem dX5_lastQuarter_5 : decode cX5_lastQuarter 5 = .ok (.iand, 1) := zo_126 (zkb zk_cX5_lastQuarter zn_cX5_lastQuarter (by decide +kernel))
theorem dX5_lastQuarter_6 : decode cX5_lastQuarter 6 = .ok (.istore_n 2, 1) := zo_61 (zkb zk_cX5_lastQuarter zn_cX5_lastQuarter (by decide +kernel))
theorem dX5_lastQuarter_7 : decode cX5_lastQuarter 7 = .ok (.iload_n 1, 1) := zo_27 (zkb zk_cX5_lastQuarter zn_cX5_lastQuarter (by decide +kernel))
theorem dX5_lastQuarter_8 : decode cX5_lastQuarter 8 = .ok (.bipush 7, 2) := zo_16 (b1 := 7) (zkb2 zk_cX5_lastQuarter zn_cX5_lastQuarter (by decide +kernel)) rfl
theorem dX5_lastQuarter_10 : decode cX5_lastQuarter 10 = .ok (.iand, 1) := zo_126 (zkb zk_cX5_lastQuarter zn_cX5_lastQuarter (by decide +kernel))
theorem dX5_lastQuarter_11 : decode cX5_lastQuarter 11 = .ok (.tableswitch 185 0 6 #[41, 62, 86, 185, 122, 132, 173], 41) := by decide +kernel
theorem dX5_lastQuarter_52 : decode cX5_lastQuarter 52 = .ok (.aload_n 0, 1) := zo_42 (zkb zk_cX5_lastQuarter zn_cX5_lastQuarter (by decide +kernel))
theorem dX5_lastQuarter_53 : decode cX5_lastQuarter 53 = .ok (.iload_n 2, 1) := zo_28 (zkb zk_cX5_lastQuarter zn_cX5_lastQuarter (by decide +kernel))
theorem dX5_lastQuarter_54 : decode cX5_lastQuarter 54 = .ok (.invokevirtual 178, 3) := zo_182 (b1 := 0) (b2 := 178) (zkb3 zk_cX5_lastQuarter zn_cX5_lastQuarter (by decide +kernel)) rfl
theorem dX5_lastQuarter_57 : decode cX5_lastQuarter 57 = .ok (.ifCond .ne 5, 3) := zo_154 (b1 := 0) (b2 := 5) (zkb3 zk_cX5_lastQuarter zn_cX5_lastQuarter (by decide +kernel)) rfl
theorem dX5_lastQuarter_60 : decode cX5_lastQuarter 60 = .ok (.iconst 5, 1) := zo_8 (zkb zk_cX5_lastQuarter zn_cX5_lastQuarter (by decide +kernel))
theorem dX5_lastQuarter_61 : decode cX5_lastQuarter 61 = .ok (.ireturn, 1) := zo_172 (zkb zk_cX5_lastQuarter zn_cX5_lastQuarter (by decide +kernel))
theorem dX5_lastQuarter_62 : decode cX5_lastQuarter 62 = .ok (.aload_n 0, 1) := zo_42 (zkb zk_cX5_lastQuarter zn_cX5_lastQuarter (by decide +kernel))
theorem dX5_lastQuarter_63 : decode cX5_lastQuarter 63 = .ok (.aload_n 0, 1) := zo_42 (zkb zk_cX5_lastQuarter zn_cX5_lastQuarter (by decide +kernel))
theorem dX5_lastQuarter_64 : decode cX5_lastQuarter 64 = .ok (.invokevirtual 209, 3) := zo_182 (b1 := 0) (b2 := 209) (zkb3 zk_cX5_lastQuarter zn_cX5_lastQuarter (by decide +kernel)) rfl
theorem dX5_lastQuarter_67 : decode cX5_lastQuarter 67 = .ok (.invokevirtual 62, 3) := zo_182 (b1 := 0) (b2 := 62) (zkb3 zk_cX5_lastQuarter zn_cX5_lastQuarter (by decide +kernel)) rfl
theorem dX5_lastQuarter_70 : decode cX5_lastQuarter 70 = .ok (.bipush 11, 2) := zo_16 (b1 := 11) (zkb2 zk_cX5_lastQuarter zn_cX5_lastQuarter (by decide +kernel)) rfl
theorem dX5_lastQuarter_72 : decode cX5_lastQuarter 72 = .ok (.ireturn, 1) := zo_172 (zkb zk_cX5_lastQuarter zn_cX5_lastQuarter (by decide +kernel))
theorem dX5_lastQuarter_73 : decode cX5_lastQuarter 73 = .ok (.iload_n 2, 1) := zo_28 (zkb zk_cX5_lastQuarter zn_cX5_lastQuarter (by decide +kernel))
theorem dX5_lastQuarter_74 : decode cX5_lastQuarter 74 = .ok (.iconst 1, 1) := zo_4 (zkb zk_cX5_lastQuarter zn_cX5_lastQuarter (by decide +kernel))
theorem dX5_lastQuarter_75 : decode cX5_lastQuarter 75 = .ok (.iand, 1) := zo_126 (zkb zk_cX5_lastQuarter zn_cX5_lastQuarter (by decide +kernel))
theorem dX5_lastQuarter_76 : decode cX5_lastQuarter 76 = .ok (.ifCond .ne 13, 3) := zo_154 (b1 := 0) (b2 := 13) (zkb3 zk_cX5_lastQuarter zn_cX5_lastQuarter (by decide +kernel)) rfl
theorem dX5_lastQuarter_79 : decode cX5_lastQuarter 79 = .ok (.aload_n 0, 1) := zo_42 (zkb zk_cX5_lastQuarter zn_cX5_lastQuarter (by decide +kernel))
theorem dX5_lastQuarter_80 : decode cX5_lastQuarter 80 = .ok (.iload_n 2, 1) := zo_28 (zkb zk_cX5_lastQuarter zn_cX5_lastQuarter (by decide +kernel))
theorem dX5_lastQuarter_81 : decode cX5_lastQuarter 81 = .ok (.iconst 1, 1) := zo_4 (zkb zk_cX5_lastQuarter zn_cX5_lastQuarter (by decide +kernel))
theorem dX5_lastQuarter_82 : decode cX5_lastQuarter 82 = .ok (.ishr, 1) := zo_122 (zkb zk_cX5_lastQuarter zn_cX5_lastQuarter (by decide +kernel))
theorem dX5_lastQuarter_83 : decode cX5_lastQuarter 83 = .ok (.invokevirtual 212, 3) := zo_182 (b1 := 0) (b2 := 212) (zkb3 zk_cX5_lastQuarter zn_cX5_lastQuarter (by decide +kernel)) rfl
theorem dX5_lastQuarter_86 : decode cX5_lastQuarter 86 = .ok (.goto 10, 3) := zo_167 (b1 := 0) (b2 := 10) (zkb3 zk_cX5_lastQuarter zn_cX5_lastQuarter (by decide +kernel)) rfl
theorem dX5_lastQuarter_89 : decode cX5_lastQuarter 89 = .ok (.aload_n 0, 1) := zo_42 (zkb zk_cX5_lastQuarter zn_cX5_lastQuarter (by decide +kernel))
theorem dX5_lastQuarter_90 : decode cX5_lastQuarter 90 = .ok (.iload_n 2, 1) := zo_28 (zkb zk_cX5_lastQuarter zn_cX5_lastQuarter (by decide +kernel))
theorem dX5_lastQuarter_91 : decode cX5_lastQuarter 91 = .ok (.iconst 1, 1) := zo_4 (zkb zk_cX5_lastQuarter zn_cX5_lastQuarter (by decide +kernel))
theorem dX5_lastQuarter_92 : decode cX5_lastQuarter 92 = .ok (.ishr, 1) := zo_122 (zkb zk_cX5_lastQuarter zn_cX5_lastQuarter (by decide +kernel))
theorem dX5_lastQuarter_93 : decode cX5_lastQuarter 93 = .ok (.invokevirtual 215, 3) := zo_182 (b1 := 0) (b2 := 215) (zkb3 zk_cX5_lastQuarter zn_cX5_lastQuarter (by decide +kernel)) rfl
theorem dX5_lastQuarter_96 : decode cX5_lastQuarter 96 = .ok (.ireturn, 1) := zo_172 (zkb zk_cX5_lastQuarter zn_cX5_lastQuarter (by decide +kernel))
theorem dX5_lastQuarter_97 : decode cX5_lastQuarter 97 = .ok (.aload_n 0, 1) := zo_42 (zkb zk_cX5_lastQuarter zn_cX5_lastQuarter (by decide +kernel))
theorem dX5_lastQuarter_98 : decode cX5_lastQuarter 98 = .ok (.getfield 9, 3) := zo_180 (b1 := 0) (b2 := 9) (zkb3 zk_cX5_lastQuarter zn_cX5_lastQuarter (by decide +kernel)) rfl
theorem dX5_lastQuarter_101 : decode cX5_lastQuarter 101 = .ok (.bipush 20, 2) := zo_16 (b1 := 20) (zkb2 zk_cX5_lastQuarter zn_cX5_lastQuarter (by decide +kernel)) rfl
theorem dX5_lastQuarter_103 : decode cX5_lastQuarter 103 = .ok (.aload_n 0, 1) := zo_42 (zkb zk_cX5_lastQuarter zn_cX5_lastQuarter (by decide +kernel))
theorem dX5_lastQuarter_104 : decode cX5_lastQuarter 104 = .ok (.invokevirtual 181, 3) := zo_182 (b1 := 0) (b2 := 181) (zkb3 zk_cX5_lastQuarter zn_cX5_lastQuarter (by decide +kernel)) rfl
theorem dX5_lastQuarter_107 : decode cX5_lastQuarter 107 = .ok (.iastore, 1) := zo_79 (zkb zk_cX5_lastQuarter zn_cX5_lastQuarter (by decide +kernel))
theorem dX5_lastQuarter_108 : decode cX5_lastQuarter 108 = .ok (.aload_n 0, 1) := zo_42 (zkb zk_cX5_lastQuarter zn_cX5_lastQuarter (by decide +kernel))
theorem dX5_lastQuarter_109 : decode cX5_lastQuarter 109 = .ok (.iload_n 2, 1) := zo_28 (zkb zk_cX5_lastQuarter zn_cX5_lastQuarter (by decide +kernel))
theorem dX5_lastQuarter_110 : decode cX5_lastQuarter 110 = .ok (.invokevirtual 178, 3) := zo_182 (b1 := 0) (b2 := 178) (zkb3 zk_cX5_lastQuarter zn_cX5_lastQuarter (by decide +kernel)) rfl
theorem dX5_lastQuarter_113 : decode cX5_lastQuarter 113 = .ok (.ifCond .eq 17, 3) := zo_153 (b1 := 0) (b2 := 17) (zkb3 zk_cX5_lastQuarter zn_cX5_lastQuarter (by decide +kernel)) rfl
theorem dX5_lastQuarter_116 : decode cX5_lastQuarter 116 = .ok (.aload_n 0, 1) := zo_42 (zkb zk_cX5_lastQuarter zn_cX5_lastQuarter (by decide +kernel))
theorem dX5_lastQuarter_117 : decode cX5_lastQuarter 117 = .ok (.getfield 9, 3) := zo_180 (b1 := 0) (b2 := 9) (zkb3 zk_cX5_lastQuarter zn_cX5_lastQuarter (by decide +kernel)) rfl
theorem dX5_lastQuarter_120 : decode cX5_lastQuarter 120 = .ok (.bipush 19, 2) := zo_16 (b1 := 19) (zkb2 zk_cX5_lastQuarter zn_cX5_lastQuarter (by decide +kernel)) rfl
theorem dX5_lastQuarter_122 : decode cX5_lastQuarter 122 = .ok (.aload_n 0, 1) := zo_42 (zkb zk_cX5_lastQuarter zn_cX5_lastQuarter (by decide +kernel))
theorem dX5_lastQuarter_123 : decode cX5_lastQuarter 123 = .ok (.getfield 9, 3) := zo_180 (b1 := 0) (b2 := 9) (zkb3 zk_cX5_lastQuarter zn_cX5_lastQuarter (by decide +kernel)) rfl
theorem dX5_lastQuarter_126 : decode cX5_lastQuarter 126 = .ok (.bipush 20, 2) := zo_16 (b1 := 20) (zkb2 zk_cX5_lastQuarter zn_cX5_lastQuarter (by decide +kernel)) rfl
theorem dX5_lastQuarter_128 : decode cX5_lastQuarter 128 = .ok (.iaload, 1) := zo_46 (zkb zk_cX5_lastQuarter zn_cX5_lastQuarter (by decide +kernel))
theorem dX5_lastQuarter_129 : decode cX5_lastQuarter 129 = .ok (.iastore, 1) := zo_79 (zkb zk_cX5_lastQuarter zn_cX5_lastQuarter (by decide +kernel))
theorem dX5_lastQuarter_130 : decode cX5_lastQuarter 130 = .ok (.bipush 10, 2) := zo_16 (b1 := 10) (zkb2 zk_cX5_lastQuarter zn_cX5_lastQuarter (by decide +kernel)) rfl
theorem dX5_lastQuarter_132 : decode cX5_lastQuarter 132 = .ok (.ireturn, 1) := zo_172 (zkb zk_cX5_lastQuarter zn_cX5_lastQuarter (by decide +kernel))
theorem dX5_lastQuarter_133 : decode cX5_lastQuarter 133 = .ok (.aload_n 0, 1) := zo_42 (zkb zk_cX5_lastQuarter zn_cX5_lastQuarter (by decide +kernel))
theorem dX5_lastQuarter_134 : decode cX5_lastQuarter 134 = .ok (.aload_n 0, 1) := zo_42 (zkb zk_cX5_lastQuarter zn_cX5_lastQuarter (by decide +kernel))
theorem dX5_lastQuarter_135 : decode cX5_lastQuarter 135 = .ok (.iload_n 2, 1) := zo_28 (zkb zk_cX5_lastQuarter zn_cX5_lastQuarter (by decide +kernel))
theorem dX5_lastQuarter_136 : decode cX5_lastQuarter 136 = .ok (.invokevirtual 178, 3) := zo_182 (b1 := 0) (b2 := 178) (zkb3 zk_cX5_lastQuarter zn_cX5_lastQuarter (by decide +kernel)) rfl
theorem dX5_lastQuarter_139 : decode cX5_lastQuarter 139 = .ok (.invokevirtual 218, 3) := zo_182 (b1 := 0) (b2 := 218) (zkb3 zk_cX5_lastQuarter zn_cX5_lastQuarter (by decide +kernel)) rfl
theorem dX5_lastQuarter_142 : decode cX5_lastQuarter 142 = .ok (.ireturn, 1) := zo_172 (zkb zk_cX5_lastQuarter zn_cX5_lastQuarter (by decide +kernel))
theorem dX5_lastQuarter_143 : decode cX5_lastQuarter 143 = .ok (.iload_n 2, 1) := zo_28 (zkb zk_cX5_lastQuarter zn_cX5_lastQuarter (by decide +kernel))
theorem dX5_lastQuarter_144 : decode cX5_lastQuarter 144 = .ok (.iconst 1, 1) := zo_4 (zkb zk_cX5_lastQuarter zn_cX5_lastQuarter (by decide +kernel))
theorem dX5_lastQuarter_145 : decode cX5_lastQuarter 145 = .ok (.iand, 1) := zo_126 (zkb zk_cX5_lastQuarter zn_cX5_lastQuarter (by decide +kernel))
theorem dX5_lastQuarter_146 : decode cX5_lastQuarter 146 = .ok (.iconst 1, 1) := zo_4 (zkb zk_cX5_lastQuarter zn_cX5_lastQuarter (by decide +kernel))
theorem dX5_lastQuarter_147 : decode cX5_lastQuarter 147 = .ok (.if_icmp .ne 9, 3) := zo_160 (b1 := 0) (b2 := 9) (zkb3 zk_cX5_lastQuarter zn_cX5_lastQuarter (by decide +kernel)) rfl
theorem dX5_lastQuarter_150 : decode cX5_lastQuarter 150 = .ok (.aload_n 0, 1) := zo_42 (zkb zk_cX5_lastQuarter zn_cX5_lastQuarter (by decide +kernel))
theorem dX5_lastQuarter_151 : decode cX5_lastQuarter 151 = .ok (.iconst 1, 1) := zo_4 (zkb zk_cX5_lastQuarter zn_cX5_lastQuarter (by decide +kernel))
theorem dX5_lastQuarter_152 : decode cX5_lastQuarter 152 = .ok (.invokevirtual 218, 3) := zo_182 (b1 := 0) (b2 := 218) (zkb3 zk_cX5_lastQuarter zn_cX5_lastQuarter (by decide +kernel)) rfl
theorem dX5_lastQuarter_155 : decode cX5_lastQuarter 155 = .ok (.ireturn, 1) := zo_172 (zkb zk_cX5_lastQuarter zn_cX5_lastQuarter (by decide +kernel))
theorem dX5_lastQuarter_156 : decode cX5_lastQuarter 156 = .ok (.aload_n 0, 1) := zo_42 (zkb zk_cX5_lastQuarter zn_cX5_lastQuarter (by decide +kernel))
theorem dX5_lastQuarter_157 : decode cX5_lastQuarter 157 = .ok (.iload_n 2, 1) := zo_28 (zkb zk_cX5_lastQuarter zn_cX5_lastQuarter (by decide +kernel))
theorem dX5_lastQuarter_158 : decode cX5_lastQuarter 158 = .ok (.bipush 6, 2) := zo_16 (b1 := 6) (zkb2 zk_cX5_lastQuarter zn_cX5_lastQuarter (by decide +kernel)) rfl
theorem dX5_lastQuarter_160 : decode cX5_lastQuarter 160 = .ok (.if_icmp .ne 11, 3) := zo_160 (b1 := 0) (b2 := 11) (zkb3 zk_cX5_lastQuarter zn_cX5_lastQuarter (by decide +kernel)) rfl
theorem dX5_lastQuarter_163 : decode cX5_lastQuarter 163 = .ok (.aload_n 0, 1) := zo_42 (zkb zk_cX5_lastQuarter zn_cX5_lastQuarter (by decide +kernel))
theorem dX5_lastQuarter_164 : decode cX5_lastQuarter 164 = .ok (.iconst 0, 1) := zo_3 (zkb zk_cX5_lastQuarter zn_cX5_lastQuarter (by decide +kernel))
theorem dX5_lastQuarter_165 : decode cX5_lastQuarter 165 = .ok (.invokevirtual 65, 3) := zo_182 (b1 := 0) (b2 := 65) (zkb3 zk_cX5_lastQuarter zn_cX5_lastQuarter (by decide +kernel)) rfl
theorem dX5_lastQuarter_168 : decode cX5_lastQuarter 168 = .ok (.goto 10, 3) := zo_167 (b1 := 0) (b2 := 10) (zkb3 zk_cX5_lastQuarter zn_cX5_lastQuarter (by decide +kernel)) rfl
theorem dX5_lastQuarter_171 : decode cX5_lastQuarter 171 = .ok (.aload_n 0, 1) := zo_42 (zkb zk_cX5_lastQuarter zn_cX5_lastQuarter (by decide +kernel))
theorem dX5_lastQuarter_172 : decode cX5_lastQuarter 172 = .ok (.iload_n 2, 1) := zo_28 (zkb zk_cX5_lastQuarter zn_cX5_lastQuarter (by decide +kernel))
theorem dX5_lastQuarter_173 : decode cX5_lastQuarter 173 = .ok (.iconst 1, 1) := zo_4 (zkb zk_cX5_lastQuarter zn_cX5_lastQuarter (by decide +kernel))
theorem dX5_lastQuarter_174 : decode cX5_lastQuarter 174 = .ok (.ishr, 1) := zo_122 (zkb zk_cX5_lastQuarter zn_cX5_lastQuarter (by decide +kernel))
theorem dX5_lastQuarter_175 : decode cX5_lastQuarter 175 = .ok (.invokevirtual 154, 3) := zo_182 (b1 := 0) (b2 := 154) (zkb3 zk_cX5_lastQuarter zn_cX5_lastQuarter (by decide +kernel)) rfl
theorem dX5_lastQuarter_178 : decode cX5_lastQuarter 178 = .ok (.invokevirtual 59, 3) := zo_182 (b1 := 0) (b2 := 59) (zkb3 zk_cX5_lastQuarter zn_cX5_lastQuarter (by decide +kernel)) rfl
theorem dX5_lastQuarter_181 : decode cX5_lastQuarter 181 = .ok (.bipush 11, 2) := zo_16 (b1 := 11) (zkb2 zk_cX5_lastQuarter zn_cX5_lastQuarter (by decide +kernel)) rfl
theorem dX5_lastQuarter_183 : decode cX5_lastQuarter 183 = .ok (.ireturn, 1) := zo_172 (zkb zk_cX5_lastQuarter zn_cX5_lastQuarter (by decide +kernel))
theorem dX5_lastQuarter_184 : decode cX5_lastQuarter 184 = .ok (.aload_n 0, 1) := zo_42 (zkb zk_cX5_lastQuarter zn_cX5_lastQuarter (by decide +kernel))
theorem dX5_lastQuarter_185 : decode cX5_lastQuarter 185 = .ok (.iload_n 2, 1) := zo_28 (zkb zk_cX5_lastQuarter zn_cX5_lastQuarter (by decide +kernel))
theorem dX5_lastQuarter_186 : decode cX5_lastQuarter 186 = .ok (.aload_n 0, 1) := zo_42 (zkb zk_cX5_lastQuarter zn_cX5_lastQuarter (by decide +kernel))
theorem dX5_lastQuarter_187 : decode cX5_lastQuarter 187 = .ok (.invokevirtual 114, 3) := zo_182 (b1 := 0) (b2 := 114) (zkb3 zk_cX5_lastQuarter zn_cX5_lastQuarter (by decide +kernel)) rfl
theorem dX5_lastQuarter_190 : decode cX5_lastQuarter 190 = .ok (.invokevirtual 199, 3) := zo_182 (b1 := 0) (b2 := 199) (zkb3 zk_cX5_lastQuarter zn_cX5_lastQuarter (by decide +kernel)) rfl
theorem dX5_lastQuarter_193 : decode cX5_lastQuarter 193 = .ok (.bipush 7, 2) := zo_16 (b1 := 7) (zkb2 zk_cX5_lastQuarter zn_cX5_lastQuarter (by decide +kernel)) rfl
theorem dX5_lastQuarter_195 : decode cX5_lastQuarter 195 = .ok (.ireturn, 1) := zo_172 (zkb zk_cX5_lastQuarter zn_cX5_lastQuarter (by decide +kernel))
theorem dX5_lastQuarter_196 : decode cX5_lastQuarter 196 = .ok (.aload_n 0, 1) := zo_42 (zkb zk_cX5_lastQuarter zn_cX5_lastQuarter (by decide +kernel))
theorem dX5_lastQuarter_197 : decode cX5_lastQuarter 197 = .ok (.aload_n 0, 1) := zo_42 (zkb zk_cX5_lastQuarter zn_cX5_lastQuarter (by decide +kernel))
theorem dX5_lastQuarter_198 : decode cX5_lastQuarter 198 = .ok (.getfield 9, 3) := zo_180 (b1 := 0) (b2 := 9) (zkb3 zk_cX5_lastQuarter zn_cX5_lastQuarter (by decide +kernel)) rfl
theorem dX5_lastQuarter_201 : decode cX5_lastQuarter 201 = .ok (.bipush 19, 2) := zo_16 (b1 := 19) (zkb2 zk_cX5_lastQuarter zn_cX5_lastQuarter (by decide +kernel)) rfl
theorem dX5_lastQuarter_203 : decode cX5_lastQuarter 203 = .ok (.iaload, 1) := zo_46 (zkb zk_cX5_lastQuarter zn_cX5_lastQuarter (by decide +kernel))
theorem dX5_lastQuarter_204 : decode cX5_lastQuarter 204 = .ok (.invokevirtual 59, 3) := zo_182 (b1 := 0) (b2 := 59) (zkb3 zk_cX5_lastQuarter zn_cX5_lastQuarter (by decide +kernel)) rfl
theorem dX5_lastQuarter_207 : decode cX5_lastQuarter 207 = .ok (.aload_n 0, 1) := zo_42 (zkb zk_cX5_lastQuarter zn_cX5_lastQuarter (by decide +kernel))
theorem dX5_lastQuarter_208 : decode cX5_lastQuarter 208 = .ok (.bipush 8, 2) := zo_16 (b1 := 8) (zkb2 zk_cX5_lastQuarter zn_cX5_lastQuarter (by decide +kernel)) rfl
theorem dX5_lastQuarter_210 : decode cX5_lastQuarter 210 = .ok (.iload_n 2, 1) := zo_28 (zkb zk_cX5_lastQuarter zn_cX5_lastQuarter (by decide +kernel))
theorem dX5_lastQuarter_211 : decode cX5_lastQuarter 211 = .ok (.imul, 1) := zo_104 (zkb zk_cX5_lastQuarter zn_cX5_lastQuarter (by decide +kernel))
theorem dX5_lastQuarter_212 : decode cX5_lastQuarter 212 = .ok (.invokevirtual 62, 3) := zo_182 (b1 := 0) (b2 := 62) (zkb3 zk_cX5_lastQuarter zn_cX5_lastQuarter (by decide +kernel)) rfl
theorem dX5_lastQuarter_215 : decode cX5_lastQuarter 215 = .ok (.bipush 11, 2) := zo_16 (b1 := 11) (zkb2 zk_cX5_lastQuarter zn_cX5_lastQuarter (by decide +kernel)) rfl
theorem dX5_lastQuarter_217 : decode cX5_lastQuarter 217 = .ok (.ireturn, 1) := zo_172 (zkb zk_cX5_lastQuarter zn_cX5_lastQuarter (by decide +kernel))
def kn_cX5_popPair : Nat := 0xac0a109d00b61c1b2a0900a77900b61c032a0c00a0061b3dd100b62a
theorem zk_cX5_popPair : zkd cX5_popPair.data.toList kn_cX5_popPair = true := by decide +kernel
theorem zn_cX5_popPair : cX5_popPair.data.toList.length = 28 := by decide +kernel
theorem dX5_popPair_0 : decode cX5_popPair 0 = .ok (.aload_n 0, 1) := zo_42 (zkb zk_cX5_popPair zn_cX5_popPair (by decide +kernel))
theorem dX5_popPair_1 : decode cX5_popPair 1 = .ok (.invokevirtual 209, 3) := zo_182 (b1 := 0) (b2 := 209) (zkb3 zk_cX5_popPair zn_cX5_popPair (by decide +kernel)) rfl
theorem dX5_popPair_4 : decode cX5_popPair 4 = .ok (.istore_n 2, 1) := zo_61 (zkb zk_cX5_popPair zn_cX5_popPair (by decide +kernel))
theorem dX5_popPair_5 : decode cX5_popPair 5 = .ok (.iload_n 1, 1) := zo_27 (zkb zk_cX5_popPair zn_cX5_popPair (by decide +kernel))
theorem dX5_popPair_6 : decode cX5_popPair 6 = .ok (.iconst 3, 1) := zo_6 (zkb zk_cX5_popPair zn_cX5_popPair (by decide +kernel))
theorem dX5_popPair_7 : decode cX5_popPair 7 = .ok (.if_icmp .ne 12, 3) := zo_160 (b1 := 0) (b2 := 12) (zkb3 zk_cX5_popPair zn_cX5_popPair (by decide +kernel)) rfl
theorem dX5_popPair_10 : decode cX5_popPair 10 = .ok (.aload_n 0, 1) := zo_42 (zkb zk_cX5_popPair zn_cX5_popPair (by decide +kernel))
theorem dX5_popPair_11 : decode cX5_popPair 11 = .ok (.iconst 0, 1) := zo_3 (zkb zk_cX5_popPair zn_cX5_popPair (by decide +kernel))
theorem dX5_popPair_12 : decode cX5_popPair 12 = .ok (.iload_n 2, 1) := zo_28 (zkb zk_cX5_popPair zn_cX5_popPair (by decide +kernel))
theorem dX5_popPair_13 : decode cX5_popPair 13 = .ok (.invokevirtual 121, 3) := zo_182 (b1 := 0) (b2 := 121) (zkb3 zk_cX5_popPair zn_cX5_popPair (by decide +kernel)) rfl
theorem dX5_popPair_16 : decode cX5_popPair 16 = .ok (.goto 9, 3) := zo_167 (b1 := 0) (b2 := 9) (zkb3 zk_cX5_popPair zn_cX5_popPair (by decide +kernel)) rfl
theorem dX5_popPair_19 : decode cX5_popPair 19 = .ok (.aload_n 0, 1) := zo_42 (zkb zk_cX5_popPair zn_cX5_popPair (by decide +kernel))
theorem dX5_popPair_20 : decode cX5_popPair 20 = .ok (.iload_n 1, 1) := zo_27 (zkb zk_cX5_popPair zn_cX5_popPair (by decide +kernel))
theorem dX5_popPair_21 : decode cX5_popPair 21 = .ok (.iload_n 2, 1) := zo_28 (zkb zk_cX5_popPair zn_cX5_popPair (by decide +kernel))
theorem dX5_popPair_22 : decode cX5_popPair 22 = .ok (.invokevirtual 157, 3) := zo_182 (b1 := 0) (b2 := 157) (zkb3 zk_cX5_popPair zn_cX5_popPair (by decide +kernel)) rfl
theorem dX5_popPair_25 : decode cX5_popPair 25 = .ok (.bipush 10, 2) := zo_16 (b1 := 10) (zkb2 zk_cX5_popPair zn_cX5_popPair (by decide +kernel)) rfl
theorem dX5_popPair_27 : decode cX5_popPair 27 = .ok (.ireturn, 1) := zo_172 (zkb zk_cX5_popPair zn_cX5_popPair (by decide +kernel))
def kn_cX5_leave : Nat := 0xac06104f7c00b62a12100900b42aac074f7c00b62a13100900b42aac07f2ffa7010284af00b61c2a0e00a307101c3d05ac0a103e00b6d100b62a2a3b000000260000001b0000000200000000000000480000000000aa1b
theorem zk_cX5_leave : zkd cX5_leave.data.toList kn_cX5_leave = true := by decide +kernel
theorem zn_cX5_leave : cX5_leave.data.toList.length = 87 := by decide +kernel
theorem dX5_leave_0 : decode cX5_leave 0 = .ok (.iload_n 1, 1) := zo_27 (zkb zk_cX5_leave zn_cX5_leave (by decide +kernel))
theorem dX5_leave_1 : decode cX5_leave 1 = .ok (.tableswitch 72 0 2 #[27, 38, 59], 27) := by decide +kernel
theorem dX5_leave_28 : decode cX5_leave 28 = .ok (.aload_n 0, 1) := zo_42 (zkb zk_cX5_leave zn_cX5_leave (by decide +kernel))
theorem dX5_leave_29 : decode cX5_leave 29 = .ok (.aload_n 0, 1) := zo_42 (zkb zk_cX5_leave zn_cX5_leave (by decide +kernel))
theorem dX5_leave_30 : decode cX5_leave 30 = .ok (.invokevirtual 209, 3) := zo_182 (b1 := 0) (b2 := 209) (zkb3 zk_cX5_leave zn_cX5_leave (by decide +kernel)) rfl
theorem dX5_leave_33 : decode cX5_leave 33 = .ok (.invokevirtual 62, 3) := zo_182 (b1 := 0) (b2 := 62) (zkb3 zk_cX5_leave zn_cX5_leave (by decide +kernel)) rfl
theorem dX5_leave_36 : decode cX5_leave 36 = .ok (.bipush 10, 2) := zo_16 (b1 := 10) (zkb2 zk_cX5_leave zn_cX5_leave (by decide +kernel)) rfl
theorem dX5_leave_38 : decode cX5_leave 38 = .ok (.ireturn, 1) := zo_172 (zkb zk_cX5_leave zn_cX5_leave (by decide +kernel))
theorem dX5_leave_39 : decode cX5_leave 39 = .ok (.iconst 2, 1) := zo_5 (zkb zk_cX5_leave zn_cX5_leave (by decide +kernel))
theorem dX5_leave_40 : decode cX5_leave 40 = .ok (.istore_n 2, 1) := zo_61 (zkb zk_cX5_leave zn_cX5_leave (by decide +kernel))
theorem dX5_leave_41 : decode cX5_leave 41 = .ok (.iload_n 2, 1) := zo_28 (zkb zk_cX5_leave zn_cX5_leave (by decide +kernel))
theorem dX5_leave_42 : decode cX5_leave 42 = .ok (.bipush 7, 2) := zo_16 (b1 := 7) (zkb2 zk_cX5_leave zn_cX5_leave (by decide +kernel)) rfl
theorem dX5_leave_44 : decode cX5_leave 44 = .ok (.if_icmp .gt 14, 3) := zo_163 (b1 := 0) (b2 := 14) (zkb3 zk_cX5_leave zn_cX5_leave (by decide +kernel)) rfl
theorem dX5_leave_47 : decode cX5_leave 47 = .ok (.aload_n 0, 1) := zo_42 (zkb zk_cX5_leave zn_cX5_leave (by decide +kernel))
theorem dX5_leave_48 : decode cX5_leave 48 = .ok (.iload_n 2, 1) := zo_28 (zkb zk_cX5_leave zn_cX5_leave (by decide +kernel))
theorem dX5_leave_49 : decode cX5_leave 49 = .ok (.invokevirtual 175, 3) := zo_182 (b1 := 0) (b2 := 175) (zkb3 zk_cX5_leave zn_cX5_leave (by decide +kernel)) rfl
theorem dX5_leave_52 : decode cX5_leave 52 = .ok (.iinc 2 1, 3) := zo_132 (b1 := 2) (b2 := 1) (zkb3 zk_cX5_leave zn_cX5_leave (by decide +kernel)) rfl
theorem dX5_leave_55 : decode cX5_leave 55 = .ok (.goto (-14), 3) := zo_167 (b1 := 255) (b2 := 242) (zkb3 zk_cX5_leave zn_cX5_leave (by decide +kernel)) rfl
theorem dX5_leave_58 : decode cX5_leave 58 = .ok (.iconst 4, 1) := zo_7 (zkb zk_cX5_leave zn_cX5_leave (by decide +kernel))
theorem dX5_leave_59 : decode cX5_leave 59 = .ok (.ireturn, 1) := zo_172 (zkb zk_cX5_leave zn_cX5_leave (by decide +kernel))
theorem dX5_leave_60 : decode cX5_leave 60 = .ok (.aload_n 0, 1) := zo_42 (zkb zk_cX5_leave zn_cX5_leave (by decide +kernel))
theorem dX5_leave_61 : decode cX5_leave 61 = .ok (.getfield 9, 3) := zo_180 (b1 := 0) (b2 := 9) (zkb3 zk_cX5_leave zn_cX5_leave (by decide +kernel)) rfl
theorem dX5_leave_64 : decode cX5_leave 64 = .ok (.bipush 19, 2) := zo_16 (b1 := 19) (zkb2 zk_cX5_leave zn_cX5_leave (by decide +kernel)) rfl
theorem dX5_leave_66 : decode cX5_leave 66 = .ok (.aload_n 0, 1) := zo_42 (zkb zk_cX5_leave zn_cX5_leave (by decide +kernel))
theorem dX5_leave_67 : decode cX5_leave 67 = .ok (.invokevirtual 124, 3) := zo_182 (b1 := 0) (b2 := 124) (zkb3 zk_cX5_leave zn_cX5_leave (by decide +kernel)) rfl
theorem dX5_leave_70 : decode cX5_leave 70 = .ok (.iastore, 1) := zo_79 (zkb zk_cX5_leave zn_cX5_leave (by decide +kernel))
theorem dX5_leave_71 : decode cX5_leave 71 = .ok (.iconst 4, 1) := zo_7 (zkb zk_cX5_leave zn_cX5_leave (by decide +kernel))
theorem dX5_leave_72 : decode cX5_leave 72 = .ok (.ireturn, 1) := zo_172 (zkb zk_cX5_leave zn_cX5_leave (by decide +kernel))
theorem dX5_leave_73 : decode cX5_leave 73 = .ok (.aload_n 0, 1) := zo_42 (zkb zk_cX5_leave zn_cX5_leave (by decide +kernel))
theorem dX5_leave_74 : decode cX5_leave 74 = .ok (.getfield 9, 3) := zo_180 (b1 := 0) (b2 := 9) (zkb3 zk_cX5_leave zn_cX5_leave (by decide +kernel)) rfl
theorem dX5_leave_77 : decode cX5_leave 77 = .ok (.bipush 18, 2) := zo_16 (b1 := 18) (zkb2 zk_cX5_leave zn_cX5_leave (by decide +kernel)) rfl
theorem dX5_leave_79 : decode cX5_leave 79 = .ok (.aload_n 0, 1) := zo_42 (zkb zk_cX5_leave zn_cX5_leave (by decide +kernel))
theorem dX5_leave_80 : decode cX5_leave 80 = .ok (.invokevirtual 124, 3) := zo_182 (b1 := 0) (b2 := 124) (zkb3 zk_cX5_leave zn_cX5_leave (by decide +kernel)) rfl
theorem dX5_leave_83 : decode cX5_leave 83 = .ok (.iastore, 1) := zo_79 (zkb zk_cX5_leave zn_cX5_leave (by decide +kernel))
theorem dX5_leave_84 : decode cX5_leave 84 = .ok (.bipush 6, 2) := zo_16 (b1 := 6) (zkb2 zk_cX5_leave zn_cX5_leave (by decide +kernel)) rfl
theorem dX5_leave_86 : decode cX5_leave 86 = .ok (.ireturn, 1) := zo_172 (zkb zk_cX5_leave zn_cX5_leave (by decide +kernel))
def kn_cX5_callIf : Nat := 0xac11104f1c13100900b42a3b00b62e13100900b42a2aac0a1006009a1b4f1c14100900b42a3db500b62a
theorem zk_cX5_callIf : zkd cX5_callIf.data.toList kn_cX5_callIf = true := by decide +kernel
theorem zn_cX5_callIf : cX5_callIf.data.toList.length = 42 := by decide +kernel
theorem dX5_callIf_0 : decode cX5_callIf 0 = .ok (.aload_n 0, 1) := zo_42 (zkb zk_cX5_callIf zn_cX5_callIf (by decide +kernel))
theorem dX5_callIf_1 : decode cX5_callIf 1 = .ok (.invokevirtual 181, 3) := zo_182 (b1 := 0) (b2 := 181) (zkb3 zk_cX5_callIf zn_cX5_callIf (by decide +kernel)) rfl
theorem dX5_callIf_4 : decode cX5_callIf 4 = .ok (.istore_n 2, 1) := zo_61 (zkb zk_cX5_callIf zn_cX5_callIf (by decide +kernel))
theorem dX5_callIf_5 : decode cX5_callIf 5 = .ok (.aload_n 0, 1) := zo_42 (zkb zk_cX5_callIf zn_cX5_callIf (by decide +kernel))
theorem dX5_callIf_6 : decode cX5_callIf 6 = .ok (.getfield 9, 3) := zo_180 (b1 := 0) (b2 := 9) (zkb3 zk_cX5_callIf zn_cX5_callIf (by decide +kernel)) rfl
theorem dX5_callIf_9 : decode cX5_callIf 9 = .ok (.bipush 20, 2) := zo_16 (b1 := 20) (zkb2 zk_cX5_callIf zn_cX5_callIf (by decide +kernel)) rfl
theorem dX5_callIf_11 : decode cX5_callIf 11 = .ok (.iload_n 2, 1) := zo_28 (zkb zk_cX5_callIf zn_cX5_callIf (by decide +kernel))
theorem dX5_callIf_12 : decode cX5_callIf 12 = .ok (.iastore, 1) := zo_79 (zkb zk_cX5_callIf zn_cX5_callIf (by decide +kernel))
theorem dX5_callIf_13 : decode cX5_callIf 13 = .ok (.iload_n 1, 1) := zo_27 (zkb zk_cX5_callIf zn_cX5_callIf (by decide +kernel))
theorem dX5_callIf_14 : decode cX5_callIf 14 = .ok (.ifCond .ne 6, 3) := zo_154 (b1 := 0) (b2 := 6) (zkb3 zk_cX5_callIf zn_cX5_callIf (by decide +kernel)) rfl
theorem dX5_callIf_17 : decode cX5_callIf 17 = .ok (.bipush 10, 2) := zo_16 (b1 := 10) (zkb2 zk_cX5_callIf zn_cX5_callIf (by decide +kernel)) rfl
theorem dX5_callIf_19 : decode cX5_callIf 19 = .ok (.ireturn, 1) := zo_172 (zkb zk_cX5_callIf zn_cX5_callIf (by decide +kernel))
theorem dX5_callIf_20 : decode cX5_callIf 20 = .ok (.aload_n 0, 1) := zo_42 (zkb zk_cX5_callIf zn_cX5_callIf (by decide +kernel))
theorem dX5_callIf_21 : decode cX5_callIf 21 = .ok (.aload_n 0, 1) := zo_42 (zkb zk_cX5_callIf zn_cX5_callIf (by decide +kernel))
theorem dX5_callIf_22 : decode cX5_callIf 22 = .ok (.getfield 9, 3) := zo_180 (b1 := 0) (b2 := 9) (zkb3 zk_cX5_callIf zn_cX5_callIf (by decide +kernel)) rfl
theorem dX5_callIf_25 : decode cX5_callIf 25 = .ok (.bipush 19, 2) := zo_16 (b1 := 19) (zkb2 zk_cX5_callIf zn_cX5_callIf (by decide +kernel)) rfl
theorem dX5_callIf_27 : decode cX5_callIf 27 = .ok (.iaload, 1) := zo_46 (zkb zk_cX5_callIf zn_cX5_callIf (by decide +kernel))
theorem dX5_callIf_28 : decode cX5_callIf 28 = .ok (.invokevirtual 59, 3) := zo_182 (b1 := 0) (b2 := 59) (zkb3 zk_cX5_callIf zn_cX5_callIf (by decide +kernel)) rfl
theorem dX5_callIf_31 : decode cX5_callIf 31 = .ok (.aload_n 0, 1) := zo_42 (zkb zk_cX5_callIf zn_cX5_callIf (by decide +kernel))
theorem dX5_callIf_32 : decode cX5_callIf 32 = .ok (.getfield 9, 3) := zo_180 (b1 := 0) (b2 := 9) (zkb3 zk_cX5_callIf zn_cX5_callIf (by decide +kernel)) rfl
theorem dX5_callIf_35 : decode cX5_callIf 35 = .ok (.bipush 19, 2) := zo_16 (b1 := 19) (zkb2 zk_cX5_callIf zn_cX5_callIf (by decide +kernel)) rfl
theorem dX5_callIf_37 : decode cX5_callIf 37 = .ok (.iload_n 2, 1) := zo_28 (zkb zk_cX5_callIf zn_cX5_callIf (by decide +kernel))
theorem dX5_callIf_38 : decode cX5_callIf 38 = .ok (.iastore, 1) := zo_79 (zkb zk_cX5_callIf zn_cX5_callIf (by decide +kernel))
theorem dX5_callIf_39 : decode cX5_callIf 39 = .ok (.bipush 17, 2) := zo_16 (b1 := 17) (zkb2 zk_cX5_callIf zn_cX5_callIf (by decide +kernel)) rfl
theorem dX5_callIf_41 : decode cX5_callIf 41 = .ok (.ireturn, 1) := zo_172 (zkb zk_cX5_callIf zn_cX5_callIf (by decide +kernel))
def kn_cX5_exchange : Nat := 0xac074f7e041b1c100900b42a4f7e041b18100900b42a4f7e041b17100900b42aac077900b61c06102a7900b64100b606102a072a3d4100b6072aac13104f1c14100900b42a7f00b61c2ab800b67c00b62a2e12100900b42a2a3d3400b62e12100900b42a2aac0b104fe100b61c1800b42a030900b42a4f7e2f126004801c7808102e030900b42a14100900b42a3d7200b62aac0b104f807eff001160041c7808102e030900b42a14100900b42ade00b62e030900b42a1c1800b42a3d7200b62aac0a103e00b6b500b62a2ab80000008d0000006000000032000000d2000000270000000500000000000000d20000000000aa1b
theorem zk_cX5_exchange : zkd cX5_exchange.data.toList kn_cX5_exchange = true := by decide +kernel
theorem zn_cX5_exchange : cX5_exchange.data.toList.length = 243 := by decide +kernel
theorem dX5_exchange_0 : decode cX5_exchange 0 = .ok (.iload_n 1, 1) := zo_27 (zkb zk_cX5_exchange zn_cX5_exchange (by decide +kernel))
theorem dX5_exchange_1 : decode cX5_exchange 1 = .ok (.tableswitch 210 0 5 #[39, 210, 50, 96, 141, 184], 39) := by decide +kernel
theorem dX5_exchange_40 : decode cX5_exchange 40 = .ok (.aload_n 0, 1) := zo_42 (zkb zk_cX5_exchange zn_cX5_exchange (by decide +kernel))
theorem dX5_exchange_41 : decode cX5_exchange 41 = .ok (.aload_n 0, 1) := zo_42 (zkb zk_cX5_exchange zn_cX5_exchange (by decide +kernel))
theorem dX5_exchange_42 : decode cX5_exchange 42 = .ok (.invokevirtual 181, 3) := zo_182 (b1 := 0) (b2 := 181) (zkb3 zk_cX5_exchange zn_cX5_exchange (by decide +kernel)) rfl
theorem dX5_exchange_45 : decode cX5_exchange 45 = .ok (.invokevirtual 62, 3) := zo_182 (b1 := 0) (b2 := 62) (zkb3 zk_cX5_exchange zn_cX5_exchange (by decide +kernel)) rfl
theorem dX5_exchange_48 : decode cX5_exchange 48 = .ok (.bipush 10, 2) := zo_16 (b1 := 10) (zkb2 zk_cX5_exchange zn_cX5_exchange (by decide +kernel)) rfl
theorem dX5_exchange_50 : decode cX5_exchange 50 = .ok (.ireturn, 1) := zo_172 (zkb zk_cX5_exchange zn_cX5_exchange (by decide +kernel))
theorem dX5_exchange_51 : decode cX5_exchange 51 = .ok (.aload_n 0, 1) := zo_42 (zkb zk_cX5_exchange zn_cX5_exchange (by decide +kernel))
theorem dX5_exchange_52 : decode cX5_exchange 52 = .ok (.invokevirtual 114, 3) := zo_182 (b1 := 0) (b2 := 114) (zkb3 zk_cX5_exchange zn_cX5_exchange (by decide +kernel)) rfl
theorem dX5_exchange_55 : decode cX5_exchange 55 = .ok (.istore_n 2, 1) := zo_61 (zkb zk_cX5_exchange zn_cX5_exchange (by decide +kernel))
theorem dX5_exchange_56 : decode cX5_exchange 56 = .ok (.aload_n 0, 1) := zo_42 (zkb zk_cX5_exchange zn_cX5_exchange (by decide +kernel))
theorem dX5_exchange_57 : decode cX5_exchange 57 = .ok (.getfield 24, 3) := zo_180 (b1 := 0) (b2 := 24) (zkb3 zk_cX5_exchange zn_cX5_exchange (by decide +kernel)) rfl
theorem dX5_exchange_60 : decode cX5_exchange 60 = .ok (.iload_n 2, 1) := zo_28 (zkb zk_cX5_exchange zn_cX5_exchange (by decide +kernel))
theorem dX5_exchange_61 : decode cX5_exchange 61 = .ok (.aload_n 0, 1) := zo_42 (zkb zk_cX5_exchange zn_cX5_exchange (by decide +kernel))
theorem dX5_exchange_62 : decode cX5_exchange 62 = .ok (.getfield 9, 3) := zo_180 (b1 := 0) (b2 := 9) (zkb3 zk_cX5_exchange zn_cX5_exchange (by decide +kernel)) rfl
theorem dX5_exchange_65 : decode cX5_exchange 65 = .ok (.iconst 0, 1) := zo_3 (zkb zk_cX5_exchange zn_cX5_exchange (by decide +kernel))
theorem dX5_exchange_66 : decode cX5_exchange 66 = .ok (.iaload, 1) := zo_46 (zkb zk_cX5_exchange zn_cX5_exchange (by decide +kernel))
theorem dX5_exchange_67 : decode cX5_exchange 67 = .ok (.invokevirtual 222, 3) := zo_182 (b1 := 0) (b2 := 222) (zkb3 zk_cX5_exchange zn_cX5_exchange (by decide +kernel)) rfl
theorem dX5_exchange_70 : decode cX5_exchange 70 = .ok (.aload_n 0, 1) := zo_42 (zkb zk_cX5_exchange zn_cX5_exchange (by decide +kernel))
theorem dX5_exchange_71 : decode cX5_exchange 71 = .ok (.getfield 9, 3) := zo_180 (b1 := 0) (b2 := 9) (zkb3 zk_cX5_exchange zn_cX5_exchange (by decide +kernel)) rfl
theorem dX5_exchange_74 : decode cX5_exchange 74 = .ok (.bipush 20, 2) := zo_16 (b1 := 20) (zkb2 zk_cX5_exchange zn_cX5_exchange (by decide +kernel)) rfl
theorem dX5_exchange_76 : decode cX5_exchange 76 = .ok (.aload_n 0, 1) := zo_42 (zkb zk_cX5_exchange zn_cX5_exchange (by decide +kernel))
theorem dX5_exchange_77 : decode cX5_exchange 77 = .ok (.getfield 9, 3) := zo_180 (b1 := 0) (b2 := 9) (zkb3 zk_cX5_exchange zn_cX5_exchange (by decide +kernel)) rfl
theorem dX5_exchange_80 : decode cX5_exchange 80 = .ok (.iconst 0, 1) := zo_3 (zkb zk_cX5_exchange zn_cX5_exchange (by decide +kernel))
theorem dX5_exchange_81 : decode cX5_exchange 81 = .ok (.iaload, 1) := zo_46 (zkb zk_cX5_exchange zn_cX5_exchange (by decide +kernel))
theorem dX5_exchange_82 : decode cX5_exchange 82 = .ok (.bipush 8, 2) := zo_16 (b1 := 8) (zkb2 zk_cX5_exchange zn_cX5_exchange (by decide +kernel)) rfl
theorem dX5_exchange_84 : decode cX5_exchange 84 = .ok (.ishl, 1) := zo_120 (zkb zk_cX5_exchange zn_cX5_exchange (by decide +kernel))
theorem dX5_exchange_85 : decode cX5_exchange 85 = .ok (.iload_n 2, 1) := zo_28 (zkb zk_cX5_exchange zn_cX5_exchange (by decide +kernel))
theorem dX5_exchange_86 : decode cX5_exchange 86 = .ok (.iconst 1, 1) := zo_4 (zkb zk_cX5_exchange zn_cX5_exchange (by decide +kernel))
theorem dX5_exchange_87 : decode cX5_exchange 87 = .ok (.iadd, 1) := zo_96 (zkb zk_cX5_exchange zn_cX5_exchange (by decide +kernel))
theorem dX5_exchange_88 : decode cX5_exchange 88 = .ok (.sipush 255, 3) := zo_17 (b1 := 0) (b2 := 255) (zkb3 zk_cX5_exchange zn_cX5_exchange (by decide +kernel)) rfl
theorem dX5_exchange_91 : decode cX5_exchange 91 = .ok (.iand, 1) := zo_126 (zkb zk_cX5_exchange zn_cX5_exchange (by decide +kernel))
theorem dX5_exchange_92 : decode cX5_exchange 92 = .ok (.ior, 1) := zo_128 (zkb zk_cX5_exchange zn_cX5_exchange (by decide +kernel))
theorem dX5_exchange_93 : decode cX5_exchange 93 = .ok (.iastore, 1) := zo_79 (zkb zk_cX5_exchange zn_cX5_exchange (by decide +kernel))
theorem dX5_exchange_94 : decode cX5_exchange 94 = .ok (.bipush 11, 2) := zo_16 (b1 := 11) (zkb2 zk_cX5_exchange zn_cX5_exchange (by decide +kernel)) rfl
theorem dX5_exchange_96 : decode cX5_exchange 96 = .ok (.ireturn, 1) := zo_172 (zkb zk_cX5_exchange zn_cX5_exchange (by decide +kernel))
theorem dX5_exchange_97 : decode cX5_exchange 97 = .ok (.aload_n 0, 1) := zo_42 (zkb zk_cX5_exchange zn_cX5_exchange (by decide +kernel))
theorem dX5_exchange_98 : decode cX5_exchange 98 = .ok (.invokevirtual 114, 3) := zo_182 (b1 := 0) (b2 := 114) (zkb3 zk_cX5_exchange zn_cX5_exchange (by decide +kernel)) rfl
theorem dX5_exchange_101 : decode cX5_exchange 101 = .ok (.istore_n 2, 1) := zo_61 (zkb zk_cX5_exchange zn_cX5_exchange (by decide +kernel))
theorem dX5_exchange_102 : decode cX5_exchange 102 = .ok (.aload_n 0, 1) := zo_42 (zkb zk_cX5_exchange zn_cX5_exchange (by decide +kernel))
theorem dX5_exchange_103 : decode cX5_exchange 103 = .ok (.getfield 9, 3) := zo_180 (b1 := 0) (b2 := 9) (zkb3 zk_cX5_exchange zn_cX5_exchange (by decide +kernel)) rfl
theorem dX5_exchange_106 : decode cX5_exchange 106 = .ok (.bipush 20, 2) := zo_16 (b1 := 20) (zkb2 zk_cX5_exchange zn_cX5_exchange (by decide +kernel)) rfl
theorem dX5_exchange_108 : decode cX5_exchange 108 = .ok (.aload_n 0, 1) := zo_42 (zkb zk_cX5_exchange zn_cX5_exchange (by decide +kernel))
theorem dX5_exchange_109 : decode cX5_exchange 109 = .ok (.getfield 9, 3) := zo_180 (b1 := 0) (b2 := 9) (zkb3 zk_cX5_exchange zn_cX5_exchange (by decide +kernel)) rfl
theorem dX5_exchange_112 : decode cX5_exchange 112 = .ok (.iconst 0, 1) := zo_3 (zkb zk_cX5_exchange zn_cX5_exchange (by decide +kernel))
theorem dX5_exchange_113 : decode cX5_exchange 113 = .ok (.iaload, 1) := zo_46 (zkb zk_cX5_exchange zn_cX5_exchange (by decide +kernel))
theorem dX5_exchange_114 : decode cX5_exchange 114 = .ok (.bipush 8, 2) := zo_16 (b1 := 8) (zkb2 zk_cX5_exchange zn_cX5_exchange (by decide +kernel)) rfl
theorem dX5_exchange_116 : decode cX5_exchange 116 = .ok (.ishl, 1) := zo_120 (zkb zk_cX5_exchange zn_cX5_exchange (by decide +kernel))
theorem dX5_exchange_117 : decode cX5_exchange 117 = .ok (.iload_n 2, 1) := zo_28 (zkb zk_cX5_exchange zn_cX5_exchange (by decide +kernel))
theorem dX5_exchange_118 : decode cX5_exchange 118 = .ok (.ior, 1) := zo_128 (zkb zk_cX5_exchange zn_cX5_exchange (by decide +kernel))
theorem dX5_exchange_119 : decode cX5_exchange 119 = .ok (.iconst 1, 1) := zo_4 (zkb zk_cX5_exchange zn_cX5_exchange (by decide +kernel))
theorem dX5_exchange_120 : decode cX5_exchange 120 = .ok (.iadd, 1) := zo_96 (zkb zk_cX5_exchange zn_cX5_exchange (by decide +kernel))
theorem dX5_exchange_121 : decode cX5_exchange 121 = .ok (.ldc 47, 2) := zo_18 (b1 := 47) (zkb2 zk_cX5_exchange zn_cX5_exchange (by decide +kernel))
theorem dX5_exchange_123 : decode cX5_exchange 123 = .ok (.iand, 1) := zo_126 (zkb zk_cX5_exchange zn_cX5_exchange (by decide +kernel))
theorem dX5_exchange_124 : decode cX5_exchange 124 = .ok (.iastore, 1) := zo_79 (zkb zk_cX5_exchange zn_cX5_exchange (by decide +kernel))
theorem dX5_exchange_125 : decode cX5_exchange 125 = .ok (.aload_n 0, 1) := zo_42 (zkb zk_cX5_exchange zn_cX5_exchange (by decide +kernel))
theorem dX5_exchange_126 : decode cX5_exchange 126 = .ok (.getfield 9, 3) := zo_180 (b1 := 0) (b2 := 9) (zkb3 zk_cX5_exchange zn_cX5_exchange (by decide +kernel)) rfl
theorem dX5_exchange_129 : decode cX5_exchange 129 = .ok (.iconst 0, 1) := zo_3 (zkb zk_cX5_exchange zn_cX5_exchange (by decide +kernel))
theorem dX5_exchange_130 : decode cX5_exchange 130 = .ok (.aload_n 0, 1) := zo_42 (zkb zk_cX5_exchange zn_cX5_exchange (by decide +kernel))
theorem dX5_exchange_131 : decode cX5_exchange 131 = .ok (.getfield 24, 3) := zo_180 (b1 := 0) (b2 := 24) (zkb3 zk_cX5_exchange zn_cX5_exchange (by decide +kernel)) rfl
theorem dX5_exchange_134 : decode cX5_exchange 134 = .ok (.iload_n 2, 1) := zo_28 (zkb zk_cX5_exchange zn_cX5_exchange (by decide +kernel))
theorem dX5_exchange_135 : decode cX5_exchange 135 = .ok (.invokevirtual 225, 3) := zo_182 (b1 := 0) (b2 := 225) (zkb3 zk_cX5_exchange zn_cX5_exchange (by decide +kernel)) rfl
theorem dX5_exchange_138 : decode cX5_exchange 138 = .ok (.iastore, 1) := zo_79 (zkb zk_cX5_exchange zn_cX5_exchange (by decide +kernel))
theorem dX5_exchange_139 : decode cX5_exchange 139 = .ok (.bipush 11, 2) := zo_16 (b1 := 11) (zkb2 zk_cX5_exchange zn_cX5_exchange (by decide +kernel)) rfl
theorem dX5_exchange_141 : decode cX5_exchange 141 = .ok (.ireturn, 1) := zo_172 (zkb zk_cX5_exchange zn_cX5_exchange (by decide +kernel))
theorem dX5_exchange_142 : decode cX5_exchange 142 = .ok (.aload_n 0, 1) := zo_42 (zkb zk_cX5_exchange zn_cX5_exchange (by decide +kernel))
theorem dX5_exchange_143 : decode cX5_exchange 143 = .ok (.aload_n 0, 1) := zo_42 (zkb zk_cX5_exchange zn_cX5_exchange (by decide +kernel))
theorem dX5_exchange_144 : decode cX5_exchange 144 = .ok (.getfield 9, 3) := zo_180 (b1 := 0) (b2 := 9) (zkb3 zk_cX5_exchange zn_cX5_exchange (by decide +kernel)) rfl
theorem dX5_exchange_147 : decode cX5_exchange 147 = .ok (.bipush 18, 2) := zo_16 (b1 := 18) (zkb2 zk_cX5_exchange zn_cX5_exchange (by decide +kernel)) rfl
theorem dX5_exchange_149 : decode cX5_exchange 149 = .ok (.iaload, 1) := zo_46 (zkb zk_cX5_exchange zn_cX5_exchange (by decide +kernel))
theorem dX5_exchange_150 : decode cX5_exchange 150 = .ok (.invokevirtual 52, 3) := zo_182 (b1 := 0) (b2 := 52) (zkb3 zk_cX5_exchange zn_cX5_exchange (by decide +kernel)) rfl
theorem dX5_exchange_153 : decode cX5_exchange 153 = .ok (.istore_n 2, 1) := zo_61 (zkb zk_cX5_exchange zn_cX5_exchange (by decide +kernel))
theorem dX5_exchange_154 : decode cX5_exchange 154 = .ok (.aload_n 0, 1) := zo_42 (zkb zk_cX5_exchange zn_cX5_exchange (by decide +kernel))
theorem dX5_exchange_155 : decode cX5_exchange 155 = .ok (.aload_n 0, 1) := zo_42 (zkb zk_cX5_exchange zn_cX5_exchange (by decide +kernel))
theorem dX5_exchange_156 : decode cX5_exchange 156 = .ok (.getfield 9, 3) := zo_180 (b1 := 0) (b2 := 9) (zkb3 zk_cX5_exchange zn_cX5_exchange (by decide +kernel)) rfl
theorem dX5_exchange_159 : decode cX5_exchange 159 = .ok (.bipush 18, 2) := zo_16 (b1 := 18) (zkb2 zk_cX5_exchange zn_cX5_exchange (by decide +kernel)) rfl
theorem dX5_exchange_161 : decode cX5_exchange 161 = .ok (.iaload, 1) := zo_46 (zkb zk_cX5_exchange zn_cX5_exchange (by decide +kernel))
theorem dX5_exchange_162 : decode cX5_exchange 162 = .ok (.aload_n 0, 1) := zo_42 (zkb zk_cX5_exchange zn_cX5_exchange (by decide +kernel))
theorem dX5_exchange_163 : decode cX5_exchange 163 = .ok (.invokevirtual 124, 3) := zo_182 (b1 := 0) (b2 := 124) (zkb3 zk_cX5_exchange zn_cX5_exchange (by decide +kernel)) rfl
theorem dX5_exchange_166 : decode cX5_exchange 166 = .ok (.invokevirtual 184, 3) := zo_182 (b1 := 0) (b2 := 184) (zkb3 zk_cX5_exchange zn_cX5_exchange (by decide +kernel)) rfl
theorem dX5_exchange_169 : decode cX5_exchange 169 = .ok (.aload_n 0, 1) := zo_42 (zkb zk_cX5_exchange zn_cX5_exchange (by decide +kernel))
theorem dX5_exchange_170 : decode cX5_exchange 170 = .ok (.iload_n 2, 1) := zo_28 (zkb zk_cX5_exchange zn_cX5_exchange (by decide +kernel))
theorem dX5_exchange_171 : decode cX5_exchange 171 = .ok (.invokevirtual 127, 3) := zo_182 (b1 := 0) (b2 := 127) (zkb3 zk_cX5_exchange zn_cX5_exchange (by decide +kernel)) rfl
theorem dX5_exchange_174 : decode cX5_exchange 174 = .ok (.aload_n 0, 1) := zo_42 (zkb zk_cX5_exchange zn_cX5_exchange (by decide +kernel))
theorem dX5_exchange_175 : decode cX5_exchange 175 = .ok (.getfield 9, 3) := zo_180 (b1 := 0) (b2 := 9) (zkb3 zk_cX5_exchange zn_cX5_exchange (by decide +kernel)) rfl
theorem dX5_exchange_178 : decode cX5_exchange 178 = .ok (.bipush 20, 2) := zo_16 (b1 := 20) (zkb2 zk_cX5_exchange zn_cX5_exchange (by decide +kernel)) rfl
theorem dX5_exchange_180 : decode cX5_exchange 180 = .ok (.iload_n 2, 1) := zo_28 (zkb zk_cX5_exchange zn_cX5_exchange (by decide +kernel))
theorem dX5_exchange_181 : decode cX5_exchange 181 = .ok (.iastore, 1) := zo_79 (zkb zk_cX5_exchange zn_cX5_exchange (by decide +kernel))
theorem dX5_exchange_182 : decode cX5_exchange 182 = .ok (.bipush 19, 2) := zo_16 (b1 := 19) (zkb2 zk_cX5_exchange zn_cX5_exchange (by decide +kernel)) rfl
theorem dX5_exchange_184 : decode cX5_exchange 184 = .ok (.ireturn, 1) := zo_172 (zkb zk_cX5_exchange zn_cX5_exchange (by decide +kernel))
theorem dX5_exchange_185 : decode cX5_exchange 185 = .ok (.aload_n 0, 1) := zo_42 (zkb zk_cX5_exchange zn_cX5_exchange (by decide +kernel))
theorem dX5_exchange_186 : decode cX5_exchange 186 = .ok (.iconst 4, 1) := zo_7 (zkb zk_cX5_exchange zn_cX5_exchange (by decide +kernel))
theorem dX5_exchange_187 : decode cX5_exchange 187 = .ok (.invokevirtual 65, 3) := zo_182 (b1 := 0) (b2 := 65) (zkb3 zk_cX5_exchange zn_cX5_exchange (by decide +kernel)) rfl
theorem dX5_exchange_190 : decode cX5_exchange 190 = .ok (.istore_n 2, 1) := zo_61 (zkb zk_cX5_exchange zn_cX5_exchange (by decide +kernel))
theorem dX5_exchange_191 : decode cX5_exchange 191 = .ok (.aload_n 0, 1) := zo_42 (zkb zk_cX5_exchange zn_cX5_exchange (by decide +kernel))
theorem dX5_exchange_192 : decode cX5_exchange 192 = .ok (.iconst 4, 1) := zo_7 (zkb zk_cX5_exchange zn_cX5_exchange (by decide +kernel))
theorem dX5_exchange_193 : decode cX5_exchange 193 = .ok (.aload_n 0, 1) := zo_42 (zkb zk_cX5_exchange zn_cX5_exchange (by decide +kernel))
theorem dX5_exchange_194 : decode cX5_exchange 194 = .ok (.bipush 6, 2) := zo_16 (b1 := 6) (zkb2 zk_cX5_exchange zn_cX5_exchange (by decide +kernel)) rfl
theorem dX5_exchange_196 : decode cX5_exchange 196 = .ok (.invokevirtual 65, 3) := zo_182 (b1 := 0) (b2 := 65) (zkb3 zk_cX5_exchange zn_cX5_exchange (by decide +kernel)) rfl
theorem dX5_exchange_199 : decode cX5_exchange 199 = .ok (.invokevirtual 121, 3) := zo_182 (b1 := 0) (b2 := 121) (zkb3 zk_cX5_exchange zn_cX5_exchange (by decide +kernel)) rfl
theorem dX5_exchange_202 : decode cX5_exchange 202 = .ok (.aload_n 0, 1) := zo_42 (zkb zk_cX5_exchange zn_cX5_exchange (by decide +kernel))
theorem dX5_exchange_203 : decode cX5_exchange 203 = .ok (.bipush 6, 2) := zo_16 (b1 := 6) (zkb2 zk_cX5_exchange zn_cX5_exchange (by decide +kernel)) rfl
theorem dX5_exchange_205 : decode cX5_exchange 205 = .ok (.iload_n 2, 1) := zo_28 (zkb zk_cX5_exchange zn_cX5_exchange (by decide +kernel))
theorem dX5_exchange_206 : decode cX5_exchange 206 = .ok (.invokevirtual 121, 3) := zo_182 (b1 := 0) (b2 := 121) (zkb3 zk_cX5_exchange zn_cX5_exchange (by decide +kernel)) rfl
theorem dX5_exchange_209 : decode cX5_exchange 209 = .ok (.iconst 4, 1) := zo_7 (zkb zk_cX5_exchange zn_cX5_exchange (by decide +kernel))
theorem dX5_exchange_210 : decode cX5_exchange 210 = .ok (.ireturn, 1) := zo_172 (zkb zk_cX5_exchange zn_cX5_exchange (by decide +kernel))
theorem dX5_exchange_211 : decode cX5_exchange 211 = .ok (.aload_n 0, 1) := zo_42 (zkb zk_cX5_exchange zn_cX5_exchange (by decide +kernel))
theorem dX5_exchange_212 : decode cX5_exchange 212 = .ok (.getfield 9, 3) := zo_180 (b1 := 0) (b2 := 9) (zkb3 zk_cX5_exchange zn_cX5_exchange (by decide +kernel)) rfl
theorem dX5_exchange_215 : decode cX5_exchange 215 = .ok (.bipush 23, 2) := zo_16 (b1 := 23) (zkb2 zk_cX5_exchange zn_cX5_exchange (by decide +kernel)) rfl
theorem dX5_exchange_217 : decode cX5_exchange 217 = .ok (.iload_n 1, 1) := zo_27 (zkb zk_cX5_exchange zn_cX5_exchange (by decide +kernel))
theorem dX5_exchange_218 : decode cX5_exchange 218 = .ok (.iconst 1, 1) := zo_4 (zkb zk_cX5_exchange zn_cX5_exchange (by decide +kernel))
theorem dX5_exchange_219 : decode cX5_exchange 219 = .ok (.iand, 1) := zo_126 (zkb zk_cX5_exchange zn_cX5_exchange (by decide +kernel))
theorem dX5_exchange_220 : decode cX5_exchange 220 = .ok (.iastore, 1) := zo_79 (zkb zk_cX5_exchange zn_cX5_exchange (by decide +kernel))
theorem dX5_exchange_221 : decode cX5_exchange 221 = .ok (.aload_n 0, 1) := zo_42 (zkb zk_cX5_exchange zn_cX5_exchange (by decide +kernel))
theorem dX5_exchange_222 : decode cX5_exchange 222 = .ok (.getfield 9, 3) := zo_180 (b1 := 0) (b2 := 9) (zkb3 zk_cX5_exchange zn_cX5_exchange (by decide +kernel)) rfl
theorem dX5_exchange_225 : decode cX5_exchange 225 = .ok (.bipush 24, 2) := zo_16 (b1 := 24) (zkb2 zk_cX5_exchange zn_cX5_exchange (by decide +kernel)) rfl
theorem dX5_exchange_227 : decode cX5_exchange 227 = .ok (.iload_n 1, 1) := zo_27 (zkb zk_cX5_exchange zn_cX5_exchange (by decide +kernel))
theorem dX5_exchange_228 : decode cX5_exchange 228 = .ok (.iconst 1, 1) := zo_4 (zkb zk_cX5_exchange zn_cX5_exchange (by decide +kernel))
theorem dX5_exchange_229 : decode cX5_exchange 229 = .ok (.iand, 1) := zo_126 (zkb zk_cX5_exchange zn_cX5_exchange (by decide +kernel))
theorem dX5_exchange_230 : decode cX5_exchange 230 = .ok (.iastore, 1) := zo_79 (zkb zk_cX5_exchange zn_cX5_exchange (by decide +kernel))
theorem dX5_exchange_231 : decode cX5_exchange 231 = .ok (.aload_n 0, 1) := zo_42 (zkb zk_cX5_exchange zn_cX5_exchange (by decide +kernel))
theorem dX5_exchange_232 : decode cX5_exchange 232 = .ok (.getfield 9, 3) := zo_180 (b1 := 0) (b2 := 9) (zkb3 zk_cX5_exchange zn_cX5_exchange (by decide +kernel)) rfl
theorem dX5_exchange_235 : decode cX5_exchange 235 = .ok (.bipush 28, 2) := zo_16 (b1 := 28) (zkb2 zk_cX5_exchange zn_cX5_exchange (by decide +kernel)) rfl
theorem dX5_exchange_237 : decode cX5_exchange 237 = .ok (.iload_n 1, 1) := zo_27 (zkb zk_cX5_exchange zn_cX5_exchange (by decide +kernel))
theorem dX5_exchange_238 : decode cX5_exchange 238 = .ok (.iconst 1, 1) := zo_4 (zkb zk_cX5_exchange zn_cX5_exchange (by decide +kernel))
theorem dX5_exchange_239 : decode cX5_exchange 239 = .ok (.iand, 1) := zo_126 (zkb zk_cX5_exchange zn_cX5_exchange (by decide +kernel))
theorem dX5_exchange_240 : decode cX5_exchange 240 = .ok (.iastore, 1) := zo_79 (zkb zk_cX5_exchange zn_cX5_exchange (by decide +kernel))
theorem dX5_exchange_241 : decode cX5_exchange 241 = .ok (.iconst 4, 1) := zo_7 (zkb zk_cX5_exchange zn_cX5_exchange (by decide +kernel))
theorem dX5_exchange_242 : decode cX5_exchange 242 = .ok (.ireturn, 1) := zo_172 (zkb zk_cX5_exchange zn_cX5_exchange (by decide +kernel))
def kn_cX5_behindEd : Nat := 0xacf800b61c2aac08104ff500b864047e061c0319100900b42aac0e104f2e18100900b42a17100900b42a3e00b6d100b62a2aac08104fce00b6032e030900b42a032a030900b42aacf200b61c2aacef00b67a041c2a0a00a7ec00b67a041c2a0d009a7e041cac0c10de00b6a000b61c2a0800a7030700a006101c2e060900b42a1800b42a4f7e2f1260044100b6052a14100900b42aac0c10e900b61c2a4f7e2f1260044100b6052a14100900b42abf000000a6000000910000008b00000073000000430000002a0000000600000000000000d200000000aa7e07101b3d7e07107a061bac081006009f047a06101b
theorem zk_cX5_behindEd : zkd cX5_behindEd.data.toList kn_cX5_behindEd = true := by decide +kernel
theorem zn_cX5_behindEd : cX5_behindEd.data.toList.length = 238 := by decide +kernel
theorem dX5_behindEd_0 : decode cX5_behindEd 0 = .ok (.iload_n 1, 1) := zo_27 (zkb zk_cX5_behindEd zn_cX5_behindEd (by decide +kernel))
theorem dX5_behindEd_1 : decode cX5_behindEd 1 = .ok (.bipush 6, 2) := zo_16 (b1 := 6) (zkb2 zk_cX5_behindEd zn_cX5_behindEd (by decide +kernel)) rfl
theorem dX5_behindEd_3 : decode cX5_behindEd 3 = .ok (.ishr, 1) := zo_122 (zkb zk_cX5_behindEd zn_cX5_behindEd (by decide +kernel))
theorem dX5_behindEd_4 : decode cX5_behindEd 4 = .ok (.iconst 1, 1) := zo_4 (zkb zk_cX5_behindEd zn_cX5_behindEd (by decide +kernel))
theorem dX5_behindEd_5 : decode cX5_behindEd 5 = .ok (.if_icmp .eq 6, 3) := zo_159 (b1 := 0) (b2 := 6) (zkb3 zk_cX5_behindEd zn_cX5_behindEd (by decide +kernel)) rfl
theorem dX5_behindEd_8 : decode cX5_behindEd 8 = .ok (.bipush 8, 2) := zo_16 (b1 := 8) (zkb2 zk_cX5_behindEd zn_cX5_behindEd (by decide +kernel)) rfl
theorem dX5_behindEd_10 : decode cX5_behindEd 10 = .ok (.ireturn, 1) := zo_172 (zkb zk_cX5_behindEd zn_cX5_behindEd (by decide +kernel))
theorem dX5_behindEd_11 : decode cX5_behindEd 11 = .ok (.iload_n 1, 1) := zo_27 (zkb zk_cX5_behindEd zn_cX5_behindEd (by decide +kernel))
theorem dX5_behindEd_12 : decode cX5_behindEd 12 = .ok (.iconst 3, 1) := zo_6 (zkb zk_cX5_behindEd zn_cX5_behindEd (by decide +kernel))
theorem dX5_behindEd_13 : decode cX5_behindEd 13 = .ok (.ishr, 1) := zo_122 (zkb zk_cX5_behindEd zn_cX5_behindEd (by decide +kernel))
theorem dX5_behindEd_14 : decode cX5_behindEd 14 = .ok (.bipush 7, 2) := zo_16 (b1 := 7) (zkb2 zk_cX5_behindEd zn_cX5_behindEd (by decide +kernel)) rfl
theorem dX5_behindEd_16 : decode cX5_behindEd 16 = .ok (.iand, 1) := zo_126 (zkb zk_cX5_behindEd zn_cX5_behindEd (by decide +kernel))
theorem dX5_behindEd_17 : decode cX5_behindEd 17 = .ok (.istore_n 2, 1) := zo_61 (zkb zk_cX5_behindEd zn_cX5_behindEd (by decide +kernel))
theorem dX5_behindEd_18 : decode cX5_behindEd 18 = .ok (.iload_n 1, 1) := zo_27 (zkb zk_cX5_behindEd zn_cX5_behindEd (by decide +kernel))
theorem dX5_behindEd_19 : decode cX5_behindEd 19 = .ok (.bipush 7, 2) := zo_16 (b1 := 7) (zkb2 zk_cX5_behindEd zn_cX5_behindEd (by decide +kernel)) rfl
theorem dX5_behindEd_21 : decode cX5_behindEd 21 = .ok (.iand, 1) := zo_126 (zkb zk_cX5_behindEd zn_cX5_behindEd (by decide +kernel))
theorem dX5_behindEd_22 : decode cX5_behindEd 22 = .ok (.tableswitch 210 0 6 #[42, 67, 115, 139, 145, 166, 191], 42) := by decide +kernel
theorem dX5_behindEd_64 : decode cX5_behindEd 64 = .ok (.aload_n 0, 1) := zo_42 (zkb zk_cX5_behindEd zn_cX5_behindEd (by decide +kernel))
theorem dX5_behindEd_65 : decode cX5_behindEd 65 = .ok (.getfield 9, 3) := zo_180 (b1 := 0) (b2 := 9) (zkb3 zk_cX5_behindEd zn_cX5_behindEd (by decide +kernel)) rfl
theorem dX5_behindEd_68 : decode cX5_behindEd 68 = .ok (.bipush 20, 2) := zo_16 (b1 := 20) (zkb2 zk_cX5_behindEd zn_cX5_behindEd (by decide +kernel)) rfl
theorem dX5_behindEd_70 : decode cX5_behindEd 70 = .ok (.aload_n 0, 1) := zo_42 (zkb zk_cX5_behindEd zn_cX5_behindEd (by decide +kernel))
theorem dX5_behindEd_71 : decode cX5_behindEd 71 = .ok (.iconst 2, 1) := zo_5 (zkb zk_cX5_behindEd zn_cX5_behindEd (by decide +kernel))
theorem dX5_behindEd_72 : decode cX5_behindEd 72 = .ok (.invokevirtual 65, 3) := zo_182 (b1 := 0) (b2 := 65) (zkb3 zk_cX5_behindEd zn_cX5_behindEd (by decide +kernel)) rfl
theorem dX5_behindEd_75 : decode cX5_behindEd 75 = .ok (.iconst 1, 1) := zo_4 (zkb zk_cX5_behindEd zn_cX5_behindEd (by decide +kernel))
theorem dX5_behindEd_76 : decode cX5_behindEd 76 = .ok (.iadd, 1) := zo_96 (zkb zk_cX5_behindEd zn_cX5_behindEd (by decide +kernel))
theorem dX5_behindEd_77 : decode cX5_behindEd 77 = .ok (.ldc 47, 2) := zo_18 (b1 := 47) (zkb2 zk_cX5_behindEd zn_cX5_behindEd (by decide +kernel))
theorem dX5_behindEd_79 : decode cX5_behindEd 79 = .ok (.iand, 1) := zo_126 (zkb zk_cX5_behindEd zn_cX5_behindEd (by decide +kernel))
theorem dX5_behindEd_80 : decode cX5_behindEd 80 = .ok (.iastore, 1) := zo_79 (zkb zk_cX5_behindEd zn_cX5_behindEd (by decide +kernel))
theorem dX5_behindEd_81 : decode cX5_behindEd 81 = .ok (.aload_n 0, 1) := zo_42 (zkb zk_cX5_behindEd zn_cX5_behindEd (by decide +kernel))
theorem dX5_behindEd_82 : decode cX5_behindEd 82 = .ok (.iload_n 2, 1) := zo_28 (zkb zk_cX5_behindEd zn_cX5_behindEd (by decide +kernel))
theorem dX5_behindEd_83 : decode cX5_behindEd 83 = .ok (.invokevirtual 233, 3) := zo_182 (b1 := 0) (b2 := 233) (zkb3 zk_cX5_behindEd zn_cX5_behindEd (by decide +kernel)) rfl
theorem dX5_behindEd_86 : decode cX5_behindEd 86 = .ok (.bipush 12, 2) := zo_16 (b1 := 12) (zkb2 zk_cX5_behindEd zn_cX5_behindEd (by decide +kernel)) rfl
theorem dX5_behindEd_88 : decode cX5_behindEd 88 = .ok (.ireturn, 1) := zo_172 (zkb zk_cX5_behindEd zn_cX5_behindEd (by decide +kernel))
theorem dX5_behindEd_89 : decode cX5_behindEd 89 = .ok (.aload_n 0, 1) := zo_42 (zkb zk_cX5_behindEd zn_cX5_behindEd (by decide +kernel))
theorem dX5_behindEd_90 : decode cX5_behindEd 90 = .ok (.getfield 9, 3) := zo_180 (b1 := 0) (b2 := 9) (zkb3 zk_cX5_behindEd zn_cX5_behindEd (by decide +kernel)) rfl
theorem dX5_behindEd_93 : decode cX5_behindEd 93 = .ok (.bipush 20, 2) := zo_16 (b1 := 20) (zkb2 zk_cX5_behindEd zn_cX5_behindEd (by decide +kernel)) rfl
theorem dX5_behindEd_95 : decode cX5_behindEd 95 = .ok (.aload_n 0, 1) := zo_42 (zkb zk_cX5_behindEd zn_cX5_behindEd (by decide +kernel))
theorem dX5_behindEd_96 : decode cX5_behindEd 96 = .ok (.iconst 2, 1) := zo_5 (zkb zk_cX5_behindEd zn_cX5_behindEd (by decide +kernel))
theorem dX5_behindEd_97 : decode cX5_behindEd 97 = .ok (.invokevirtual 65, 3) := zo_182 (b1 := 0) (b2 := 65) (zkb3 zk_cX5_behindEd zn_cX5_behindEd (by decide +kernel)) rfl
theorem dX5_behindEd_100 : decode cX5_behindEd 100 = .ok (.iconst 1, 1) := zo_4 (zkb zk_cX5_behindEd zn_cX5_behindEd (by decide +kernel))
theorem dX5_behindEd_101 : decode cX5_behindEd 101 = .ok (.iadd, 1) := zo_96 (zkb zk_cX5_behindEd zn_cX5_behindEd (by decide +kernel))
theorem dX5_behindEd_102 : decode cX5_behindEd 102 = .ok (.ldc 47, 2) := zo_18 (b1 := 47) (zkb2 zk_cX5_behindEd zn_cX5_behindEd (by decide +kernel))
theorem dX5_behindEd_104 : decode cX5_behindEd 104 = .ok (.iand, 1) := zo_126 (zkb zk_cX5_behindEd zn_cX5_behindEd (by decide +kernel))
theorem dX5_behindEd_105 : decode cX5_behindEd 105 = .ok (.iastore, 1) := zo_79 (zkb zk_cX5_behindEd zn_cX5_behindEd (by decide +kernel))
theorem dX5_behindEd_106 : decode cX5_behindEd 106 = .ok (.aload_n 0, 1) := zo_42 (zkb zk_cX5_behindEd zn_cX5_behindEd (by decide +kernel))
theorem dX5_behindEd_107 : decode cX5_behindEd 107 = .ok (.getfield 24, 3) := zo_180 (b1 := 0) (b2 := 24) (zkb3 zk_cX5_behindEd zn_cX5_behindEd (by decide +kernel)) rfl
theorem dX5_behindEd_110 : decode cX5_behindEd 110 = .ok (.aload_n 0, 1) := zo_42 (zkb zk_cX5_behindEd zn_cX5_behindEd (by decide +kernel))
theorem dX5_behindEd_111 : decode cX5_behindEd 111 = .ok (.getfield 9, 3) := zo_180 (b1 := 0) (b2 := 9) (zkb3 zk_cX5_behindEd zn_cX5_behindEd (by decide +kernel)) rfl
theorem dX5_behindEd_114 : decode cX5_behindEd 114 = .ok (.iconst 3, 1) := zo_6 (zkb zk_cX5_behindEd zn_cX5_behindEd (by decide +kernel))
theorem dX5_behindEd_115 : decode cX5_behindEd 115 = .ok (.iaload, 1) := zo_46 (zkb zk_cX5_behindEd zn_cX5_behindEd (by decide +kernel))
theorem dX5_behindEd_116 : decode cX5_behindEd 116 = .ok (.iload_n 2, 1) := zo_28 (zkb zk_cX5_behindEd zn_cX5_behindEd (by decide +kernel))
theorem dX5_behindEd_117 : decode cX5_behindEd 117 = .ok (.bipush 6, 2) := zo_16 (b1 := 6) (zkb2 zk_cX5_behindEd zn_cX5_behindEd (by decide +kernel)) rfl
theorem dX5_behindEd_119 : decode cX5_behindEd 119 = .ok (.if_icmp .ne 7, 3) := zo_160 (b1 := 0) (b2 := 7) (zkb3 zk_cX5_behindEd zn_cX5_behindEd (by decide +kernel)) rfl
theorem dX5_behindEd_122 : decode cX5_behindEd 122 = .ok (.iconst 0, 1) := zo_3 (zkb zk_cX5_behindEd zn_cX5_behindEd (by decide +kernel))
theorem dX5_behindEd_123 : decode cX5_behindEd 123 = .ok (.goto 8, 3) := zo_167 (b1 := 0) (b2 := 8) (zkb3 zk_cX5_behindEd zn_cX5_behindEd (by decide +kernel)) rfl
theorem dX5_behindEd_126 : decode cX5_behindEd 126 = .ok (.aload_n 0, 1) := zo_42 (zkb zk_cX5_behindEd zn_cX5_behindEd (by decide +kernel))
theorem dX5_behindEd_127 : decode cX5_behindEd 127 = .ok (.iload_n 2, 1) := zo_28 (zkb zk_cX5_behindEd zn_cX5_behindEd (by decide +kernel))
theorem dX5_behindEd_128 : decode cX5_behindEd 128 = .ok (.invokevirtual 160, 3) := zo_182 (b1 := 0) (b2 := 160) (zkb3 zk_cX5_behindEd zn_cX5_behindEd (by decide +kernel)) rfl
theorem dX5_behindEd_131 : decode cX5_behindEd 131 = .ok (.invokevirtual 222, 3) := zo_182 (b1 := 0) (b2 := 222) (zkb3 zk_cX5_behindEd zn_cX5_behindEd (by decide +kernel)) rfl
theorem dX5_behindEd_134 : decode cX5_behindEd 134 = .ok (.bipush 12, 2) := zo_16 (b1 := 12) (zkb2 zk_cX5_behindEd zn_cX5_behindEd (by decide +kernel)) rfl
theorem dX5_behindEd_136 : decode cX5_behindEd 136 = .ok (.ireturn, 1) := zo_172 (zkb zk_cX5_behindEd zn_cX5_behindEd (by decide +kernel))
theorem dX5_behindEd_137 : decode cX5_behindEd 137 = .ok (.iload_n 2, 1) := zo_28 (zkb zk_cX5_behindEd zn_cX5_behindEd (by decide +kernel))
theorem dX5_behindEd_138 : decode cX5_behindEd 138 = .ok (.iconst 1, 1) := zo_4 (zkb zk_cX5_behindEd zn_cX5_behindEd (by decide +kernel))
theorem dX5_behindEd_139 : decode cX5_behindEd 139 = .ok (.iand, 1) := zo_126 (zkb zk_cX5_behindEd zn_cX5_behindEd (by decide +kernel))
theorem dX5_behindEd_140 : decode cX5_behindEd 140 = .ok (.ifCond .ne 13, 3) := zo_154 (b1 := 0) (b2 := 13) (zkb3 zk_cX5_behindEd zn_cX5_behindEd (by decide +kernel)) rfl
theorem dX5_behindEd_143 : decode cX5_behindEd 143 = .ok (.aload_n 0, 1) := zo_42 (zkb zk_cX5_behindEd zn_cX5_behindEd (by decide +kernel))
theorem dX5_behindEd_144 : decode cX5_behindEd 144 = .ok (.iload_n 2, 1) := zo_28 (zkb zk_cX5_behindEd zn_cX5_behindEd (by decide +kernel))
theorem dX5_behindEd_145 : decode cX5_behindEd 145 = .ok (.iconst 1, 1) := zo_4 (zkb zk_cX5_behindEd zn_cX5_behindEd (by decide +kernel))
theorem dX5_behindEd_146 : decode cX5_behindEd 146 = .ok (.ishr, 1) := zo_122 (zkb zk_cX5_behindEd zn_cX5_behindEd (by decide +kernel))
theorem dX5_behindEd_147 : decode cX5_behindEd 147 = .ok (.invokevirtual 236, 3) := zo_182 (b1 := 0) (b2 := 236) (zkb3 zk_cX5_behindEd zn_cX5_behindEd (by decide +kernel)) rfl
theorem dX5_behindEd_150 : decode cX5_behindEd 150 = .ok (.goto 10, 3) := zo_167 (b1 := 0) (b2 := 10) (zkb3 zk_cX5_behindEd zn_cX5_behindEd (by decide +kernel)) rfl
theorem dX5_behindEd_153 : decode cX5_behindEd 153 = .ok (.aload_n 0, 1) := zo_42 (zkb zk_cX5_behindEd zn_cX5_behindEd (by decide +kernel))
theorem dX5_behindEd_154 : decode cX5_behindEd 154 = .ok (.iload_n 2, 1) := zo_28 (zkb zk_cX5_behindEd zn_cX5_behindEd (by decide +kernel))
theorem dX5_behindEd_155 : decode cX5_behindEd 155 = .ok (.iconst 1, 1) := zo_4 (zkb zk_cX5_behindEd zn_cX5_behindEd (by decide +kernel))
theorem dX5_behindEd_156 : decode cX5_behindEd 156 = .ok (.ishr, 1) := zo_122 (zkb zk_cX5_behindEd zn_cX5_behindEd (by decide +kernel))
theorem dX5_behindEd_157 : decode cX5_behindEd 157 = .ok (.invokevirtual 239, 3) := zo_182 (b1 := 0) (b2 := 239) (zkb3 zk_cX5_behindEd zn_cX5_behindEd (by decide +kernel)) rfl
theorem dX5_behindEd_160 : decode cX5_behindEd 160 = .ok (.ireturn, 1) := zo_172 (zkb zk_cX5_behindEd zn_cX5_behindEd (by decide +kernel))
theorem dX5_behindEd_161 : decode cX5_behindEd 161 = .ok (.aload_n 0, 1) := zo_42 (zkb zk_cX5_behindEd zn_cX5_behindEd (by decide +kernel))
theorem dX5_behindEd_162 : decode cX5_behindEd 162 = .ok (.iload_n 2, 1) := zo_28 (zkb zk_cX5_behindEd zn_cX5_behindEd (by decide +kernel))
theorem dX5_behindEd_163 : decode cX5_behindEd 163 = .ok (.invokevirtual 242, 3) := zo_182 (b1 := 0) (b2 := 242) (zkb3 zk_cX5_behindEd zn_cX5_behindEd (by decide +kernel)) rfl
theorem dX5_behindEd_166 : decode cX5_behindEd 166 = .ok (.ireturn, 1) := zo_172 (zkb zk_cX5_behindEd zn_cX5_behindEd (by decide +kernel))
theorem dX5_behindEd_167 : decode cX5_behindEd 167 = .ok (.aload_n 0, 1) := zo_42 (zkb zk_cX5_behindEd zn_cX5_behindEd (by decide +kernel))
theorem dX5_behindEd_168 : decode cX5_behindEd 168 = .ok (.getfield 9, 3) := zo_180 (b1 := 0) (b2 := 9) (zkb3 zk_cX5_behindEd zn_cX5_behindEd (by decide +kernel)) rfl
theorem dX5_behindEd_171 : decode cX5_behindEd 171 = .ok (.iconst 0, 1) := zo_3 (zkb zk_cX5_behindEd zn_cX5_behindEd (by decide +kernel))
theorem dX5_behindEd_172 : decode cX5_behindEd 172 = .ok (.aload_n 0, 1) := zo_42 (zkb zk_cX5_behindEd zn_cX5_behindEd (by decide +kernel))
theorem dX5_behindEd_173 : decode cX5_behindEd 173 = .ok (.iconst 0, 1) := zo_3 (zkb zk_cX5_behindEd zn_cX5_behindEd (by decide +kernel))
theorem dX5_behindEd_174 : decode cX5_behindEd 174 = .ok (.aload_n 0, 1) := zo_42 (zkb zk_cX5_behindEd zn_cX5_behindEd (by decide +kernel))
theorem dX5_behindEd_175 : decode cX5_behindEd 175 = .ok (.getfield 9, 3) := zo_180 (b1 := 0) (b2 := 9) (zkb3 zk_cX5_behindEd zn_cX5_behindEd (by decide +kernel)) rfl
theorem dX5_behindEd_178 : decode cX5_behindEd 178 = .ok (.iconst 0, 1) := zo_3 (zkb zk_cX5_behindEd zn_cX5_behindEd (by decide +kernel))
theorem dX5_behindEd_179 : decode cX5_behindEd 179 = .ok (.iaload, 1) := zo_46 (zkb zk_cX5_behindEd zn_cX5_behindEd (by decide +kernel))
theorem dX5_behindEd_180 : decode cX5_behindEd 180 = .ok (.iconst 0, 1) := zo_3 (zkb zk_cX5_behindEd zn_cX5_behindEd (by decide +kernel))
theorem dX5_behindEd_181 : decode cX5_behindEd 181 = .ok (.invokevirtual 206, 3) := zo_182 (b1 := 0) (b2 := 206) (zkb3 zk_cX5_behindEd zn_cX5_behindEd (by decide +kernel)) rfl
theorem dX5_behindEd_184 : decode cX5_behindEd 184 = .ok (.iastore, 1) := zo_79 (zkb zk_cX5_behindEd zn_cX5_behindEd (by decide +kernel))
theorem dX5_behindEd_185 : decode cX5_behindEd 185 = .ok (.bipush 8, 2) := zo_16 (b1 := 8) (zkb2 zk_cX5_behindEd zn_cX5_behindEd (by decide +kernel)) rfl
theorem dX5_behindEd_187 : decode cX5_behindEd 187 = .ok (.ireturn, 1) := zo_172 (zkb zk_cX5_behindEd zn_cX5_behindEd (by decide +kernel))
theorem dX5_behindEd_188 : decode cX5_behindEd 188 = .ok (.aload_n 0, 1) := zo_42 (zkb zk_cX5_behindEd zn_cX5_behindEd (by decide +kernel))
theorem dX5_behindEd_189 : decode cX5_behindEd 189 = .ok (.aload_n 0, 1) := zo_42 (zkb zk_cX5_behindEd zn_cX5_behindEd (by decide +kernel))
theorem dX5_behindEd_190 : decode cX5_behindEd 190 = .ok (.invokevirtual 209, 3) := zo_182 (b1 := 0) (b2 := 209) (zkb3 zk_cX5_behindEd zn_cX5_behindEd (by decide +kernel)) rfl
theorem dX5_behindEd_193 : decode cX5_behindEd 193 = .ok (.invokevirtual 62, 3) := zo_182 (b1 := 0) (b2 := 62) (zkb3 zk_cX5_behindEd zn_cX5_behindEd (by decide +kernel)) rfl
theorem dX5_behindEd_196 : decode cX5_behindEd 196 = .ok (.aload_n 0, 1) := zo_42 (zkb zk_cX5_behindEd zn_cX5_behindEd (by decide +kernel))
theorem dX5_behindEd_197 : decode cX5_behindEd 197 = .ok (.getfield 9, 3) := zo_180 (b1 := 0) (b2 := 9) (zkb3 zk_cX5_behindEd zn_cX5_behindEd (by decide +kernel)) rfl
theorem dX5_behindEd_200 : decode cX5_behindEd 200 = .ok (.bipush 23, 2) := zo_16 (b1 := 23) (zkb2 zk_cX5_behindEd zn_cX5_behindEd (by decide +kernel)) rfl
theorem dX5_behindEd_202 : decode cX5_behindEd 202 = .ok (.aload_n 0, 1) := zo_42 (zkb zk_cX5_behindEd zn_cX5_behindEd (by decide +kernel))
theorem dX5_behindEd_203 : decode cX5_behindEd 203 = .ok (.getfield 9, 3) := zo_180 (b1 := 0) (b2 := 9) (zkb3 zk_cX5_behindEd zn_cX5_behindEd (by decide +kernel)) rfl
theorem dX5_behindEd_206 : decode cX5_behindEd 206 = .ok (.bipush 24, 2) := zo_16 (b1 := 24) (zkb2 zk_cX5_behindEd zn_cX5_behindEd (by decide +kernel)) rfl
theorem dX5_behindEd_208 : decode cX5_behindEd 208 = .ok (.iaload, 1) := zo_46 (zkb zk_cX5_behindEd zn_cX5_behindEd (by decide +kernel))
theorem dX5_behindEd_209 : decode cX5_behindEd 209 = .ok (.iastore, 1) := zo_79 (zkb zk_cX5_behindEd zn_cX5_behindEd (by decide +kernel))
theorem dX5_behindEd_210 : decode cX5_behindEd 210 = .ok (.bipush 14, 2) := zo_16 (b1 := 14) (zkb2 zk_cX5_behindEd zn_cX5_behindEd (by decide +kernel)) rfl
theorem dX5_behindEd_212 : decode cX5_behindEd 212 = .ok (.ireturn, 1) := zo_172 (zkb zk_cX5_behindEd zn_cX5_behindEd (by decide +kernel))
theorem dX5_behindEd_213 : decode cX5_behindEd 213 = .ok (.aload_n 0, 1) := zo_42 (zkb zk_cX5_behindEd zn_cX5_behindEd (by decide +kernel))
theorem dX5_behindEd_214 : decode cX5_behindEd 214 = .ok (.getfield 9, 3) := zo_180 (b1 := 0) (b2 := 9) (zkb3 zk_cX5_behindEd zn_cX5_behindEd (by decide +kernel)) rfl
theorem dX5_behindEd_217 : decode cX5_behindEd 217 = .ok (.bipush 25, 2) := zo_16 (b1 := 25) (zkb2 zk_cX5_behindEd zn_cX5_behindEd (by decide +kernel)) rfl
theorem dX5_behindEd_219 : decode cX5_behindEd 219 = .ok (.iconst 0, 1) := zo_3 (zkb zk_cX5_behindEd zn_cX5_behindEd (by decide +kernel))
theorem dX5_behindEd_220 : decode cX5_behindEd 220 = .ok (.iload_n 2, 1) := zo_28 (zkb zk_cX5_behindEd zn_cX5_behindEd (by decide +kernel))
theorem dX5_behindEd_221 : decode cX5_behindEd 221 = .ok (.iconst 3, 1) := zo_6 (zkb zk_cX5_behindEd zn_cX5_behindEd (by decide +kernel))
theorem dX5_behindEd_222 : decode cX5_behindEd 222 = .ok (.iand, 1) := zo_126 (zkb zk_cX5_behindEd zn_cX5_behindEd (by decide +kernel))
theorem dX5_behindEd_223 : decode cX5_behindEd 223 = .ok (.iconst 1, 1) := zo_4 (zkb zk_cX5_behindEd zn_cX5_behindEd (by decide +kernel))
theorem dX5_behindEd_224 : decode cX5_behindEd 224 = .ok (.isub, 1) := zo_100 (zkb zk_cX5_behindEd zn_cX5_behindEd (by decide +kernel))
theorem dX5_behindEd_225 : decode cX5_behindEd 225 = .ok (.invokestatic 245, 3) := zo_184 (b1 := 0) (b2 := 245) (zkb3 zk_cX5_behindEd zn_cX5_behindEd (by decide +kernel)) rfl
theorem dX5_behindEd_228 : decode cX5_behindEd 228 = .ok (.iastore, 1) := zo_79 (zkb zk_cX5_behindEd zn_cX5_behindEd (by decide +kernel))
theorem dX5_behindEd_229 : decode cX5_behindEd 229 = .ok (.bipush 8, 2) := zo_16 (b1 := 8) (zkb2 zk_cX5_behindEd zn_cX5_behindEd (by decide +kernel)) rfl
theorem dX5_behindEd_231 : decode cX5_behindEd 231 = .ok (.ireturn, 1) := zo_172 (zkb zk_cX5_behindEd zn_cX5_behindEd (by decide +kernel))
theorem dX5_behindEd_232 : decode cX5_behindEd 232 = .ok (.aload_n 0, 1) := zo_42 (zkb zk_cX5_behindEd zn_cX5_behindEd (by decide +kernel))
theorem dX5_behindEd_233 : decode cX5_behindEd 233 = .ok (.iload_n 2, 1) := zo_28 (zkb zk_cX5_behindEd zn_cX5_behindEd (by decide +kernel))
theorem dX5_behindEd_234 : decode cX5_behindEd 234 = .ok (.invokevirtual 248, 3) := zo_182 (b1 := 0) (b2 := 248) (zkb3 zk_cX5_behindEd zn_cX5_behindEd (by decide +kernel)) rfl
theorem dX5_behindEd_237 : decode cX5_behindEd 237 = .ok (.ireturn, 1) := zo_172 (zkb zk_cX5_behindEd zn_cX5_behindEd (by decide +kernel))
def kn_cX5_takeFromPort : Nat := 0xb14f80c400b81c80bb00b81c7e042e040900b42a040900b42aa600b61c1b2a09009f06101b3de100b62e060900b42a1800b42a
theorem zk_cX5_takeFromPort : zkd cX5_takeFromPort.data.toList kn_cX5_takeFromPort = true := by decide +kernel
theorem zn_cX5_takeFromPort : cX5_takeFromPort.data.toList.length = 51 := by decide +kernel
theorem dX5_takeFromPort_0 : decode cX5_takeFromPort 0 = .ok (.aload_n 0, 1) := zo_42 (zkb zk_cX5_takeFromPort zn_cX5_takeFromPort (by decide +kernel))
theorem dX5_takeFromPort_1 : decode cX5_takeFromPort 1 = .ok (.getfield 24, 3) := zo_180 (b1 := 0) (b2 := 24) (zkb3 zk_cX5_takeFromPort zn_cX5_takeFromPort (by decide +kernel)) rfl
theorem dX5_takeFromPort_4 : decode cX5_takeFromPort 4 = .ok (.aload_n 0, 1) := zo_42 (zkb zk_cX5_takeFromPort zn_cX5_takeFromPort (by decide +kernel))
theorem dX5_takeFromPort_5 : decode cX5_takeFromPort 5 = .ok (.getfield 9, 3) := zo_180 (b1 := 0) (b2 := 9) (zkb3 zk_cX5_takeFromPort zn_cX5_takeFromPort (by decide +kernel)) rfl
theorem dX5_takeFromPort_8 : decode cX5_takeFromPort 8 = .ok (.iconst 3, 1) := zo_6 (zkb zk_cX5_takeFromPort zn_cX5_takeFromPort (by decide +kernel))
theorem dX5_takeFromPort_9 : decode cX5_takeFromPort 9 = .ok (.iaload, 1) := zo_46 (zkb zk_cX5_takeFromPort zn_cX5_takeFromPort (by decide +kernel))
theorem dX5_takeFromPort_10 : decode cX5_takeFromPort 10 = .ok (.invokevirtual 225, 3) := zo_182 (b1 := 0) (b2 := 225) (zkb3 zk_cX5_takeFromPort zn_cX5_takeFromPort (by decide +kernel)) rfl
theorem dX5_takeFromPort_13 : decode cX5_takeFromPort 13 = .ok (.istore_n 2, 1) := zo_61 (zkb zk_cX5_takeFromPort zn_cX5_takeFromPort (by decide +kernel))
theorem dX5_takeFromPort_14 : decode cX5_takeFromPort 14 = .ok (.iload_n 1, 1) := zo_27 (zkb zk_cX5_takeFromPort zn_cX5_takeFromPort (by decide +kernel))
theorem dX5_takeFromPort_15 : decode cX5_takeFromPort 15 = .ok (.bipush 6, 2) := zo_16 (b1 := 6) (zkb2 zk_cX5_takeFromPort zn_cX5_takeFromPort (by decide +kernel)) rfl
theorem dX5_takeFromPort_17 : decode cX5_takeFromPort 17 = .ok (.if_icmp .eq 9, 3) := zo_159 (b1 := 0) (b2 := 9) (zkb3 zk_cX5_takeFromPort zn_cX5_takeFromPort (by decide +kernel)) rfl
theorem dX5_takeFromPort_20 : decode cX5_takeFromPort 20 = .ok (.aload_n 0, 1) := zo_42 (zkb zk_cX5_takeFromPort zn_cX5_takeFromPort (by decide +kernel))
theorem dX5_takeFromPort_21 : decode cX5_takeFromPort 21 = .ok (.iload_n 1, 1) := zo_27 (zkb zk_cX5_takeFromPort zn_cX5_takeFromPort (by decide +kernel))
theorem dX5_takeFromPort_22 : decode cX5_takeFromPort 22 = .ok (.iload_n 2, 1) := zo_28 (zkb zk_cX5_takeFromPort zn_cX5_takeFromPort (by decide +kernel))
theorem dX5_takeFromPort_23 : decode cX5_takeFromPort 23 = .ok (.invokevirtual 166, 3) := zo_182 (b1 := 0) (b2 := 166) (zkb3 zk_cX5_takeFromPort zn_cX5_takeFromPort (by decide +kernel)) rfl
theorem dX5_takeFromPort_26 : decode cX5_takeFromPort 26 = .ok (.aload_n 0, 1) := zo_42 (zkb zk_cX5_takeFromPort zn_cX5_takeFromPort (by decide +kernel))
theorem dX5_takeFromPort_27 : decode cX5_takeFromPort 27 = .ok (.getfield 9, 3) := zo_180 (b1 := 0) (b2 := 9) (zkb3 zk_cX5_takeFromPort zn_cX5_takeFromPort (by decide +kernel)) rfl
theorem dX5_takeFromPort_30 : decode cX5_takeFromPort 30 = .ok (.iconst 1, 1) := zo_4 (zkb zk_cX5_takeFromPort zn_cX5_takeFromPort (by decide +kernel))
theorem dX5_takeFromPort_31 : decode cX5_takeFromPort 31 = .ok (.aload_n 0, 1) := zo_42 (zkb zk_cX5_takeFromPort zn_cX5_takeFromPort (by decide +kernel))
theorem dX5_takeFromPort_32 : decode cX5_takeFromPort 32 = .ok (.getfield 9, 3) := zo_180 (b1 := 0) (b2 := 9) (zkb3 zk_cX5_takeFromPort zn_cX5_takeFromPort (by decide +kernel)) rfl
theorem dX5_takeFromPort_35 : decode cX5_takeFromPort 35 = .ok (.iconst 1, 1) := zo_4 (zkb zk_cX5_takeFromPort zn_cX5_takeFromPort (by decide +kernel))
theorem dX5_takeFromPort_36 : decode cX5_takeFromPort 36 = .ok (.iaload, 1) := zo_46 (zkb zk_cX5_takeFromPort zn_cX5_takeFromPort (by decide +kernel))
theorem dX5_takeFromPort_37 : decode cX5_takeFromPort 37 = .ok (.iconst 1, 1) := zo_4 (zkb zk_cX5_takeFromPort zn_cX5_takeFromPort (by decide +kernel))
theorem dX5_takeFromPort_38 : decode cX5_takeFromPort 38 = .ok (.iand, 1) := zo_126 (zkb zk_cX5_takeFromPort zn_cX5_takeFromPort (by decide +kernel))
theorem dX5_takeFromPort_39 : decode cX5_takeFromPort 39 = .ok (.iload_n 2, 1) := zo_28 (zkb zk_cX5_takeFromPort zn_cX5_takeFromPort (by decide +kernel))
theorem dX5_takeFromPort_40 : decode cX5_takeFromPort 40 = .ok (.invokestatic 187, 3) := zo_184 (b1 := 0) (b2 := 187) (zkb3 zk_cX5_takeFromPort zn_cX5_takeFromPort (by decide +kernel)) rfl
theorem dX5_takeFromPort_43 : decode cX5_takeFromPort 43 = .ok (.ior, 1) := zo_128 (zkb zk_cX5_takeFromPort zn_cX5_takeFromPort (by decide +kernel))
theorem dX5_takeFromPort_44 : decode cX5_takeFromPort 44 = .ok (.iload_n 2, 1) := zo_28 (zkb zk_cX5_takeFromPort zn_cX5_takeFromPort (by decide +kernel))
theorem dX5_takeFromPort_45 : decode cX5_takeFromPort 45 = .ok (.invokestatic 196, 3) := zo_184 (b1 := 0) (b2 := 196) (zkb3 zk_cX5_takeFromPort zn_cX5_takeFromPort (by decide +kernel)) rfl
theorem dX5_takeFromPort_48 : decode cX5_takeFromPort 48 = .ok (.ior, 1) := zo_128 (zkb zk_cX5_takeFromPort zn_cX5_takeFromPort (by decide +kernel))
theorem dX5_takeFromPort_49 : decode cX5_takeFromPort 49 = .ok (.iastore, 1) := zo_79 (zkb zk_cX5_takeFromPort zn_cX5_takeFromPort (by decide +kernel))
theorem dX5_takeFromPort_50 : decode cX5_takeFromPort 50 = .ok (.return_, 1) := zo_177 (zkb zk_cX5_takeFromPort zn_cX5_takeFromPort (by decide +kernel))
def kn_cX5_takePair : Nat := 0xac0f104f808005030400a70707009905152e5c040900b42a05367efe127e8204151c821d1cfb00b604151d1c2a0436647e042e040900b42a641d1c3e9a00b61b2a3d7c00b62a
theorem zk_cX5_takePair : zkd cX5_takePair.data.toList kn_cX5_takePair = true := by decide +kernel
theorem zn_cX5_takePair : cX5_takePair.data.toList.length = 70 := by decide +kernel
theorem dX5_takePair_0 : decode cX5_takePair 0 = .ok (.aload_n 0, 1) := zo_42 (zkb zk_cX5_takePair zn_cX5_takePair (by decide +kernel))
theorem dX5_takePair_1 : decode cX5_takePair 1 = .ok (.invokevirtual 124, 3) := zo_182 (b1 := 0) (b2 := 124) (zkb3 zk_cX5_takePair zn_cX5_takePair (by decide +kernel)) rfl
theorem dX5_takePair_4 : decode cX5_takePair 4 = .ok (.istore_n 2, 1) := zo_61 (zkb zk_cX5_takePair zn_cX5_takePair (by decide +kernel))
theorem dX5_takePair_5 : decode cX5_takePair 5 = .ok (.aload_n 0, 1) := zo_42 (zkb zk_cX5_takePair zn_cX5_takePair (by decide +kernel))
theorem dX5_takePair_6 : decode cX5_takePair 6 = .ok (.iload_n 1, 1) := zo_27 (zkb zk_cX5_takePair zn_cX5_takePair (by decide +kernel))
theorem dX5_takePair_7 : decode cX5_takePair 7 = .ok (.invokevirtual 154, 3) := zo_182 (b1 := 0) (b2 := 154) (zkb3 zk_cX5_takePair zn_cX5_takePair (by decide +kernel)) rfl
theorem dX5_takePair_10 : decode cX5_takePair 10 = .ok (.istore_n 3, 1) := zo_62 (zkb zk_cX5_takePair zn_cX5_takePair (by decide +kernel))
theorem dX5_takePair_11 : decode cX5_takePair 11 = .ok (.iload_n 2, 1) := zo_28 (zkb zk_cX5_takePair zn_cX5_takePair (by decide +kernel))
theorem dX5_takePair_12 : decode cX5_takePair 12 = .ok (.iload_n 3, 1) := zo_29 (zkb zk_cX5_takePair zn_cX5_takePair (by decide +kernel))
theorem dX5_takePair_13 : decode cX5_takePair 13 = .ok (.isub, 1) := zo_100 (zkb zk_cX5_takePair zn_cX5_takePair (by decide +kernel))
theorem dX5_takePair_14 : decode cX5_takePair 14 = .ok (.aload_n 0, 1) := zo_42 (zkb zk_cX5_takePair zn_cX5_takePair (by decide +kernel))
theorem dX5_takePair_15 : decode cX5_takePair 15 = .ok (.getfield 9, 3) := zo_180 (b1 := 0) (b2 := 9) (zkb3 zk_cX5_takePair zn_cX5_takePair (by decide +kernel)) rfl
theorem dX5_takePair_18 : decode cX5_takePair 18 = .ok (.iconst 1, 1) := zo_4 (zkb zk_cX5_takePair zn_cX5_takePair (by decide +kernel))
theorem dX5_takePair_19 : decode cX5_takePair 19 = .ok (.iaload, 1) := zo_46 (zkb zk_cX5_takePair zn_cX5_takePair (by decide +kernel))
theorem dX5_takePair_20 : decode cX5_takePair 20 = .ok (.iconst 1, 1) := zo_4 (zkb zk_cX5_takePair zn_cX5_takePair (by decide +kernel))
theorem dX5_takePair_21 : decode cX5_takePair 21 = .ok (.iand, 1) := zo_126 (zkb zk_cX5_takePair zn_cX5_takePair (by decide +kernel))
theorem dX5_takePair_22 : decode cX5_takePair 22 = .ok (.isub, 1) := zo_100 (zkb zk_cX5_takePair zn_cX5_takePair (by decide +kernel))
theorem dX5_takePair_23 : decode cX5_takePair 23 = .ok (.istore 4, 2) := zo_54 (b1 := 4) (zkb2 zk_cX5_takePair zn_cX5_takePair (by decide +kernel))
theorem dX5_takePair_25 : decode cX5_takePair 25 = .ok (.aload_n 0, 1) := zo_42 (zkb zk_cX5_takePair zn_cX5_takePair (by decide +kernel))
theorem dX5_takePair_26 : decode cX5_takePair 26 = .ok (.iload_n 2, 1) := zo_28 (zkb zk_cX5_takePair zn_cX5_takePair (by decide +kernel))
theorem dX5_takePair_27 : decode cX5_takePair 27 = .ok (.iload_n 3, 1) := zo_29 (zkb zk_cX5_takePair zn_cX5_takePair (by decide +kernel))
theorem dX5_takePair_28 : decode cX5_takePair 28 = .ok (.iload 4, 2) := zo_21 (b1 := 4) (zkb2 zk_cX5_takePair zn_cX5_takePair (by decide +kernel))
theorem dX5_takePair_30 : decode cX5_takePair 30 = .ok (.invokevirtual 251, 3) := zo_182 (b1 := 0) (b2 := 251) (zkb3 zk_cX5_takePair zn_cX5_takePair (by decide +kernel)) rfl
theorem dX5_takePair_33 : decode cX5_takePair 33 = .ok (.iload_n 2, 1) := zo_28 (zkb zk_cX5_takePair zn_cX5_takePair (by decide +kernel))
theorem dX5_takePair_34 : decode cX5_takePair 34 = .ok (.iload_n 3, 1) := zo_29 (zkb zk_cX5_takePair zn_cX5_takePair (by decide +kernel))
theorem dX5_takePair_35 : decode cX5_takePair 35 = .ok (.ixor, 1) := zo_130 (zkb zk_cX5_takePair zn_cX5_takePair (by decide +kernel))
theorem dX5_takePair_36 : decode cX5_takePair 36 = .ok (.iload_n 2, 1) := zo_28 (zkb zk_cX5_takePair zn_cX5_takePair (by decide +kernel))
theorem dX5_takePair_37 : decode cX5_takePair 37 = .ok (.iload 4, 2) := zo_21 (b1 := 4) (zkb2 zk_cX5_takePair zn_cX5_takePair (by decide +kernel))
theorem dX5_takePair_39 : decode cX5_takePair 39 = .ok (.ixor, 1) := zo_130 (zkb zk_cX5_takePair zn_cX5_takePair (by decide +kernel))
theorem dX5_takePair_40 : decode cX5_takePair 40 = .ok (.iand, 1) := zo_126 (zkb zk_cX5_takePair zn_cX5_takePair (by decide +kernel))
theorem dX5_takePair_41 : decode cX5_takePair 41 = .ok (.ldc 254, 2) := zo_18 (b1 := 254) (zkb2 zk_cX5_takePair zn_cX5_takePair (by decide +kernel))
theorem dX5_takePair_43 : decode cX5_takePair 43 = .ok (.iand, 1) := zo_126 (zkb zk_cX5_takePair zn_cX5_takePair (by decide +kernel))
theorem dX5_takePair_44 : decode cX5_takePair 44 = .ok (.istore 5, 2) := zo_54 (b1 := 5) (zkb2 zk_cX5_takePair zn_cX5_takePair (by decide +kernel))
theorem dX5_takePair_46 : decode cX5_takePair 46 = .ok (.aload_n 0, 1) := zo_42 (zkb zk_cX5_takePair zn_cX5_takePair (by decide +kernel))
theorem dX5_takePair_47 : decode cX5_takePair 47 = .ok (.getfield 9, 3) := zo_180 (b1 := 0) (b2 := 9) (zkb3 zk_cX5_takePair zn_cX5_takePair (by decide +kernel)) rfl
theorem dX5_takePair_50 : decode cX5_takePair 50 = .ok (.iconst 1, 1) := zo_4 (zkb zk_cX5_takePair zn_cX5_takePair (by decide +kernel))
theorem dX5_takePair_51 : decode cX5_takePair 51 = .ok (.dup2, 1) := zo_92 (zkb zk_cX5_takePair zn_cX5_takePair (by decide +kernel))
theorem dX5_takePair_52 : decode cX5_takePair 52 = .ok (.iaload, 1) := zo_46 (zkb zk_cX5_takePair zn_cX5_takePair (by decide +kernel))
theorem dX5_takePair_53 : decode cX5_takePair 53 = .ok (.iload 5, 2) := zo_21 (b1 := 5) (zkb2 zk_cX5_takePair zn_cX5_takePair (by decide +kernel))
theorem dX5_takePair_55 : decode cX5_takePair 55 = .ok (.ifCond .eq 7, 3) := zo_153 (b1 := 0) (b2 := 7) (zkb3 zk_cX5_takePair zn_cX5_takePair (by decide +kernel)) rfl
theorem dX5_takePair_58 : decode cX5_takePair 58 = .ok (.iconst 4, 1) := zo_7 (zkb zk_cX5_takePair zn_cX5_takePair (by decide +kernel))
theorem dX5_takePair_59 : decode cX5_takePair 59 = .ok (.goto 4, 3) := zo_167 (b1 := 0) (b2 := 4) (zkb3 zk_cX5_takePair zn_cX5_takePair (by decide +kernel)) rfl
theorem dX5_takePair_62 : decode cX5_takePair 62 = .ok (.iconst 0, 1) := zo_3 (zkb zk_cX5_takePair zn_cX5_takePair (by decide +kernel))
theorem dX5_takePair_63 : decode cX5_takePair 63 = .ok (.iconst 2, 1) := zo_5 (zkb zk_cX5_takePair zn_cX5_takePair (by decide +kernel))
theorem dX5_takePair_64 : decode cX5_takePair 64 = .ok (.ior, 1) := zo_128 (zkb zk_cX5_takePair zn_cX5_takePair (by decide +kernel))
theorem dX5_takePair_65 : decode cX5_takePair 65 = .ok (.ior, 1) := zo_128 (zkb zk_cX5_takePair zn_cX5_takePair (by decide +kernel))
theorem dX5_takePair_66 : decode cX5_takePair 66 = .ok (.iastore, 1) := zo_79 (zkb zk_cX5_takePair zn_cX5_takePair (by decide +kernel))
theorem dX5_takePair_67 : decode cX5_takePair 67 = .ok (.bipush 15, 2) := zo_16 (b1 := 15) (zkb2 zk_cX5_takePair zn_cX5_takePair (by decide +kernel)) rfl
theorem dX5_takePair_69 : decode cX5_takePair 69 = .ok (.ireturn, 1) := zo_172 (zkb zk_cX5_takePair zn_cX5_takePair (by decide +kernel))
def kn_cX5_addPairAndCarry : Nat := 0xac0f104f80030400a70707009905152e5c040900b42a05367efe127e8204151c8202821d1cfb00b604151d1c2a0436607e042e040900b42a601d1c3e9a00b61b2a3d7c00b62a
theorem zk_cX5_addPairAndCarry : zkd cX5_addPairAndCarry.data.toList kn_cX5_addPairAndCarry = true := by decide +kernel
theorem zn_cX5_addPairAndCarry : cX5_addPairAndCarry.data.toList.length = 70 := by decide +kernel
theorem dX5_addPairAndCarry_0 : decode cX5_addPairAndCarry 0 = .ok (.aload_n 0, 1) := zo_42 (zkb zk_cX5_addPairAndCarry zn_cX5_addPairAndCarry (by decide +kernel))
theorem dX5_addPairAndCarry_1 : decode cX5_addPairAndCarry 1 = .ok (.invokevirtual 124, 3) := zo_182 (b1 := 0) (b2 := 124) (zkb3 zk_cX5_addPairAndCarry zn_cX5_addPairAndCarry (by decide +kernel)) rfl
theorem dX5_addPairAndCarry_4 : decode cX5_addPairAndCarry 4 = .ok (.istore_n 2, 1) := zo_61 (zkb zk_cX5_addPairAndCarry zn_cX5_addPairAndCarry (by decide +kernel))
theorem dX5_addPairAndCarry_5 : decode cX5_addPairAndCarry 5 = .ok (.aload_n 0, 1) := zo_42 (zkb zk_cX5_addPairAndCarry zn_cX5_addPairAndCarry (by decide +kernel))
theorem dX5_addPairAndCarry_6 : decode cX5_addPairAndCarry 6 = .ok (.iload_n 1, 1) := zo_27 (zkb zk_cX5_addPairAndCarry zn_cX5_addPairAndCarry (by decide +kernel))
theorem dX5_addPairAndCarry_7 : decode cX5_addPairAndCarry 7 = .ok (.invokevirtual 154, 3) := zo_182 (b1 := 0) (b2 := 154) (zkb3 zk_cX5_addPairAndCarry zn_cX5_addPairAndCarry (by decide +kernel)) rfl
theorem dX5_addPairAndCarry_10 : decode cX5_addPairAndCarry 10 = .ok (.istore_n 3, 1) := zo_62 (zkb zk_cX5_addPairAndCarry zn_cX5_addPairAndCarry (by decide +kernel))
theorem dX5_addPairAndCarry_11 : decode cX5_addPairAndCarry 11 = .ok (.iload_n 2, 1) := zo_28 (zkb zk_cX5_addPairAndCarry zn_cX5_addPairAndCarry (by decide +kernel))
theorem dX5_addPairAndCarry_12 : decode cX5_addPairAndCarry 12 = .ok (.iload_n 3, 1) := zo_29 (zkb zk_cX5_addPairAndCarry zn_cX5_addPairAndCarry (by decide +kernel))
theorem dX5_addPairAndCarry_13 : decode cX5_addPairAndCarry 13 = .ok (.iadd, 1) := zo_96 (zkb zk_cX5_addPairAndCarry zn_cX5_addPairAndCarry (by decide +kernel))
theorem dX5_addPairAndCarry_14 : decode cX5_addPairAndCarry 14 = .ok (.aload_n 0, 1) := zo_42 (zkb zk_cX5_addPairAndCarry zn_cX5_addPairAndCarry (by decide +kernel))
theorem dX5_addPairAndCarry_15 : decode cX5_addPairAndCarry 15 = .ok (.getfield 9, 3) := zo_180 (b1 := 0) (b2 := 9) (zkb3 zk_cX5_addPairAndCarry zn_cX5_addPairAndCarry (by decide +kernel)) rfl
theorem dX5_addPairAndCarry_18 : decode cX5_addPairAndCarry 18 = .ok (.iconst 1, 1) := zo_4 (zkb zk_cX5_addPairAndCarry zn_cX5_addPairAndCarry (by decide +kernel))
theorem dX5_addPairAndCarry_19 : decode cX5_addPairAndCarry 19 = .ok (.iaload, 1) := zo_46 (zkb zk_cX5_addPairAndCarry zn_cX5_addPairAndCarry (by decide +kernel))
theorem dX5_addPairAndCarry_20 : decode cX5_addPairAndCarry 20 = .ok (.iconst 1, 1) := zo_4 (zkb zk_cX5_addPairAndCarry zn_cX5_addPairAndCarry (by decide +kernel))
theorem dX5_addPairAndCarry_21 : decode cX5_addPairAndCarry 21 = .ok (.iand, 1) := zo_126 (zkb zk_cX5_addPairAndCarry zn_cX5_addPairAndCarry (by decide +kernel))
theorem dX5_addPairAndCarry_22 : decode cX5_addPairAndCarry 22 = .ok (.iadd, 1) := zo_96 (zkb zk_cX5_addPairAndCarry zn_cX5_addPairAndCarry (by decide +kernel))
theorem dX5_addPairAndCarry_23 : decode cX5_addPairAndCarry 23 = .ok (.istore 4, 2) := zo_54 (b1 := 4) (zkb2 zk_cX5_addPairAndCarry zn_cX5_addPairAndCarry (by decide +kernel))
theorem dX5_addPairAndCarry_25 : decode cX5_addPairAndCarry 25 = .ok (.aload_n 0, 1) := zo_42 (zkb zk_cX5_addPairAndCarry zn_cX5_addPairAndCarry (by decide +kernel))
theorem dX5_addPairAndCarry_26 : decode cX5_addPairAndCarry 26 = .ok (.iload_n 2, 1) := zo_28 (zkb zk_cX5_addPairAndCarry zn_cX5_addPairAndCarry (by decide +kernel))
theorem dX5_addPairAndCarry_27 : decode cX5_addPairAndCarry 27 = .ok (.iload_n 3, 1) := zo_29 (zkb zk_cX5_addPairAndCarry zn_cX5_addPairAndCarry (by decide +kernel))
theorem dX5_addPairAndCarry_28 : decode cX5_addPairAndCarry 28 = .ok (.iload 4, 2) := zo_21 (b1 := 4) (zkb2 zk_cX5_addPairAndCarry zn_cX5_addPairAndCarry (by decide +kernel))
theorem dX5_addPairAndCarry_30 : decode cX5_addPairAndCarry 30 = .ok (.invokevirtual 251, 3) := zo_182 (b1 := 0) (b2 := 251) (zkb3 zk_cX5_addPairAndCarry zn_cX5_addPairAndCarry (by decide +kernel)) rfl
theorem dX5_addPairAndCarry_33 : decode cX5_addPairAndCarry 33 = .ok (.iload_n 2, 1) := zo_28 (zkb zk_cX5_addPairAndCarry zn_cX5_addPairAndCarry (by decide +kernel))
theorem dX5_addPairAndCarry_34 : decode cX5_addPairAndCarry 34 = .ok (.iload_n 3, 1) := zo_29 (zkb zk_cX5_addPairAndCarry zn_cX5_addPairAndCarry (by decide +kernel))
theorem dX5_addPairAndCarry_35 : decode cX5_addPairAndCarry 35 = .ok (.ixor, 1) := zo_130 (zkb zk_cX5_addPairAndCarry zn_cX5_addPairAndCarry (by decide +kernel))
theorem dX5_addPairAndCarry_36 : decode cX5_addPairAndCarry 36 = .ok (.iconst (-1), 1) := zo_2 (zkb zk_cX5_addPairAndCarry zn_cX5_addPairAndCarry (by decide +kernel))
theorem dX5_addPairAndCarry_37 : decode cX5_addPairAndCarry 37 = .ok (.ixor, 1) := zo_130 (zkb zk_cX5_addPairAndCarry zn_cX5_addPairAndCarry (by decide +kernel))
theorem dX5_addPairAndCarry_38 : decode cX5_addPairAndCarry 38 = .ok (.iload_n 2, 1) := zo_28 (zkb zk_cX5_addPairAndCarry zn_cX5_addPairAndCarry (by decide +kernel))
theorem dX5_addPairAndCarry_39 : decode cX5_addPairAndCarry 39 = .ok (.iload 4, 2) := zo_21 (b1 := 4) (zkb2 zk_cX5_addPairAndCarry zn_cX5_addPairAndCarry (by decide +kernel))
theorem dX5_addPairAndCarry_41 : decode cX5_addPairAndCarry 41 = .ok (.ixor, 1) := zo_130 (zkb zk_cX5_addPairAndCarry zn_cX5_addPairAndCarry (by decide +kernel))
theorem dX5_addPairAndCarry_42 : decode cX5_addPairAndCarry 42 = .ok (.iand, 1) := zo_126 (zkb zk_cX5_addPairAndCarry zn_cX5_addPairAndCarry (by decide +kernel))
theorem dX5_addPairAndCarry_43 : decode cX5_addPairAndCarry 43 = .ok (.ldc 254, 2) := zo_18 (b1 := 254) (zkb2 zk_cX5_addPairAndCarry zn_cX5_addPairAndCarry (by decide +kernel))
theorem dX5_addPairAndCarry_45 : decode cX5_addPairAndCarry 45 = .ok (.iand, 1) := zo_126 (zkb zk_cX5_addPairAndCarry zn_cX5_addPairAndCarry (by decide +kernel))
theorem dX5_addPairAndCarry_46 : decode cX5_addPairAndCarry 46 = .ok (.istore 5, 2) := zo_54 (b1 := 5) (zkb2 zk_cX5_addPairAndCarry zn_cX5_addPairAndCarry (by decide +kernel))
theorem dX5_addPairAndCarry_48 : decode cX5_addPairAndCarry 48 = .ok (.aload_n 0, 1) := zo_42 (zkb zk_cX5_addPairAndCarry zn_cX5_addPairAndCarry (by decide +kernel))
theorem dX5_addPairAndCarry_49 : decode cX5_addPairAndCarry 49 = .ok (.getfield 9, 3) := zo_180 (b1 := 0) (b2 := 9) (zkb3 zk_cX5_addPairAndCarry zn_cX5_addPairAndCarry (by decide +kernel)) rfl
theorem dX5_addPairAndCarry_52 : decode cX5_addPairAndCarry 52 = .ok (.iconst 1, 1) := zo_4 (zkb zk_cX5_addPairAndCarry zn_cX5_addPairAndCarry (by decide +kernel))
theorem dX5_addPairAndCarry_53 : decode cX5_addPairAndCarry 53 = .ok (.dup2, 1) := zo_92 (zkb zk_cX5_addPairAndCarry zn_cX5_addPairAndCarry (by decide +kernel))
theorem dX5_addPairAndCarry_54 : decode cX5_addPairAndCarry 54 = .ok (.iaload, 1) := zo_46 (zkb zk_cX5_addPairAndCarry zn_cX5_addPairAndCarry (by decide +kernel))
theorem dX5_addPairAndCarry_55 : decode cX5_addPairAndCarry 55 = .ok (.iload 5, 2) := zo_21 (b1 := 5) (zkb2 zk_cX5_addPairAndCarry zn_cX5_addPairAndCarry (by decide +kernel))
theorem dX5_addPairAndCarry_57 : decode cX5_addPairAndCarry 57 = .ok (.ifCond .eq 7, 3) := zo_153 (b1 := 0) (b2 := 7) (zkb3 zk_cX5_addPairAndCarry zn_cX5_addPairAndCarry (by decide +kernel)) rfl
theorem dX5_addPairAndCarry_60 : decode cX5_addPairAndCarry 60 = .ok (.iconst 4, 1) := zo_7 (zkb zk_cX5_addPairAndCarry zn_cX5_addPairAndCarry (by decide +kernel))
theorem dX5_addPairAndCarry_61 : decode cX5_addPairAndCarry 61 = .ok (.goto 4, 3) := zo_167 (b1 := 0) (b2 := 4) (zkb3 zk_cX5_addPairAndCarry zn_cX5_addPairAndCarry (by decide +kernel)) rfl
theorem dX5_addPairAndCarry_64 : decode cX5_addPairAndCarry 64 = .ok (.iconst 0, 1) := zo_3 (zkb zk_cX5_addPairAndCarry zn_cX5_addPairAndCarry (by decide +kernel))
theorem dX5_addPairAndCarry_65 : decode cX5_addPairAndCarry 65 = .ok (.ior, 1) := zo_128 (zkb zk_cX5_addPairAndCarry zn_cX5_addPairAndCarry (by decide +kernel))
theorem dX5_addPairAndCarry_66 : decode cX5_addPairAndCarry 66 = .ok (.iastore, 1) := zo_79 (zkb zk_cX5_addPairAndCarry zn_cX5_addPairAndCarry (by decide +kernel))
theorem dX5_addPairAndCarry_67 : decode cX5_addPairAndCarry 67 = .ok (.bipush 15, 2) := zo_16 (b1 := 15) (zkb2 zk_cX5_addPairAndCarry zn_cX5_addPairAndCarry (by decide +kernel)) rfl
theorem dX5_addPairAndCarry_69 : decode cX5_addPairAndCarry 69 = .ok (.ireturn, 1) := zo_172 (zkb zk_cX5_addPairAndCarry zn_cX5_addPairAndCarry (by decide +kernel))
def kn_cX5_putWide : Nat := 0xb14f807e047a10101d807e10107a0810821d821c1b80030400a7401008009a7e2f121d7ea800117a08101d040900b42a7f00b61d2a4f7e2f1260041b14100900b42a
theorem zk_cX5_putWide : zkd cX5_putWide.data.toList kn_cX5_putWide = true := by decide +kernel
theorem zn_cX5_putWide : cX5_putWide.data.toList.length = 66 := by decide +kernel
theorem dX5_putWide_0 : decode cX5_putWide 0 = .ok (.aload_n 0, 1) := zo_42 (zkb zk_cX5_putWide zn_cX5_putWide (by decide +kernel))
theorem dX5_putWide_1 : decode cX5_putWide 1 = .ok (.getfield 9, 3) := zo_180 (b1 := 0) (b2 := 9) (zkb3 zk_cX5_putWide zn_cX5_putWide (by decide +kernel)) rfl
theorem dX5_putWide_4 : decode cX5_putWide 4 = .ok (.bipush 20, 2) := zo_16 (b1 := 20) (zkb2 zk_cX5_putWide zn_cX5_putWide (by decide +kernel)) rfl
theorem dX5_putWide_6 : decode cX5_putWide 6 = .ok (.iload_n 1, 1) := zo_27 (zkb zk_cX5_putWide zn_cX5_putWide (by decide +kernel))
theorem dX5_putWide_7 : decode cX5_putWide 7 = .ok (.iconst 1, 1) := zo_4 (zkb zk_cX5_putWide zn_cX5_putWide (by decide +kernel))
theorem dX5_putWide_8 : decode cX5_putWide 8 = .ok (.iadd, 1) := zo_96 (zkb zk_cX5_putWide zn_cX5_putWide (by decide +kernel))
theorem dX5_putWide_9 : decode cX5_putWide 9 = .ok (.ldc 47, 2) := zo_18 (b1 := 47) (zkb2 zk_cX5_putWide zn_cX5_putWide (by decide +kernel))
theorem dX5_putWide_11 : decode cX5_putWide 11 = .ok (.iand, 1) := zo_126 (zkb zk_cX5_putWide zn_cX5_putWide (by decide +kernel))
theorem dX5_putWide_12 : decode cX5_putWide 12 = .ok (.iastore, 1) := zo_79 (zkb zk_cX5_putWide zn_cX5_putWide (by decide +kernel))
theorem dX5_putWide_13 : decode cX5_putWide 13 = .ok (.aload_n 0, 1) := zo_42 (zkb zk_cX5_putWide zn_cX5_putWide (by decide +kernel))
theorem dX5_putWide_14 : decode cX5_putWide 14 = .ok (.iload_n 3, 1) := zo_29 (zkb zk_cX5_putWide zn_cX5_putWide (by decide +kernel))
theorem dX5_putWide_15 : decode cX5_putWide 15 = .ok (.invokevirtual 127, 3) := zo_182 (b1 := 0) (b2 := 127) (zkb3 zk_cX5_putWide zn_cX5_putWide (by decide +kernel)) rfl
theorem dX5_putWide_18 : decode cX5_putWide 18 = .ok (.aload_n 0, 1) := zo_42 (zkb zk_cX5_putWide zn_cX5_putWide (by decide +kernel))
theorem dX5_putWide_19 : decode cX5_putWide 19 = .ok (.getfield 9, 3) := zo_180 (b1 := 0) (b2 := 9) (zkb3 zk_cX5_putWide zn_cX5_putWide (by decide +kernel)) rfl
theorem dX5_putWide_22 : decode cX5_putWide 22 = .ok (.iconst 1, 1) := zo_4 (zkb zk_cX5_putWide zn_cX5_putWide (by decide +kernel))
theorem dX5_putWide_23 : decode cX5_putWide 23 = .ok (.iload_n 3, 1) := zo_29 (zkb zk_cX5_putWide zn_cX5_putWide (by decide +kernel))
theorem dX5_putWide_24 : decode cX5_putWide 24 = .ok (.bipush 8, 2) := zo_16 (b1 := 8) (zkb2 zk_cX5_putWide zn_cX5_putWide (by decide +kernel)) rfl
theorem dX5_putWide_26 : decode cX5_putWide 26 = .ok (.ishr, 1) := zo_122 (zkb zk_cX5_putWide zn_cX5_putWide (by decide +kernel))
theorem dX5_putWide_27 : decode cX5_putWide 27 = .ok (.sipush 168, 3) := zo_17 (b1 := 0) (b2 := 168) (zkb3 zk_cX5_putWide zn_cX5_putWide (by decide +kernel)) rfl
theorem dX5_putWide_30 : decode cX5_putWide 30 = .ok (.iand, 1) := zo_126 (zkb zk_cX5_putWide zn_cX5_putWide (by decide +kernel))
theorem dX5_putWide_31 : decode cX5_putWide 31 = .ok (.iload_n 3, 1) := zo_29 (zkb zk_cX5_putWide zn_cX5_putWide (by decide +kernel))
theorem dX5_putWide_32 : decode cX5_putWide 32 = .ok (.ldc 47, 2) := zo_18 (b1 := 47) (zkb2 zk_cX5_putWide zn_cX5_putWide (by decide +kernel))
theorem dX5_putWide_34 : decode cX5_putWide 34 = .ok (.iand, 1) := zo_126 (zkb zk_cX5_putWide zn_cX5_putWide (by decide +kernel))
theorem dX5_putWide_35 : decode cX5_putWide 35 = .ok (.ifCond .ne 8, 3) := zo_154 (b1 := 0) (b2 := 8) (zkb3 zk_cX5_putWide zn_cX5_putWide (by decide +kernel)) rfl
theorem dX5_putWide_38 : decode cX5_putWide 38 = .ok (.bipush 64, 2) := zo_16 (b1 := 64) (zkb2 zk_cX5_putWide zn_cX5_putWide (by decide +kernel)) rfl
theorem dX5_putWide_40 : decode cX5_putWide 40 = .ok (.goto 4, 3) := zo_167 (b1 := 0) (b2 := 4) (zkb3 zk_cX5_putWide zn_cX5_putWide (by decide +kernel)) rfl
theorem dX5_putWide_43 : decode cX5_putWide 43 = .ok (.iconst 0, 1) := zo_3 (zkb zk_cX5_putWide zn_cX5_putWide (by decide +kernel))
theorem dX5_putWide_44 : decode cX5_putWide 44 = .ok (.ior, 1) := zo_128 (zkb zk_cX5_putWide zn_cX5_putWide (by decide +kernel))
theorem dX5_putWide_45 : decode cX5_putWide 45 = .ok (.iload_n 1, 1) := zo_27 (zkb zk_cX5_putWide zn_cX5_putWide (by decide +kernel))
theorem dX5_putWide_46 : decode cX5_putWide 46 = .ok (.iload_n 2, 1) := zo_28 (zkb zk_cX5_putWide zn_cX5_putWide (by decide +kernel))
theorem dX5_putWide_47 : decode cX5_putWide 47 = .ok (.ixor, 1) := zo_130 (zkb zk_cX5_putWide zn_cX5_putWide (by decide +kernel))
theorem dX5_putWide_48 : decode cX5_putWide 48 = .ok (.iload_n 3, 1) := zo_29 (zkb zk_cX5_putWide zn_cX5_putWide (by decide +kernel))
theorem dX5_putWide_49 : decode cX5_putWide 49 = .ok (.ixor, 1) := zo_130 (zkb zk_cX5_putWide zn_cX5_putWide (by decide +kernel))
theorem dX5_putWide_50 : decode cX5_putWide 50 = .ok (.bipush 8, 2) := zo_16 (b1 := 8) (zkb2 zk_cX5_putWide zn_cX5_putWide (by decide +kernel)) rfl
theorem dX5_putWide_52 : decode cX5_putWide 52 = .ok (.ishr, 1) := zo_122 (zkb zk_cX5_putWide zn_cX5_putWide (by decide +kernel))
theorem dX5_putWide_53 : decode cX5_putWide 53 = .ok (.bipush 16, 2) := zo_16 (b1 := 16) (zkb2 zk_cX5_putWide zn_cX5_putWide (by decide +kernel)) rfl
theorem dX5_putWide_55 : decode cX5_putWide 55 = .ok (.iand, 1) := zo_126 (zkb zk_cX5_putWide zn_cX5_putWide (by decide +kernel))
theorem dX5_putWide_56 : decode cX5_putWide 56 = .ok (.ior, 1) := zo_128 (zkb zk_cX5_putWide zn_cX5_putWide (by decide +kernel))
theorem dX5_putWide_57 : decode cX5_putWide 57 = .ok (.iload_n 3, 1) := zo_29 (zkb zk_cX5_putWide zn_cX5_putWide (by decide +kernel))
theorem dX5_putWide_58 : decode cX5_putWide 58 = .ok (.bipush 16, 2) := zo_16 (b1 := 16) (zkb2 zk_cX5_putWide zn_cX5_putWide (by decide +kernel)) rfl
theorem dX5_putWide_60 : decode cX5_putWide 60 = .ok (.ishr, 1) := zo_122 (zkb zk_cX5_putWide zn_cX5_putWide (by decide +kernel))
theorem dX5_putWide_61 : decode cX5_putWide 61 = .ok (.iconst 1, 1) := zo_4 (zkb zk_cX5_putWide zn_cX5_putWide (by decide +kernel))
theorem dX5_putWide_62 : decode cX5_putWide 62 = .ok (.iand, 1) := zo_126 (zkb zk_cX5_putWide zn_cX5_putWide (by decide +kernel))
theorem dX5_putWide_63 : decode cX5_putWide 63 = .ok (.ior, 1) := zo_128 (zkb zk_cX5_putWide zn_cX5_putWide (by decide +kernel))
theorem dX5_putWide_64 : decode cX5_putWide 64 = .ok (.iastore, 1) := zo_79 (zkb zk_cX5_putWide zn_cX5_putWide (by decide +kernel))
theorem dX5_putWide_65 : decode cX5_putWide 65 = .ok (.return_, 1) := zo_177 (zkb zk_cX5_putWide zn_cX5_putWide (by decide +kernel))
def kn_cX5_farPair : Nat := 0xac14109d00b63400b61c2a7a041b2a0f00a7b800b69a00b67a041b2a1c2a12009a7e041b4f7e2f1260041c14100900b42a3db500b62a
theorem zk_cX5_farPair : zkd cX5_farPair.data.toList kn_cX5_farPair = true := by decide +kernel
theorem zn_cX5_farPair : cX5_farPair.data.toList.length = 54 := by decide +kernel
theorem dX5_farPair_0 : decode cX5_farPair 0 = .ok (.aload_n 0, 1) := zo_42 (zkb zk_cX5_farPair zn_cX5_farPair (by decide +kernel))
theorem dX5_farPair_1 : decode cX5_farPair 1 = .ok (.invokevirtual 181, 3) := zo_182 (b1 := 0) (b2 := 181) (zkb3 zk_cX5_farPair zn_cX5_farPair (by decide +kernel)) rfl
theorem dX5_farPair_4 : decode cX5_farPair 4 = .ok (.istore_n 2, 1) := zo_61 (zkb zk_cX5_farPair zn_cX5_farPair (by decide +kernel))
theorem dX5_farPair_5 : decode cX5_farPair 5 = .ok (.aload_n 0, 1) := zo_42 (zkb zk_cX5_farPair zn_cX5_farPair (by decide +kernel))
theorem dX5_farPair_6 : decode cX5_farPair 6 = .ok (.getfield 9, 3) := zo_180 (b1 := 0) (b2 := 9) (zkb3 zk_cX5_farPair zn_cX5_farPair (by decide +kernel)) rfl
theorem dX5_farPair_9 : decode cX5_farPair 9 = .ok (.bipush 20, 2) := zo_16 (b1 := 20) (zkb2 zk_cX5_farPair zn_cX5_farPair (by decide +kernel)) rfl
theorem dX5_farPair_11 : decode cX5_farPair 11 = .ok (.iload_n 2, 1) := zo_28 (zkb zk_cX5_farPair zn_cX5_farPair (by decide +kernel))
theorem dX5_farPair_12 : decode cX5_farPair 12 = .ok (.iconst 1, 1) := zo_4 (zkb zk_cX5_farPair zn_cX5_farPair (by decide +kernel))
theorem dX5_farPair_13 : decode cX5_farPair 13 = .ok (.iadd, 1) := zo_96 (zkb zk_cX5_farPair zn_cX5_farPair (by decide +kernel))
theorem dX5_farPair_14 : decode cX5_farPair 14 = .ok (.ldc 47, 2) := zo_18 (b1 := 47) (zkb2 zk_cX5_farPair zn_cX5_farPair (by decide +kernel))
theorem dX5_farPair_16 : decode cX5_farPair 16 = .ok (.iand, 1) := zo_126 (zkb zk_cX5_farPair zn_cX5_farPair (by decide +kernel))
theorem dX5_farPair_17 : decode cX5_farPair 17 = .ok (.iastore, 1) := zo_79 (zkb zk_cX5_farPair zn_cX5_farPair (by decide +kernel))
theorem dX5_farPair_18 : decode cX5_farPair 18 = .ok (.iload_n 1, 1) := zo_27 (zkb zk_cX5_farPair zn_cX5_farPair (by decide +kernel))
theorem dX5_farPair_19 : decode cX5_farPair 19 = .ok (.iconst 1, 1) := zo_4 (zkb zk_cX5_farPair zn_cX5_farPair (by decide +kernel))
theorem dX5_farPair_20 : decode cX5_farPair 20 = .ok (.iand, 1) := zo_126 (zkb zk_cX5_farPair zn_cX5_farPair (by decide +kernel))
theorem dX5_farPair_21 : decode cX5_farPair 21 = .ok (.ifCond .ne 18, 3) := zo_154 (b1 := 0) (b2 := 18) (zkb3 zk_cX5_farPair zn_cX5_farPair (by decide +kernel)) rfl
theorem dX5_farPair_24 : decode cX5_farPair 24 = .ok (.aload_n 0, 1) := zo_42 (zkb zk_cX5_farPair zn_cX5_farPair (by decide +kernel))
theorem dX5_farPair_25 : decode cX5_farPair 25 = .ok (.iload_n 2, 1) := zo_28 (zkb zk_cX5_farPair zn_cX5_farPair (by decide +kernel))
theorem dX5_farPair_26 : decode cX5_farPair 26 = .ok (.aload_n 0, 1) := zo_42 (zkb zk_cX5_farPair zn_cX5_farPair (by decide +kernel))
theorem dX5_farPair_27 : decode cX5_farPair 27 = .ok (.iload_n 1, 1) := zo_27 (zkb zk_cX5_farPair zn_cX5_farPair (by decide +kernel))
theorem dX5_farPair_28 : decode cX5_farPair 28 = .ok (.iconst 1, 1) := zo_4 (zkb zk_cX5_farPair zn_cX5_farPair (by decide +kernel))
theorem dX5_farPair_29 : decode cX5_farPair 29 = .ok (.ishr, 1) := zo_122 (zkb zk_cX5_farPair zn_cX5_farPair (by decide +kernel))
theorem dX5_farPair_30 : decode cX5_farPair 30 = .ok (.invokevirtual 154, 3) := zo_182 (b1 := 0) (b2 := 154) (zkb3 zk_cX5_farPair zn_cX5_farPair (by decide +kernel)) rfl
theorem dX5_farPair_33 : decode cX5_farPair 33 = .ok (.invokevirtual 184, 3) := zo_182 (b1 := 0) (b2 := 184) (zkb3 zk_cX5_farPair zn_cX5_farPair (by decide +kernel)) rfl
theorem dX5_farPair_36 : decode cX5_farPair 36 = .ok (.goto 15, 3) := zo_167 (b1 := 0) (b2 := 15) (zkb3 zk_cX5_farPair zn_cX5_farPair (by decide +kernel)) rfl
theorem dX5_farPair_39 : decode cX5_farPair 39 = .ok (.aload_n 0, 1) := zo_42 (zkb zk_cX5_farPair zn_cX5_farPair (by decide +kernel))
theorem dX5_farPair_40 : decode cX5_farPair 40 = .ok (.iload_n 1, 1) := zo_27 (zkb zk_cX5_farPair zn_cX5_farPair (by decide +kernel))
theorem dX5_farPair_41 : decode cX5_farPair 41 = .ok (.iconst 1, 1) := zo_4 (zkb zk_cX5_farPair zn_cX5_farPair (by decide +kernel))
theorem dX5_farPair_42 : decode cX5_farPair 42 = .ok (.ishr, 1) := zo_122 (zkb zk_cX5_farPair zn_cX5_farPair (by decide +kernel))
theorem dX5_farPair_43 : decode cX5_farPair 43 = .ok (.aload_n 0, 1) := zo_42 (zkb zk_cX5_farPair zn_cX5_farPair (by decide +kernel))
theorem dX5_farPair_44 : decode cX5_farPair 44 = .ok (.iload_n 2, 1) := zo_28 (zkb zk_cX5_farPair zn_cX5_farPair (by decide +kernel))
theorem dX5_farPair_45 : decode cX5_farPair 45 = .ok (.invokevirtual 52, 3) := zo_182 (b1 := 0) (b2 := 52) (zkb3 zk_cX5_farPair zn_cX5_farPair (by decide +kernel)) rfl
theorem dX5_farPair_48 : decode cX5_farPair 48 = .ok (.invokevirtual 157, 3) := zo_182 (b1 := 0) (b2 := 157) (zkb3 zk_cX5_farPair zn_cX5_farPair (by decide +kernel)) rfl
theorem dX5_farPair_51 : decode cX5_farPair 51 = .ok (.bipush 20, 2) := zo_16 (b1 := 20) (zkb2 zk_cX5_farPair zn_cX5_farPair (by decide +kernel)) rfl
theorem dX5_farPair_53 : decode cX5_farPair 53 = .ok (.ireturn, 1) := zo_172 (zkb zk_cX5_farPair zn_cX5_farPair (by decide +kernel))
def rmX5_farPair : Room := { frames := 3, cells := 0, slots := 0, locals := 68 }
def wzX5_farPair : List Cond := .code yX5_farPair cX5_farPair 3 (some .int) :: wsL_law
theorem hinX5_farPair_X50 : ∀ w ∈ wsX50, w ∈ wzX5_farPair := fun w h => List.mem_cons_of_mem _ (inlX5 w h)
def fX5_farPair_51  (σ : zSt)  : Option (zSt × Int32) :=
  some (σ, 20)
def fX5_farPair  (σ : zSt) (x1 : Int32) : Option (zSt × Int32) :=
  zbi (fX5_fetchWord σ ) (fun σ1 v2 =>
  zck (zin 20 29) (zbv (zsi σ1 36 ((20 : Int32).toNatClampNeg) ((v2 + 1) &&& 65535)) (fun σ3 =>
  if (x1 &&& 1) = 0 then zbi (fX5_pair σ3 (x1 >>> ((1 : Int32) &&& 31))) (fun σ7 v8 =>
  zbu (fX5_writeWord σ7 v2 v8) (fun σ9 =>
  fX5_farPair_51 σ9)) else
  zbi (fX5_readWord σ3 v2) (fun σ4 v5 =>
  zbu (fX5_putPair σ4 (x1 >>> ((1 : Int32) &&& 31)) v5) (fun σ6 =>
  fX5_farPair_51 σ6)))))
set_option maxRecDepth 20000 in
set_option maxHeartbeats 4000000 in
theorem bX5_farPair_51 {st : Nat → Nat} {p : Program} {l : Launch} {e : Env} {s : State} {m : MethodId} {args : Array Value} {below : List Frame} {meth : Method} {c : Code} {D : va_G} {A : Nat → Prop} {ad : Nat → Nat} {cy : Nat → ClassId} (hC : zC p m c cX5_farPair 3 s args wzX5_farPair RX5 meth (some .int))  {res : zSt × Int32} {H : Heap} {locs : List Loc} {σ : zSt} {ls : Array Slot}  (hI : zI st D (tC cy) (wC ad cy σ) A s H locs) (hl : lv_has ls 3 []) (hf : fX5_farPair_51  σ  = some res) : W p l e rmX5_farPair s m args below meth c H locs 0 0 (zQi below args s D (tC cy) (wC ad cy) A res) (F0 m 51 ls []) := by
  have hx := hC.1
  have hb := hC.2.1
  unfold fX5_farPair_51 at hf
  refine lv_bipush (v := 20) hx hb dX5_farPair_51 (by decide) ?_
  exact z_ireturn hC hI hf dX5_farPair_53
set_option maxRecDepth 20000 in
set_option maxHeartbeats 4000000 in
theorem bX5_farPair {st : Nat → Nat} {p : Program} {l : Launch} {e : Env} {s : State} {m : MethodId} {args : Array Value} {below : List Frame} {meth : Method} {c : Code} {D : va_G} {A : Nat → Prop} {ad : Nat → Nat} {cy : Nat → ClassId} (hC : zC p m c cX5_farPair 3 s args wzX5_farPair RX5 meth (some .int))  {res : zSt × Int32} {H : Heap} {locs : List Loc} {σ : zSt} {ls : Array Slot} {x1 : Int32} (hI : zI st D (tC cy) (wC ad cy σ) A s H locs) (hl : lv_has ls 3 [(0, .ref (ad 7)), (1, .int x1)]) (hf : fX5_farPair  σ x1 = some res) : W p l e rmX5_farPair s m args below meth c H locs 0 0 (zQi below args s D (tC cy) (wC ad cy) A res) (F0 m 0 ls []) := by
  have hx := hC.1
  have hb := hC.2.1
  unfold fX5_farPair at hf
  refine lv_aload_n hx hb dX5_farPair_0 rfl (lv_at hl 0 rfl) ?_
  obtain ⟨σ1, v2, g1, hf⟩ := zbi_use hf
  refine z_callVi (As := []) (rest := []) hC hI (cX5_fetchWord_met st l D ad cy σ  _ g1) (zgV zw30_15 zw30_16 zw30_17 zw2_21 zw30_18) rfl ⟨rfl, rfl⟩ 0 hdX5_fetchWord ⟨Nat.le_of_ble_eq_true rfl, Nat.le_of_ble_eq_true rfl⟩ rfl rfl (wC_e7 ad cy σ) rfl hl rfl (Nat.le_of_ble_eq_true rfl) dX5_farPair_1 ⟨Nat.zero_le _, Nat.zero_le _⟩ (fun H locs hI => ?_)
  refine lv_istore_n (lv' := [(2, .int v2), (0, .ref (ad 7)), (1, .int x1)]) hx hb dX5_farPair_4 rfl hl (by decide) rfl (fun ls hl => ?_)
  refine lv_aload_n hx hb dX5_farPair_5 rfl (lv_at hl 1 rfl) ?_
  refine z_get hC hI hinX5_farPair_X50 7 (wC_e7 ad cy σ1) rfl 2 (by decide) (List.mem_cons_of_mem _ zw7_5) rfl dX5_farPair_6 ?_
  refine lv_bipush (v := 20) hx hb dX5_farPair_9 (by decide) ?_
  refine lv_iload_n hx hb dX5_farPair_11 rfl (lv_at hl 0 rfl) ?_
  refine lv_iconst (v := 1) hx hb dX5_farPair_12 (by decide) ?_
  refine lv_iadd hx hb dX5_farPair_13 ?_
  refine lv_ldc (v := 65535) hx hb hC.2.2.2.1 (hC.2.2.2.2.1 _ (List.mem_cons_of_mem _ zw20_6)) dX5_farPair_14 ?_
  refine lv_iand hx hb dX5_farPair_16 ?_
  obtain ⟨q, hf⟩ := zck_use hf
  obtain ⟨σ3, eσ3⟩ : ∃ z, z = zsi σ1 36 ((20 : Int32).toNatClampNeg) ((v2 + 1) &&& 65535) := ⟨_, rfl⟩
  replace hf := zbv_use eσ3 hf
  refine z_iast hC hI 36 23 (wC_e36 ad cy σ1) (tC_t36 cy) q ((wC_s36 ad cy σ1 _ _).trans (congrArg (wC ad cy) eσ3.symm)) dX5_farPair_17 (fun H locs hI => ?_)
  refine lv_iload_n hx hb dX5_farPair_18 rfl (lv_at hl 2 rfl) ?_
  refine lv_iconst (v := 1) hx hb dX5_farPair_19 (by decide) ?_
  refine lv_iand hx hb dX5_farPair_20 ?_
  refine lv_if_ne (tgt := 39) hx hb dX5_farPair_21 (by decide) (fun q => ?_) (fun q => ?_)
  · replace hf := zif_f q hf
    refine lv_aload_n hx hb dX5_farPair_39 rfl (lv_at hl 1 rfl) ?_
    refine lv_iload_n hx hb dX5_farPair_40 rfl (lv_at hl 2 rfl) ?_
    refine lv_iconst (v := 1) hx hb dX5_farPair_41 (by decide) ?_
    refine lv_ishr hx hb dX5_farPair_42 ?_
    refine lv_aload_n hx hb dX5_farPair_43 rfl (lv_at hl 1 rfl) ?_
    refine lv_iload_n hx hb dX5_farPair_44 rfl (lv_at hl 0 rfl) ?_
    obtain ⟨σ4, v5, g4, hf⟩ := zbi_use hf
    refine z_callVi (As := [.int v2]) (rest := [.int (x1 >>> ((1 : Int32) &&& 31)), .ref (ad 7)]) hC hI (cX5_readWord_met st l D ad cy σ3 v2 _ g4) (zgV zw21_2 zw21_3 zw21_4 zw2_21 zw21_5) rfl ⟨rfl, rfl⟩ 1 hdX5_readWord ⟨Nat.le_of_ble_eq_true rfl, Nat.le_of_ble_eq_true rfl⟩ rfl rfl (wC_e7 ad cy σ3) rfl hl rfl (Nat.le_of_ble_eq_true rfl) dX5_farPair_45 ⟨Nat.zero_le _, Nat.zero_le _⟩ (fun H locs hI => ?_)
    obtain ⟨σ6, g6, hf⟩ := zbu_use hf
    refine z_callVu (As := [.int (x1 >>> ((1 : Int32) &&& 31)), .int v5]) (rest := []) hC hI (cX5_putPair_met st l D ad cy σ4 (x1 >>> ((1 : Int32) &&& 31)) v5 _ g6) (zgV zw30_23 zw31_0 zw31_1 zw2_21 zw31_2) rfl ⟨rfl, rfl⟩ 2 hdX5_putPair ⟨Nat.le_of_ble_eq_true rfl, Nat.le_of_ble_eq_true rfl⟩ rfl rfl (wC_e7 ad cy σ4) rfl hl rfl (Nat.le_of_ble_eq_true rfl) dX5_farPair_48 ⟨Nat.zero_le _, Nat.zero_le _⟩ (fun H locs hI => ?_)
    exact bX5_farPair_51 hC  hI (lv_sub hl [] rfl) hf
  replace hf := zif_t q hf
  refine lv_aload_n hx hb dX5_farPair_24 rfl (lv_at hl 1 rfl) ?_
  refine lv_iload_n hx hb dX5_farPair_25 rfl (lv_at hl 0 rfl) ?_
  refine lv_aload_n hx hb dX5_farPair_26 rfl (lv_at hl 1 rfl) ?_
  refine lv_iload_n hx hb dX5_farPair_27 rfl (lv_at hl 2 rfl) ?_
  refine lv_iconst (v := 1) hx hb dX5_farPair_28 (by decide) ?_
  refine lv_ishr hx hb dX5_farPair_29 ?_
  obtain ⟨σ7, v8, g7, hf⟩ := zbi_use hf
  refine z_callVi (As := [.int (x1 >>> ((1 : Int32) &&& 31))]) (rest := [.int v2, .ref (ad 7)]) hC hI (cX5_pair_met st l D ad cy σ3 (x1 >>> ((1 : Int32) &&& 31)) _ g7) (zgV zw29_19 zw29_20 zw29_21 zw2_21 zw29_22) rfl ⟨rfl, rfl⟩ 1 hdX5_pair ⟨Nat.le_of_ble_eq_true rfl, Nat.le_of_ble_eq_true rfl⟩ rfl rfl (wC_e7 ad cy σ3) rfl hl rfl (Nat.le_of_ble_eq_true rfl) dX5_farPair_30 ⟨Nat.zero_le _, Nat.zero_le _⟩ (fun H locs hI => ?_)
  obtain ⟨σ9, g9, hf⟩ := zbu_use hf
  refine z_callVu (As := [.int v2, .int v8]) (rest := []) hC hI (cX5_writeWord_met st l D ad cy σ7 v2 v8 _ g9) (zgV zw30_19 zw30_20 zw30_21 zw2_21 zw30_22) rfl ⟨rfl, rfl⟩ 2 hdX5_writeWord ⟨Nat.le_of_ble_eq_true rfl, Nat.le_of_ble_eq_true rfl⟩ rfl rfl (wC_e7 ad cy σ7) rfl hl rfl (Nat.le_of_ble_eq_true rfl) dX5_farPair_33 ⟨Nat.zero_le _, Nat.zero_le _⟩ (fun H locs hI => ?_)
  refine lv_goto (tgt := 51) hx hb dX5_farPair_36 (by decide) ?_
  exact bX5_farPair_51 hC  hI (lv_sub hl [] rfl) hf
set_option maxRecDepth 20000 in
theorem cX5_farPair_met (st : Nat → Nat) (l : Launch) (D : va_G) (ad : Nat → Nat) (cy : Nat → ClassId) (σ : zSt) (x1 : Int32) (res : zSt × Int32) (hf : fX5_farPair σ x1 = some res) (sz : Nat) : zMi st l yX5_farPair wzX5_farPair rmX5_farPair [.ref (ad 7), .int x1] D (tC cy) (wC ad cy) sz σ res :=
  zMi.of (cc := cX5_farPair) (maxL := 3) (ret := (some .int)) (by decide) rfl (Nat.le_of_ble_eq_true rfl) (fun p e s m args below meth c hC A hI ls hl => bX5_farPair hC hI hl hf)
theorem hdX5_farPair : yX5_farPair.cls = RX5 ∧ yX5_farPair.cls ≠ "java/lang/invoke/MethodHandle" ∧ yX5_farPair.cls ≠ "java/lang/invoke/VarHandle" ∧ (parseMethodDescriptor yX5_farPair.desc).map (fun d => d.parameters.length) = some 1 := by decide +kernel
def rmX5_putWide : Room := { frames := 2, cells := 0, slots := 0, locals := 43 }
def wzX5_putWide : List Cond := .code yX5_putWide cX5_putWide 4 none :: wsL_law
theorem hinX5_putWide_X50 : ∀ w ∈ wsX50, w ∈ wzX5_putWide := fun w h => List.mem_cons_of_mem _ (inlX5 w h)
def fX5_putWide_44  (σ : zSt) (x1 : Int32) (x2 : Int32) (x3 : Int32) (s0 : Int32) (s1 : Int32) (s2 : Int32) : Option (zSt) :=
  zck (zin s2 29) (zbv (zsi σ 36 (s2.toNatClampNeg) (((s1 ||| s0) ||| ((((x1 ^^^ x2) ^^^ x3) >>> ((8 : Int32) &&& 31)) &&& 16)) ||| ((x3 >>> ((16 : Int32) &&& 31)) &&& 1))) (fun σ1 =>
  some σ1))
def fX5_putWide  (σ : zSt) (x1 : Int32) (x2 : Int32) (x3 : Int32) : Option (zSt) :=
  zck (zin 20 29) (zbv (zsi σ 36 ((20 : Int32).toNatClampNeg) ((x1 + 1) &&& 65535)) (fun σ2 =>
  zbu (fX5_putHl σ2 x3) (fun σ3 =>
  if (x3 &&& 65535) = 0 then fX5_putWide_44 σ3 x1 x2 x3 64 ((x3 >>> ((8 : Int32) &&& 31)) &&& 168) 1 else
  fX5_putWide_44 σ3 x1 x2 x3 0 ((x3 >>> ((8 : Int32) &&& 31)) &&& 168) 1)))
set_option maxRecDepth 20000 in
set_option maxHeartbeats 4000000 in
theorem bX5_putWide_44 {st : Nat → Nat} {p : Program} {l : Launch} {e : Env} {s : State} {m : MethodId} {args : Array Value} {below : List Frame} {meth : Method} {c : Code} {D : va_G} {A : Nat → Prop} {ad : Nat → Nat} {cy : Nat → ClassId} (hC : zC p m c cX5_putWide 4 s args wzX5_putWide RX5 meth none)  {res : zSt} {H : Heap} {locs : List Loc} {σ : zSt} {ls : Array Slot} {x1 : Int32} {x2 : Int32} {x3 : Int32} {s0 : Int32} {s1 : Int32} {s2 : Int32} (hI : zI st D (tC cy) (wC ad cy σ) A s H locs) (hl : lv_has ls 4 [(1, .int x1), (2, .int x2), (3, .int x3)]) (hf : fX5_putWide_44  σ x1 x2 x3 s0 s1 s2 = some res) : W p l e rmX5_putWide s m args below meth c H locs 0 0 (zQu below args s D (tC cy) (wC ad cy) A res) (F0 m 44 ls [.int s0, .int s1, .int s2, .ref (ad 36)]) := by
  have hx := hC.1
  have hb := hC.2.1
  unfold fX5_putWide_44 at hf
  refine lv_ior hx hb dX5_putWide_44 ?_
  refine lv_iload_n hx hb dX5_putWide_45 rfl (lv_at hl 0 rfl) ?_
  refine lv_iload_n hx hb dX5_putWide_46 rfl (lv_at hl 1 rfl) ?_
  refine lv_ixor hx hb dX5_putWide_47 ?_
  refine lv_iload_n hx hb dX5_putWide_48 rfl (lv_at hl 2 rfl) ?_
  refine lv_ixor hx hb dX5_putWide_49 ?_
  refine lv_bipush (v := 8) hx hb dX5_putWide_50 (by decide) ?_
  refine lv_ishr hx hb dX5_putWide_52 ?_
  refine lv_bipush (v := 16) hx hb dX5_putWide_53 (by decide) ?_
  refine lv_iand hx hb dX5_putWide_55 ?_
  refine lv_ior hx hb dX5_putWide_56 ?_
  refine lv_iload_n hx hb dX5_putWide_57 rfl (lv_at hl 2 rfl) ?_
  refine lv_bipush (v := 16) hx hb dX5_putWide_58 (by decide) ?_
  refine lv_ishr hx hb dX5_putWide_60 ?_
  refine lv_iconst (v := 1) hx hb dX5_putWide_61 (by decide) ?_
  refine lv_iand hx hb dX5_putWide_62 ?_
  refine lv_ior hx hb dX5_putWide_63 ?_
  obtain ⟨q, hf⟩ := zck_use hf
  obtain ⟨σ1, eσ1⟩ : ∃ z, z = zsi σ 36 (s2.toNatClampNeg) (((s1 ||| s0) ||| ((((x1 ^^^ x2) ^^^ x3) >>> ((8 : Int32) &&& 31)) &&& 16)) ||| ((x3 >>> ((16 : Int32) &&& 31)) &&& 1)) := ⟨_, rfl⟩
  replace hf := zbv_use eσ1 hf
  refine z_iast hC hI 36 23 (wC_e36 ad cy σ) (tC_t36 cy) q ((wC_s36 ad cy σ _ _).trans (congrArg (wC ad cy) eσ1.symm)) dX5_putWide_64 (fun H locs hI => ?_)
  exact z_return hC hI hf dX5_putWide_65
set_option maxRecDepth 20000 in
set_option maxHeartbeats 4000000 in
theorem bX5_putWide {st : Nat → Nat} {p : Program} {l : Launch} {e : Env} {s : State} {m : MethodId} {args : Array Value} {below : List Frame} {meth : Method} {c : Code} {D : va_G} {A : Nat → Prop} {ad : Nat → Nat} {cy : Nat → ClassId} (hC : zC p m c cX5_putWide 4 s args wzX5_putWide RX5 meth none)  {res : zSt} {H : Heap} {locs : List Loc} {σ : zSt} {ls : Array Slot} {x1 : Int32} {x2 : Int32} {x3 : Int32} (hI : zI st D (tC cy) (wC ad cy σ) A s H locs) (hl : lv_has ls 4 [(0, .ref (ad 7)), (1, .int x1), (2, .int x2), (3, .int x3)]) (hf : fX5_putWide  σ x1 x2 x3 = some res) : W p l e rmX5_putWide s m args below meth c H locs 0 0 (zQu below args s D (tC cy) (wC ad cy) A res) (F0 m 0 ls []) := by
  have hx := hC.1
  have hb := hC.2.1
  unfold fX5_putWide at hf
  refine lv_aload_n hx hb dX5_putWide_0 rfl (lv_at hl 0 rfl) ?_
  refine z_get hC hI hinX5_putWide_X50 7 (wC_e7 ad cy σ) rfl 2 (by decide) (List.mem_cons_of_mem _ zw7_5) rfl dX5_putWide_1 ?_
  refine lv_bipush (v := 20) hx hb dX5_putWide_4 (by decide) ?_
  refine lv_iload_n hx hb dX5_putWide_6 rfl (lv_at hl 1 rfl) ?_
  refine lv_iconst (v := 1) hx hb dX5_putWide_7 (by decide) ?_
  refine lv_iadd hx hb dX5_putWide_8 ?_
  refine lv_ldc (v := 65535) hx hb hC.2.2.2.1 (hC.2.2.2.2.1 _ (List.mem_cons_of_mem _ zw20_6)) dX5_putWide_9 ?_
  refine lv_iand hx hb dX5_putWide_11 ?_
  obtain ⟨q, hf⟩ := zck_use hf
  obtain ⟨σ2, eσ2⟩ : ∃ z, z = zsi σ 36 ((20 : Int32).toNatClampNeg) ((x1 + 1) &&& 65535) := ⟨_, rfl⟩
  replace hf := zbv_use eσ2 hf
  refine z_iast hC hI 36 23 (wC_e36 ad cy σ) (tC_t36 cy) q ((wC_s36 ad cy σ _ _).trans (congrArg (wC ad cy) eσ2.symm)) dX5_putWide_12 (fun H locs hI => ?_)
  refine lv_aload_n hx hb dX5_putWide_13 rfl (lv_at hl 0 rfl) ?_
  refine lv_iload_n hx hb dX5_putWide_14 rfl (lv_at hl 3 rfl) ?_
  obtain ⟨σ3, g3, hf⟩ := zbu_use hf
  refine z_callVu (As := [.int x3]) (rest := []) hC hI (cX5_putHl_met st l D ad cy σ2 x3 _ g3) (zgV zw30_3 zw30_4 zw30_5 zw2_21 zw30_6) rfl ⟨rfl, rfl⟩ 1 hdX5_putHl ⟨Nat.le_of_ble_eq_true rfl, Nat.le_of_ble_eq_true rfl⟩ rfl rfl (wC_e7 ad cy σ2) rfl hl rfl (Nat.le_of_ble_eq_true rfl) dX5_putWide_15 ⟨Nat.zero_le _, Nat.zero_le _⟩ (fun H locs hI => ?_)
  refine lv_aload_n hx hb dX5_putWide_18 rfl (lv_at hl 0 rfl) ?_
  refine z_get hC hI hinX5_putWide_X50 7 (wC_e7 ad cy σ3) rfl 2 (by decide) (List.mem_cons_of_mem _ zw7_5) rfl dX5_putWide_19 ?_
  refine lv_iconst (v := 1) hx hb dX5_putWide_22 (by decide) ?_
  refine lv_iload_n hx hb dX5_putWide_23 rfl (lv_at hl 3 rfl) ?_
  refine lv_bipush (v := 8) hx hb dX5_putWide_24 (by decide) ?_
  refine lv_ishr hx hb dX5_putWide_26 ?_
  refine lv_sipush (v := 168) hx hb dX5_putWide_27 (by decide) ?_
  refine lv_iand hx hb dX5_putWide_30 ?_
  refine lv_iload_n hx hb dX5_putWide_31 rfl (lv_at hl 3 rfl) ?_
  refine lv_ldc (v := 65535) hx hb hC.2.2.2.1 (hC.2.2.2.2.1 _ (List.mem_cons_of_mem _ zw20_6)) dX5_putWide_32 ?_
  refine lv_iand hx hb dX5_putWide_34 ?_
  refine lv_if_ne (tgt := 43) hx hb dX5_putWide_35 (by decide) (fun q => ?_) (fun q => ?_)
  · replace hf := zif_f q hf
    refine lv_iconst (v := 0) hx hb dX5_putWide_43 (by decide) ?_
    exact bX5_putWide_44 hC  hI (lv_sub hl [1, 2, 3] rfl) hf
  replace hf := zif_t q hf
  refine lv_bipush (v := 64) hx hb dX5_putWide_38 (by decide) ?_
  refine lv_goto (tgt := 44) hx hb dX5_putWide_40 (by decide) ?_
  exact bX5_putWide_44 hC  hI (lv_sub hl [1, 2, 3] rfl) hf
set_option maxRecDepth 20000 in
theorem cX5_putWide_met (st : Nat → Nat) (l : Launch) (D : va_G) (ad : Nat → Nat) (cy : Nat → ClassId) (σ : zSt) (x1 : Int32) (x2 : Int32) (x3 : Int32) (res : zSt) (hf : fX5_putWide σ x1 x2 x3 = some res) (sz : Nat) : zMu st l yX5_putWide wzX5_putWide rmX5_putWide [.ref (ad 7), .int x1, .int x2, .int x3] D (tC cy) (wC ad cy) sz σ res :=
  zMu.of (cc := cX5_putWide) (maxL := 4) (ret := none) (by decide) rfl (Nat.le_of_ble_eq_true rfl) (fun p e s m args below meth c hC A hI ls hl => bX5_putWide hC hI hl hf)
theorem hdX5_putWide : yX5_putWide.cls = RX5 ∧ yX5_putWide.cls ≠ "java/lang/invoke/MethodHandle" ∧ yX5_putWide.cls ≠ "java/lang/invoke/VarHandle" ∧ (parseMethodDescriptor yX5_putWide.desc).map (fun d => d.parameters.length) = some 3 := by decide +kernel
def rmX5_takePair : Room := { frames := 3, cells := 0, slots := 0, locals := 66 }
def wzX5_takePair : List Cond := .code yX5_takePair cX5_takePair 6 (some .int) :: wsL_law
theorem hinX5_takePair_X50 : ∀ w ∈ wsX50, w ∈ wzX5_takePair := fun w h => List.mem_cons_of_mem _ (inlX5 w h)
def fX5_takePair_63  (σ : zSt) (s0 : Int32) (s1 : Int32) (s2 : Int32) : Option (zSt × Int32) :=
  zck (zin s2 29) (zbv (zsi σ 36 (s2.toNatClampNeg) (s1 ||| (s0 ||| 2))) (fun σ1 =>
  some (σ1, 15)))
def fX5_takePair  (σ : zSt) (x1 : Int32) : Option (zSt × Int32) :=
  zbi (fX5_hl σ ) (fun σ2 v3 =>
  zbi (fX5_pair σ2 x1) (fun σ4 v5 =>
  zck (zin 1 29) (
  zbv ((v3 - v5) - ((zgi σ4 36 (1 : Int32).toNatClampNeg) &&& 1)) (fun v6 =>
  zbu (fX5_putWide σ4 v3 v5 v6) (fun σ7 =>
  zbv (((v3 ^^^ v5) &&& (v3 ^^^ v6)) &&& 32768) (fun v8 =>
  zck (zin 1 29) (
  if v8 = 0 then fX5_takePair_63 σ7 0 (zgi σ7 36 (1 : Int32).toNatClampNeg) 1 else
  fX5_takePair_63 σ7 4 (zgi σ7 36 (1 : Int32).toNatClampNeg) 1)))))))
set_option maxRecDepth 20000 in
set_option maxHeartbeats 4000000 in
theorem bX5_takePair_63 {st : Nat → Nat} {p : Program} {l : Launch} {e : Env} {s : State} {m : MethodId} {args : Array Value} {below : List Frame} {meth : Method} {c : Code} {D : va_G} {A : Nat → Prop} {ad : Nat → Nat} {cy : Nat → ClassId} (hC : zC p m c cX5_takePair 6 s args wzX5_takePair RX5 meth (some .int))  {res : zSt × Int32} {H : Heap} {locs : List Loc} {σ : zSt} {ls : Array Slot} {s0 : Int32} {s1 : Int32} {s2 : Int32} (hI : zI st D (tC cy) (wC ad cy σ) A s H locs) (hl : lv_has ls 6 []) (hf : fX5_takePair_63  σ s0 s1 s2 = some res) : W p l e rmX5_takePair s m args below meth c H locs 0 0 (zQi below args s D (tC cy) (wC ad cy) A res) (F0 m 63 ls [.int s0, .int s1, .int s2, .ref (ad 36)]) := by
  have hx := hC.1
  have hb := hC.2.1
  unfold fX5_takePair_63 at hf
  refine lv_iconst (v := 2) hx hb dX5_takePair_63 (by decide) ?_
  refine lv_ior hx hb dX5_takePair_64 ?_
  refine lv_ior hx hb dX5_takePair_65 ?_
  obtain ⟨q, hf⟩ := zck_use hf
  obtain ⟨σ1, eσ1⟩ : ∃ z, z = zsi σ 36 (s2.toNatClampNeg) (s1 ||| (s0 ||| 2)) := ⟨_, rfl⟩
  replace hf := zbv_use eσ1 hf
  refine z_iast hC hI 36 23 (wC_e36 ad cy σ) (tC_t36 cy) q ((wC_s36 ad cy σ _ _).trans (congrArg (wC ad cy) eσ1.symm)) dX5_takePair_66 (fun H locs hI => ?_)
  refine lv_bipush (v := 15) hx hb dX5_takePair_67 (by decide) ?_
  exact z_ireturn hC hI hf dX5_takePair_69
set_option maxRecDepth 20000 in
set_option maxHeartbeats 4000000 in
theorem bX5_takePair {st : Nat → Nat} {p : Program} {l : Launch} {e : Env} {s : State} {m : MethodId} {args : Array Value} {below : List Frame} {meth : Method} {c : Code} {D : va_G} {A : Nat → Prop} {ad : Nat → Nat} {cy : Nat → ClassId} (hC : zC p m c cX5_takePair 6 s args wzX5_takePair RX5 meth (some .int))  {res : zSt × Int32} {H : Heap} {locs : List Loc} {σ : zSt} {ls : Array Slot} {x1 : Int32} (hI : zI st D (tC cy) (wC ad cy σ) A s H locs) (hl : lv_has ls 6 [(0, .ref (ad 7)), (1, .int x1)]) (hf : fX5_takePair  σ x1 = some res) : W p l e rmX5_takePair s m args below meth c H locs 0 0 (zQi below args s D (tC cy) (wC ad cy) A res) (F0 m 0 ls []) := by
  have hx := hC.1
  have hb := hC.2.1
  unfold fX5_takePair at hf
  refine lv_aload_n hx hb dX5_takePair_0 rfl (lv_at hl 0 rfl) ?_
  obtain ⟨σ2, v3, g2, hf⟩ := zbi_use hf
  refine z_callVi (As := []) (rest := []) hC hI (cX5_hl_met st l D ad cy σ  _ g2) (zgV zw29_15 zw29_16 zw29_17 zw2_21 zw29_18) rfl ⟨rfl, rfl⟩ 0 hdX5_hl ⟨Nat.le_of_ble_eq_true rfl, Nat.le_of_ble_eq_true rfl⟩ rfl rfl (wC_e7 ad cy σ) rfl hl rfl (Nat.le_of_ble_eq_true rfl) dX5_takePair_1 ⟨Nat.zero_le _, Nat.zero_le _⟩ (fun H locs hI => ?_)
  refine lv_istore_n (lv' := [(2, .int v3), (0, .ref (ad 7)), (1, .int x1)]) hx hb dX5_takePair_4 rfl hl (by decide) rfl (fun ls hl => ?_)
  refine lv_aload_n hx hb dX5_takePair_5 rfl (lv_at hl 1 rfl) ?_
  refine lv_iload_n hx hb dX5_takePair_6 rfl (lv_at hl 2 rfl) ?_
  obtain ⟨σ4, v5, g4, hf⟩ := zbi_use hf
  refine z_callVi (As := [.int x1]) (rest := []) hC hI (cX5_pair_met st l D ad cy σ2 x1 _ g4) (zgV zw29_19 zw29_20 zw29_21 zw2_21 zw29_22) rfl ⟨rfl, rfl⟩ 1 hdX5_pair ⟨Nat.le_of_ble_eq_true rfl, Nat.le_of_ble_eq_true rfl⟩ rfl rfl (wC_e7 ad cy σ2) rfl hl rfl (Nat.le_of_ble_eq_true rfl) dX5_takePair_7 ⟨Nat.zero_le _, Nat.zero_le _⟩ (fun H locs hI => ?_)
  refine lv_istore_n (lv' := [(3, .int v5), (2, .int v3), (0, .ref (ad 7)), (1, .int x1)]) hx hb dX5_takePair_10 rfl hl (by decide) rfl (fun ls hl => ?_)
  refine lv_iload_n hx hb dX5_takePair_11 rfl (lv_at hl 1 rfl) ?_
  refine lv_iload_n hx hb dX5_takePair_12 rfl (lv_at hl 0 rfl) ?_
  refine lv_isub hx hb dX5_takePair_13 ?_
  refine lv_aload_n hx hb dX5_takePair_14 rfl (lv_at hl 2 rfl) ?_
  refine z_get hC hI hinX5_takePair_X50 7 (wC_e7 ad cy σ4) rfl 2 (by decide) (List.mem_cons_of_mem _ zw7_5) rfl dX5_takePair_15 ?_
  refine lv_iconst (v := 1) hx hb dX5_takePair_18 (by decide) ?_
  obtain ⟨q, hf⟩ := zck_use hf
  refine z_iald hC hI 36 23 (wC_e36 ad cy σ4) (tC_t36 cy) q dX5_takePair_19 ?_
  refine lv_iconst (v := 1) hx hb dX5_takePair_20 (by decide) ?_
  refine lv_iand hx hb dX5_takePair_21 ?_
  refine lv_isub hx hb dX5_takePair_22 ?_
  refine lv_topi (fun v6 ev6 => ?_)
  replace hf := zbv_use ev6 hf
  refine lv_istore (lv' := [(4, .int v6), (3, .int v5), (2, .int v3), (0, .ref (ad 7)), (1, .int x1)]) hx hb dX5_takePair_23 hl (by decide) rfl (fun ls hl => ?_)
  refine lv_aload_n hx hb dX5_takePair_25 rfl (lv_at hl 3 rfl) ?_
  refine lv_iload_n hx hb dX5_takePair_26 rfl (lv_at hl 2 rfl) ?_
  refine lv_iload_n hx hb dX5_takePair_27 rfl (lv_at hl 1 rfl) ?_
  refine lv_iload hx hb dX5_takePair_28 (lv_at hl 0 rfl) ?_
  obtain ⟨σ7, g7, hf⟩ := zbu_use hf
  refine z_callVu (As := [.int v3, .int v5, .int v6]) (rest := []) hC hI (cX5_putWide_met st l D ad cy σ4 v3 v5 v6 _ g7) (zgV zw29_23 zw30_0 zw30_1 zw2_21 zw30_2) rfl ⟨rfl, rfl⟩ 3 hdX5_putWide ⟨Nat.le_of_ble_eq_true rfl, Nat.le_of_ble_eq_true rfl⟩ rfl rfl (wC_e7 ad cy σ4) rfl hl rfl (Nat.le_of_ble_eq_true rfl) dX5_takePair_30 ⟨Nat.zero_le _, Nat.zero_le _⟩ (fun H locs hI => ?_)
  refine lv_iload_n hx hb dX5_takePair_33 rfl (lv_at hl 2 rfl) ?_
  refine lv_iload_n hx hb dX5_takePair_34 rfl (lv_at hl 1 rfl) ?_
  refine lv_ixor hx hb dX5_takePair_35 ?_
  refine lv_iload_n hx hb dX5_takePair_36 rfl (lv_at hl 2 rfl) ?_
  refine lv_iload hx hb dX5_takePair_37 (lv_at hl 0 rfl) ?_
  refine lv_ixor hx hb dX5_takePair_39 ?_
  refine lv_iand hx hb dX5_takePair_40 ?_
  refine lv_ldc (v := 32768) hx hb hC.2.2.2.1 (hC.2.2.2.2.1 _ (List.mem_cons_of_mem _ zw29_14)) dX5_takePair_41 ?_
  refine lv_iand hx hb dX5_takePair_43 ?_
  refine lv_topi (fun v8 ev8 => ?_)
  replace hf := zbv_use ev8 hf
  refine lv_istore (lv' := [(5, .int v8), (4, .int v6), (3, .int v5), (2, .int v3), (0, .ref (ad 7)), (1, .int x1)]) hx hb dX5_takePair_44 hl (by decide) rfl (fun ls hl => ?_)
  refine lv_aload_n hx hb dX5_takePair_46 rfl (lv_at hl 4 rfl) ?_
  refine z_get hC hI hinX5_takePair_X50 7 (wC_e7 ad cy σ7) rfl 2 (by decide) (List.mem_cons_of_mem _ zw7_5) rfl dX5_takePair_47 ?_
  refine lv_iconst (v := 1) hx hb dX5_takePair_50 (by decide) ?_
  refine lv_dup2_11 hx hb dX5_takePair_51 rfl rfl ?_
  obtain ⟨q, hf⟩ := zck_use hf
  refine z_iald hC hI 36 23 (wC_e36 ad cy σ7) (tC_t36 cy) q dX5_takePair_52 ?_
  refine lv_iload hx hb dX5_takePair_53 (lv_at hl 0 rfl) ?_
  refine lv_if_eq (tgt := 62) hx hb dX5_takePair_55 (by decide) (fun q => ?_) (fun q => ?_)
  · replace hf := zif_t q hf
    refine lv_iconst (v := 0) hx hb dX5_takePair_62 (by decide) ?_
    exact bX5_takePair_63 hC  hI (lv_sub hl [] rfl) hf
  replace hf := zif_f q hf
  refine lv_iconst (v := 4) hx hb dX5_takePair_58 (by decide) ?_
  refine lv_goto (tgt := 63) hx hb dX5_takePair_59 (by decide) ?_
  exact bX5_takePair_63 hC  hI (lv_sub hl [] rfl) hf
set_option maxRecDepth 20000 in
theorem cX5_takePair_met (st : Nat → Nat) (l : Launch) (D : va_G) (ad : Nat → Nat) (cy : Nat → ClassId) (σ : zSt) (x1 : Int32) (res : zSt × Int32) (hf : fX5_takePair σ x1 = some res) (sz : Nat) : zMi st l yX5_takePair wzX5_takePair rmX5_takePair [.ref (ad 7), .int x1] D (tC cy) (wC ad cy) sz σ res :=
  zMi.of (cc := cX5_takePair) (maxL := 6) (ret := (some .int)) (by decide) rfl (Nat.le_of_ble_eq_true rfl) (fun p e s m args below meth c hC A hI ls hl => bX5_takePair hC hI hl hf)
theorem hdX5_takePair : yX5_takePair.cls = RX5 ∧ yX5_takePair.cls ≠ "java/lang/invoke/MethodHandle" ∧ yX5_takePair.cls ≠ "java/lang/invoke/VarHandle" ∧ (parseMethodDescriptor yX5_takePair.desc).map (fun d => d.parameters.length) = some 1 := by decide +kernel
def rmX5_addPairAndCarry : Room := { frames := 3, cells := 0, slots := 0, locals := 66 }
def wzX5_addPairAndCarry : List Cond := .code yX5_addPairAndCarry cX5_addPairAndCarry 6 (some .int) :: wsL_law
theorem hinX5_addPairAndCarry_X50 : ∀ w ∈ wsX50, w ∈ wzX5_addPairAndCarry := fun w h => List.mem_cons_of_mem _ (inlX5 w h)
def fX5_addPairAndCarry_65  (σ : zSt) (s0 : Int32) (s1 : Int32) (s2 : Int32) : Option (zSt × Int32) :=
  zck (zin s2 29) (zbv (zsi σ 36 (s2.toNatClampNeg) (s1 ||| s0)) (fun σ1 =>
  some (σ1, 15)))
def fX5_addPairAndCarry  (σ : zSt) (x1 : Int32) : Option (zSt × Int32) :=
  zbi (fX5_hl σ ) (fun σ2 v3 =>
  zbi (fX5_pair σ2 x1) (fun σ4 v5 =>
  zck (zin 1 29) (
  zbv ((v3 + v5) + ((zgi σ4 36 (1 : Int32).toNatClampNeg) &&& 1)) (fun v6 =>
  zbu (fX5_putWide σ4 v3 v5 v6) (fun σ7 =>
  zbv ((((v3 ^^^ v5) ^^^ (-1)) &&& (v3 ^^^ v6)) &&& 32768) (fun v8 =>
  zck (zin 1 29) (
  if v8 = 0 then fX5_addPairAndCarry_65 σ7 0 (zgi σ7 36 (1 : Int32).toNatClampNeg) 1 else
  fX5_addPairAndCarry_65 σ7 4 (zgi σ7 36 (1 : Int32).toNatClampNeg) 1)))))))
set_option maxRecDepth 20000 in
set_option maxHeartbeats 4000000 in
theorem bX5_addPairAndCarry_65 {st : Nat → Nat} {p : Program} {l : Launch} {e : Env} {s : State} {m : MethodId} {args : Array Value} {below : List Frame} {meth : Method} {c : Code} {D : va_G} {A : Nat → Prop} {ad : Nat → Nat} {cy : Nat → ClassId} (hC : zC p m c cX5_addPairAndCarry 6 s args wzX5_addPairAndCarry RX5 meth (some .int))  {res : zSt × Int32} {H : Heap} {locs : List Loc} {σ : zSt} {ls : Array Slot} {s0 : Int32} {s1 : Int32} {s2 : Int32} (hI : zI st D (tC cy) (wC ad cy σ) A s H locs) (hl : lv_has ls 6 []) (hf : fX5_addPairAndCarry_65  σ s0 s1 s2 = some res) : W p l e rmX5_addPairAndCarry s m args below meth c H locs 0 0 (zQi below args s D (tC cy) (wC ad cy) A res) (F0 m 65 ls [.int s0, .int s1, .int s2, .ref (ad 36)]) := by
  have hx := hC.1
  have hb := hC.2.1
  unfold fX5_addPairAndCarry_65 at hf
  refine lv_ior hx hb dX5_addPairAndCarry_65 ?_
  obtain ⟨q, hf⟩ := zck_use hf
  obtain ⟨σ1, eσ1⟩ : ∃ z, z = zsi σ 36 (s2.toNatClampNeg) (s1 ||| s0) := ⟨_, rfl⟩
  replace hf := zbv_use eσ1 hf
  refine z_iast hC hI 36 23 (wC_e36 ad cy σ) (tC_t36 cy) q ((wC_s36 ad cy σ _ _).trans (congrArg (wC ad cy) eσ1.symm)) dX5_addPairAndCarry_66 (fun H locs hI => ?_)
  refine lv_bipush (v := 15) hx hb dX5_addPairAndCarry_67 (by decide) ?_
  exact z_ireturn hC hI hf dX5_addPairAndCarry_69
set_option maxRecDepth 20000 in
set_option maxHeartbeats 4000000 in
theorem bX5_addPairAndCarry {st : Nat → Nat} {p : Program} {l : Launch} {e : Env} {s : State} {m : MethodId} {args : Array Value} {below : List Frame} {meth : Method} {c : Code} {D : va_G} {A : Nat → Prop} {ad : Nat → Nat} {cy : Nat → ClassId} (hC : zC p m c cX5_addPairAndCarry 6 s args wzX5_addPairAndCarry RX5 meth (some .int))  {res : zSt × Int32} {H : Heap} {locs : List Loc} {σ : zSt} {ls : Array Slot} {x1 : Int32} (hI : zI st D (tC cy) (wC ad cy σ) A s H locs) (hl : lv_has ls 6 [(0, .ref (ad 7)), (1, .int x1)]) (hf : fX5_addPairAndCarry  σ x1 = some res) : W p l e rmX5_addPairAndCarry s m args below meth c H locs 0 0 (zQi below args s D (tC cy) (wC ad cy) A res) (F0 m 0 ls []) := by
  have hx := hC.1
  have hb := hC.2.1
  unfold fX5_addPairAndCarry at hf
  refine lv_aload_n hx hb dX5_addPairAndCarry_0 rfl (lv_at hl 0 rfl) ?_
  obtain ⟨σ2, v3, g2, hf⟩ := zbi_use hf
  refine z_callVi (As := []) (rest := []) hC hI (cX5_hl_met st l D ad cy σ  _ g2) (zgV zw29_15 zw29_16 zw29_17 zw2_21 zw29_18) rfl ⟨rfl, rfl⟩ 0 hdX5_hl ⟨Nat.le_of_ble_eq_true rfl, Nat.le_of_ble_eq_true rfl⟩ rfl rfl (wC_e7 ad cy σ) rfl hl rfl (Nat.le_of_ble_eq_true rfl) dX5_addPairAndCarry_1 ⟨Nat.zero_le _, Nat.zero_le _⟩ (fun H locs hI => ?_)
  refine lv_istore_n (lv' := [(2, .int v3), (0, .ref (ad 7)), (1, .int x1)]) hx hb dX5_addPairAndCarry_4 rfl hl (by decide) rfl (fun ls hl => ?_)
  refine lv_aload_n hx hb dX5_addPairAndCarry_5 rfl (lv_at hl 1 rfl) ?_
  refine lv_iload_n hx hb dX5_addPairAndCarry_6 rfl (lv_at hl 2 rfl) ?_
  obtain ⟨σ4, v5, g4, hf⟩ := zbi_use hf
  refine z_callVi (As := [.int x1]) (rest := []) hC hI (cX5_pair_met st l D ad cy σ2 x1 _ g4) (zgV zw29_19 zw29_20 zw29_21 zw2_21 zw29_22) rfl ⟨rfl, rfl⟩ 1 hdX5_pair ⟨Nat.le_of_ble_eq_true rfl, Nat.le_of_ble_eq_true rfl⟩ rfl rfl (wC_e7 ad cy σ2) rfl hl rfl (Nat.le_of_ble_eq_true rfl) dX5_addPairAndCarry_7 ⟨Nat.zero_le _, Nat.zero_le _⟩ (fun H locs hI => ?_)
  refine lv_istore_n (lv' := [(3, .int v5), (2, .int v3), (0, .ref (ad 7)), (1, .int x1)]) hx hb dX5_addPairAndCarry_10 rfl hl (by decide) rfl (fun ls hl => ?_)
  refine lv_iload_n hx hb dX5_addPairAndCarry_11 rfl (lv_at hl 1 rfl) ?_
  refine lv_iload_n hx hb dX5_addPairAndCarry_12 rfl (lv_at hl 0 rfl) ?_
  refine lv_iadd hx hb dX5_addPairAndCarry_13 ?_
  refine lv_aload_n hx hb dX5_addPairAndCarry_14 rfl (lv_at hl 2 rfl) ?_
  refine z_get hC hI hinX5_addPairAndCarry_X50 7 (wC_e7 ad cy σ4) rfl 2 (by decide) (List.mem_cons_of_mem _ zw7_5) rfl dX5_addPairAndCarry_15 ?_
  refine lv_iconst (v := 1) hx hb dX5_addPairAndCarry_18 (by decide) ?_
  obtain ⟨q, hf⟩ := zck_use hf
  refine z_iald hC hI 36 23 (wC_e36 ad cy σ4) (tC_t36 cy) q dX5_addPairAndCarry_19 ?_
  refine lv_iconst (v := 1) hx hb dX5_addPairAndCarry_20 (by decide) ?_
  refine lv_iand hx hb dX5_addPairAndCarry_21 ?_
  refine lv_iadd hx hb dX5_addPairAndCarry_22 ?_
  refine lv_topi (fun v6 ev6 => ?_)
  replace hf := zbv_use ev6 hf
  refine lv_istore (lv' := [(4, .int v6), (3, .int v5), (2, .int v3), (0, .ref (ad 7)), (1, .int x1)]) hx hb dX5_addPairAndCarry_23 hl (by decide) rfl (fun ls hl => ?_)
  refine lv_aload_n hx hb dX5_addPairAndCarry_25 rfl (lv_at hl 3 rfl) ?_
  refine lv_iload_n hx hb dX5_addPairAndCarry_26 rfl (lv_at hl 2 rfl) ?_
  refine lv_iload_n hx hb dX5_addPairAndCarry_27 rfl (lv_at hl 1 rfl) ?_
  refine lv_iload hx hb dX5_addPairAndCarry_28 (lv_at hl 0 rfl) ?_
  obtain ⟨σ7, g7, hf⟩ := zbu_use hf
  refine z_callVu (As := [.int v3, .int v5, .int v6]) (rest := []) hC hI (cX5_putWide_met st l D ad cy σ4 v3 v5 v6 _ g7) (zgV zw29_23 zw30_0 zw30_1 zw2_21 zw30_2) rfl ⟨rfl, rfl⟩ 3 hdX5_putWide ⟨Nat.le_of_ble_eq_true rfl, Nat.le_of_ble_eq_true rfl⟩ rfl rfl (wC_e7 ad cy σ4) rfl hl rfl (Nat.le_of_ble_eq_true rfl) dX5_addPairAndCarry_30 ⟨Nat.zero_le _, Nat.zero_le _⟩ (fun H locs hI => ?_)
  refine lv_iload_n hx hb dX5_addPairAndCarry_33 rfl (lv_at hl 2 rfl) ?_
  refine lv_iload_n hx hb dX5_addPairAndCarry_34 rfl (lv_at hl 1 rfl) ?_
  refine lv_ixor hx hb dX5_addPairAndCarry_35 ?_
  refine lv_iconst (v := (-1)) hx hb dX5_addPairAndCarry_36 (by decide) ?_
  refine lv_ixor hx hb dX5_addPairAndCarry_37 ?_
  refine lv_iload_n hx hb dX5_addPairAndCarry_38 rfl (lv_at hl 2 rfl) ?_
  refine lv_iload hx hb dX5_addPairAndCarry_39 (lv_at hl 0 rfl) ?_
  refine lv_ixor hx hb dX5_addPairAndCarry_41 ?_
  refine lv_iand hx hb dX5_addPairAndCarry_42 ?_
  refine lv_ldc (v := 32768) hx hb hC.2.2.2.1 (hC.2.2.2.2.1 _ (List.mem_cons_of_mem _ zw29_14)) dX5_addPairAndCarry_43 ?_
  refine lv_iand hx hb dX5_addPairAndCarry_45 ?_
  refine lv_topi (fun v8 ev8 => ?_)
  replace hf := zbv_use ev8 hf
  refine lv_istore (lv' := [(5, .int v8), (4, .int v6), (3, .int v5), (2, .int v3), (0, .ref (ad 7)), (1, .int x1)]) hx hb dX5_addPairAndCarry_46 hl (by decide) rfl (fun ls hl => ?_)
  refine lv_aload_n hx hb dX5_addPairAndCarry_48 rfl (lv_at hl 4 rfl) ?_
  refine z_get hC hI hinX5_addPairAndCarry_X50 7 (wC_e7 ad cy σ7) rfl 2 (by decide) (List.mem_cons_of_mem _ zw7_5) rfl dX5_addPairAndCarry_49 ?_
  refine lv_iconst (v := 1) hx hb dX5_addPairAndCarry_52 (by decide) ?_
  refine lv_dup2_11 hx hb dX5_addPairAndCarry_53 rfl rfl ?_
  obtain ⟨q, hf⟩ := zck_use hf
  refine z_iald hC hI 36 23 (wC_e36 ad cy σ7) (tC_t36 cy) q dX5_addPairAndCarry_54 ?_
  refine lv_iload hx hb dX5_addPairAndCarry_55 (lv_at hl 0 rfl) ?_
  refine lv_if_eq (tgt := 64) hx hb dX5_addPairAndCarry_57 (by decide) (fun q => ?_) (fun q => ?_)
  · replace hf := zif_t q hf
    refine lv_iconst (v := 0) hx hb dX5_addPairAndCarry_64 (by decide) ?_
    exact bX5_addPairAndCarry_65 hC  hI (lv_sub hl [] rfl) hf
  replace hf := zif_f q hf
  refine lv_iconst (v := 4) hx hb dX5_addPairAndCarry_60 (by decide) ?_
  refine lv_goto (tgt := 65) hx hb dX5_addPairAndCarry_61 (by decide) ?_
  exact bX5_addPairAndCarry_65 hC  hI (lv_sub hl [] rfl) hf
set_option maxRecDepth 20000 in
theorem cX5_addPairAndCarry_met (st : Nat → Nat) (l : Launch) (D : va_G) (ad : Nat → Nat) (cy : Nat → ClassId) (σ : zSt) (x1 : Int32) (res : zSt × Int32) (hf : fX5_addPairAndCarry σ x1 = some res) (sz : Nat) : zMi st l yX5_addPairAndCarry wzX5_addPairAndCarry rmX5_addPairAndCarry [.ref (ad 7), .int x1] D (tC cy) (wC ad cy) sz σ res :=
  zMi.of (cc := cX5_addPairAndCarry) (maxL := 6) (ret := (some .int)) (by decide) rfl (Nat.le_of_ble_eq_true rfl) (fun p e s m args below meth c hC A hI ls hl => bX5_addPairAndCarry hC hI hl hf)
theorem hdX5_addPairAndCarry : yX5_addPairAndCarry.cls = RX5 ∧ yX5_addPairAndCarry.cls ≠ "java/lang/invoke/MethodHandle" ∧ yX5_addPairAndCarry.cls ≠ "java/lang/invoke/VarHandle" ∧ (parseMethodDescriptor yX5_addPairAndCarry.desc).map (fun d => d.parameters.length) = some 1 := by decide +kernel
def rmX5_takeFromPort : Room := { frames := 3, cells := 0, slots := 0, locals := 66 }
def wzX5_takeFromPort : List Cond := .code yX5_takeFromPort cX5_takeFromPort 3 none :: wsL_law
theorem hinX5_takeFromPort_X50 : ∀ w ∈ wsX50, w ∈ wzX5_takeFromPort := fun w h => List.mem_cons_of_mem _ (inlX5 w h)
def fX5_takeFromPort_26  (σ : zSt) (x2 : Int32) : Option (zSt) :=
  zck (zin 1 29) (
  zbi (fX5_by σ x2) (fun σ1 v2 =>
  zbi (fX5_parity σ1 x2) (fun σ3 v4 =>
  zck (zin 1 29) (zbv (zsi σ3 36 ((1 : Int32).toNatClampNeg) ((((zgi σ 36 (1 : Int32).toNatClampNeg) &&& 1) ||| v2) ||| v4)) (fun σ5 =>
  some σ5)))))
def fX5_takeFromPort  (σ : zSt) (x1 : Int32) : Option (zSt) :=
  zck (zin 3 29) (
  zbi (fX4_read σ (zgi σ 36 (3 : Int32).toNatClampNeg)) (fun σ6 v7 =>
  if x1 = 6 then fX5_takeFromPort_26 σ6 v7 else
  zbu (fX5_putOne σ6 x1 v7) (fun σ8 =>
  fX5_takeFromPort_26 σ8 v7)))
set_option maxRecDepth 20000 in
set_option maxHeartbeats 4000000 in
theorem bX5_takeFromPort_26 {st : Nat → Nat} {p : Program} {l : Launch} {e : Env} {s : State} {m : MethodId} {args : Array Value} {below : List Frame} {meth : Method} {c : Code} {D : va_G} {A : Nat → Prop} {ad : Nat → Nat} {cy : Nat → ClassId} (hC : zC p m c cX5_takeFromPort 3 s args wzX5_takeFromPort RX5 meth none)  {res : zSt} {H : Heap} {locs : List Loc} {σ : zSt} {ls : Array Slot} {x2 : Int32} (hI : zI st D (tC cy) (wC ad cy σ) A s H locs) (hl : lv_has ls 3 [(0, .ref (ad 7)), (2, .int x2)]) (hf : fX5_takeFromPort_26  σ x2 = some res) : W p l e rmX5_takeFromPort s m args below meth c H locs 0 0 (zQu below args s D (tC cy) (wC ad cy) A res) (F0 m 26 ls []) := by
  have hx := hC.1
  have hb := hC.2.1
  unfold fX5_takeFromPort_26 at hf
  refine lv_aload_n hx hb dX5_takeFromPort_26 rfl (lv_at hl 0 rfl) ?_
  refine z_get hC hI hinX5_takeFromPort_X50 7 (wC_e7 ad cy σ) rfl 2 (by decide) (List.mem_cons_of_mem _ zw7_5) rfl dX5_takeFromPort_27 ?_
  refine lv_iconst (v := 1) hx hb dX5_takeFromPort_30 (by decide) ?_
  refine lv_aload_n hx hb dX5_takeFromPort_31 rfl (lv_at hl 0 rfl) ?_
  refine z_get hC hI hinX5_takeFromPort_X50 7 (wC_e7 ad cy σ) rfl 2 (by decide) (List.mem_cons_of_mem _ zw7_5) rfl dX5_takeFromPort_32 ?_
  refine lv_iconst (v := 1) hx hb dX5_takeFromPort_35 (by decide) ?_
  obtain ⟨q, hf⟩ := zck_use hf
  refine z_iald hC hI 36 23 (wC_e36 ad cy σ) (tC_t36 cy) q dX5_takeFromPort_36 ?_
  refine lv_iconst (v := 1) hx hb dX5_takeFromPort_37 (by decide) ?_
  refine lv_iand hx hb dX5_takeFromPort_38 ?_
  refine lv_iload_n hx hb dX5_takeFromPort_39 rfl (lv_at hl 1 rfl) ?_
  obtain ⟨σ1, v2, g1, hf⟩ := zbi_use hf
  refine z_callSi (As := [.int x2]) (rest := [.int ((zgi σ 36 (1 : Int32).toNatClampNeg) &&& 1), .int 1, .ref (ad 36)]) hC hI (cX5_by_met st l D ad cy σ x2 _ g1) (zgS zw22_19 zw22_20 zw2_21 zw22_21) rfl ⟨rfl, rfl⟩ 1 hdX5_by ⟨Nat.le_of_ble_eq_true rfl, Nat.le_of_ble_eq_true rfl⟩ rfl hl rfl (Nat.le_of_ble_eq_true rfl) dX5_takeFromPort_40 ⟨Nat.zero_le _, Nat.zero_le _⟩ (fun H locs hI => ?_)
  refine lv_ior hx hb dX5_takeFromPort_43 ?_
  refine lv_iload_n hx hb dX5_takeFromPort_44 rfl (lv_at hl 1 rfl) ?_
  obtain ⟨σ3, v4, g3, hf⟩ := zbi_use hf
  refine z_callSi (As := [.int x2]) (rest := [.int (((zgi σ 36 (1 : Int32).toNatClampNeg) &&& 1) ||| v2), .int 1, .ref (ad 36)]) hC hI (cX5_parity_met st l D ad cy σ1 x2 _ g3) (zgS zw22_22 zw22_23 zw2_21 zw23_0) rfl ⟨rfl, rfl⟩ 1 hdX5_parity ⟨Nat.le_of_ble_eq_true rfl, Nat.le_of_ble_eq_true rfl⟩ rfl hl rfl (Nat.le_of_ble_eq_true rfl) dX5_takeFromPort_45 ⟨Nat.zero_le _, Nat.zero_le _⟩ (fun H locs hI => ?_)
  refine lv_ior hx hb dX5_takeFromPort_48 ?_
  obtain ⟨q, hf⟩ := zck_use hf
  obtain ⟨σ5, eσ5⟩ : ∃ z, z = zsi σ3 36 ((1 : Int32).toNatClampNeg) ((((zgi σ 36 (1 : Int32).toNatClampNeg) &&& 1) ||| v2) ||| v4) := ⟨_, rfl⟩
  replace hf := zbv_use eσ5 hf
  refine z_iast hC hI 36 23 (wC_e36 ad cy σ3) (tC_t36 cy) q ((wC_s36 ad cy σ3 _ _).trans (congrArg (wC ad cy) eσ5.symm)) dX5_takeFromPort_49 (fun H locs hI => ?_)
  exact z_return hC hI hf dX5_takeFromPort_50
set_option maxRecDepth 20000 in
set_option maxHeartbeats 4000000 in
theorem bX5_takeFromPort {st : Nat → Nat} {p : Program} {l : Launch} {e : Env} {s : State} {m : MethodId} {args : Array Value} {below : List Frame} {meth : Method} {c : Code} {D : va_G} {A : Nat → Prop} {ad : Nat → Nat} {cy : Nat → ClassId} (hC : zC p m c cX5_takeFromPort 3 s args wzX5_takeFromPort RX5 meth none)  {res : zSt} {H : Heap} {locs : List Loc} {σ : zSt} {ls : Array Slot} {x1 : Int32} (hI : zI st D (tC cy) (wC ad cy σ) A s H locs) (hl : lv_has ls 3 [(0, .ref (ad 7)), (1, .int x1)]) (hf : fX5_takeFromPort  σ x1 = some res) : W p l e rmX5_takeFromPort s m args below meth c H locs 0 0 (zQu below args s D (tC cy) (wC ad cy) A res) (F0 m 0 ls []) := by
  have hx := hC.1
  have hb := hC.2.1
  unfold fX5_takeFromPort at hf
  refine lv_aload_n hx hb dX5_takeFromPort_0 rfl (lv_at hl 0 rfl) ?_
  refine z_get hC hI hinX5_takeFromPort_X50 7 (wC_e7 ad cy σ) rfl 1 (by decide) (List.mem_cons_of_mem _ zw7_9) rfl dX5_takeFromPort_1 ?_
  refine lv_aload_n hx hb dX5_takeFromPort_4 rfl (lv_at hl 0 rfl) ?_
  refine z_get hC hI hinX5_takeFromPort_X50 7 (wC_e7 ad cy σ) rfl 2 (by decide) (List.mem_cons_of_mem _ zw7_5) rfl dX5_takeFromPort_5 ?_
  refine lv_iconst (v := 3) hx hb dX5_takeFromPort_8 (by decide) ?_
  obtain ⟨q, hf⟩ := zck_use hf
  refine z_iald hC hI 36 23 (wC_e36 ad cy σ) (tC_t36 cy) q dX5_takeFromPort_9 ?_
  obtain ⟨σ6, v7, g6, hf⟩ := zbi_use hf
  refine z_callVi (As := [.int (zgi σ 36 (3 : Int32).toNatClampNeg)]) (rest := []) hC hI (cX4_read_met st l D ad cy σ (zgi σ 36 (3 : Int32).toNatClampNeg) _ g6) (zgV zw25_4 zw25_5 zw25_6 zw2_17 zw25_7) rfl ⟨rfl, rfl⟩ 1 hdX4_read ⟨Nat.le_of_ble_eq_true rfl, Nat.le_of_ble_eq_true rfl⟩ rfl rfl (wC_e6 ad cy σ) rfl hl rfl (Nat.le_of_ble_eq_true rfl) dX5_takeFromPort_10 ⟨Nat.zero_le _, Nat.zero_le _⟩ (fun H locs hI => ?_)
  refine lv_istore_n (lv' := [(2, .int v7), (0, .ref (ad 7)), (1, .int x1)]) hx hb dX5_takeFromPort_13 rfl hl (by decide) rfl (fun ls hl => ?_)
  refine lv_iload_n hx hb dX5_takeFromPort_14 rfl (lv_at hl 2 rfl) ?_
  refine lv_bipush (v := 6) hx hb dX5_takeFromPort_15 (by decide) ?_
  refine lv_icmp_eq (tgt := 26) hx hb dX5_takeFromPort_17 (by decide) (fun q => ?_) (fun q => ?_)
  · replace hf := zif_t q hf
    exact bX5_takeFromPort_26 hC  hI (lv_sub hl [1, 0] rfl) hf
  replace hf := zif_f q hf
  refine lv_aload_n hx hb dX5_takeFromPort_20 rfl (lv_at hl 1 rfl) ?_
  refine lv_iload_n hx hb dX5_takeFromPort_21 rfl (lv_at hl 2 rfl) ?_
  refine lv_iload_n hx hb dX5_takeFromPort_22 rfl (lv_at hl 0 rfl) ?_
  obtain ⟨σ8, g8, hf⟩ := zbu_use hf
  refine z_callVu (As := [.int x1, .int v7]) (rest := []) hC hI (cX5_putOne_met st l D ad cy σ6 x1 v7 _ g8) (zgV zw23_8 zw23_9 zw23_10 zw2_21 zw23_11) rfl ⟨rfl, rfl⟩ 2 hdX5_putOne ⟨Nat.le_of_ble_eq_true rfl, Nat.le_of_ble_eq_true rfl⟩ rfl rfl (wC_e7 ad cy σ6) rfl hl rfl (Nat.le_of_ble_eq_true rfl) dX5_takeFromPort_23 ⟨Nat.zero_le _, Nat.zero_le _⟩ (fun H locs hI => ?_)
  exact bX5_takeFromPort_26 hC  hI (lv_sub hl [1, 0] rfl) hf
set_option maxRecDepth 20000 in
theorem cX5_takeFromPort_met (st : Nat → Nat) (l : Launch) (D : va_G) (ad : Nat → Nat) (cy : Nat → ClassId) (σ : zSt) (x1 : Int32) (res : zSt) (hf : fX5_takeFromPort σ x1 = some res) (sz : Nat) : zMu st l yX5_takeFromPort wzX5_takeFromPort rmX5_takeFromPort [.ref (ad 7), .int x1] D (tC cy) (wC ad cy) sz σ res :=
  zMu.of (cc := cX5_takeFromPort) (maxL := 3) (ret := none) (by decide) rfl (Nat.le_of_ble_eq_true rfl) (fun p e s m args below meth c hC A hI ls hl => bX5_takeFromPort hC hI hl hf)
theorem hdX5_takeFromPort : yX5_takeFromPort.cls = RX5 ∧ yX5_takeFromPort.cls ≠ "java/lang/invoke/MethodHandle" ∧ yX5_takeFromPort.cls ≠ "java/lang/invoke/VarHandle" ∧ (parseMethodDescriptor yX5_takeFromPort.desc).map (fun d => d.parameters.length) = some 1 := by decide +kernel
def rmX5_behindEd : Room := { frames := 4, cells := 0, slots := 0, locals := 92 }
def wzX5_behindEd : List Cond := .code yX5_behindEd cX5_behindEd 3 (some .int) :: wsL_law
theorem hinX5_behindEd_X50 : ∀ w ∈ wsX50, w ∈ wzX5_behindEd := fun w h => List.mem_cons_of_mem _ (inlX5 w h)
def fX5_behindEd_160  (σ : zSt) (s0 : Int32) : Option (zSt × Int32) :=
  some (σ, s0)
def fX5_behindEd_131  (σ : zSt) (s0 : Int32) (s1 : Int32) : Option (zSt × Int32) :=
  zbu (fX4_write σ s1 s0) (fun σ1 =>
  some (σ1, 12))
def fX5_behindEd  (σ : zSt) (x1 : Int32) : Option (zSt × Int32) :=
  if (x1 >>> ((6 : Int32) &&& 31)) = 1 then zbv ((x1 >>> ((3 : Int32) &&& 31)) &&& 7) (fun v2 =>
  if (x1 &&& 7) = 0 then zbi (fX5_pairAt σ 2) (fun σ3 v4 =>
  zck (zin 20 29) (zbv (zsi σ3 36 ((20 : Int32).toNatClampNeg) ((v4 + 1) &&& 65535)) (fun σ5 =>
  zbu (fX5_takeFromPort σ5 v2) (fun σ6 =>
  some (σ6, 12))))) else
  if (x1 &&& 7) = 1 then zbi (fX5_pairAt σ 2) (fun σ7 v8 =>
  zck (zin 20 29) (zbv (zsi σ7 36 ((20 : Int32).toNatClampNeg) ((v8 + 1) &&& 65535)) (fun σ9 =>
  zck (zin 3 29) (
  if v2 = 6 then fX5_behindEd_131 σ9 0 (zgi σ9 36 (3 : Int32).toNatClampNeg) else
  zbi (fX5_one σ9 v2) (fun σ10 v11 =>
  fX5_behindEd_131 σ10 v11 (zgi σ9 36 (3 : Int32).toNatClampNeg)))))) else
  if (x1 &&& 7) = 2 then if (v2 &&& 1) = 0 then zbi (fX5_takePair σ (v2 >>> ((1 : Int32) &&& 31))) (fun σ14 v15 =>
  fX5_behindEd_160 σ14 v15) else
  zbi (fX5_addPairAndCarry σ (v2 >>> ((1 : Int32) &&& 31))) (fun σ12 v13 =>
  fX5_behindEd_160 σ12 v13) else
  if (x1 &&& 7) = 3 then zbi (fX5_farPair σ v2) (fun σ16 v17 =>
  some (σ16, v17)) else
  if (x1 &&& 7) = 4 then zck (zin 0 29) (
  zbi (fX5_difference σ 0 (zgi σ 36 (0 : Int32).toNatClampNeg) 0) (fun σ18 v19 =>
  zck (zin 0 29) (zbv (zsi σ18 36 ((0 : Int32).toNatClampNeg) v19) (fun σ20 =>
  some (σ20, 8))))) else
  if (x1 &&& 7) = 5 then zbi (fX5_pop σ ) (fun σ21 v22 =>
  zbu (fX5_goTo σ21 v22) (fun σ23 =>
  zck (zin 24 29) (
  zck (zin 23 29) (zbv (zsi σ23 36 ((23 : Int32).toNatClampNeg) (zgi σ23 36 (24 : Int32).toNatClampNeg)) (fun σ24 =>
  some (σ24, 14)))))) else
  if (x1 &&& 7) = 6 then zck (zin 25 29) (zbv (zsi σ 36 ((25 : Int32).toNatClampNeg) (zmax 0 ((v2 &&& 3) - 1))) (fun σ25 =>
  some (σ25, 8))) else
  zbi (fX5_moreOfA σ v2) (fun σ26 v27 =>
  some (σ26, v27))) else
  some (σ, 8)
set_option maxRecDepth 20000 in
set_option maxHeartbeats 4000000 in
theorem bX5_behindEd_160 {st : Nat → Nat} {p : Program} {l : Launch} {e : Env} {s : State} {m : MethodId} {args : Array Value} {below : List Frame} {meth : Method} {c : Code} {D : va_G} {A : Nat → Prop} {ad : Nat → Nat} {cy : Nat → ClassId} (hC : zC p m c cX5_behindEd 3 s args wzX5_behindEd RX5 meth (some .int))  {res : zSt × Int32} {H : Heap} {locs : List Loc} {σ : zSt} {ls : Array Slot} {s0 : Int32} (hI : zI st D (tC cy) (wC ad cy σ) A s H locs) (hl : lv_has ls 3 []) (hf : fX5_behindEd_160  σ s0 = some res) : W p l e rmX5_behindEd s m args below meth c H locs 0 0 (zQi below args s D (tC cy) (wC ad cy) A res) (F0 m 160 ls [.int s0]) := by
  have hx := hC.1
  have hb := hC.2.1
  unfold fX5_behindEd_160 at hf
  exact z_ireturn hC hI hf dX5_behindEd_160
set_option maxRecDepth 20000 in
set_option maxHeartbeats 4000000 in
theorem bX5_behindEd_131 {st : Nat → Nat} {p : Program} {l : Launch} {e : Env} {s : State} {m : MethodId} {args : Array Value} {below : List Frame} {meth : Method} {c : Code} {D : va_G} {A : Nat → Prop} {ad : Nat → Nat} {cy : Nat → ClassId} (hC : zC p m c cX5_behindEd 3 s args wzX5_behindEd RX5 meth (some .int))  {res : zSt × Int32} {H : Heap} {locs : List Loc} {σ : zSt} {ls : Array Slot} {s0 : Int32} {s1 : Int32} (hI : zI st D (tC cy) (wC ad cy σ) A s H locs) (hl : lv_has ls 3 []) (hf : fX5_behindEd_131  σ s0 s1 = some res) : W p l e rmX5_behindEd s m args below meth c H locs 0 0 (zQi below args s D (tC cy) (wC ad cy) A res) (F0 m 131 ls [.int s0, .int s1, .ref (ad 6)]) := by
  have hx := hC.1
  have hb := hC.2.1
  unfold fX5_behindEd_131 at hf
  obtain ⟨σ1, g1, hf⟩ := zbu_use hf
  refine z_callVu (As := [.int s1, .int s0]) (rest := []) hC hI (cX4_write_met st l D ad cy σ s1 s0 _ g1) (zgV zw27_9 zw27_10 zw27_11 zw2_17 zw27_12) rfl ⟨rfl, rfl⟩ 2 hdX4_write ⟨Nat.le_of_ble_eq_true rfl, Nat.le_of_ble_eq_true rfl⟩ rfl rfl (wC_e6 ad cy σ) rfl hl rfl (Nat.le_of_ble_eq_true rfl) dX5_behindEd_131 ⟨Nat.zero_le _, Nat.zero_le _⟩ (fun H locs hI => ?_)
  refine lv_bipush (v := 12) hx hb dX5_behindEd_134 (by decide) ?_
  exact z_ireturn hC hI hf dX5_behindEd_136
set_option maxRecDepth 20000 in
set_option maxHeartbeats 4000000 in
theorem bX5_behindEd {st : Nat → Nat} {p : Program} {l : Launch} {e : Env} {s : State} {m : MethodId} {args : Array Value} {below : List Frame} {meth : Method} {c : Code} {D : va_G} {A : Nat → Prop} {ad : Nat → Nat} {cy : Nat → ClassId} (hC : zC p m c cX5_behindEd 3 s args wzX5_behindEd RX5 meth (some .int))  {res : zSt × Int32} {H : Heap} {locs : List Loc} {σ : zSt} {ls : Array Slot} {x1 : Int32} (hI : zI st D (tC cy) (wC ad cy σ) A s H locs) (hl : lv_has ls 3 [(0, .ref (ad 7)), (1, .int x1)]) (hf : fX5_behindEd  σ x1 = some res) : W p l e rmX5_behindEd s m args below meth c H locs 0 0 (zQi below args s D (tC cy) (wC ad cy) A res) (F0 m 0 ls []) := by
  have hx := hC.1
  have hb := hC.2.1
  unfold fX5_behindEd at hf
  refine lv_iload_n hx hb dX5_behindEd_0 rfl (lv_at hl 1 rfl) ?_
  refine lv_bipush (v := 6) hx hb dX5_behindEd_1 (by decide) ?_
  refine lv_ishr hx hb dX5_behindEd_3 ?_
  refine lv_iconst (v := 1) hx hb dX5_behindEd_4 (by decide) ?_
  refine lv_icmp_eq (tgt := 11) hx hb dX5_behindEd_5 (by decide) (fun q => ?_) (fun q => ?_)
  · replace hf := zif_t q hf
    refine lv_iload_n hx hb dX5_behindEd_11 rfl (lv_at hl 1 rfl) ?_
    refine lv_iconst (v := 3) hx hb dX5_behindEd_12 (by decide) ?_
    refine lv_ishr hx hb dX5_behindEd_13 ?_
    refine lv_bipush (v := 7) hx hb dX5_behindEd_14 (by decide) ?_
    refine lv_iand hx hb dX5_behindEd_16 ?_
    refine lv_topi (fun v2 ev2 => ?_)
    replace hf := zbv_use ev2 hf
    refine lv_istore_n (lv' := [(2, .int v2), (0, .ref (ad 7)), (1, .int x1)]) hx hb dX5_behindEd_17 rfl hl (by decide) rfl (fun ls hl => ?_)
    refine lv_iload_n hx hb dX5_behindEd_18 rfl (lv_at hl 2 rfl) ?_
    refine lv_bipush (v := 7) hx hb dX5_behindEd_19 (by decide) ?_
    refine lv_iand hx hb dX5_behindEd_21 ?_
    by_cases q0 : (x1 &&& 7) = 0
    · replace hf := zif_t q0 hf
      refine lv_tableIn (tgt := 64) hx hb dX5_behindEd_22 (by rw [q0]; decide) (by rw [q0]; decide) (by rw [q0]; rfl) (by decide) ?_
      refine lv_aload_n hx hb dX5_behindEd_64 rfl (lv_at hl 1 rfl) ?_
      refine z_get hC hI hinX5_behindEd_X50 7 (wC_e7 ad cy σ) rfl 2 (by decide) (List.mem_cons_of_mem _ zw7_5) rfl dX5_behindEd_65 ?_
      refine lv_bipush (v := 20) hx hb dX5_behindEd_68 (by decide) ?_
      refine lv_aload_n hx hb dX5_behindEd_70 rfl (lv_at hl 1 rfl) ?_
      refine lv_iconst (v := 2) hx hb dX5_behindEd_71 (by decide) ?_
      obtain ⟨σ3, v4, g3, hf⟩ := zbi_use hf
      refine z_callVi (As := [.int 2]) (rest := [.int 20, .ref (ad 36)]) hC hI (cX5_pairAt_met st l D ad cy σ 2 _ g3) (zgV zw21_15 zw21_16 zw21_17 zw2_21 zw21_18) rfl ⟨rfl, rfl⟩ 1 hdX5_pairAt ⟨Nat.le_of_ble_eq_true rfl, Nat.le_of_ble_eq_true rfl⟩ rfl rfl (wC_e7 ad cy σ) rfl hl rfl (Nat.le_of_ble_eq_true rfl) dX5_behindEd_72 ⟨Nat.zero_le _, Nat.zero_le _⟩ (fun H locs hI => ?_)
      refine lv_iconst (v := 1) hx hb dX5_behindEd_75 (by decide) ?_
      refine lv_iadd hx hb dX5_behindEd_76 ?_
      refine lv_ldc (v := 65535) hx hb hC.2.2.2.1 (hC.2.2.2.2.1 _ (List.mem_cons_of_mem _ zw20_6)) dX5_behindEd_77 ?_
      refine lv_iand hx hb dX5_behindEd_79 ?_
      obtain ⟨q, hf⟩ := zck_use hf
      obtain ⟨σ5, eσ5⟩ : ∃ z, z = zsi σ3 36 ((20 : Int32).toNatClampNeg) ((v4 + 1) &&& 65535) := ⟨_, rfl⟩
      replace hf := zbv_use eσ5 hf
      refine z_iast hC hI 36 23 (wC_e36 ad cy σ3) (tC_t36 cy) q ((wC_s36 ad cy σ3 _ _).trans (congrArg (wC ad cy) eσ5.symm)) dX5_behindEd_80 (fun H locs hI => ?_)
      refine lv_aload_n hx hb dX5_behindEd_81 rfl (lv_at hl 1 rfl) ?_
      refine lv_iload_n hx hb dX5_behindEd_82 rfl (lv_at hl 0 rfl) ?_
      obtain ⟨σ6, g6, hf⟩ := zbu_use hf
      refine z_callVu (As := [.int v2]) (rest := []) hC hI (cX5_takeFromPort_met st l D ad cy σ5 v2 _ g6) (zgV zw29_6 zw29_7 zw29_8 zw2_21 zw29_9) rfl ⟨rfl, rfl⟩ 1 hdX5_takeFromPort ⟨Nat.le_of_ble_eq_true rfl, Nat.le_of_ble_eq_true rfl⟩ rfl rfl (wC_e7 ad cy σ5) rfl hl rfl (Nat.le_of_ble_eq_true rfl) dX5_behindEd_83 ⟨Nat.zero_le _, Nat.zero_le _⟩ (fun H locs hI => ?_)
      refine lv_bipush (v := 12) hx hb dX5_behindEd_86 (by decide) ?_
      exact z_ireturn hC hI hf dX5_behindEd_88
    replace hf := zif_f q0 hf
    by_cases q1 : (x1 &&& 7) = 1
    · replace hf := zif_t q1 hf
      refine lv_tableIn (tgt := 89) hx hb dX5_behindEd_22 (by rw [q1]; decide) (by rw [q1]; decide) (by rw [q1]; rfl) (by decide) ?_
      refine lv_aload_n hx hb dX5_behindEd_89 rfl (lv_at hl 1 rfl) ?_
      refine z_get hC hI hinX5_behindEd_X50 7 (wC_e7 ad cy σ) rfl 2 (by decide) (List.mem_cons_of_mem _ zw7_5) rfl dX5_behindEd_90 ?_
      refine lv_bipush (v := 20) hx hb dX5_behindEd_93 (by decide) ?_
      refine lv_aload_n hx hb dX5_behindEd_95 rfl (lv_at hl 1 rfl) ?_
      refine lv_iconst (v := 2) hx hb dX5_behindEd_96 (by decide) ?_
      obtain ⟨σ7, v8, g7, hf⟩ := zbi_use hf
      refine z_callVi (As := [.int 2]) (rest := [.int 20, .ref (ad 36)]) hC hI (cX5_pairAt_met st l D ad cy σ 2 _ g7) (zgV zw21_15 zw21_16 zw21_17 zw2_21 zw21_18) rfl ⟨rfl, rfl⟩ 1 hdX5_pairAt ⟨Nat.le_of_ble_eq_true rfl, Nat.le_of_ble_eq_true rfl⟩ rfl rfl (wC_e7 ad cy σ) rfl hl rfl (Nat.le_of_ble_eq_true rfl) dX5_behindEd_97 ⟨Nat.zero_le _, Nat.zero_le _⟩ (fun H locs hI => ?_)
      refine lv_iconst (v := 1) hx hb dX5_behindEd_100 (by decide) ?_
      refine lv_iadd hx hb dX5_behindEd_101 ?_
      refine lv_ldc (v := 65535) hx hb hC.2.2.2.1 (hC.2.2.2.2.1 _ (List.mem_cons_of_mem _ zw20_6)) dX5_behindEd_102 ?_
      refine lv_iand hx hb dX5_behindEd_104 ?_
      obtain ⟨q, hf⟩ := zck_use hf
      obtain ⟨σ9, eσ9⟩ : ∃ z, z = zsi σ7 36 ((20 : Int32).toNatClampNeg) ((v8 + 1) &&& 65535) := ⟨_, rfl⟩
      replace hf := zbv_use eσ9 hf
      refine z_iast hC hI 36 23 (wC_e36 ad cy σ7) (tC_t36 cy) q ((wC_s36 ad cy σ7 _ _).trans (congrArg (wC ad cy) eσ9.symm)) dX5_behindEd_105 (fun H locs hI => ?_)
      refine lv_aload_n hx hb dX5_behindEd_106 rfl (lv_at hl 1 rfl) ?_
      refine z_get hC hI hinX5_behindEd_X50 7 (wC_e7 ad cy σ9) rfl 1 (by decide) (List.mem_cons_of_mem _ zw7_9) rfl dX5_behindEd_107 ?_
      refine lv_aload_n hx hb dX5_behindEd_110 rfl (lv_at hl 1 rfl) ?_
      refine z_get hC hI hinX5_behindEd_X50 7 (wC_e7 ad cy σ9) rfl 2 (by decide) (List.mem_cons_of_mem _ zw7_5) rfl dX5_behindEd_111 ?_
      refine lv_iconst (v := 3) hx hb dX5_behindEd_114 (by decide) ?_
      obtain ⟨q, hf⟩ := zck_use hf
      refine z_iald hC hI 36 23 (wC_e36 ad cy σ9) (tC_t36 cy) q dX5_behindEd_115 ?_
      refine lv_iload_n hx hb dX5_behindEd_116 rfl (lv_at hl 0 rfl) ?_
      refine lv_bipush (v := 6) hx hb dX5_behindEd_117 (by decide) ?_
      refine lv_icmp_ne (tgt := 126) hx hb dX5_behindEd_119 (by decide) (fun q => ?_) (fun q => ?_)
      · replace hf := zif_f q hf
        refine lv_aload_n hx hb dX5_behindEd_126 rfl (lv_at hl 1 rfl) ?_
        refine lv_iload_n hx hb dX5_behindEd_127 rfl (lv_at hl 0 rfl) ?_
        obtain ⟨σ10, v11, g10, hf⟩ := zbi_use hf
        refine z_callVi (As := [.int v2]) (rest := [.int (zgi σ9 36 (3 : Int32).toNatClampNeg), .ref (ad 6)]) hC hI (cX5_one_met st l D ad cy σ9 v2 _ g10) (zgV zw24_4 zw24_5 zw24_6 zw2_21 zw24_7) rfl ⟨rfl, rfl⟩ 1 hdX5_one ⟨Nat.le_of_ble_eq_true rfl, Nat.le_of_ble_eq_true rfl⟩ rfl rfl (wC_e7 ad cy σ9) rfl hl rfl (Nat.le_of_ble_eq_true rfl) dX5_behindEd_128 ⟨Nat.zero_le _, Nat.zero_le _⟩ (fun H locs hI => ?_)
        exact bX5_behindEd_131 hC  hI (lv_sub hl [] rfl) hf
      replace hf := zif_t q hf
      refine lv_iconst (v := 0) hx hb dX5_behindEd_122 (by decide) ?_
      refine lv_goto (tgt := 131) hx hb dX5_behindEd_123 (by decide) ?_
      exact bX5_behindEd_131 hC  hI (lv_sub hl [] rfl) hf
    replace hf := zif_f q1 hf
    by_cases q2 : (x1 &&& 7) = 2
    · replace hf := zif_t q2 hf
      refine lv_tableIn (tgt := 137) hx hb dX5_behindEd_22 (by rw [q2]; decide) (by rw [q2]; decide) (by rw [q2]; rfl) (by decide) ?_
      refine lv_iload_n hx hb dX5_behindEd_137 rfl (lv_at hl 0 rfl) ?_
      refine lv_iconst (v := 1) hx hb dX5_behindEd_138 (by decide) ?_
      refine lv_iand hx hb dX5_behindEd_139 ?_
      refine lv_if_ne (tgt := 153) hx hb dX5_behindEd_140 (by decide) (fun q => ?_) (fun q => ?_)
      · replace hf := zif_f q hf
        refine lv_aload_n hx hb dX5_behindEd_153 rfl (lv_at hl 1 rfl) ?_
        refine lv_iload_n hx hb dX5_behindEd_154 rfl (lv_at hl 0 rfl) ?_
        refine lv_iconst (v := 1) hx hb dX5_behindEd_155 (by decide) ?_
        refine lv_ishr hx hb dX5_behindEd_156 ?_
        obtain ⟨σ12, v13, g12, hf⟩ := zbi_use hf
        refine z_callVi (As := [.int (v2 >>> ((1 : Int32) &&& 31))]) (rest := []) hC hI (cX5_addPairAndCarry_met st l D ad cy σ (v2 >>> ((1 : Int32) &&& 31)) _ g12) (zgV zw30_7 zw30_8 zw30_9 zw2_21 zw30_10) rfl ⟨rfl, rfl⟩ 1 hdX5_addPairAndCarry ⟨Nat.le_of_ble_eq_true rfl, Nat.le_of_ble_eq_true rfl⟩ rfl rfl (wC_e7 ad cy σ) rfl hl rfl (Nat.le_of_ble_eq_true rfl) dX5_behindEd_157 ⟨Nat.zero_le _, Nat.zero_le _⟩ (fun H locs hI => ?_)
        exact bX5_behindEd_160 hC  hI (lv_sub hl [] rfl) hf
      replace hf := zif_t q hf
      refine lv_aload_n hx hb dX5_behindEd_143 rfl (lv_at hl 1 rfl) ?_
      refine lv_iload_n hx hb dX5_behindEd_144 rfl (lv_at hl 0 rfl) ?_
      refine lv_iconst (v := 1) hx hb dX5_behindEd_145 (by decide) ?_
      refine lv_ishr hx hb dX5_behindEd_146 ?_
      obtain ⟨σ14, v15, g14, hf⟩ := zbi_use hf
      refine z_callVi (As := [.int (v2 >>> ((1 : Int32) &&& 31))]) (rest := []) hC hI (cX5_takePair_met st l D ad cy σ (v2 >>> ((1 : Int32) &&& 31)) _ g14) (zgV zw29_10 zw29_11 zw29_12 zw2_21 zw29_13) rfl ⟨rfl, rfl⟩ 1 hdX5_takePair ⟨Nat.le_of_ble_eq_true rfl, Nat.le_of_ble_eq_true rfl⟩ rfl rfl (wC_e7 ad cy σ) rfl hl rfl (Nat.le_of_ble_eq_true rfl) dX5_behindEd_147 ⟨Nat.zero_le _, Nat.zero_le _⟩ (fun H locs hI => ?_)
      refine lv_goto (tgt := 160) hx hb dX5_behindEd_150 (by decide) ?_
      exact bX5_behindEd_160 hC  hI (lv_sub hl [] rfl) hf
    replace hf := zif_f q2 hf
    by_cases q3 : (x1 &&& 7) = 3
    · replace hf := zif_t q3 hf
      refine lv_tableIn (tgt := 161) hx hb dX5_behindEd_22 (by rw [q3]; decide) (by rw [q3]; decide) (by rw [q3]; rfl) (by decide) ?_
      refine lv_aload_n hx hb dX5_behindEd_161 rfl (lv_at hl 1 rfl) ?_
      refine lv_iload_n hx hb dX5_behindEd_162 rfl (lv_at hl 0 rfl) ?_
      obtain ⟨σ16, v17, g16, hf⟩ := zbi_use hf
      refine z_callVi (As := [.int v2]) (rest := []) hC hI (cX5_farPair_met st l D ad cy σ v2 _ g16) (zgV zw30_11 zw30_12 zw30_13 zw2_21 zw30_14) rfl ⟨rfl, rfl⟩ 1 hdX5_farPair ⟨Nat.le_of_ble_eq_true rfl, Nat.le_of_ble_eq_true rfl⟩ rfl rfl (wC_e7 ad cy σ) rfl hl rfl (Nat.le_of_ble_eq_true rfl) dX5_behindEd_163 ⟨Nat.zero_le _, Nat.zero_le _⟩ (fun H locs hI => ?_)
      exact z_ireturn hC hI hf dX5_behindEd_166
    replace hf := zif_f q3 hf
    by_cases q4 : (x1 &&& 7) = 4
    · replace hf := zif_t q4 hf
      refine lv_tableIn (tgt := 167) hx hb dX5_behindEd_22 (by rw [q4]; decide) (by rw [q4]; decide) (by rw [q4]; rfl) (by decide) ?_
      refine lv_aload_n hx hb dX5_behindEd_167 rfl (lv_at hl 1 rfl) ?_
      refine z_get hC hI hinX5_behindEd_X50 7 (wC_e7 ad cy σ) rfl 2 (by decide) (List.mem_cons_of_mem _ zw7_5) rfl dX5_behindEd_168 ?_
      refine lv_iconst (v := 0) hx hb dX5_behindEd_171 (by decide) ?_
      refine lv_aload_n hx hb dX5_behindEd_172 rfl (lv_at hl 1 rfl) ?_
      refine lv_iconst (v := 0) hx hb dX5_behindEd_173 (by decide) ?_
      refine lv_aload_n hx hb dX5_behindEd_174 rfl (lv_at hl 1 rfl) ?_
      refine z_get hC hI hinX5_behindEd_X50 7 (wC_e7 ad cy σ) rfl 2 (by decide) (List.mem_cons_of_mem _ zw7_5) rfl dX5_behindEd_175 ?_
      refine lv_iconst (v := 0) hx hb dX5_behindEd_178 (by decide) ?_
      obtain ⟨q, hf⟩ := zck_use hf
      refine z_iald hC hI 36 23 (wC_e36 ad cy σ) (tC_t36 cy) q dX5_behindEd_179 ?_
      refine lv_iconst (v := 0) hx hb dX5_behindEd_180 (by decide) ?_
      obtain ⟨σ18, v19, g18, hf⟩ := zbi_use hf
      refine z_callVi (As := [.int 0, .int (zgi σ 36 (0 : Int32).toNatClampNeg), .int 0]) (rest := [.int 0, .ref (ad 36)]) hC hI (cX5_difference_met st l D ad cy σ 0 (zgi σ 36 (0 : Int32).toNatClampNeg) 0 _ g18) (zgV zw31_3 zw31_4 zw31_5 zw2_21 zw31_6) rfl ⟨rfl, rfl⟩ 3 hdX5_difference ⟨Nat.le_of_ble_eq_true rfl, Nat.le_of_ble_eq_true rfl⟩ rfl rfl (wC_e7 ad cy σ) rfl hl rfl (Nat.le_of_ble_eq_true rfl) dX5_behindEd_181 ⟨Nat.zero_le _, Nat.zero_le _⟩ (fun H locs hI => ?_)
      obtain ⟨q, hf⟩ := zck_use hf
      obtain ⟨σ20, eσ20⟩ : ∃ z, z = zsi σ18 36 ((0 : Int32).toNatClampNeg) v19 := ⟨_, rfl⟩
      replace hf := zbv_use eσ20 hf
      refine z_iast hC hI 36 23 (wC_e36 ad cy σ18) (tC_t36 cy) q ((wC_s36 ad cy σ18 _ _).trans (congrArg (wC ad cy) eσ20.symm)) dX5_behindEd_184 (fun H locs hI => ?_)
      refine lv_bipush (v := 8) hx hb dX5_behindEd_185 (by decide) ?_
      exact z_ireturn hC hI hf dX5_behindEd_187
    replace hf := zif_f q4 hf
    by_cases q5 : (x1 &&& 7) = 5
    · replace hf := zif_t q5 hf
      refine lv_tableIn (tgt := 188) hx hb dX5_behindEd_22 (by rw [q5]; decide) (by rw [q5]; decide) (by rw [q5]; rfl) (by decide) ?_
      refine lv_aload_n hx hb dX5_behindEd_188 rfl (lv_at hl 1 rfl) ?_
      refine lv_aload_n hx hb dX5_behindEd_189 rfl (lv_at hl 1 rfl) ?_
      obtain ⟨σ21, v22, g21, hf⟩ := zbi_use hf
      refine z_callVi (As := []) (rest := [.ref (ad 7)]) hC hI (cX5_pop_met st l D ad cy σ  _ g21) (zgV zw31_7 zw31_8 zw31_9 zw2_21 zw31_10) rfl ⟨rfl, rfl⟩ 0 hdX5_pop ⟨Nat.le_of_ble_eq_true rfl, Nat.le_of_ble_eq_true rfl⟩ rfl rfl (wC_e7 ad cy σ) rfl hl rfl (Nat.le_of_ble_eq_true rfl) dX5_behindEd_190 ⟨Nat.zero_le _, Nat.zero_le _⟩ (fun H locs hI => ?_)
      obtain ⟨σ23, g23, hf⟩ := zbu_use hf
      refine z_callVu (As := [.int v22]) (rest := []) hC hI (cX5_goTo_met st l D ad cy σ21 v22 _ g23) (zgV zw20_22 zw20_23 zw21_0 zw2_21 zw21_1) rfl ⟨rfl, rfl⟩ 1 hdX5_goTo ⟨Nat.le_of_ble_eq_true rfl, Nat.le_of_ble_eq_true rfl⟩ rfl rfl (wC_e7 ad cy σ21) rfl hl rfl (Nat.le_of_ble_eq_true rfl) dX5_behindEd_193 ⟨Nat.zero_le _, Nat.zero_le _⟩ (fun H locs hI => ?_)
      refine lv_aload_n hx hb dX5_behindEd_196 rfl (lv_at hl 1 rfl) ?_
      refine z_get hC hI hinX5_behindEd_X50 7 (wC_e7 ad cy σ23) rfl 2 (by decide) (List.mem_cons_of_mem _ zw7_5) rfl dX5_behindEd_197 ?_
      refine lv_bipush (v := 23) hx hb dX5_behindEd_200 (by decide) ?_
      refine lv_aload_n hx hb dX5_behindEd_202 rfl (lv_at hl 1 rfl) ?_
      refine z_get hC hI hinX5_behindEd_X50 7 (wC_e7 ad cy σ23) rfl 2 (by decide) (List.mem_cons_of_mem _ zw7_5) rfl dX5_behindEd_203 ?_
      refine lv_bipush (v := 24) hx hb dX5_behindEd_206 (by decide) ?_
      obtain ⟨q, hf⟩ := zck_use hf
      refine z_iald hC hI 36 23 (wC_e36 ad cy σ23) (tC_t36 cy) q dX5_behindEd_208 ?_
      obtain ⟨q, hf⟩ := zck_use hf
      obtain ⟨σ24, eσ24⟩ : ∃ z, z = zsi σ23 36 ((23 : Int32).toNatClampNeg) (zgi σ23 36 (24 : Int32).toNatClampNeg) := ⟨_, rfl⟩
      replace hf := zbv_use eσ24 hf
      refine z_iast hC hI 36 23 (wC_e36 ad cy σ23) (tC_t36 cy) q ((wC_s36 ad cy σ23 _ _).trans (congrArg (wC ad cy) eσ24.symm)) dX5_behindEd_209 (fun H locs hI => ?_)
      refine lv_bipush (v := 14) hx hb dX5_behindEd_210 (by decide) ?_
      exact z_ireturn hC hI hf dX5_behindEd_212
    replace hf := zif_f q5 hf
    by_cases q6 : (x1 &&& 7) = 6
    · replace hf := zif_t q6 hf
      refine lv_tableIn (tgt := 213) hx hb dX5_behindEd_22 (by rw [q6]; decide) (by rw [q6]; decide) (by rw [q6]; rfl) (by decide) ?_
      refine lv_aload_n hx hb dX5_behindEd_213 rfl (lv_at hl 1 rfl) ?_
      refine z_get hC hI hinX5_behindEd_X50 7 (wC_e7 ad cy σ) rfl 2 (by decide) (List.mem_cons_of_mem _ zw7_5) rfl dX5_behindEd_214 ?_
      refine lv_bipush (v := 25) hx hb dX5_behindEd_217 (by decide) ?_
      refine lv_iconst (v := 0) hx hb dX5_behindEd_219 (by decide) ?_
      refine lv_iload_n hx hb dX5_behindEd_220 rfl (lv_at hl 0 rfl) ?_
      refine lv_iconst (v := 3) hx hb dX5_behindEd_221 (by decide) ?_
      refine lv_iand hx hb dX5_behindEd_222 ?_
      refine lv_iconst (v := 1) hx hb dX5_behindEd_223 (by decide) ?_
      refine lv_isub hx hb dX5_behindEd_224 ?_
      refine z_mmax hC (List.mem_cons_of_mem _ zw29_5) (List.mem_cons_of_mem _ zw12_18) (List.mem_cons_of_mem _ zw12_15) (List.mem_cons_of_mem _ zw12_19) hl (Nat.le_of_ble_eq_true rfl) (Nat.le_of_ble_eq_true rfl) ⟨Nat.zero_le _, Nat.zero_le _⟩ dX5_behindEd_225 ?_
      obtain ⟨q, hf⟩ := zck_use hf
      obtain ⟨σ25, eσ25⟩ : ∃ z, z = zsi σ 36 ((25 : Int32).toNatClampNeg) (zmax 0 ((v2 &&& 3) - 1)) := ⟨_, rfl⟩
      replace hf := zbv_use eσ25 hf
      refine z_iast hC hI 36 23 (wC_e36 ad cy σ) (tC_t36 cy) q ((wC_s36 ad cy σ _ _).trans (congrArg (wC ad cy) eσ25.symm)) dX5_behindEd_228 (fun H locs hI => ?_)
      refine lv_bipush (v := 8) hx hb dX5_behindEd_229 (by decide) ?_
      exact z_ireturn hC hI hf dX5_behindEd_231
    replace hf := zif_f q6 hf
    refine lv_tableOut (tgt := 232) hx hb dX5_behindEd_22 (zsw (fun k h1 h2 => by rcases (show k = 0 ∨ k = 1 ∨ k = 2 ∨ k = 3 ∨ k = 4 ∨ k = 5 ∨ k = 6 by omega) with rfl | rfl | rfl | rfl | rfl | rfl | rfl <;> assumption)) (by decide) ?_
    refine lv_aload_n hx hb dX5_behindEd_232 rfl (lv_at hl 1 rfl) ?_
    refine lv_iload_n hx hb dX5_behindEd_233 rfl (lv_at hl 0 rfl) ?_
    obtain ⟨σ26, v27, g26, hf⟩ := zbi_use hf
    refine z_callVi (As := [.int v2]) (rest := []) hC hI (cX5_moreOfA_met st l D ad cy σ v2 _ g26) (zgV zw31_11 zw31_12 zw31_13 zw2_21 zw31_14) rfl ⟨rfl, rfl⟩ 1 hdX5_moreOfA ⟨Nat.le_of_ble_eq_true rfl, Nat.le_of_ble_eq_true rfl⟩ rfl rfl (wC_e7 ad cy σ) rfl hl rfl (Nat.le_of_ble_eq_true rfl) dX5_behindEd_234 ⟨Nat.zero_le _, Nat.zero_le _⟩ (fun H locs hI => ?_)
    exact z_ireturn hC hI hf dX5_behindEd_237
  replace hf := zif_f q hf
  refine lv_bipush (v := 8) hx hb dX5_behindEd_8 (by decide) ?_
  exact z_ireturn hC hI hf dX5_behindEd_10
set_option maxRecDepth 20000 in
theorem cX5_behindEd_met (st : Nat → Nat) (l : Launch) (D : va_G) (ad : Nat → Nat) (cy : Nat → ClassId) (σ : zSt) (x1 : Int32) (res : zSt × Int32) (hf : fX5_behindEd σ x1 = some res) (sz : Nat) : zMi st l yX5_behindEd wzX5_behindEd rmX5_behindEd [.ref (ad 7), .int x1] D (tC cy) (wC ad cy) sz σ res :=
  zMi.of (cc := cX5_behindEd) (maxL := 3) (ret := (some .int)) (by decide) rfl (Nat.le_of_ble_eq_true rfl) (fun p e s m args below meth c hC A hI ls hl => bX5_behindEd hC hI hl hf)
theorem hdX5_behindEd : yX5_behindEd.cls = RX5 ∧ yX5_behindEd.cls ≠ "java/lang/invoke/MethodHandle" ∧ yX5_behindEd.cls ≠ "java/lang/invoke/VarHandle" ∧ (parseMethodDescriptor yX5_behindEd.desc).map (fun d => d.parameters.length) = some 1 := by decide +kernel
def rmX5_exchange : Room := { frames := 3, cells := 0, slots := 0, locals := 69 }
def wzX5_exchange : List Cond := .code yX5_exchange cX5_exchange 3 (some .int) :: wsL_law
theorem hinX5_exchange_X50 : ∀ w ∈ wsX50, w ∈ wzX5_exchange := fun w h => List.mem_cons_of_mem _ (inlX5 w h)
def fX5_exchange_211  (σ : zSt) (x1 : Int32) : Option (zSt × Int32) :=
  zck (zin 23 29) (zbv (zsi σ 36 ((23 : Int32).toNatClampNeg) (x1 &&& 1)) (fun σ1 =>
  zck (zin 24 29) (zbv (zsi σ1 36 ((24 : Int32).toNatClampNeg) (x1 &&& 1)) (fun σ2 =>
  zck (zin 28 29) (zbv (zsi σ2 36 ((28 : Int32).toNatClampNeg) (x1 &&& 1)) (fun σ3 =>
  some (σ3, 4)))))))
def fX5_exchange  (σ : zSt) (x1 : Int32) : Option (zSt × Int32) :=
  if x1 = 0 then zbi (fX5_fetchWord σ ) (fun σ4 v5 =>
  zbu (fX5_goTo σ4 v5) (fun σ6 =>
  some (σ6, 10))) else
  if x1 = 1 then fX5_exchange_211 σ x1 else
  if x1 = 2 then zbi (fX5_fetch σ ) (fun σ7 v8 =>
  zck (zin 0 29) (
  zbu (fX4_write σ7 v8 (zgi σ7 36 (0 : Int32).toNatClampNeg)) (fun σ9 =>
  zck (zin 0 29) (
  zck (zin 20 29) (zbv (zsi σ9 36 ((20 : Int32).toNatClampNeg) (((zgi σ9 36 (0 : Int32).toNatClampNeg) <<< ((8 : Int32) &&& 31)) ||| ((v8 + 1) &&& 255))) (fun σ10 =>
  some (σ10, 11))))))) else
  if x1 = 3 then zbi (fX5_fetch σ ) (fun σ11 v12 =>
  zck (zin 0 29) (
  zck (zin 20 29) (zbv (zsi σ11 36 ((20 : Int32).toNatClampNeg) (((((zgi σ11 36 (0 : Int32).toNatClampNeg) <<< ((8 : Int32) &&& 31)) ||| v12) + 1) &&& 65535)) (fun σ13 =>
  zbi (fX4_read σ13 v12) (fun σ14 v15 =>
  zck (zin 0 29) (zbv (zsi σ14 36 ((0 : Int32).toNatClampNeg) v15) (fun σ16 =>
  some (σ16, 11)))))))) else
  if x1 = 4 then zck (zin 18 29) (
  zbi (fX5_readWord σ (zgi σ 36 (18 : Int32).toNatClampNeg)) (fun σ17 v18 =>
  zck (zin 18 29) (
  zbi (fX5_hl σ17 ) (fun σ19 v20 =>
  zbu (fX5_writeWord σ19 (zgi σ17 36 (18 : Int32).toNatClampNeg) v20) (fun σ21 =>
  zbu (fX5_putHl σ21 v18) (fun σ22 =>
  zck (zin 20 29) (zbv (zsi σ22 36 ((20 : Int32).toNatClampNeg) v18) (fun σ23 =>
  some (σ23, 19))))))))) else
  if x1 = 5 then zbi (fX5_pairAt σ 4) (fun σ24 v25 =>
  zbi (fX5_pairAt σ24 6) (fun σ26 v27 =>
  zbu (fX5_putPairAt σ26 4 v27) (fun σ28 =>
  zbu (fX5_putPairAt σ28 6 v25) (fun σ29 =>
  some (σ29, 4))))) else
  fX5_exchange_211 σ x1
set_option maxRecDepth 20000 in
set_option maxHeartbeats 4000000 in
theorem bX5_exchange_211 {st : Nat → Nat} {p : Program} {l : Launch} {e : Env} {s : State} {m : MethodId} {args : Array Value} {below : List Frame} {meth : Method} {c : Code} {D : va_G} {A : Nat → Prop} {ad : Nat → Nat} {cy : Nat → ClassId} (hC : zC p m c cX5_exchange 3 s args wzX5_exchange RX5 meth (some .int))  {res : zSt × Int32} {H : Heap} {locs : List Loc} {σ : zSt} {ls : Array Slot} {x1 : Int32} (hI : zI st D (tC cy) (wC ad cy σ) A s H locs) (hl : lv_has ls 3 [(0, .ref (ad 7)), (1, .int x1)]) (hf : fX5_exchange_211  σ x1 = some res) : W p l e rmX5_exchange s m args below meth c H locs 0 0 (zQi below args s D (tC cy) (wC ad cy) A res) (F0 m 211 ls []) := by
  have hx := hC.1
  have hb := hC.2.1
  unfold fX5_exchange_211 at hf
  refine lv_aload_n hx hb dX5_exchange_211 rfl (lv_at hl 0 rfl) ?_
  refine z_get hC hI hinX5_exchange_X50 7 (wC_e7 ad cy σ) rfl 2 (by decide) (List.mem_cons_of_mem _ zw7_5) rfl dX5_exchange_212 ?_
  refine lv_bipush (v := 23) hx hb dX5_exchange_215 (by decide) ?_
  refine lv_iload_n hx hb dX5_exchange_217 rfl (lv_at hl 1 rfl) ?_
  refine lv_iconst (v := 1) hx hb dX5_exchange_218 (by decide) ?_
  refine lv_iand hx hb dX5_exchange_219 ?_
  obtain ⟨q, hf⟩ := zck_use hf
  obtain ⟨σ1, eσ1⟩ : ∃ z, z = zsi σ 36 ((23 : Int32).toNatClampNeg) (x1 &&& 1) := ⟨_, rfl⟩
  replace hf := zbv_use eσ1 hf
  refine z_iast hC hI 36 23 (wC_e36 ad cy σ) (tC_t36 cy) q ((wC_s36 ad cy σ _ _).trans (congrArg (wC ad cy) eσ1.symm)) dX5_exchange_220 (fun H locs hI => ?_)
  refine lv_aload_n hx hb dX5_exchange_221 rfl (lv_at hl 0 rfl) ?_
  refine z_get hC hI hinX5_exchange_X50 7 (wC_e7 ad cy σ1) rfl 2 (by decide) (List.mem_cons_of_mem _ zw7_5) rfl dX5_exchange_222 ?_
  refine lv_bipush (v := 24) hx hb dX5_exchange_225 (by decide) ?_
  refine lv_iload_n hx hb dX5_exchange_227 rfl (lv_at hl 1 rfl) ?_
  refine lv_iconst (v := 1) hx hb dX5_exchange_228 (by decide) ?_
  refine lv_iand hx hb dX5_exchange_229 ?_
  obtain ⟨q, hf⟩ := zck_use hf
  obtain ⟨σ2, eσ2⟩ : ∃ z, z = zsi σ1 36 ((24 : Int32).toNatClampNeg) (x1 &&& 1) := ⟨_, rfl⟩
  replace hf := zbv_use eσ2 hf
  refine z_iast hC hI 36 23 (wC_e36 ad cy σ1) (tC_t36 cy) q ((wC_s36 ad cy σ1 _ _).trans (congrArg (wC ad cy) eσ2.symm)) dX5_exchange_230 (fun H locs hI => ?_)
  refine lv_aload_n hx hb dX5_exchange_231 rfl (lv_at hl 0 rfl) ?_
  refine z_get hC hI hinX5_exchange_X50 7 (wC_e7 ad cy σ2) rfl 2 (by decide) (List.mem_cons_of_mem _ zw7_5) rfl dX5_exchange_232 ?_
  refine lv_bipush (v := 28) hx hb dX5_exchange_235 (by decide) ?_
  refine lv_iload_n hx hb dX5_exchange_237 rfl (lv_at hl 1 rfl) ?_
  refine lv_iconst (v := 1) hx hb dX5_exchange_238 (by decide) ?_
  refine lv_iand hx hb dX5_exchange_239 ?_
  obtain ⟨q, hf⟩ := zck_use hf
  obtain ⟨σ3, eσ3⟩ : ∃ z, z = zsi σ2 36 ((28 : Int32).toNatClampNeg) (x1 &&& 1) := ⟨_, rfl⟩
  replace hf := zbv_use eσ3 hf
  refine z_iast hC hI 36 23 (wC_e36 ad cy σ2) (tC_t36 cy) q ((wC_s36 ad cy σ2 _ _).trans (congrArg (wC ad cy) eσ3.symm)) dX5_exchange_240 (fun H locs hI => ?_)
  refine lv_iconst (v := 4) hx hb dX5_exchange_241 (by decide) ?_
  exact z_ireturn hC hI hf dX5_exchange_242
set_option maxRecDepth 20000 in
set_option maxHeartbeats 4000000 in
theorem bX5_exchange {st : Nat → Nat} {p : Program} {l : Launch} {e : Env} {s : State} {m : MethodId} {args : Array Value} {below : List Frame} {meth : Method} {c : Code} {D : va_G} {A : Nat → Prop} {ad : Nat → Nat} {cy : Nat → ClassId} (hC : zC p m c cX5_exchange 3 s args wzX5_exchange RX5 meth (some .int))  {res : zSt × Int32} {H : Heap} {locs : List Loc} {σ : zSt} {ls : Array Slot} {x1 : Int32} (hI : zI st D (tC cy) (wC ad cy σ) A s H locs) (hl : lv_has ls 3 [(0, .ref (ad 7)), (1, .int x1)]) (hf : fX5_exchange  σ x1 = some res) : W p l e rmX5_exchange s m args below meth c H locs 0 0 (zQi below args s D (tC cy) (wC ad cy) A res) (F0 m 0 ls []) := by
  have hx := hC.1
  have hb := hC.2.1
  unfold fX5_exchange at hf
  refine lv_iload_n hx hb dX5_exchange_0 rfl (lv_at hl 1 rfl) ?_
  by_cases q0 : x1 = 0
  · replace hf := zif_t q0 hf
    refine lv_tableIn (tgt := 40) hx hb dX5_exchange_1 (by rw [q0]; decide) (by rw [q0]; decide) (by rw [q0]; rfl) (by decide) ?_
    refine lv_aload_n hx hb dX5_exchange_40 rfl (lv_at hl 0 rfl) ?_
    refine lv_aload_n hx hb dX5_exchange_41 rfl (lv_at hl 0 rfl) ?_
    obtain ⟨σ4, v5, g4, hf⟩ := zbi_use hf
    refine z_callVi (As := []) (rest := [.ref (ad 7)]) hC hI (cX5_fetchWord_met st l D ad cy σ  _ g4) (zgV zw30_15 zw30_16 zw30_17 zw2_21 zw30_18) rfl ⟨rfl, rfl⟩ 0 hdX5_fetchWord ⟨Nat.le_of_ble_eq_true rfl, Nat.le_of_ble_eq_true rfl⟩ rfl rfl (wC_e7 ad cy σ) rfl hl rfl (Nat.le_of_ble_eq_true rfl) dX5_exchange_42 ⟨Nat.zero_le _, Nat.zero_le _⟩ (fun H locs hI => ?_)
    obtain ⟨σ6, g6, hf⟩ := zbu_use hf
    refine z_callVu (As := [.int v5]) (rest := []) hC hI (cX5_goTo_met st l D ad cy σ4 v5 _ g6) (zgV zw20_22 zw20_23 zw21_0 zw2_21 zw21_1) rfl ⟨rfl, rfl⟩ 1 hdX5_goTo ⟨Nat.le_of_ble_eq_true rfl, Nat.le_of_ble_eq_true rfl⟩ rfl rfl (wC_e7 ad cy σ4) rfl hl rfl (Nat.le_of_ble_eq_true rfl) dX5_exchange_45 ⟨Nat.zero_le _, Nat.zero_le _⟩ (fun H locs hI => ?_)
    refine lv_bipush (v := 10) hx hb dX5_exchange_48 (by decide) ?_
    exact z_ireturn hC hI hf dX5_exchange_50
  replace hf := zif_f q0 hf
  by_cases q1 : x1 = 1
  · replace hf := zif_t q1 hf
    refine lv_tableIn (tgt := 211) hx hb dX5_exchange_1 (by rw [q1]; decide) (by rw [q1]; decide) (by rw [q1]; rfl) (by decide) ?_
    exact bX5_exchange_211 hC  hI hl hf
  replace hf := zif_f q1 hf
  by_cases q2 : x1 = 2
  · replace hf := zif_t q2 hf
    refine lv_tableIn (tgt := 51) hx hb dX5_exchange_1 (by rw [q2]; decide) (by rw [q2]; decide) (by rw [q2]; rfl) (by decide) ?_
    refine lv_aload_n hx hb dX5_exchange_51 rfl (lv_at hl 0 rfl) ?_
    obtain ⟨σ7, v8, g7, hf⟩ := zbi_use hf
    refine z_callVi (As := []) (rest := []) hC hI (cX5_fetch_met st l D ad cy σ  _ g7) (zgV zw21_23 zw22_0 zw22_1 zw2_21 zw22_2) rfl ⟨rfl, rfl⟩ 0 hdX5_fetch ⟨Nat.le_of_ble_eq_true rfl, Nat.le_of_ble_eq_true rfl⟩ rfl rfl (wC_e7 ad cy σ) rfl hl rfl (Nat.le_of_ble_eq_true rfl) dX5_exchange_52 ⟨Nat.zero_le _, Nat.zero_le _⟩ (fun H locs hI => ?_)
    refine lv_istore_n (lv' := [(2, .int v8), (0, .ref (ad 7)), (1, .int x1)]) hx hb dX5_exchange_55 rfl hl (by decide) rfl (fun ls hl => ?_)
    refine lv_aload_n hx hb dX5_exchange_56 rfl (lv_at hl 1 rfl) ?_
    refine z_get hC hI hinX5_exchange_X50 7 (wC_e7 ad cy σ7) rfl 1 (by decide) (List.mem_cons_of_mem _ zw7_9) rfl dX5_exchange_57 ?_
    refine lv_iload_n hx hb dX5_exchange_60 rfl (lv_at hl 0 rfl) ?_
    refine lv_aload_n hx hb dX5_exchange_61 rfl (lv_at hl 1 rfl) ?_
    refine z_get hC hI hinX5_exchange_X50 7 (wC_e7 ad cy σ7) rfl 2 (by decide) (List.mem_cons_of_mem _ zw7_5) rfl dX5_exchange_62 ?_
    refine lv_iconst (v := 0) hx hb dX5_exchange_65 (by decide) ?_
    obtain ⟨q, hf⟩ := zck_use hf
    refine z_iald hC hI 36 23 (wC_e36 ad cy σ7) (tC_t36 cy) q dX5_exchange_66 ?_
    obtain ⟨σ9, g9, hf⟩ := zbu_use hf
    refine z_callVu (As := [.int v8, .int (zgi σ7 36 (0 : Int32).toNatClampNeg)]) (rest := []) hC hI (cX4_write_met st l D ad cy σ7 v8 (zgi σ7 36 (0 : Int32).toNatClampNeg) _ g9) (zgV zw27_9 zw27_10 zw27_11 zw2_17 zw27_12) rfl ⟨rfl, rfl⟩ 2 hdX4_write ⟨Nat.le_of_ble_eq_true rfl, Nat.le_of_ble_eq_true rfl⟩ rfl rfl (wC_e6 ad cy σ7) rfl hl rfl (Nat.le_of_ble_eq_true rfl) dX5_exchange_67 ⟨Nat.zero_le _, Nat.zero_le _⟩ (fun H locs hI => ?_)
    refine lv_aload_n hx hb dX5_exchange_70 rfl (lv_at hl 1 rfl) ?_
    refine z_get hC hI hinX5_exchange_X50 7 (wC_e7 ad cy σ9) rfl 2 (by decide) (List.mem_cons_of_mem _ zw7_5) rfl dX5_exchange_71 ?_
    refine lv_bipush (v := 20) hx hb dX5_exchange_74 (by decide) ?_
    refine lv_aload_n hx hb dX5_exchange_76 rfl (lv_at hl 1 rfl) ?_
    refine z_get hC hI hinX5_exchange_X50 7 (wC_e7 ad cy σ9) rfl 2 (by decide) (List.mem_cons_of_mem _ zw7_5) rfl dX5_exchange_77 ?_
    refine lv_iconst (v := 0) hx hb dX5_exchange_80 (by decide) ?_
    obtain ⟨q, hf⟩ := zck_use hf
    refine z_iald hC hI 36 23 (wC_e36 ad cy σ9) (tC_t36 cy) q dX5_exchange_81 ?_
    refine lv_bipush (v := 8) hx hb dX5_exchange_82 (by decide) ?_
    refine lv_ishl hx hb dX5_exchange_84 ?_
    refine lv_iload_n hx hb dX5_exchange_85 rfl (lv_at hl 0 rfl) ?_
    refine lv_iconst (v := 1) hx hb dX5_exchange_86 (by decide) ?_
    refine lv_iadd hx hb dX5_exchange_87 ?_
    refine lv_sipush (v := 255) hx hb dX5_exchange_88 (by decide) ?_
    refine lv_iand hx hb dX5_exchange_91 ?_
    refine lv_ior hx hb dX5_exchange_92 ?_
    obtain ⟨q, hf⟩ := zck_use hf
    obtain ⟨σ10, eσ10⟩ : ∃ z, z = zsi σ9 36 ((20 : Int32).toNatClampNeg) (((zgi σ9 36 (0 : Int32).toNatClampNeg) <<< ((8 : Int32) &&& 31)) ||| ((v8 + 1) &&& 255)) := ⟨_, rfl⟩
    replace hf := zbv_use eσ10 hf
    refine z_iast hC hI 36 23 (wC_e36 ad cy σ9) (tC_t36 cy) q ((wC_s36 ad cy σ9 _ _).trans (congrArg (wC ad cy) eσ10.symm)) dX5_exchange_93 (fun H locs hI => ?_)
    refine lv_bipush (v := 11) hx hb dX5_exchange_94 (by decide) ?_
    exact z_ireturn hC hI hf dX5_exchange_96
  replace hf := zif_f q2 hf
  by_cases q3 : x1 = 3
  · replace hf := zif_t q3 hf
    refine lv_tableIn (tgt := 97) hx hb dX5_exchange_1 (by rw [q3]; decide) (by rw [q3]; decide) (by rw [q3]; rfl) (by decide) ?_
    refine lv_aload_n hx hb dX5_exchange_97 rfl (lv_at hl 0 rfl) ?_
    obtain ⟨σ11, v12, g11, hf⟩ := zbi_use hf
    refine z_callVi (As := []) (rest := []) hC hI (cX5_fetch_met st l D ad cy σ  _ g11) (zgV zw21_23 zw22_0 zw22_1 zw2_21 zw22_2) rfl ⟨rfl, rfl⟩ 0 hdX5_fetch ⟨Nat.le_of_ble_eq_true rfl, Nat.le_of_ble_eq_true rfl⟩ rfl rfl (wC_e7 ad cy σ) rfl hl rfl (Nat.le_of_ble_eq_true rfl) dX5_exchange_98 ⟨Nat.zero_le _, Nat.zero_le _⟩ (fun H locs hI => ?_)
    refine lv_istore_n (lv' := [(2, .int v12), (0, .ref (ad 7)), (1, .int x1)]) hx hb dX5_exchange_101 rfl hl (by decide) rfl (fun ls hl => ?_)
    refine lv_aload_n hx hb dX5_exchange_102 rfl (lv_at hl 1 rfl) ?_
    refine z_get hC hI hinX5_exchange_X50 7 (wC_e7 ad cy σ11) rfl 2 (by decide) (List.mem_cons_of_mem _ zw7_5) rfl dX5_exchange_103 ?_
    refine lv_bipush (v := 20) hx hb dX5_exchange_106 (by decide) ?_
    refine lv_aload_n hx hb dX5_exchange_108 rfl (lv_at hl 1 rfl) ?_
    refine z_get hC hI hinX5_exchange_X50 7 (wC_e7 ad cy σ11) rfl 2 (by decide) (List.mem_cons_of_mem _ zw7_5) rfl dX5_exchange_109 ?_
    refine lv_iconst (v := 0) hx hb dX5_exchange_112 (by decide) ?_
    obtain ⟨q, hf⟩ := zck_use hf
    refine z_iald hC hI 36 23 (wC_e36 ad cy σ11) (tC_t36 cy) q dX5_exchange_113 ?_
    refine lv_bipush (v := 8) hx hb dX5_exchange_114 (by decide) ?_
    refine lv_ishl hx hb dX5_exchange_116 ?_
    refine lv_iload_n hx hb dX5_exchange_117 rfl (lv_at hl 0 rfl) ?_
    refine lv_ior hx hb dX5_exchange_118 ?_
    refine lv_iconst (v := 1) hx hb dX5_exchange_119 (by decide) ?_
    refine lv_iadd hx hb dX5_exchange_120 ?_
    refine lv_ldc (v := 65535) hx hb hC.2.2.2.1 (hC.2.2.2.2.1 _ (List.mem_cons_of_mem _ zw20_6)) dX5_exchange_121 ?_
    refine lv_iand hx hb dX5_exchange_123 ?_
    obtain ⟨q, hf⟩ := zck_use hf
    obtain ⟨σ13, eσ13⟩ : ∃ z, z = zsi σ11 36 ((20 : Int32).toNatClampNeg) (((((zgi σ11 36 (0 : Int32).toNatClampNeg) <<< ((8 : Int32) &&& 31)) ||| v12) + 1) &&& 65535) := ⟨_, rfl⟩
    replace hf := zbv_use eσ13 hf
    refine z_iast hC hI 36 23 (wC_e36 ad cy σ11) (tC_t36 cy) q ((wC_s36 ad cy σ11 _ _).trans (congrArg (wC ad cy) eσ13.symm)) dX5_exchange_124 (fun H locs hI => ?_)
    refine lv_aload_n hx hb dX5_exchange_125 rfl (lv_at hl 1 rfl) ?_
    refine z_get hC hI hinX5_exchange_X50 7 (wC_e7 ad cy σ13) rfl 2 (by decide) (List.mem_cons_of_mem _ zw7_5) rfl dX5_exchange_126 ?_
    refine lv_iconst (v := 0) hx hb dX5_exchange_129 (by decide) ?_
    refine lv_aload_n hx hb dX5_exchange_130 rfl (lv_at hl 1 rfl) ?_
    refine z_get hC hI hinX5_exchange_X50 7 (wC_e7 ad cy σ13) rfl 1 (by decide) (List.mem_cons_of_mem _ zw7_9) rfl dX5_exchange_131 ?_
    refine lv_iload_n hx hb dX5_exchange_134 rfl (lv_at hl 0 rfl) ?_
    obtain ⟨σ14, v15, g14, hf⟩ := zbi_use hf
    refine z_callVi (As := [.int v12]) (rest := [.int 0, .ref (ad 36)]) hC hI (cX4_read_met st l D ad cy σ13 v12 _ g14) (zgV zw25_4 zw25_5 zw25_6 zw2_17 zw25_7) rfl ⟨rfl, rfl⟩ 1 hdX4_read ⟨Nat.le_of_ble_eq_true rfl, Nat.le_of_ble_eq_true rfl⟩ rfl rfl (wC_e6 ad cy σ13) rfl hl rfl (Nat.le_of_ble_eq_true rfl) dX5_exchange_135 ⟨Nat.zero_le _, Nat.zero_le _⟩ (fun H locs hI => ?_)
    obtain ⟨q, hf⟩ := zck_use hf
    obtain ⟨σ16, eσ16⟩ : ∃ z, z = zsi σ14 36 ((0 : Int32).toNatClampNeg) v15 := ⟨_, rfl⟩
    replace hf := zbv_use eσ16 hf
    refine z_iast hC hI 36 23 (wC_e36 ad cy σ14) (tC_t36 cy) q ((wC_s36 ad cy σ14 _ _).trans (congrArg (wC ad cy) eσ16.symm)) dX5_exchange_138 (fun H locs hI => ?_)
    refine lv_bipush (v := 11) hx hb dX5_exchange_139 (by decide) ?_
    exact z_ireturn hC hI hf dX5_exchange_141
  replace hf := zif_f q3 hf
  by_cases q4 : x1 = 4
  · replace hf := zif_t q4 hf
    refine lv_tableIn (tgt := 142) hx hb dX5_exchange_1 (by rw [q4]; decide) (by rw [q4]; decide) (by rw [q4]; rfl) (by decide) ?_
    refine lv_aload_n hx hb dX5_exchange_142 rfl (lv_at hl 0 rfl) ?_
    refine lv_aload_n hx hb dX5_exchange_143 rfl (lv_at hl 0 rfl) ?_
    refine z_get hC hI hinX5_exchange_X50 7 (wC_e7 ad cy σ) rfl 2 (by decide) (List.mem_cons_of_mem _ zw7_5) rfl dX5_exchange_144 ?_
    refine lv_bipush (v := 18) hx hb dX5_exchange_147 (by decide) ?_
    obtain ⟨q, hf⟩ := zck_use hf
    refine z_iald hC hI 36 23 (wC_e36 ad cy σ) (tC_t36 cy) q dX5_exchange_149 ?_
    obtain ⟨σ17, v18, g17, hf⟩ := zbi_use hf
    refine z_callVi (As := [.int (zgi σ 36 (18 : Int32).toNatClampNeg)]) (rest := []) hC hI (cX5_readWord_met st l D ad cy σ (zgi σ 36 (18 : Int32).toNatClampNeg) _ g17) (zgV zw21_2 zw21_3 zw21_4 zw2_21 zw21_5) rfl ⟨rfl, rfl⟩ 1 hdX5_readWord ⟨Nat.le_of_ble_eq_true rfl, Nat.le_of_ble_eq_true rfl⟩ rfl rfl (wC_e7 ad cy σ) rfl hl rfl (Nat.le_of_ble_eq_true rfl) dX5_exchange_150 ⟨Nat.zero_le _, Nat.zero_le _⟩ (fun H locs hI => ?_)
    refine lv_istore_n (lv' := [(2, .int v18), (0, .ref (ad 7)), (1, .int x1)]) hx hb dX5_exchange_153 rfl hl (by decide) rfl (fun ls hl => ?_)
    refine lv_aload_n hx hb dX5_exchange_154 rfl (lv_at hl 1 rfl) ?_
    refine lv_aload_n hx hb dX5_exchange_155 rfl (lv_at hl 1 rfl) ?_
    refine z_get hC hI hinX5_exchange_X50 7 (wC_e7 ad cy σ17) rfl 2 (by decide) (List.mem_cons_of_mem _ zw7_5) rfl dX5_exchange_156 ?_
    refine lv_bipush (v := 18) hx hb dX5_exchange_159 (by decide) ?_
    obtain ⟨q, hf⟩ := zck_use hf
    refine z_iald hC hI 36 23 (wC_e36 ad cy σ17) (tC_t36 cy) q dX5_exchange_161 ?_
    refine lv_aload_n hx hb dX5_exchange_162 rfl (lv_at hl 1 rfl) ?_
    obtain ⟨σ19, v20, g19, hf⟩ := zbi_use hf
    refine z_callVi (As := []) (rest := [.int (zgi σ17 36 (18 : Int32).toNatClampNeg), .ref (ad 7)]) hC hI (cX5_hl_met st l D ad cy σ17  _ g19) (zgV zw29_15 zw29_16 zw29_17 zw2_21 zw29_18) rfl ⟨rfl, rfl⟩ 0 hdX5_hl ⟨Nat.le_of_ble_eq_true rfl, Nat.le_of_ble_eq_true rfl⟩ rfl rfl (wC_e7 ad cy σ17) rfl hl rfl (Nat.le_of_ble_eq_true rfl) dX5_exchange_163 ⟨Nat.zero_le _, Nat.zero_le _⟩ (fun H locs hI => ?_)
    obtain ⟨σ21, g21, hf⟩ := zbu_use hf
    refine z_callVu (As := [.int (zgi σ17 36 (18 : Int32).toNatClampNeg), .int v20]) (rest := []) hC hI (cX5_writeWord_met st l D ad cy σ19 (zgi σ17 36 (18 : Int32).toNatClampNeg) v20 _ g21) (zgV zw30_19 zw30_20 zw30_21 zw2_21 zw30_22) rfl ⟨rfl, rfl⟩ 2 hdX5_writeWord ⟨Nat.le_of_ble_eq_true rfl, Nat.le_of_ble_eq_true rfl⟩ rfl rfl (wC_e7 ad cy σ19) rfl hl rfl (Nat.le_of_ble_eq_true rfl) dX5_exchange_166 ⟨Nat.zero_le _, Nat.zero_le _⟩ (fun H locs hI => ?_)
    refine lv_aload_n hx hb dX5_exchange_169 rfl (lv_at hl 1 rfl) ?_
    refine lv_iload_n hx hb dX5_exchange_170 rfl (lv_at hl 0 rfl) ?_
    obtain ⟨σ22, g22, hf⟩ := zbu_use hf
    refine z_callVu (As := [.int v18]) (rest := []) hC hI (cX5_putHl_met st l D ad cy σ21 v18 _ g22) (zgV zw30_3 zw30_4 zw30_5 zw2_21 zw30_6) rfl ⟨rfl, rfl⟩ 1 hdX5_putHl ⟨Nat.le_of_ble_eq_true rfl, Nat.le_of_ble_eq_true rfl⟩ rfl rfl (wC_e7 ad cy σ21) rfl hl rfl (Nat.le_of_ble_eq_true rfl) dX5_exchange_171 ⟨Nat.zero_le _, Nat.zero_le _⟩ (fun H locs hI => ?_)
    refine lv_aload_n hx hb dX5_exchange_174 rfl (lv_at hl 1 rfl) ?_
    refine z_get hC hI hinX5_exchange_X50 7 (wC_e7 ad cy σ22) rfl 2 (by decide) (List.mem_cons_of_mem _ zw7_5) rfl dX5_exchange_175 ?_
    refine lv_bipush (v := 20) hx hb dX5_exchange_178 (by decide) ?_
    refine lv_iload_n hx hb dX5_exchange_180 rfl (lv_at hl 0 rfl) ?_
    obtain ⟨q, hf⟩ := zck_use hf
    obtain ⟨σ23, eσ23⟩ : ∃ z, z = zsi σ22 36 ((20 : Int32).toNatClampNeg) v18 := ⟨_, rfl⟩
    replace hf := zbv_use eσ23 hf
    refine z_iast hC hI 36 23 (wC_e36 ad cy σ22) (tC_t36 cy) q ((wC_s36 ad cy σ22 _ _).trans (congrArg (wC ad cy) eσ23.symm)) dX5_exchange_181 (fun H locs hI => ?_)
    refine lv_bipush (v := 19) hx hb dX5_exchange_182 (by decide) ?_
    exact z_ireturn hC hI hf dX5_exchange_184
  replace hf := zif_f q4 hf
  by_cases q5 : x1 = 5
  · replace hf := zif_t q5 hf
    refine lv_tableIn (tgt := 185) hx hb dX5_exchange_1 (by rw [q5]; decide) (by rw [q5]; decide) (by rw [q5]; rfl) (by decide) ?_
    refine lv_aload_n hx hb dX5_exchange_185 rfl (lv_at hl 0 rfl) ?_
    refine lv_iconst (v := 4) hx hb dX5_exchange_186 (by decide) ?_
    obtain ⟨σ24, v25, g24, hf⟩ := zbi_use hf
    refine z_callVi (As := [.int 4]) (rest := []) hC hI (cX5_pairAt_met st l D ad cy σ 4 _ g24) (zgV zw21_15 zw21_16 zw21_17 zw2_21 zw21_18) rfl ⟨rfl, rfl⟩ 1 hdX5_pairAt ⟨Nat.le_of_ble_eq_true rfl, Nat.le_of_ble_eq_true rfl⟩ rfl rfl (wC_e7 ad cy σ) rfl hl rfl (Nat.le_of_ble_eq_true rfl) dX5_exchange_187 ⟨Nat.zero_le _, Nat.zero_le _⟩ (fun H locs hI => ?_)
    refine lv_istore_n (lv' := [(2, .int v25), (0, .ref (ad 7)), (1, .int x1)]) hx hb dX5_exchange_190 rfl hl (by decide) rfl (fun ls hl => ?_)
    refine lv_aload_n hx hb dX5_exchange_191 rfl (lv_at hl 1 rfl) ?_
    refine lv_iconst (v := 4) hx hb dX5_exchange_192 (by decide) ?_
    refine lv_aload_n hx hb dX5_exchange_193 rfl (lv_at hl 1 rfl) ?_
    refine lv_bipush (v := 6) hx hb dX5_exchange_194 (by decide) ?_
    obtain ⟨σ26, v27, g26, hf⟩ := zbi_use hf
    refine z_callVi (As := [.int 6]) (rest := [.int 4, .ref (ad 7)]) hC hI (cX5_pairAt_met st l D ad cy σ24 6 _ g26) (zgV zw21_15 zw21_16 zw21_17 zw2_21 zw21_18) rfl ⟨rfl, rfl⟩ 1 hdX5_pairAt ⟨Nat.le_of_ble_eq_true rfl, Nat.le_of_ble_eq_true rfl⟩ rfl rfl (wC_e7 ad cy σ24) rfl hl rfl (Nat.le_of_ble_eq_true rfl) dX5_exchange_196 ⟨Nat.zero_le _, Nat.zero_le _⟩ (fun H locs hI => ?_)
    obtain ⟨σ28, g28, hf⟩ := zbu_use hf
    refine z_callVu (As := [.int 4, .int v27]) (rest := []) hC hI (cX5_putPairAt_met st l D ad cy σ26 4 v27 _ g28) (zgV zw24_16 zw24_17 zw24_18 zw2_21 zw24_19) rfl ⟨rfl, rfl⟩ 2 hdX5_putPairAt ⟨Nat.le_of_ble_eq_true rfl, Nat.le_of_ble_eq_true rfl⟩ rfl rfl (wC_e7 ad cy σ26) rfl hl rfl (Nat.le_of_ble_eq_true rfl) dX5_exchange_199 ⟨Nat.zero_le _, Nat.zero_le _⟩ (fun H locs hI => ?_)
    refine lv_aload_n hx hb dX5_exchange_202 rfl (lv_at hl 1 rfl) ?_
    refine lv_bipush (v := 6) hx hb dX5_exchange_203 (by decide) ?_
    refine lv_iload_n hx hb dX5_exchange_205 rfl (lv_at hl 0 rfl) ?_
    obtain ⟨σ29, g29, hf⟩ := zbu_use hf
    refine z_callVu (As := [.int 6, .int v25]) (rest := []) hC hI (cX5_putPairAt_met st l D ad cy σ28 6 v25 _ g29) (zgV zw24_16 zw24_17 zw24_18 zw2_21 zw24_19) rfl ⟨rfl, rfl⟩ 2 hdX5_putPairAt ⟨Nat.le_of_ble_eq_true rfl, Nat.le_of_ble_eq_true rfl⟩ rfl rfl (wC_e7 ad cy σ28) rfl hl rfl (Nat.le_of_ble_eq_true rfl) dX5_exchange_206 ⟨Nat.zero_le _, Nat.zero_le _⟩ (fun H locs hI => ?_)
    refine lv_iconst (v := 4) hx hb dX5_exchange_209 (by decide) ?_
    exact z_ireturn hC hI hf dX5_exchange_210
  replace hf := zif_f q5 hf
  refine lv_tableOut (tgt := 211) hx hb dX5_exchange_1 (zsw (fun k h1 h2 => by rcases (show k = 0 ∨ k = 1 ∨ k = 2 ∨ k = 3 ∨ k = 4 ∨ k = 5 by omega) with rfl | rfl | rfl | rfl | rfl | rfl <;> assumption)) (by decide) ?_
  exact bX5_exchange_211 hC  hI hl hf
set_option maxRecDepth 20000 in
theorem cX5_exchange_met (st : Nat → Nat) (l : Launch) (D : va_G) (ad : Nat → Nat) (cy : Nat → ClassId) (σ : zSt) (x1 : Int32) (res : zSt × Int32) (hf : fX5_exchange σ x1 = some res) (sz : Nat) : zMi st l yX5_exchange wzX5_exchange rmX5_exchange [.ref (ad 7), .int x1] D (tC cy) (wC ad cy) sz σ res :=
  zMi.of (cc := cX5_exchange) (maxL := 3) (ret := (some .int)) (by decide) rfl (Nat.le_of_ble_eq_true rfl) (fun p e s m args below meth c hC A hI ls hl => bX5_exchange hC hI hl hf)
theorem hdX5_exchange : yX5_exchange.cls = RX5 ∧ yX5_exchange.cls ≠ "java/lang/invoke/MethodHandle" ∧ yX5_exchange.cls ≠ "java/lang/invoke/VarHandle" ∧ (parseMethodDescriptor yX5_exchange.desc).map (fun d => d.parameters.length) = some 1 := by decide +kernel
def rmX5_sum : Room := { frames := 1, cells := 0, slots := 0, locals := 20 }
def wzX5_sum : List Cond := .code yX5_sum cX5_sum 7 (some .int) :: wsL_law
theorem hinX5_sum_X50 : ∀ w ∈ wsX50, w ∈ wzX5_sum := fun w h => List.mem_cons_of_mem _ (inlX5 w h)
def fX5_sum_61  (σ : zSt) (x4 : Int32) (x5 : Int32) (s0 : Int32) (s1 : Int32) (s2 : Int32) : Option (zSt × Int32) :=
  zck (zin s2 29) (zbv (zsi σ 36 (s2.toNatClampNeg) ((s1 ||| s0) ||| (x4 >>> ((8 : Int32) &&& 31)))) (fun σ1 =>
  some (σ1, x5)))
def fX5_sum  (σ : zSt) (x1 : Int32) (x2 : Int32) (x3 : Int32) : Option (zSt × Int32) :=
  zbv ((x1 + x2) + x3) (fun v2 =>
  zbv (v2 &&& 255) (fun v3 =>
  zbv ((((x1 ^^^ x2) ^^^ (-1)) &&& (x1 ^^^ v3)) &&& 128) (fun v4 =>
  zbi (fX5_by σ v3) (fun σ5 v6 =>
  if v4 = 0 then fX5_sum_61 σ5 v2 v3 0 (v6 ||| (((x1 ^^^ x2) ^^^ v3) &&& 16)) 1 else
  fX5_sum_61 σ5 v2 v3 4 (v6 ||| (((x1 ^^^ x2) ^^^ v3) &&& 16)) 1))))
set_option maxRecDepth 20000 in
set_option maxHeartbeats 4000000 in
theorem bX5_sum_61 {st : Nat → Nat} {p : Program} {l : Launch} {e : Env} {s : State} {m : MethodId} {args : Array Value} {below : List Frame} {meth : Method} {c : Code} {D : va_G} {A : Nat → Prop} {ad : Nat → Nat} {cy : Nat → ClassId} (hC : zC p m c cX5_sum 7 s args wzX5_sum RX5 meth (some .int))  {res : zSt × Int32} {H : Heap} {locs : List Loc} {σ : zSt} {ls : Array Slot} {x4 : Int32} {x5 : Int32} {s0 : Int32} {s1 : Int32} {s2 : Int32} (hI : zI st D (tC cy) (wC ad cy σ) A s H locs) (hl : lv_has ls 7 [(4, .int x4), (5, .int x5)]) (hf : fX5_sum_61  σ x4 x5 s0 s1 s2 = some res) : W p l e rmX5_sum s m args below meth c H locs 0 0 (zQi below args s D (tC cy) (wC ad cy) A res) (F0 m 61 ls [.int s0, .int s1, .int s2, .ref (ad 36)]) := by
  have hx := hC.1
  have hb := hC.2.1
  unfold fX5_sum_61 at hf
  refine lv_ior hx hb dX5_sum_61 ?_
  refine lv_iload hx hb dX5_sum_62 (lv_at hl 0 rfl) ?_
  refine lv_bipush (v := 8) hx hb dX5_sum_64 (by decide) ?_
  refine lv_ishr hx hb dX5_sum_66 ?_
  refine lv_ior hx hb dX5_sum_67 ?_
  obtain ⟨q, hf⟩ := zck_use hf
  obtain ⟨σ1, eσ1⟩ : ∃ z, z = zsi σ 36 (s2.toNatClampNeg) ((s1 ||| s0) ||| (x4 >>> ((8 : Int32) &&& 31))) := ⟨_, rfl⟩
  replace hf := zbv_use eσ1 hf
  refine z_iast hC hI 36 23 (wC_e36 ad cy σ) (tC_t36 cy) q ((wC_s36 ad cy σ _ _).trans (congrArg (wC ad cy) eσ1.symm)) dX5_sum_68 (fun H locs hI => ?_)
  refine lv_iload hx hb dX5_sum_69 (lv_at hl 1 rfl) ?_
  exact z_ireturn hC hI hf dX5_sum_71
set_option maxRecDepth 20000 in
set_option maxHeartbeats 4000000 in
theorem bX5_sum {st : Nat → Nat} {p : Program} {l : Launch} {e : Env} {s : State} {m : MethodId} {args : Array Value} {below : List Frame} {meth : Method} {c : Code} {D : va_G} {A : Nat → Prop} {ad : Nat → Nat} {cy : Nat → ClassId} (hC : zC p m c cX5_sum 7 s args wzX5_sum RX5 meth (some .int))  {res : zSt × Int32} {H : Heap} {locs : List Loc} {σ : zSt} {ls : Array Slot} {x1 : Int32} {x2 : Int32} {x3 : Int32} (hI : zI st D (tC cy) (wC ad cy σ) A s H locs) (hl : lv_has ls 7 [(0, .ref (ad 7)), (1, .int x1), (2, .int x2), (3, .int x3)]) (hf : fX5_sum  σ x1 x2 x3 = some res) : W p l e rmX5_sum s m args below meth c H locs 0 0 (zQi below args s D (tC cy) (wC ad cy) A res) (F0 m 0 ls []) := by
  have hx := hC.1
  have hb := hC.2.1
  unfold fX5_sum at hf
  refine lv_iload_n hx hb dX5_sum_0 rfl (lv_at hl 1 rfl) ?_
  refine lv_iload_n hx hb dX5_sum_1 rfl (lv_at hl 2 rfl) ?_
  refine lv_iadd hx hb dX5_sum_2 ?_
  refine lv_iload_n hx hb dX5_sum_3 rfl (lv_at hl 3 rfl) ?_
  refine lv_iadd hx hb dX5_sum_4 ?_
  refine lv_topi (fun v2 ev2 => ?_)
  replace hf := zbv_use ev2 hf
  refine lv_istore (lv' := [(4, .int v2), (0, .ref (ad 7)), (1, .int x1), (2, .int x2), (3, .int x3)]) hx hb dX5_sum_5 hl (by decide) rfl (fun ls hl => ?_)
  refine lv_iload hx hb dX5_sum_7 (lv_at hl 0 rfl) ?_
  refine lv_sipush (v := 255) hx hb dX5_sum_9 (by decide) ?_
  refine lv_iand hx hb dX5_sum_12 ?_
  refine lv_topi (fun v3 ev3 => ?_)
  replace hf := zbv_use ev3 hf
  refine lv_istore (lv' := [(5, .int v3), (4, .int v2), (0, .ref (ad 7)), (1, .int x1), (2, .int x2), (3, .int x3)]) hx hb dX5_sum_13 hl (by decide) rfl (fun ls hl => ?_)
  refine lv_iload_n hx hb dX5_sum_15 rfl (lv_at hl 3 rfl) ?_
  refine lv_iload_n hx hb dX5_sum_16 rfl (lv_at hl 4 rfl) ?_
  refine lv_ixor hx hb dX5_sum_17 ?_
  refine lv_iconst (v := (-1)) hx hb dX5_sum_18 (by decide) ?_
  refine lv_ixor hx hb dX5_sum_19 ?_
  refine lv_iload_n hx hb dX5_sum_20 rfl (lv_at hl 3 rfl) ?_
  refine lv_iload hx hb dX5_sum_21 (lv_at hl 0 rfl) ?_
  refine lv_ixor hx hb dX5_sum_23 ?_
  refine lv_iand hx hb dX5_sum_24 ?_
  refine lv_sipush (v := 128) hx hb dX5_sum_25 (by decide) ?_
  refine lv_iand hx hb dX5_sum_28 ?_
  refine lv_topi (fun v4 ev4 => ?_)
  replace hf := zbv_use ev4 hf
  refine lv_istore (lv' := [(6, .int v4), (5, .int v3), (4, .int v2), (0, .ref (ad 7)), (1, .int x1), (2, .int x2), (3, .int x3)]) hx hb dX5_sum_29 hl (by decide) rfl (fun ls hl => ?_)
  refine lv_aload_n hx hb dX5_sum_31 rfl (lv_at hl 3 rfl) ?_
  refine z_get hC hI hinX5_sum_X50 7 (wC_e7 ad cy σ) rfl 2 (by decide) (List.mem_cons_of_mem _ zw7_5) rfl dX5_sum_32 ?_
  refine lv_iconst (v := 1) hx hb dX5_sum_35 (by decide) ?_
  refine lv_iload hx hb dX5_sum_36 (lv_at hl 1 rfl) ?_
  obtain ⟨σ5, v6, g5, hf⟩ := zbi_use hf
  refine z_callSi (As := [.int v3]) (rest := [.int 1, .ref (ad 36)]) hC hI (cX5_by_met st l D ad cy σ v3 _ g5) (zgS zw22_19 zw22_20 zw2_21 zw22_21) rfl ⟨rfl, rfl⟩ 1 hdX5_by ⟨Nat.le_of_ble_eq_true rfl, Nat.le_of_ble_eq_true rfl⟩ rfl hl rfl (Nat.le_of_ble_eq_true rfl) dX5_sum_38 ⟨Nat.zero_le _, Nat.zero_le _⟩ (fun H locs hI => ?_)
  refine lv_iload_n hx hb dX5_sum_41 rfl (lv_at hl 4 rfl) ?_
  refine lv_iload_n hx hb dX5_sum_42 rfl (lv_at hl 5 rfl) ?_
  refine lv_ixor hx hb dX5_sum_43 ?_
  refine lv_iload hx hb dX5_sum_44 (lv_at hl 1 rfl) ?_
  refine lv_ixor hx hb dX5_sum_46 ?_
  refine lv_bipush (v := 16) hx hb dX5_sum_47 (by decide) ?_
  refine lv_iand hx hb dX5_sum_49 ?_
  refine lv_ior hx hb dX5_sum_50 ?_
  refine lv_iload hx hb dX5_sum_51 (lv_at hl 0 rfl) ?_
  refine lv_if_eq (tgt := 60) hx hb dX5_sum_53 (by decide) (fun q => ?_) (fun q => ?_)
  · replace hf := zif_t q hf
    refine lv_iconst (v := 0) hx hb dX5_sum_60 (by decide) ?_
    exact bX5_sum_61 hC  hI (lv_sub hl [2, 1] rfl) hf
  replace hf := zif_f q hf
  refine lv_iconst (v := 4) hx hb dX5_sum_56 (by decide) ?_
  refine lv_goto (tgt := 61) hx hb dX5_sum_57 (by decide) ?_
  exact bX5_sum_61 hC  hI (lv_sub hl [2, 1] rfl) hf
set_option maxRecDepth 20000 in
theorem cX5_sum_met (st : Nat → Nat) (l : Launch) (D : va_G) (ad : Nat → Nat) (cy : Nat → ClassId) (σ : zSt) (x1 : Int32) (x2 : Int32) (x3 : Int32) (res : zSt × Int32) (hf : fX5_sum σ x1 x2 x3 = some res) (sz : Nat) : zMi st l yX5_sum wzX5_sum rmX5_sum [.ref (ad 7), .int x1, .int x2, .int x3] D (tC cy) (wC ad cy) sz σ res :=
  zMi.of (cc := cX5_sum) (maxL := 7) (ret := (some .int)) (by decide) rfl (Nat.le_of_ble_eq_true rfl) (fun p e s m args below meth c hC A hI ls hl => bX5_sum hC hI hl hf)
theorem hdX5_sum : yX5_sum.cls = RX5 ∧ yX5_sum.cls ≠ "java/lang/invoke/MethodHandle" ∧ yX5_sum.cls ≠ "java/lang/invoke/VarHandle" ∧ (parseMethodDescriptor yX5_sum.desc).map (fun d => d.parameters.length) = some 3 := by decide +kernel
def rmX5_doWith : Room := { frames := 2, cells := 0, slots := 0, locals := 46 }
def wzX5_doWith : List Cond := .code yX5_doWith cX5_doWith 3 none :: wsL_law
theorem hinX5_doWith_X50 : ∀ w ∈ wsX50, w ∈ wzX5_doWith := fun w h => List.mem_cons_of_mem _ (inlX5 w h)
def fX5_doWith_292  (σ : zSt)  : Option (zSt) :=
  some σ
def fX5_doWith  (σ : zSt) (x1 : Int32) (x2 : Int32) : Option (zSt) :=
  if x1 = 0 then zck (zin 0 29) (
  zbi (fX5_sum σ (zgi σ 36 (0 : Int32).toNatClampNeg) x2 0) (fun σ1 v2 =>
  zck (zin 0 29) (zbv (zsi σ1 36 ((0 : Int32).toNatClampNeg) v2) (fun σ3 =>
  fX5_doWith_292 σ3)))) else
  if x1 = 1 then zck (zin 0 29) (
  zck (zin 1 29) (
  zbi (fX5_sum σ (zgi σ 36 (0 : Int32).toNatClampNeg) x2 ((zgi σ 36 (1 : Int32).toNatClampNeg) &&& 1)) (fun σ4 v5 =>
  zck (zin 0 29) (zbv (zsi σ4 36 ((0 : Int32).toNatClampNeg) v5) (fun σ6 =>
  fX5_doWith_292 σ6))))) else
  if x1 = 2 then zck (zin 0 29) (
  zbi (fX5_difference σ (zgi σ 36 (0 : Int32).toNatClampNeg) x2 0) (fun σ7 v8 =>
  zck (zin 0 29) (zbv (zsi σ7 36 ((0 : Int32).toNatClampNeg) v8) (fun σ9 =>
  fX5_doWith_292 σ9)))) else
  if x1 = 3 then zck (zin 0 29) (
  zck (zin 1 29) (
  zbi (fX5_difference σ (zgi σ 36 (0 : Int32).toNatClampNeg) x2 ((zgi σ 36 (1 : Int32).toNatClampNeg) &&& 1)) (fun σ10 v11 =>
  zck (zin 0 29) (zbv (zsi σ10 36 ((0 : Int32).toNatClampNeg) v11) (fun σ12 =>
  fX5_doWith_292 σ12))))) else
  if x1 = 4 then zck (zin 0 29) (
  zck (zin 0 29) (zbv (zsi σ 36 ((0 : Int32).toNatClampNeg) ((zgi σ 36 (0 : Int32).toNatClampNeg) &&& x2)) (fun σ13 =>
  zck (zin 0 29) (
  zbi (fX5_by σ13 (zgi σ13 36 (0 : Int32).toNatClampNeg)) (fun σ14 v15 =>
  zck (zin 0 29) (
  zbi (fX5_parity σ14 (zgi σ14 36 (0 : Int32).toNatClampNeg)) (fun σ16 v17 =>
  zck (zin 1 29) (zbv (zsi σ16 36 ((1 : Int32).toNatClampNeg) ((v15 ||| v17) ||| 16)) (fun σ18 =>
  fX5_doWith_292 σ18))))))))) else
  if x1 = 5 then zck (zin 0 29) (
  zck (zin 0 29) (zbv (zsi σ 36 ((0 : Int32).toNatClampNeg) ((zgi σ 36 (0 : Int32).toNatClampNeg) ^^^ x2)) (fun σ19 =>
  zck (zin 0 29) (
  zbi (fX5_by σ19 (zgi σ19 36 (0 : Int32).toNatClampNeg)) (fun σ20 v21 =>
  zck (zin 0 29) (
  zbi (fX5_parity σ20 (zgi σ20 36 (0 : Int32).toNatClampNeg)) (fun σ22 v23 =>
  zck (zin 1 29) (zbv (zsi σ22 36 ((1 : Int32).toNatClampNeg) (v21 ||| v23)) (fun σ24 =>
  fX5_doWith_292 σ24))))))))) else
  if x1 = 6 then zck (zin 0 29) (
  zck (zin 0 29) (zbv (zsi σ 36 ((0 : Int32).toNatClampNeg) ((zgi σ 36 (0 : Int32).toNatClampNeg) ||| x2)) (fun σ25 =>
  zck (zin 0 29) (
  zbi (fX5_by σ25 (zgi σ25 36 (0 : Int32).toNatClampNeg)) (fun σ26 v27 =>
  zck (zin 0 29) (
  zbi (fX5_parity σ26 (zgi σ26 36 (0 : Int32).toNatClampNeg)) (fun σ28 v29 =>
  zck (zin 1 29) (zbv (zsi σ28 36 ((1 : Int32).toNatClampNeg) (v27 ||| v29)) (fun σ30 =>
  fX5_doWith_292 σ30))))))))) else
  zck (zin 0 29) (
  zbi (fX5_difference σ (zgi σ 36 (0 : Int32).toNatClampNeg) x2 0) (fun σ31 v32 =>
  zck (zin 1 29) (
  zck (zin 1 29) (zbv (zsi σ31 36 ((1 : Int32).toNatClampNeg) (((zgi σ31 36 (1 : Int32).toNatClampNeg) &&& (-41)) ||| (x2 &&& 40))) (fun σ33 =>
  fX5_doWith_292 σ33)))))
set_option maxRecDepth 20000 in
set_option maxHeartbeats 4000000 in
theorem bX5_doWith_292 {st : Nat → Nat} {p : Program} {l : Launch} {e : Env} {s : State} {m : MethodId} {args : Array Value} {below : List Frame} {meth : Method} {c : Code} {D : va_G} {A : Nat → Prop} {ad : Nat → Nat} {cy : Nat → ClassId} (hC : zC p m c cX5_doWith 3 s args wzX5_doWith RX5 meth none)  {res : zSt} {H : Heap} {locs : List Loc} {σ : zSt} {ls : Array Slot}  (hI : zI st D (tC cy) (wC ad cy σ) A s H locs) (hl : lv_has ls 3 []) (hf : fX5_doWith_292  σ  = some res) : W p l e rmX5_doWith s m args below meth c H locs 0 0 (zQu below args s D (tC cy) (wC ad cy) A res) (F0 m 292 ls []) := by
  have hx := hC.1
  have hb := hC.2.1
  unfold fX5_doWith_292 at hf
  exact z_return hC hI hf dX5_doWith_292
set_option maxRecDepth 20000 in
set_option maxHeartbeats 4000000 in
theorem bX5_doWith {st : Nat → Nat} {p : Program} {l : Launch} {e : Env} {s : State} {m : MethodId} {args : Array Value} {below : List Frame} {meth : Method} {c : Code} {D : va_G} {A : Nat → Prop} {ad : Nat → Nat} {cy : Nat → ClassId} (hC : zC p m c cX5_doWith 3 s args wzX5_doWith RX5 meth none)  {res : zSt} {H : Heap} {locs : List Loc} {σ : zSt} {ls : Array Slot} {x1 : Int32} {x2 : Int32} (hI : zI st D (tC cy) (wC ad cy σ) A s H locs) (hl : lv_has ls 3 [(0, .ref (ad 7)), (1, .int x1), (2, .int x2)]) (hf : fX5_doWith  σ x1 x2 = some res) : W p l e rmX5_doWith s m args below meth c H locs 0 0 (zQu below args s D (tC cy) (wC ad cy) A res) (F0 m 0 ls []) := by
  have hx := hC.1
  have hb := hC.2.1
  unfold fX5_doWith at hf
  refine lv_iload_n hx hb dX5_doWith_0 rfl (lv_at hl 1 rfl) ?_
  by_cases q0 : x1 = 0
  · replace hf := zif_t q0 hf
    refine lv_tableIn (tgt := 44) hx hb dX5_doWith_1 (by rw [q0]; decide) (by rw [q0]; decide) (by rw [q0]; rfl) (by decide) ?_
    refine lv_aload_n hx hb dX5_doWith_44 rfl (lv_at hl 0 rfl) ?_
    refine z_get hC hI hinX5_doWith_X50 7 (wC_e7 ad cy σ) rfl 2 (by decide) (List.mem_cons_of_mem _ zw7_5) rfl dX5_doWith_45 ?_
    refine lv_iconst (v := 0) hx hb dX5_doWith_48 (by decide) ?_
    refine lv_aload_n hx hb dX5_doWith_49 rfl (lv_at hl 0 rfl) ?_
    refine lv_aload_n hx hb dX5_doWith_50 rfl (lv_at hl 0 rfl) ?_
    refine z_get hC hI hinX5_doWith_X50 7 (wC_e7 ad cy σ) rfl 2 (by decide) (List.mem_cons_of_mem _ zw7_5) rfl dX5_doWith_51 ?_
    refine lv_iconst (v := 0) hx hb dX5_doWith_54 (by decide) ?_
    obtain ⟨q, hf⟩ := zck_use hf
    refine z_iald hC hI 36 23 (wC_e36 ad cy σ) (tC_t36 cy) q dX5_doWith_55 ?_
    refine lv_iload_n hx hb dX5_doWith_56 rfl (lv_at hl 2 rfl) ?_
    refine lv_iconst (v := 0) hx hb dX5_doWith_57 (by decide) ?_
    obtain ⟨σ1, v2, g1, hf⟩ := zbi_use hf
    refine z_callVi (As := [.int (zgi σ 36 (0 : Int32).toNatClampNeg), .int x2, .int 0]) (rest := [.int 0, .ref (ad 36)]) hC hI (cX5_sum_met st l D ad cy σ (zgi σ 36 (0 : Int32).toNatClampNeg) x2 0 _ g1) (zgV zw34_4 zw34_5 zw34_6 zw2_21 zw34_7) rfl ⟨rfl, rfl⟩ 3 hdX5_sum ⟨Nat.le_of_ble_eq_true rfl, Nat.le_of_ble_eq_true rfl⟩ rfl rfl (wC_e7 ad cy σ) rfl hl rfl (Nat.le_of_ble_eq_true rfl) dX5_doWith_58 ⟨Nat.zero_le _, Nat.zero_le _⟩ (fun H locs hI => ?_)
    obtain ⟨q, hf⟩ := zck_use hf
    obtain ⟨σ3, eσ3⟩ : ∃ z, z = zsi σ1 36 ((0 : Int32).toNatClampNeg) v2 := ⟨_, rfl⟩
    replace hf := zbv_use eσ3 hf
    refine z_iast hC hI 36 23 (wC_e36 ad cy σ1) (tC_t36 cy) q ((wC_s36 ad cy σ1 _ _).trans (congrArg (wC ad cy) eσ3.symm)) dX5_doWith_61 (fun H locs hI => ?_)
    refine lv_goto (tgt := 292) hx hb dX5_doWith_62 (by decide) ?_
    exact bX5_doWith_292 hC  hI (lv_sub hl [] rfl) hf
  replace hf := zif_f q0 hf
  by_cases q1 : x1 = 1
  · replace hf := zif_t q1 hf
    refine lv_tableIn (tgt := 65) hx hb dX5_doWith_1 (by rw [q1]; decide) (by rw [q1]; decide) (by rw [q1]; rfl) (by decide) ?_
    refine lv_aload_n hx hb dX5_doWith_65 rfl (lv_at hl 0 rfl) ?_
    refine z_get hC hI hinX5_doWith_X50 7 (wC_e7 ad cy σ) rfl 2 (by decide) (List.mem_cons_of_mem _ zw7_5) rfl dX5_doWith_66 ?_
    refine lv_iconst (v := 0) hx hb dX5_doWith_69 (by decide) ?_
    refine lv_aload_n hx hb dX5_doWith_70 rfl (lv_at hl 0 rfl) ?_
    refine lv_aload_n hx hb dX5_doWith_71 rfl (lv_at hl 0 rfl) ?_
    refine z_get hC hI hinX5_doWith_X50 7 (wC_e7 ad cy σ) rfl 2 (by decide) (List.mem_cons_of_mem _ zw7_5) rfl dX5_doWith_72 ?_
    refine lv_iconst (v := 0) hx hb dX5_doWith_75 (by decide) ?_
    obtain ⟨q, hf⟩ := zck_use hf
    refine z_iald hC hI 36 23 (wC_e36 ad cy σ) (tC_t36 cy) q dX5_doWith_76 ?_
    refine lv_iload_n hx hb dX5_doWith_77 rfl (lv_at hl 2 rfl) ?_
    refine lv_aload_n hx hb dX5_doWith_78 rfl (lv_at hl 0 rfl) ?_
    refine z_get hC hI hinX5_doWith_X50 7 (wC_e7 ad cy σ) rfl 2 (by decide) (List.mem_cons_of_mem _ zw7_5) rfl dX5_doWith_79 ?_
    refine lv_iconst (v := 1) hx hb dX5_doWith_82 (by decide) ?_
    obtain ⟨q, hf⟩ := zck_use hf
    refine z_iald hC hI 36 23 (wC_e36 ad cy σ) (tC_t36 cy) q dX5_doWith_83 ?_
    refine lv_iconst (v := 1) hx hb dX5_doWith_84 (by decide) ?_
    refine lv_iand hx hb dX5_doWith_85 ?_
    obtain ⟨σ4, v5, g4, hf⟩ := zbi_use hf
    refine z_callVi (As := [.int (zgi σ 36 (0 : Int32).toNatClampNeg), .int x2, .int ((zgi σ 36 (1 : Int32).toNatClampNeg) &&& 1)]) (rest := [.int 0, .ref (ad 36)]) hC hI (cX5_sum_met st l D ad cy σ (zgi σ 36 (0 : Int32).toNatClampNeg) x2 ((zgi σ 36 (1 : Int32).toNatClampNeg) &&& 1) _ g4) (zgV zw34_4 zw34_5 zw34_6 zw2_21 zw34_7) rfl ⟨rfl, rfl⟩ 3 hdX5_sum ⟨Nat.le_of_ble_eq_true rfl, Nat.le_of_ble_eq_true rfl⟩ rfl rfl (wC_e7 ad cy σ) rfl hl rfl (Nat.le_of_ble_eq_true rfl) dX5_doWith_86 ⟨Nat.zero_le _, Nat.zero_le _⟩ (fun H locs hI => ?_)
    obtain ⟨q, hf⟩ := zck_use hf
    obtain ⟨σ6, eσ6⟩ : ∃ z, z = zsi σ4 36 ((0 : Int32).toNatClampNeg) v5 := ⟨_, rfl⟩
    replace hf := zbv_use eσ6 hf
    refine z_iast hC hI 36 23 (wC_e36 ad cy σ4) (tC_t36 cy) q ((wC_s36 ad cy σ4 _ _).trans (congrArg (wC ad cy) eσ6.symm)) dX5_doWith_89 (fun H locs hI => ?_)
    refine lv_goto (tgt := 292) hx hb dX5_doWith_90 (by decide) ?_
    exact bX5_doWith_292 hC  hI (lv_sub hl [] rfl) hf
  replace hf := zif_f q1 hf
  by_cases q2 : x1 = 2
  · replace hf := zif_t q2 hf
    refine lv_tableIn (tgt := 93) hx hb dX5_doWith_1 (by rw [q2]; decide) (by rw [q2]; decide) (by rw [q2]; rfl) (by decide) ?_
    refine lv_aload_n hx hb dX5_doWith_93 rfl (lv_at hl 0 rfl) ?_
    refine z_get hC hI hinX5_doWith_X50 7 (wC_e7 ad cy σ) rfl 2 (by decide) (List.mem_cons_of_mem _ zw7_5) rfl dX5_doWith_94 ?_
    refine lv_iconst (v := 0) hx hb dX5_doWith_97 (by decide) ?_
    refine lv_aload_n hx hb dX5_doWith_98 rfl (lv_at hl 0 rfl) ?_
    refine lv_aload_n hx hb dX5_doWith_99 rfl (lv_at hl 0 rfl) ?_
    refine z_get hC hI hinX5_doWith_X50 7 (wC_e7 ad cy σ) rfl 2 (by decide) (List.mem_cons_of_mem _ zw7_5) rfl dX5_doWith_100 ?_
    refine lv_iconst (v := 0) hx hb dX5_doWith_103 (by decide) ?_
    obtain ⟨q, hf⟩ := zck_use hf
    refine z_iald hC hI 36 23 (wC_e36 ad cy σ) (tC_t36 cy) q dX5_doWith_104 ?_
    refine lv_iload_n hx hb dX5_doWith_105 rfl (lv_at hl 2 rfl) ?_
    refine lv_iconst (v := 0) hx hb dX5_doWith_106 (by decide) ?_
    obtain ⟨σ7, v8, g7, hf⟩ := zbi_use hf
    refine z_callVi (As := [.int (zgi σ 36 (0 : Int32).toNatClampNeg), .int x2, .int 0]) (rest := [.int 0, .ref (ad 36)]) hC hI (cX5_difference_met st l D ad cy σ (zgi σ 36 (0 : Int32).toNatClampNeg) x2 0 _ g7) (zgV zw31_3 zw31_4 zw31_5 zw2_21 zw31_6) rfl ⟨rfl, rfl⟩ 3 hdX5_difference ⟨Nat.le_of_ble_eq_true rfl, Nat.le_of_ble_eq_true rfl⟩ rfl rfl (wC_e7 ad cy σ) rfl hl rfl (Nat.le_of_ble_eq_true rfl) dX5_doWith_107 ⟨Nat.zero_le _, Nat.zero_le _⟩ (fun H locs hI => ?_)
    obtain ⟨q, hf⟩ := zck_use hf
    obtain ⟨σ9, eσ9⟩ : ∃ z, z = zsi σ7 36 ((0 : Int32).toNatClampNeg) v8 := ⟨_, rfl⟩
    replace hf := zbv_use eσ9 hf
    refine z_iast hC hI 36 23 (wC_e36 ad cy σ7) (tC_t36 cy) q ((wC_s36 ad cy σ7 _ _).trans (congrArg (wC ad cy) eσ9.symm)) dX5_doWith_110 (fun H locs hI => ?_)
    refine lv_goto (tgt := 292) hx hb dX5_doWith_111 (by decide) ?_
    exact bX5_doWith_292 hC  hI (lv_sub hl [] rfl) hf
  replace hf := zif_f q2 hf
  by_cases q3 : x1 = 3
  · replace hf := zif_t q3 hf
    refine lv_tableIn (tgt := 114) hx hb dX5_doWith_1 (by rw [q3]; decide) (by rw [q3]; decide) (by rw [q3]; rfl) (by decide) ?_
    refine lv_aload_n hx hb dX5_doWith_114 rfl (lv_at hl 0 rfl) ?_
    refine z_get hC hI hinX5_doWith_X50 7 (wC_e7 ad cy σ) rfl 2 (by decide) (List.mem_cons_of_mem _ zw7_5) rfl dX5_doWith_115 ?_
    refine lv_iconst (v := 0) hx hb dX5_doWith_118 (by decide) ?_
    refine lv_aload_n hx hb dX5_doWith_119 rfl (lv_at hl 0 rfl) ?_
    refine lv_aload_n hx hb dX5_doWith_120 rfl (lv_at hl 0 rfl) ?_
    refine z_get hC hI hinX5_doWith_X50 7 (wC_e7 ad cy σ) rfl 2 (by decide) (List.mem_cons_of_mem _ zw7_5) rfl dX5_doWith_121 ?_
    refine lv_iconst (v := 0) hx hb dX5_doWith_124 (by decide) ?_
    obtain ⟨q, hf⟩ := zck_use hf
    refine z_iald hC hI 36 23 (wC_e36 ad cy σ) (tC_t36 cy) q dX5_doWith_125 ?_
    refine lv_iload_n hx hb dX5_doWith_126 rfl (lv_at hl 2 rfl) ?_
    refine lv_aload_n hx hb dX5_doWith_127 rfl (lv_at hl 0 rfl) ?_
    refine z_get hC hI hinX5_doWith_X50 7 (wC_e7 ad cy σ) rfl 2 (by decide) (List.mem_cons_of_mem _ zw7_5) rfl dX5_doWith_128 ?_
    refine lv_iconst (v := 1) hx hb dX5_doWith_131 (by decide) ?_
    obtain ⟨q, hf⟩ := zck_use hf
    refine z_iald hC hI 36 23 (wC_e36 ad cy σ) (tC_t36 cy) q dX5_doWith_132 ?_
    refine lv_iconst (v := 1) hx hb dX5_doWith_133 (by decide) ?_
    refine lv_iand hx hb dX5_doWith_134 ?_
    obtain ⟨σ10, v11, g10, hf⟩ := zbi_use hf
    refine z_callVi (As := [.int (zgi σ 36 (0 : Int32).toNatClampNeg), .int x2, .int ((zgi σ 36 (1 : Int32).toNatClampNeg) &&& 1)]) (rest := [.int 0, .ref (ad 36)]) hC hI (cX5_difference_met st l D ad cy σ (zgi σ 36 (0 : Int32).toNatClampNeg) x2 ((zgi σ 36 (1 : Int32).toNatClampNeg) &&& 1) _ g10) (zgV zw31_3 zw31_4 zw31_5 zw2_21 zw31_6) rfl ⟨rfl, rfl⟩ 3 hdX5_difference ⟨Nat.le_of_ble_eq_true rfl, Nat.le_of_ble_eq_true rfl⟩ rfl rfl (wC_e7 ad cy σ) rfl hl rfl (Nat.le_of_ble_eq_true rfl) dX5_doWith_135 ⟨Nat.zero_le _, Nat.zero_le _⟩ (fun H locs hI => ?_)
    obtain ⟨q, hf⟩ := zck_use hf
    obtain ⟨σ12, eσ12⟩ : ∃ z, z = zsi σ10 36 ((0 : Int32).toNatClampNeg) v11 := ⟨_, rfl⟩
    replace hf := zbv_use eσ12 hf
    refine z_iast hC hI 36 23 (wC_e36 ad cy σ10) (tC_t36 cy) q ((wC_s36 ad cy σ10 _ _).trans (congrArg (wC ad cy) eσ12.symm)) dX5_doWith_138 (fun H locs hI => ?_)
    refine lv_goto (tgt := 292) hx hb dX5_doWith_139 (by decide) ?_
    exact bX5_doWith_292 hC  hI (lv_sub hl [] rfl) hf
  replace hf := zif_f q3 hf
  by_cases q4 : x1 = 4
  · replace hf := zif_t q4 hf
    refine lv_tableIn (tgt := 142) hx hb dX5_doWith_1 (by rw [q4]; decide) (by rw [q4]; decide) (by rw [q4]; rfl) (by decide) ?_
    refine lv_aload_n hx hb dX5_doWith_142 rfl (lv_at hl 0 rfl) ?_
    refine z_get hC hI hinX5_doWith_X50 7 (wC_e7 ad cy σ) rfl 2 (by decide) (List.mem_cons_of_mem _ zw7_5) rfl dX5_doWith_143 ?_
    refine lv_iconst (v := 0) hx hb dX5_doWith_146 (by decide) ?_
    refine lv_dup2_11 hx hb dX5_doWith_147 rfl rfl ?_
    obtain ⟨q, hf⟩ := zck_use hf
    refine z_iald hC hI 36 23 (wC_e36 ad cy σ) (tC_t36 cy) q dX5_doWith_148 ?_
    refine lv_iload_n hx hb dX5_doWith_149 rfl (lv_at hl 2 rfl) ?_
    refine lv_iand hx hb dX5_doWith_150 ?_
    obtain ⟨q, hf⟩ := zck_use hf
    obtain ⟨σ13, eσ13⟩ : ∃ z, z = zsi σ 36 ((0 : Int32).toNatClampNeg) ((zgi σ 36 (0 : Int32).toNatClampNeg) &&& x2) := ⟨_, rfl⟩
    replace hf := zbv_use eσ13 hf
    refine z_iast hC hI 36 23 (wC_e36 ad cy σ) (tC_t36 cy) q ((wC_s36 ad cy σ _ _).trans (congrArg (wC ad cy) eσ13.symm)) dX5_doWith_151 (fun H locs hI => ?_)
    refine lv_aload_n hx hb dX5_doWith_152 rfl (lv_at hl 0 rfl) ?_
    refine z_get hC hI hinX5_doWith_X50 7 (wC_e7 ad cy σ13) rfl 2 (by decide) (List.mem_cons_of_mem _ zw7_5) rfl dX5_doWith_153 ?_
    refine lv_iconst (v := 1) hx hb dX5_doWith_156 (by decide) ?_
    refine lv_aload_n hx hb dX5_doWith_157 rfl (lv_at hl 0 rfl) ?_
    refine z_get hC hI hinX5_doWith_X50 7 (wC_e7 ad cy σ13) rfl 2 (by decide) (List.mem_cons_of_mem _ zw7_5) rfl dX5_doWith_158 ?_
    refine lv_iconst (v := 0) hx hb dX5_doWith_161 (by decide) ?_
    obtain ⟨q, hf⟩ := zck_use hf
    refine z_iald hC hI 36 23 (wC_e36 ad cy σ13) (tC_t36 cy) q dX5_doWith_162 ?_
    obtain ⟨σ14, v15, g14, hf⟩ := zbi_use hf
    refine z_callSi (As := [.int (zgi σ13 36 (0 : Int32).toNatClampNeg)]) (rest := [.int 1, .ref (ad 36)]) hC hI (cX5_by_met st l D ad cy σ13 (zgi σ13 36 (0 : Int32).toNatClampNeg) _ g14) (zgS zw22_19 zw22_20 zw2_21 zw22_21) rfl ⟨rfl, rfl⟩ 1 hdX5_by ⟨Nat.le_of_ble_eq_true rfl, Nat.le_of_ble_eq_true rfl⟩ rfl hl rfl (Nat.le_of_ble_eq_true rfl) dX5_doWith_163 ⟨Nat.zero_le _, Nat.zero_le _⟩ (fun H locs hI => ?_)
    refine lv_aload_n hx hb dX5_doWith_166 rfl (lv_at hl 0 rfl) ?_
    refine z_get hC hI hinX5_doWith_X50 7 (wC_e7 ad cy σ14) rfl 2 (by decide) (List.mem_cons_of_mem _ zw7_5) rfl dX5_doWith_167 ?_
    refine lv_iconst (v := 0) hx hb dX5_doWith_170 (by decide) ?_
    obtain ⟨q, hf⟩ := zck_use hf
    refine z_iald hC hI 36 23 (wC_e36 ad cy σ14) (tC_t36 cy) q dX5_doWith_171 ?_
    obtain ⟨σ16, v17, g16, hf⟩ := zbi_use hf
    refine z_callSi (As := [.int (zgi σ14 36 (0 : Int32).toNatClampNeg)]) (rest := [.int v15, .int 1, .ref (ad 36)]) hC hI (cX5_parity_met st l D ad cy σ14 (zgi σ14 36 (0 : Int32).toNatClampNeg) _ g16) (zgS zw22_22 zw22_23 zw2_21 zw23_0) rfl ⟨rfl, rfl⟩ 1 hdX5_parity ⟨Nat.le_of_ble_eq_true rfl, Nat.le_of_ble_eq_true rfl⟩ rfl hl rfl (Nat.le_of_ble_eq_true rfl) dX5_doWith_172 ⟨Nat.zero_le _, Nat.zero_le _⟩ (fun H locs hI => ?_)
    refine lv_ior hx hb dX5_doWith_175 ?_
    refine lv_bipush (v := 16) hx hb dX5_doWith_176 (by decide) ?_
    refine lv_ior hx hb dX5_doWith_178 ?_
    obtain ⟨q, hf⟩ := zck_use hf
    obtain ⟨σ18, eσ18⟩ : ∃ z, z = zsi σ16 36 ((1 : Int32).toNatClampNeg) ((v15 ||| v17) ||| 16) := ⟨_, rfl⟩
    replace hf := zbv_use eσ18 hf
    refine z_iast hC hI 36 23 (wC_e36 ad cy σ16) (tC_t36 cy) q ((wC_s36 ad cy σ16 _ _).trans (congrArg (wC ad cy) eσ18.symm)) dX5_doWith_179 (fun H locs hI => ?_)
    refine lv_goto (tgt := 292) hx hb dX5_doWith_180 (by decide) ?_
    exact bX5_doWith_292 hC  hI (lv_sub hl [] rfl) hf
  replace hf := zif_f q4 hf
  by_cases q5 : x1 = 5
  · replace hf := zif_t q5 hf
    refine lv_tableIn (tgt := 183) hx hb dX5_doWith_1 (by rw [q5]; decide) (by rw [q5]; decide) (by rw [q5]; rfl) (by decide) ?_
    refine lv_aload_n hx hb dX5_doWith_183 rfl (lv_at hl 0 rfl) ?_
    refine z_get hC hI hinX5_doWith_X50 7 (wC_e7 ad cy σ) rfl 2 (by decide) (List.mem_cons_of_mem _ zw7_5) rfl dX5_doWith_184 ?_
    refine lv_iconst (v := 0) hx hb dX5_doWith_187 (by decide) ?_
    refine lv_dup2_11 hx hb dX5_doWith_188 rfl rfl ?_
    obtain ⟨q, hf⟩ := zck_use hf
    refine z_iald hC hI 36 23 (wC_e36 ad cy σ) (tC_t36 cy) q dX5_doWith_189 ?_
    refine lv_iload_n hx hb dX5_doWith_190 rfl (lv_at hl 2 rfl) ?_
    refine lv_ixor hx hb dX5_doWith_191 ?_
    obtain ⟨q, hf⟩ := zck_use hf
    obtain ⟨σ19, eσ19⟩ : ∃ z, z = zsi σ 36 ((0 : Int32).toNatClampNeg) ((zgi σ 36 (0 : Int32).toNatClampNeg) ^^^ x2) := ⟨_, rfl⟩
    replace hf := zbv_use eσ19 hf
    refine z_iast hC hI 36 23 (wC_e36 ad cy σ) (tC_t36 cy) q ((wC_s36 ad cy σ _ _).trans (congrArg (wC ad cy) eσ19.symm)) dX5_doWith_192 (fun H locs hI => ?_)
    refine lv_aload_n hx hb dX5_doWith_193 rfl (lv_at hl 0 rfl) ?_
    refine z_get hC hI hinX5_doWith_X50 7 (wC_e7 ad cy σ19) rfl 2 (by decide) (List.mem_cons_of_mem _ zw7_5) rfl dX5_doWith_194 ?_
    refine lv_iconst (v := 1) hx hb dX5_doWith_197 (by decide) ?_
    refine lv_aload_n hx hb dX5_doWith_198 rfl (lv_at hl 0 rfl) ?_
    refine z_get hC hI hinX5_doWith_X50 7 (wC_e7 ad cy σ19) rfl 2 (by decide) (List.mem_cons_of_mem _ zw7_5) rfl dX5_doWith_199 ?_
    refine lv_iconst (v := 0) hx hb dX5_doWith_202 (by decide) ?_
    obtain ⟨q, hf⟩ := zck_use hf
    refine z_iald hC hI 36 23 (wC_e36 ad cy σ19) (tC_t36 cy) q dX5_doWith_203 ?_
    obtain ⟨σ20, v21, g20, hf⟩ := zbi_use hf
    refine z_callSi (As := [.int (zgi σ19 36 (0 : Int32).toNatClampNeg)]) (rest := [.int 1, .ref (ad 36)]) hC hI (cX5_by_met st l D ad cy σ19 (zgi σ19 36 (0 : Int32).toNatClampNeg) _ g20) (zgS zw22_19 zw22_20 zw2_21 zw22_21) rfl ⟨rfl, rfl⟩ 1 hdX5_by ⟨Nat.le_of_ble_eq_true rfl, Nat.le_of_ble_eq_true rfl⟩ rfl hl rfl (Nat.le_of_ble_eq_true rfl) dX5_doWith_204 ⟨Nat.zero_le _, Nat.zero_le _⟩ (fun H locs hI => ?_)
    refine lv_aload_n hx hb dX5_doWith_207 rfl (lv_at hl 0 rfl) ?_
    refine z_get hC hI hinX5_doWith_X50 7 (wC_e7 ad cy σ20) rfl 2 (by decide) (List.mem_cons_of_mem _ zw7_5) rfl dX5_doWith_208 ?_
    refine lv_iconst (v := 0) hx hb dX5_doWith_211 (by decide) ?_
    obtain ⟨q, hf⟩ := zck_use hf
    refine z_iald hC hI 36 23 (wC_e36 ad cy σ20) (tC_t36 cy) q dX5_doWith_212 ?_
    obtain ⟨σ22, v23, g22, hf⟩ := zbi_use hf
    refine z_callSi (As := [.int (zgi σ20 36 (0 : Int32).toNatClampNeg)]) (rest := [.int v21, .int 1, .ref (ad 36)]) hC hI (cX5_parity_met st l D ad cy σ20 (zgi σ20 36 (0 : Int32).toNatClampNeg) _ g22) (zgS zw22_22 zw22_23 zw2_21 zw23_0) rfl ⟨rfl, rfl⟩ 1 hdX5_parity ⟨Nat.le_of_ble_eq_true rfl, Nat.le_of_ble_eq_true rfl⟩ rfl hl rfl (Nat.le_of_ble_eq_true rfl) dX5_doWith_213 ⟨Nat.zero_le _, Nat.zero_le _⟩ (fun H locs hI => ?_)
    refine lv_ior hx hb dX5_doWith_216 ?_
    obtain ⟨q, hf⟩ := zck_use hf
    obtain ⟨σ24, eσ24⟩ : ∃ z, z = zsi σ22 36 ((1 : Int32).toNatClampNeg) (v21 ||| v23) := ⟨_, rfl⟩
    replace hf := zbv_use eσ24 hf
    refine z_iast hC hI 36 23 (wC_e36 ad cy σ22) (tC_t36 cy) q ((wC_s36 ad cy σ22 _ _).trans (congrArg (wC ad cy) eσ24.symm)) dX5_doWith_217 (fun H locs hI => ?_)
    refine lv_goto (tgt := 292) hx hb dX5_doWith_218 (by decide) ?_
    exact bX5_doWith_292 hC  hI (lv_sub hl [] rfl) hf
  replace hf := zif_f q5 hf
  by_cases q6 : x1 = 6
  · replace hf := zif_t q6 hf
    refine lv_tableIn (tgt := 221) hx hb dX5_doWith_1 (by rw [q6]; decide) (by rw [q6]; decide) (by rw [q6]; rfl) (by decide) ?_
    refine lv_aload_n hx hb dX5_doWith_221 rfl (lv_at hl 0 rfl) ?_
    refine z_get hC hI hinX5_doWith_X50 7 (wC_e7 ad cy σ) rfl 2 (by decide) (List.mem_cons_of_mem _ zw7_5) rfl dX5_doWith_222 ?_
    refine lv_iconst (v := 0) hx hb dX5_doWith_225 (by decide) ?_
    refine lv_dup2_11 hx hb dX5_doWith_226 rfl rfl ?_
    obtain ⟨q, hf⟩ := zck_use hf
    refine z_iald hC hI 36 23 (wC_e36 ad cy σ) (tC_t36 cy) q dX5_doWith_227 ?_
    refine lv_iload_n hx hb dX5_doWith_228 rfl (lv_at hl 2 rfl) ?_
    refine lv_ior hx hb dX5_doWith_229 ?_
    obtain ⟨q, hf⟩ := zck_use hf
    obtain ⟨σ25, eσ25⟩ : ∃ z, z = zsi σ 36 ((0 : Int32).toNatClampNeg) ((zgi σ 36 (0 : Int32).toNatClampNeg) ||| x2) := ⟨_, rfl⟩
    replace hf := zbv_use eσ25 hf
    refine z_iast hC hI 36 23 (wC_e36 ad cy σ) (tC_t36 cy) q ((wC_s36 ad cy σ _ _).trans (congrArg (wC ad cy) eσ25.symm)) dX5_doWith_230 (fun H locs hI => ?_)
    refine lv_aload_n hx hb dX5_doWith_231 rfl (lv_at hl 0 rfl) ?_
    refine z_get hC hI hinX5_doWith_X50 7 (wC_e7 ad cy σ25) rfl 2 (by decide) (List.mem_cons_of_mem _ zw7_5) rfl dX5_doWith_232 ?_
    refine lv_iconst (v := 1) hx hb dX5_doWith_235 (by decide) ?_
    refine lv_aload_n hx hb dX5_doWith_236 rfl (lv_at hl 0 rfl) ?_
    refine z_get hC hI hinX5_doWith_X50 7 (wC_e7 ad cy σ25) rfl 2 (by decide) (List.mem_cons_of_mem _ zw7_5) rfl dX5_doWith_237 ?_
    refine lv_iconst (v := 0) hx hb dX5_doWith_240 (by decide) ?_
    obtain ⟨q, hf⟩ := zck_use hf
    refine z_iald hC hI 36 23 (wC_e36 ad cy σ25) (tC_t36 cy) q dX5_doWith_241 ?_
    obtain ⟨σ26, v27, g26, hf⟩ := zbi_use hf
    refine z_callSi (As := [.int (zgi σ25 36 (0 : Int32).toNatClampNeg)]) (rest := [.int 1, .ref (ad 36)]) hC hI (cX5_by_met st l D ad cy σ25 (zgi σ25 36 (0 : Int32).toNatClampNeg) _ g26) (zgS zw22_19 zw22_20 zw2_21 zw22_21) rfl ⟨rfl, rfl⟩ 1 hdX5_by ⟨Nat.le_of_ble_eq_true rfl, Nat.le_of_ble_eq_true rfl⟩ rfl hl rfl (Nat.le_of_ble_eq_true rfl) dX5_doWith_242 ⟨Nat.zero_le _, Nat.zero_le _⟩ (fun H locs hI => ?_)
    refine lv_aload_n hx hb dX5_doWith_245 rfl (lv_at hl 0 rfl) ?_
    refine z_get hC hI hinX5_doWith_X50 7 (wC_e7 ad cy σ26) rfl 2 (by decide) (List.mem_cons_of_mem _ zw7_5) rfl dX5_doWith_246 ?_
    refine lv_iconst (v := 0) hx hb dX5_doWith_249 (by decide) ?_
    obtain ⟨q, hf⟩ := zck_use hf
    refine z_iald hC hI 36 23 (wC_e36 ad cy σ26) (tC_t36 cy) q dX5_doWith_250 ?_
    obtain ⟨σ28, v29, g28, hf⟩ := zbi_use hf
    refine z_callSi (As := [.int (zgi σ26 36 (0 : Int32).toNatClampNeg)]) (rest := [.int v27, .int 1, .ref (ad 36)]) hC hI (cX5_parity_met st l D ad cy σ26 (zgi σ26 36 (0 : Int32).toNatClampNeg) _ g28) (zgS zw22_22 zw22_23 zw2_21 zw23_0) rfl ⟨rfl, rfl⟩ 1 hdX5_parity ⟨Nat.le_of_ble_eq_true rfl, Nat.le_of_ble_eq_true rfl⟩ rfl hl rfl (Nat.le_of_ble_eq_true rfl) dX5_doWith_251 ⟨Nat.zero_le _, Nat.zero_le _⟩ (fun H locs hI => ?_)
    refine lv_ior hx hb dX5_doWith_254 ?_
    obtain ⟨q, hf⟩ := zck_use hf
    obtain ⟨σ30, eσ30⟩ : ∃ z, z = zsi σ28 36 ((1 : Int32).toNatClampNeg) (v27 ||| v29) := ⟨_, rfl⟩
    replace hf := zbv_use eσ30 hf
    refine z_iast hC hI 36 23 (wC_e36 ad cy σ28) (tC_t36 cy) q ((wC_s36 ad cy σ28 _ _).trans (congrArg (wC ad cy) eσ30.symm)) dX5_doWith_255 (fun H locs hI => ?_)
    refine lv_goto (tgt := 292) hx hb dX5_doWith_256 (by decide) ?_
    exact bX5_doWith_292 hC  hI (lv_sub hl [] rfl) hf
  replace hf := zif_f q6 hf
  refine lv_tableOut (tgt := 259) hx hb dX5_doWith_1 (zsw (fun k h1 h2 => by rcases (show k = 0 ∨ k = 1 ∨ k = 2 ∨ k = 3 ∨ k = 4 ∨ k = 5 ∨ k = 6 by omega) with rfl | rfl | rfl | rfl | rfl | rfl | rfl <;> assumption)) (by decide) ?_
  refine lv_aload_n hx hb dX5_doWith_259 rfl (lv_at hl 0 rfl) ?_
  refine lv_aload_n hx hb dX5_doWith_260 rfl (lv_at hl 0 rfl) ?_
  refine z_get hC hI hinX5_doWith_X50 7 (wC_e7 ad cy σ) rfl 2 (by decide) (List.mem_cons_of_mem _ zw7_5) rfl dX5_doWith_261 ?_
  refine lv_iconst (v := 0) hx hb dX5_doWith_264 (by decide) ?_
  obtain ⟨q, hf⟩ := zck_use hf
  refine z_iald hC hI 36 23 (wC_e36 ad cy σ) (tC_t36 cy) q dX5_doWith_265 ?_
  refine lv_iload_n hx hb dX5_doWith_266 rfl (lv_at hl 2 rfl) ?_
  refine lv_iconst (v := 0) hx hb dX5_doWith_267 (by decide) ?_
  obtain ⟨σ31, v32, g31, hf⟩ := zbi_use hf
  refine z_callVi (As := [.int (zgi σ 36 (0 : Int32).toNatClampNeg), .int x2, .int 0]) (rest := []) hC hI (cX5_difference_met st l D ad cy σ (zgi σ 36 (0 : Int32).toNatClampNeg) x2 0 _ g31) (zgV zw31_3 zw31_4 zw31_5 zw2_21 zw31_6) rfl ⟨rfl, rfl⟩ 3 hdX5_difference ⟨Nat.le_of_ble_eq_true rfl, Nat.le_of_ble_eq_true rfl⟩ rfl rfl (wC_e7 ad cy σ) rfl hl rfl (Nat.le_of_ble_eq_true rfl) dX5_doWith_268 ⟨Nat.zero_le _, Nat.zero_le _⟩ (fun H locs hI => ?_)
  refine lv_pop hx hb dX5_doWith_271 rfl ?_
  refine lv_aload_n hx hb dX5_doWith_272 rfl (lv_at hl 0 rfl) ?_
  refine z_get hC hI hinX5_doWith_X50 7 (wC_e7 ad cy σ31) rfl 2 (by decide) (List.mem_cons_of_mem _ zw7_5) rfl dX5_doWith_273 ?_
  refine lv_iconst (v := 1) hx hb dX5_doWith_276 (by decide) ?_
  refine lv_aload_n hx hb dX5_doWith_277 rfl (lv_at hl 0 rfl) ?_
  refine z_get hC hI hinX5_doWith_X50 7 (wC_e7 ad cy σ31) rfl 2 (by decide) (List.mem_cons_of_mem _ zw7_5) rfl dX5_doWith_278 ?_
  refine lv_iconst (v := 1) hx hb dX5_doWith_281 (by decide) ?_
  obtain ⟨q, hf⟩ := zck_use hf
  refine z_iald hC hI 36 23 (wC_e36 ad cy σ31) (tC_t36 cy) q dX5_doWith_282 ?_
  refine lv_bipush (v := (-41)) hx hb dX5_doWith_283 (by decide) ?_
  refine lv_iand hx hb dX5_doWith_285 ?_
  refine lv_iload_n hx hb dX5_doWith_286 rfl (lv_at hl 2 rfl) ?_
  refine lv_bipush (v := 40) hx hb dX5_doWith_287 (by decide) ?_
  refine lv_iand hx hb dX5_doWith_289 ?_
  refine lv_ior hx hb dX5_doWith_290 ?_
  obtain ⟨q, hf⟩ := zck_use hf
  obtain ⟨σ33, eσ33⟩ : ∃ z, z = zsi σ31 36 ((1 : Int32).toNatClampNeg) (((zgi σ31 36 (1 : Int32).toNatClampNeg) &&& (-41)) ||| (x2 &&& 40)) := ⟨_, rfl⟩
  replace hf := zbv_use eσ33 hf
  refine z_iast hC hI 36 23 (wC_e36 ad cy σ31) (tC_t36 cy) q ((wC_s36 ad cy σ31 _ _).trans (congrArg (wC ad cy) eσ33.symm)) dX5_doWith_291 (fun H locs hI => ?_)
  exact bX5_doWith_292 hC  hI (lv_sub hl [] rfl) hf
set_option maxRecDepth 20000 in
theorem cX5_doWith_met (st : Nat → Nat) (l : Launch) (D : va_G) (ad : Nat → Nat) (cy : Nat → ClassId) (σ : zSt) (x1 : Int32) (x2 : Int32) (res : zSt) (hf : fX5_doWith σ x1 x2 = some res) (sz : Nat) : zMu st l yX5_doWith wzX5_doWith rmX5_doWith [.ref (ad 7), .int x1, .int x2] D (tC cy) (wC ad cy) sz σ res :=
  zMu.of (cc := cX5_doWith) (maxL := 3) (ret := none) (by decide) rfl (Nat.le_of_ble_eq_true rfl) (fun p e s m args below meth c hC A hI ls hl => bX5_doWith hC hI hl hf)
theorem hdX5_doWith : yX5_doWith.cls = RX5 ∧ yX5_doWith.cls ≠ "java/lang/invoke/MethodHandle" ∧ yX5_doWith.cls ≠ "java/lang/invoke/VarHandle" ∧ (parseMethodDescriptor yX5_doWith.desc).map (fun d => d.parameters.length) = some 2 := by decide +kernel
def rmX5_callIf : Room := { frames := 3, cells := 0, slots := 0, locals := 68 }
def wzX5_callIf : List Cond := .code yX5_callIf cX5_callIf 3 (some .int) :: wsL_law
theorem hinX5_callIf_X50 : ∀ w ∈ wsX50, w ∈ wzX5_callIf := fun w h => List.mem_cons_of_mem _ (inlX5 w h)
def fX5_callIf  (σ : zSt) (x1 : Int32) : Option (zSt × Int32) :=
  zbi (fX5_fetchWord σ ) (fun σ1 v2 =>
  zck (zin 20 29) (zbv (zsi σ1 36 ((20 : Int32).toNatClampNeg) v2) (fun σ3 =>
  if x1 = 0 then some (σ3, 10) else
  zck (zin 19 29) (
  zbu (fX5_push σ3 (zgi σ3 36 (19 : Int32).toNatClampNeg)) (fun σ4 =>
  zck (zin 19 29) (zbv (zsi σ4 36 ((19 : Int32).toNatClampNeg) v2) (fun σ5 =>
  some (σ5, 17))))))))
set_option maxRecDepth 20000 in
set_option maxHeartbeats 4000000 in
theorem bX5_callIf {st : Nat → Nat} {p : Program} {l : Launch} {e : Env} {s : State} {m : MethodId} {args : Array Value} {below : List Frame} {meth : Method} {c : Code} {D : va_G} {A : Nat → Prop} {ad : Nat → Nat} {cy : Nat → ClassId} (hC : zC p m c cX5_callIf 3 s args wzX5_callIf RX5 meth (some .int))  {res : zSt × Int32} {H : Heap} {locs : List Loc} {σ : zSt} {ls : Array Slot} {x1 : Int32} (hI : zI st D (tC cy) (wC ad cy σ) A s H locs) (hl : lv_has ls 3 [(0, .ref (ad 7)), (1, .int x1)]) (hf : fX5_callIf  σ x1 = some res) : W p l e rmX5_callIf s m args below meth c H locs 0 0 (zQi below args s D (tC cy) (wC ad cy) A res) (F0 m 0 ls []) := by
  have hx := hC.1
  have hb := hC.2.1
  unfold fX5_callIf at hf
  refine lv_aload_n hx hb dX5_callIf_0 rfl (lv_at hl 0 rfl) ?_
  obtain ⟨σ1, v2, g1, hf⟩ := zbi_use hf
  refine z_callVi (As := []) (rest := []) hC hI (cX5_fetchWord_met st l D ad cy σ  _ g1) (zgV zw30_15 zw30_16 zw30_17 zw2_21 zw30_18) rfl ⟨rfl, rfl⟩ 0 hdX5_fetchWord ⟨Nat.le_of_ble_eq_true rfl, Nat.le_of_ble_eq_true rfl⟩ rfl rfl (wC_e7 ad cy σ) rfl hl rfl (Nat.le_of_ble_eq_true rfl) dX5_callIf_1 ⟨Nat.zero_le _, Nat.zero_le _⟩ (fun H locs hI => ?_)
  refine lv_istore_n (lv' := [(2, .int v2), (0, .ref (ad 7)), (1, .int x1)]) hx hb dX5_callIf_4 rfl hl (by decide) rfl (fun ls hl => ?_)
  refine lv_aload_n hx hb dX5_callIf_5 rfl (lv_at hl 1 rfl) ?_
  refine z_get hC hI hinX5_callIf_X50 7 (wC_e7 ad cy σ1) rfl 2 (by decide) (List.mem_cons_of_mem _ zw7_5) rfl dX5_callIf_6 ?_
  refine lv_bipush (v := 20) hx hb dX5_callIf_9 (by decide) ?_
  refine lv_iload_n hx hb dX5_callIf_11 rfl (lv_at hl 0 rfl) ?_
  obtain ⟨q, hf⟩ := zck_use hf
  obtain ⟨σ3, eσ3⟩ : ∃ z, z = zsi σ1 36 ((20 : Int32).toNatClampNeg) v2 := ⟨_, rfl⟩
  replace hf := zbv_use eσ3 hf
  refine z_iast hC hI 36 23 (wC_e36 ad cy σ1) (tC_t36 cy) q ((wC_s36 ad cy σ1 _ _).trans (congrArg (wC ad cy) eσ3.symm)) dX5_callIf_12 (fun H locs hI => ?_)
  refine lv_iload_n hx hb dX5_callIf_13 rfl (lv_at hl 2 rfl) ?_
  refine lv_if_ne (tgt := 20) hx hb dX5_callIf_14 (by decide) (fun q => ?_) (fun q => ?_)
  · replace hf := zif_f q hf
    refine lv_aload_n hx hb dX5_callIf_20 rfl (lv_at hl 1 rfl) ?_
    refine lv_aload_n hx hb dX5_callIf_21 rfl (lv_at hl 1 rfl) ?_
    refine z_get hC hI hinX5_callIf_X50 7 (wC_e7 ad cy σ3) rfl 2 (by decide) (List.mem_cons_of_mem _ zw7_5) rfl dX5_callIf_22 ?_
    refine lv_bipush (v := 19) hx hb dX5_callIf_25 (by decide) ?_
    obtain ⟨q, hf⟩ := zck_use hf
    refine z_iald hC hI 36 23 (wC_e36 ad cy σ3) (tC_t36 cy) q dX5_callIf_27 ?_
    obtain ⟨σ4, g4, hf⟩ := zbu_use hf
    refine z_callVu (As := [.int (zgi σ3 36 (19 : Int32).toNatClampNeg)]) (rest := []) hC hI (cX5_push_met st l D ad cy σ3 (zgi σ3 36 (19 : Int32).toNatClampNeg) _ g4) (zgV zw20_2 zw20_3 zw20_4 zw2_21 zw20_5) rfl ⟨rfl, rfl⟩ 1 hdX5_push ⟨Nat.le_of_ble_eq_true rfl, Nat.le_of_ble_eq_true rfl⟩ rfl rfl (wC_e7 ad cy σ3) rfl hl rfl (Nat.le_of_ble_eq_true rfl) dX5_callIf_28 ⟨Nat.zero_le _, Nat.zero_le _⟩ (fun H locs hI => ?_)
    refine lv_aload_n hx hb dX5_callIf_31 rfl (lv_at hl 1 rfl) ?_
    refine z_get hC hI hinX5_callIf_X50 7 (wC_e7 ad cy σ4) rfl 2 (by decide) (List.mem_cons_of_mem _ zw7_5) rfl dX5_callIf_32 ?_
    refine lv_bipush (v := 19) hx hb dX5_callIf_35 (by decide) ?_
    refine lv_iload_n hx hb dX5_callIf_37 rfl (lv_at hl 0 rfl) ?_
    obtain ⟨q, hf⟩ := zck_use hf
    obtain ⟨σ5, eσ5⟩ : ∃ z, z = zsi σ4 36 ((19 : Int32).toNatClampNeg) v2 := ⟨_, rfl⟩
    replace hf := zbv_use eσ5 hf
    refine z_iast hC hI 36 23 (wC_e36 ad cy σ4) (tC_t36 cy) q ((wC_s36 ad cy σ4 _ _).trans (congrArg (wC ad cy) eσ5.symm)) dX5_callIf_38 (fun H locs hI => ?_)
    refine lv_bipush (v := 17) hx hb dX5_callIf_39 (by decide) ?_
    exact z_ireturn hC hI hf dX5_callIf_41
  replace hf := zif_t q hf
  refine lv_bipush (v := 10) hx hb dX5_callIf_17 (by decide) ?_
  exact z_ireturn hC hI hf dX5_callIf_19
set_option maxRecDepth 20000 in
theorem cX5_callIf_met (st : Nat → Nat) (l : Launch) (D : va_G) (ad : Nat → Nat) (cy : Nat → ClassId) (σ : zSt) (x1 : Int32) (res : zSt × Int32) (hf : fX5_callIf σ x1 = some res) (sz : Nat) : zMi st l yX5_callIf wzX5_callIf rmX5_callIf [.ref (ad 7), .int x1] D (tC cy) (wC ad cy) sz σ res :=
  zMi.of (cc := cX5_callIf) (maxL := 3) (ret := (some .int)) (by decide) rfl (Nat.le_of_ble_eq_true rfl) (fun p e s m args below meth c hC A hI ls hl => bX5_callIf hC hI hl hf)
theorem hdX5_callIf : yX5_callIf.cls = RX5 ∧ yX5_callIf.cls ≠ "java/lang/invoke/MethodHandle" ∧ yX5_callIf.cls ≠ "java/lang/invoke/VarHandle" ∧ (parseMethodDescriptor yX5_callIf.desc).map (fun d => d.parameters.length) = some 1 := by decide +kernel
def rmX5_holds : Room := { frames := 0, cells := 0, slots := 0, locals := 0 }
def wzX5_holds : List Cond := .code yX5_holds cX5_holds 2 (some .boolean) :: wsL_law
theorem hinX5_holds_X50 : ∀ w ∈ wsX50, w ∈ wzX5_holds := fun w h => List.mem_cons_of_mem _ (inlX5 w h)
def fX5_holds_44  (σ : zSt) (s0 : Int32) : Option (zSt × Int32) :=
  zck (zbo s0) (some (σ, s0))
def fX5_holds_36  (σ : zSt) (s0 : Int32) (s1 : Int32) : Option (zSt × Int32) :=
  if s1 = s0 then fX5_holds_44 σ 1 else
  fX5_holds_44 σ 0
def fX5_holds_24  (σ : zSt) (x1 : Int32) (s0 : Int32) : Option (zSt × Int32) :=
  if (x1 &&& 1) = 1 then fX5_holds_36 σ 1 s0 else
  fX5_holds_36 σ 0 s0
def fX5_holds  (σ : zSt) (x1 : Int32) : Option (zSt × Int32) :=
  zck (zin 1 29) (
  zck (zin ((x1 >>> ((1 : Int32) &&& 31)) &&& 3) 4) (
  if ((zgi σ 36 (1 : Int32).toNatClampNeg) &&& (zt2 ((x1 >>> ((1 : Int32) &&& 31)) &&& 3).toNatClampNeg)) = 0 then fX5_holds_24 σ x1 0 else
  fX5_holds_24 σ x1 1))
set_option maxRecDepth 20000 in
set_option maxHeartbeats 4000000 in
theorem bX5_holds_44 {st : Nat → Nat} {p : Program} {l : Launch} {e : Env} {s : State} {m : MethodId} {args : Array Value} {below : List Frame} {meth : Method} {c : Code} {D : va_G} {A : Nat → Prop} {ad : Nat → Nat} {cy : Nat → ClassId} (hC : zC p m c cX5_holds 2 s args wzX5_holds RX5 meth (some .boolean))  {res : zSt × Int32} {H : Heap} {locs : List Loc} {σ : zSt} {ls : Array Slot} {s0 : Int32} (hI : zI st D (tC cy) (wC ad cy σ) A s H locs) (hl : lv_has ls 2 []) (hf : fX5_holds_44  σ s0 = some res) : W p l e rmX5_holds s m args below meth c H locs 0 0 (zQi below args s D (tC cy) (wC ad cy) A res) (F0 m 44 ls [.int s0]) := by
  have hx := hC.1
  have hb := hC.2.1
  unfold fX5_holds_44 at hf
  obtain ⟨q, hf⟩ := zck_use hf
  exact z_zreturn hC hI (zbo_n q) hf dX5_holds_44
set_option maxRecDepth 20000 in
set_option maxHeartbeats 4000000 in
theorem bX5_holds_36 {st : Nat → Nat} {p : Program} {l : Launch} {e : Env} {s : State} {m : MethodId} {args : Array Value} {below : List Frame} {meth : Method} {c : Code} {D : va_G} {A : Nat → Prop} {ad : Nat → Nat} {cy : Nat → ClassId} (hC : zC p m c cX5_holds 2 s args wzX5_holds RX5 meth (some .boolean))  {res : zSt × Int32} {H : Heap} {locs : List Loc} {σ : zSt} {ls : Array Slot} {s0 : Int32} {s1 : Int32} (hI : zI st D (tC cy) (wC ad cy σ) A s H locs) (hl : lv_has ls 2 []) (hf : fX5_holds_36  σ s0 s1 = some res) : W p l e rmX5_holds s m args below meth c H locs 0 0 (zQi below args s D (tC cy) (wC ad cy) A res) (F0 m 36 ls [.int s0, .int s1]) := by
  have hx := hC.1
  have hb := hC.2.1
  unfold fX5_holds_36 at hf
  refine lv_icmp_ne (tgt := 43) hx hb dX5_holds_36 (by decide) (fun q => ?_) (fun q => ?_)
  · replace hf := zif_f q hf
    refine lv_iconst (v := 0) hx hb dX5_holds_43 (by decide) ?_
    exact bX5_holds_44 hC  hI hl hf
  replace hf := zif_t q hf
  refine lv_iconst (v := 1) hx hb dX5_holds_39 (by decide) ?_
  refine lv_goto (tgt := 44) hx hb dX5_holds_40 (by decide) ?_
  exact bX5_holds_44 hC  hI hl hf
set_option maxRecDepth 20000 in
set_option maxHeartbeats 4000000 in
theorem bX5_holds_24 {st : Nat → Nat} {p : Program} {l : Launch} {e : Env} {s : State} {m : MethodId} {args : Array Value} {below : List Frame} {meth : Method} {c : Code} {D : va_G} {A : Nat → Prop} {ad : Nat → Nat} {cy : Nat → ClassId} (hC : zC p m c cX5_holds 2 s args wzX5_holds RX5 meth (some .boolean))  {res : zSt × Int32} {H : Heap} {locs : List Loc} {σ : zSt} {ls : Array Slot} {x1 : Int32} {s0 : Int32} (hI : zI st D (tC cy) (wC ad cy σ) A s H locs) (hl : lv_has ls 2 [(1, .int x1)]) (hf : fX5_holds_24  σ x1 s0 = some res) : W p l e rmX5_holds s m args below meth c H locs 0 0 (zQi below args s D (tC cy) (wC ad cy) A res) (F0 m 24 ls [.int s0]) := by
  have hx := hC.1
  have hb := hC.2.1
  unfold fX5_holds_24 at hf
  refine lv_iload_n hx hb dX5_holds_24 rfl (lv_at hl 0 rfl) ?_
  refine lv_iconst (v := 1) hx hb dX5_holds_25 (by decide) ?_
  refine lv_iand hx hb dX5_holds_26 ?_
  refine lv_iconst (v := 1) hx hb dX5_holds_27 (by decide) ?_
  refine lv_icmp_ne (tgt := 35) hx hb dX5_holds_28 (by decide) (fun q => ?_) (fun q => ?_)
  · replace hf := zif_f q hf
    refine lv_iconst (v := 0) hx hb dX5_holds_35 (by decide) ?_
    exact bX5_holds_36 hC  hI (lv_sub hl [] rfl) hf
  replace hf := zif_t q hf
  refine lv_iconst (v := 1) hx hb dX5_holds_31 (by decide) ?_
  refine lv_goto (tgt := 36) hx hb dX5_holds_32 (by decide) ?_
  exact bX5_holds_36 hC  hI (lv_sub hl [] rfl) hf
set_option maxRecDepth 20000 in
set_option maxHeartbeats 4000000 in
theorem bX5_holds {st : Nat → Nat} {p : Program} {l : Launch} {e : Env} {s : State} {m : MethodId} {args : Array Value} {below : List Frame} {meth : Method} {c : Code} {D : va_G} {A : Nat → Prop} {ad : Nat → Nat} {cy : Nat → ClassId} (hC : zC p m c cX5_holds 2 s args wzX5_holds RX5 meth (some .boolean))  {res : zSt × Int32} {H : Heap} {locs : List Loc} {σ : zSt} {ls : Array Slot} {x1 : Int32} (hI : zI st D (tC cy) (wC ad cy σ) A s H locs) (hl : lv_has ls 2 [(0, .ref (ad 7)), (1, .int x1)]) (hf : fX5_holds  σ x1 = some res) : W p l e rmX5_holds s m args below meth c H locs 0 0 (zQi below args s D (tC cy) (wC ad cy) A res) (F0 m 0 ls []) := by
  have hx := hC.1
  have hb := hC.2.1
  unfold fX5_holds at hf
  refine lv_aload_n hx hb dX5_holds_0 rfl (lv_at hl 0 rfl) ?_
  refine z_get hC hI hinX5_holds_X50 7 (wC_e7 ad cy σ) rfl 2 (by decide) (List.mem_cons_of_mem _ zw7_5) rfl dX5_holds_1 ?_
  refine lv_iconst (v := 1) hx hb dX5_holds_4 (by decide) ?_
  obtain ⟨q, hf⟩ := zck_use hf
  refine z_iald hC hI 36 23 (wC_e36 ad cy σ) (tC_t36 cy) q dX5_holds_5 ?_
  refine z_gets hC hI 2 (by decide) (List.mem_cons_of_mem _ zw32_11) dX5_holds_6 ?_
  refine lv_iload_n hx hb dX5_holds_9 rfl (lv_at hl 1 rfl) ?_
  refine lv_iconst (v := 1) hx hb dX5_holds_10 (by decide) ?_
  refine lv_ishr hx hb dX5_holds_11 ?_
  refine lv_iconst (v := 3) hx hb dX5_holds_12 (by decide) ?_
  refine lv_iand hx hb dX5_holds_13 ?_
  obtain ⟨q, hf⟩ := zck_use hf
  refine z_ti hC hI 2 (by decide) rfl rfl q rfl dX5_holds_14 ?_
  refine lv_iand hx hb dX5_holds_15 ?_
  refine lv_if_eq (tgt := 23) hx hb dX5_holds_16 (by decide) (fun q => ?_) (fun q => ?_)
  · replace hf := zif_t q hf
    refine lv_iconst (v := 0) hx hb dX5_holds_23 (by decide) ?_
    exact bX5_holds_24 hC  hI (lv_sub hl [1] rfl) hf
  replace hf := zif_f q hf
  refine lv_iconst (v := 1) hx hb dX5_holds_19 (by decide) ?_
  refine lv_goto (tgt := 24) hx hb dX5_holds_20 (by decide) ?_
  exact bX5_holds_24 hC  hI (lv_sub hl [1] rfl) hf
set_option maxRecDepth 20000 in
theorem cX5_holds_met (st : Nat → Nat) (l : Launch) (D : va_G) (ad : Nat → Nat) (cy : Nat → ClassId) (σ : zSt) (x1 : Int32) (res : zSt × Int32) (hf : fX5_holds σ x1 = some res) (sz : Nat) : zMi st l yX5_holds wzX5_holds rmX5_holds [.ref (ad 7), .int x1] D (tC cy) (wC ad cy) sz σ res :=
  zMi.of (cc := cX5_holds) (maxL := 2) (ret := (some .boolean)) (by decide) rfl (Nat.le_of_ble_eq_true rfl) (fun p e s m args below meth c hC A hI ls hl => bX5_holds hC hI hl hf)
theorem hdX5_holds : yX5_holds.cls = RX5 ∧ yX5_holds.cls ≠ "java/lang/invoke/MethodHandle" ∧ yX5_holds.cls ≠ "java/lang/invoke/VarHandle" ∧ (parseMethodDescriptor yX5_holds.desc).map (fun d => d.parameters.length) = some 1 := by decide +kernel
def rmX5_popPair : Room := { frames := 3, cells := 0, slots := 0, locals := 68 }
def wzX5_popPair : List Cond := .code yX5_popPair cX5_popPair 3 (some .int) :: wsL_law
def fX5_popPair_25  (σ : zSt)  : Option (zSt × Int32) :=
  some (σ, 10)
def fX5_popPair  (σ : zSt) (x1 : Int32) : Option (zSt × Int32) :=
  zbi (fX5_pop σ ) (fun σ1 v2 =>
  if x1 = 3 then zbu (fX5_putPairAt σ1 0 v2) (fun σ4 =>
  fX5_popPair_25 σ4) else
  zbu (fX5_putPair σ1 x1 v2) (fun σ3 =>
  fX5_popPair_25 σ3))
set_option maxRecDepth 20000 in
set_option maxHeartbeats 4000000 in
theorem bX5_popPair_25 {st : Nat → Nat} {p : Program} {l : Launch} {e : Env} {s : State} {m : MethodId} {args : Array Value} {below : List Frame} {meth : Method} {c : Code} {D : va_G} {A : Nat → Prop} {ad : Nat → Nat} {cy : Nat → ClassId} (hC : zC p m c cX5_popPair 3 s args wzX5_popPair RX5 meth (some .int))  {res : zSt × Int32} {H : Heap} {locs : List Loc} {σ : zSt} {ls : Array Slot}  (hI : zI st D (tC cy) (wC ad cy σ) A s H locs) (hl : lv_has ls 3 []) (hf : fX5_popPair_25  σ  = some res) : W p l e rmX5_popPair s m args below meth c H locs 0 0 (zQi below args s D (tC cy) (wC ad cy) A res) (F0 m 25 ls []) := by
  have hx := hC.1
  have hb := hC.2.1
  unfold fX5_popPair_25 at hf
  refine lv_bipush (v := 10) hx hb dX5_popPair_25 (by decide) ?_
  exact z_ireturn hC hI hf dX5_popPair_27
set_option maxRecDepth 20000 in
set_option maxHeartbeats 4000000 in
theorem bX5_popPair {st : Nat → Nat} {p : Program} {l : Launch} {e : Env} {s : State} {m : MethodId} {args : Array Value} {below : List Frame} {meth : Method} {c : Code} {D : va_G} {A : Nat → Prop} {ad : Nat → Nat} {cy : Nat → ClassId} (hC : zC p m c cX5_popPair 3 s args wzX5_popPair RX5 meth (some .int))  {res : zSt × Int32} {H : Heap} {locs : List Loc} {σ : zSt} {ls : Array Slot} {x1 : Int32} (hI : zI st D (tC cy) (wC ad cy σ) A s H locs) (hl : lv_has ls 3 [(0, .ref (ad 7)), (1, .int x1)]) (hf : fX5_popPair  σ x1 = some res) : W p l e rmX5_popPair s m args below meth c H locs 0 0 (zQi below args s D (tC cy) (wC ad cy) A res) (F0 m 0 ls []) := by
  have hx := hC.1
  have hb := hC.2.1
  unfold fX5_popPair at hf
  refine lv_aload_n hx hb dX5_popPair_0 rfl (lv_at hl 0 rfl) ?_
  obtain ⟨σ1, v2, g1, hf⟩ := zbi_use hf
  refine z_callVi (As := []) (rest := []) hC hI (cX5_pop_met st l D ad cy σ  _ g1) (zgV zw31_7 zw31_8 zw31_9 zw2_21 zw31_10) rfl ⟨rfl, rfl⟩ 0 hdX5_pop ⟨Nat.le_of_ble_eq_true rfl, Nat.le_of_ble_eq_true rfl⟩ rfl rfl (wC_e7 ad cy σ) rfl hl rfl (Nat.le_of_ble_eq_true rfl) dX5_popPair_1 ⟨Nat.zero_le _, Nat.zero_le _⟩ (fun H locs hI => ?_)
  refine lv_istore_n (lv' := [(2, .int v2), (0, .ref (ad 7)), (1, .int x1)]) hx hb dX5_popPair_4 rfl hl (by decide) rfl (fun ls hl => ?_)
  refine lv_iload_n hx hb dX5_popPair_5 rfl (lv_at hl 2 rfl) ?_
  refine lv_iconst (v := 3) hx hb dX5_popPair_6 (by decide) ?_
  refine lv_icmp_ne (tgt := 19) hx hb dX5_popPair_7 (by decide) (fun q => ?_) (fun q => ?_)
  · replace hf := zif_f q hf
    refine lv_aload_n hx hb dX5_popPair_19 rfl (lv_at hl 1 rfl) ?_
    refine lv_iload_n hx hb dX5_popPair_20 rfl (lv_at hl 2 rfl) ?_
    refine lv_iload_n hx hb dX5_popPair_21 rfl (lv_at hl 0 rfl) ?_
    obtain ⟨σ3, g3, hf⟩ := zbu_use hf
    refine z_callVu (As := [.int x1, .int v2]) (rest := []) hC hI (cX5_putPair_met st l D ad cy σ1 x1 v2 _ g3) (zgV zw30_23 zw31_0 zw31_1 zw2_21 zw31_2) rfl ⟨rfl, rfl⟩ 2 hdX5_putPair ⟨Nat.le_of_ble_eq_true rfl, Nat.le_of_ble_eq_true rfl⟩ rfl rfl (wC_e7 ad cy σ1) rfl hl rfl (Nat.le_of_ble_eq_true rfl) dX5_popPair_22 ⟨Nat.zero_le _, Nat.zero_le _⟩ (fun H locs hI => ?_)
    exact bX5_popPair_25 hC  hI (lv_sub hl [] rfl) hf
  replace hf := zif_t q hf
  refine lv_aload_n hx hb dX5_popPair_10 rfl (lv_at hl 1 rfl) ?_
  refine lv_iconst (v := 0) hx hb dX5_popPair_11 (by decide) ?_
  refine lv_iload_n hx hb dX5_popPair_12 rfl (lv_at hl 0 rfl) ?_
  obtain ⟨σ4, g4, hf⟩ := zbu_use hf
  refine z_callVu (As := [.int 0, .int v2]) (rest := []) hC hI (cX5_putPairAt_met st l D ad cy σ1 0 v2 _ g4) (zgV zw24_16 zw24_17 zw24_18 zw2_21 zw24_19) rfl ⟨rfl, rfl⟩ 2 hdX5_putPairAt ⟨Nat.le_of_ble_eq_true rfl, Nat.le_of_ble_eq_true rfl⟩ rfl rfl (wC_e7 ad cy σ1) rfl hl rfl (Nat.le_of_ble_eq_true rfl) dX5_popPair_13 ⟨Nat.zero_le _, Nat.zero_le _⟩ (fun H locs hI => ?_)
  refine lv_goto (tgt := 25) hx hb dX5_popPair_16 (by decide) ?_
  exact bX5_popPair_25 hC  hI (lv_sub hl [] rfl) hf
set_option maxRecDepth 20000 in
theorem cX5_popPair_met (st : Nat → Nat) (l : Launch) (D : va_G) (ad : Nat → Nat) (cy : Nat → ClassId) (σ : zSt) (x1 : Int32) (res : zSt × Int32) (hf : fX5_popPair σ x1 = some res) (sz : Nat) : zMi st l yX5_popPair wzX5_popPair rmX5_popPair [.ref (ad 7), .int x1] D (tC cy) (wC ad cy) sz σ res :=
  zMi.of (cc := cX5_popPair) (maxL := 3) (ret := (some .int)) (by decide) rfl (Nat.le_of_ble_eq_true rfl) (fun p e s m args below meth c hC A hI ls hl => bX5_popPair hC hI hl hf)
theorem hdX5_popPair : yX5_popPair.cls = RX5 ∧ yX5_popPair.cls ≠ "java/lang/invoke/MethodHandle" ∧ yX5_popPair.cls ≠ "java/lang/invoke/VarHandle" ∧ (parseMethodDescriptor yX5_popPair.desc).map (fun d => d.parameters.length) = some 1 := by decide +kernel
def rmX5_changeWithOther : Room := { frames := 0, cells := 0, slots := 0, locals := 0 }
def wzX5_changeWithOther : List Cond := .code yX5_changeWithOther cX5_changeWithOther 3 none :: wsL_law
theorem hinX5_changeWithOther_X50 : ∀ w ∈ wsX50, w ∈ wzX5_changeWithOther := fun w h => List.mem_cons_of_mem _ (inlX5 w h)
def fX5_changeWithOther  (σ : zSt) (x1 : Int32) : Option (zSt) :=
  zck (zin x1 29) (
  zbv (zgi σ 36 x1.toNatClampNeg) (fun v1 =>
  zck (zin (x1 + 8) 29) (
  zck (zin x1 29) (zbv (zsi σ 36 (x1.toNatClampNeg) (zgi σ 36 (x1 + 8).toNatClampNeg)) (fun σ2 =>
  zck (zin (x1 + 8) 29) (zbv (zsi σ2 36 ((x1 + 8).toNatClampNeg) v1) (fun σ3 =>
  some σ3)))))))
set_option maxRecDepth 20000 in
set_option maxHeartbeats 4000000 in
theorem bX5_changeWithOther {st : Nat → Nat} {p : Program} {l : Launch} {e : Env} {s : State} {m : MethodId} {args : Array Value} {below : List Frame} {meth : Method} {c : Code} {D : va_G} {A : Nat → Prop} {ad : Nat → Nat} {cy : Nat → ClassId} (hC : zC p m c cX5_changeWithOther 3 s args wzX5_changeWithOther RX5 meth none)  {res : zSt} {H : Heap} {locs : List Loc} {σ : zSt} {ls : Array Slot} {x1 : Int32} (hI : zI st D (tC cy) (wC ad cy σ) A s H locs) (hl : lv_has ls 3 [(0, .ref (ad 7)), (1, .int x1)]) (hf : fX5_changeWithOther  σ x1 = some res) : W p l e rmX5_changeWithOther s m args below meth c H locs 0 0 (zQu below args s D (tC cy) (wC ad cy) A res) (F0 m 0 ls []) := by
  have hx := hC.1
  have hb := hC.2.1
  unfold fX5_changeWithOther at hf
  refine lv_aload_n hx hb dX5_changeWithOther_0 rfl (lv_at hl 0 rfl) ?_
  refine z_get hC hI hinX5_changeWithOther_X50 7 (wC_e7 ad cy σ) rfl 2 (by decide) (List.mem_cons_of_mem _ zw7_5) rfl dX5_changeWithOther_1 ?_
  refine lv_iload_n hx hb dX5_changeWithOther_4 rfl (lv_at hl 1 rfl) ?_
  obtain ⟨q, hf⟩ := zck_use hf
  refine z_iald hC hI 36 23 (wC_e36 ad cy σ) (tC_t36 cy) q dX5_changeWithOther_5 ?_
  refine lv_topi (fun v1 ev1 => ?_)
  replace hf := zbv_use ev1 hf
  refine lv_istore_n (lv' := [(2, .int v1), (0, .ref (ad 7)), (1, .int x1)]) hx hb dX5_changeWithOther_6 rfl hl (by decide) rfl (fun ls hl => ?_)
  refine lv_aload_n hx hb dX5_changeWithOther_7 rfl (lv_at hl 1 rfl) ?_
  refine z_get hC hI hinX5_changeWithOther_X50 7 (wC_e7 ad cy σ) rfl 2 (by decide) (List.mem_cons_of_mem _ zw7_5) rfl dX5_changeWithOther_8 ?_
  refine lv_iload_n hx hb dX5_changeWithOther_11 rfl (lv_at hl 2 rfl) ?_
  refine lv_aload_n hx hb dX5_changeWithOther_12 rfl (lv_at hl 1 rfl) ?_
  refine z_get hC hI hinX5_changeWithOther_X50 7 (wC_e7 ad cy σ) rfl 2 (by decide) (List.mem_cons_of_mem _ zw7_5) rfl dX5_changeWithOther_13 ?_
  refine lv_iload_n hx hb dX5_changeWithOther_16 rfl (lv_at hl 2 rfl) ?_
  refine lv_bipush (v := 8) hx hb dX5_changeWithOther_17 (by decide) ?_
  refine lv_iadd hx hb dX5_changeWithOther_19 ?_
  obtain ⟨q, hf⟩ := zck_use hf
  refine z_iald hC hI 36 23 (wC_e36 ad cy σ) (tC_t36 cy) q dX5_changeWithOther_20 ?_
  obtain ⟨q, hf⟩ := zck_use hf
  obtain ⟨σ2, eσ2⟩ : ∃ z, z = zsi σ 36 (x1.toNatClampNeg) (zgi σ 36 (x1 + 8).toNatClampNeg) := ⟨_, rfl⟩
  replace hf := zbv_use eσ2 hf
  refine z_iast hC hI 36 23 (wC_e36 ad cy σ) (tC_t36 cy) q ((wC_s36 ad cy σ _ _).trans (congrArg (wC ad cy) eσ2.symm)) dX5_changeWithOther_21 (fun H locs hI => ?_)
  refine lv_aload_n hx hb dX5_changeWithOther_22 rfl (lv_at hl 1 rfl) ?_
  refine z_get hC hI hinX5_changeWithOther_X50 7 (wC_e7 ad cy σ2) rfl 2 (by decide) (List.mem_cons_of_mem _ zw7_5) rfl dX5_changeWithOther_23 ?_
  refine lv_iload_n hx hb dX5_changeWithOther_26 rfl (lv_at hl 2 rfl) ?_
  refine lv_bipush (v := 8) hx hb dX5_changeWithOther_27 (by decide) ?_
  refine lv_iadd hx hb dX5_changeWithOther_29 ?_
  refine lv_iload_n hx hb dX5_changeWithOther_30 rfl (lv_at hl 0 rfl) ?_
  obtain ⟨q, hf⟩ := zck_use hf
  obtain ⟨σ3, eσ3⟩ : ∃ z, z = zsi σ2 36 ((x1 + 8).toNatClampNeg) v1 := ⟨_, rfl⟩
  replace hf := zbv_use eσ3 hf
  refine z_iast hC hI 36 23 (wC_e36 ad cy σ2) (tC_t36 cy) q ((wC_s36 ad cy σ2 _ _).trans (congrArg (wC ad cy) eσ3.symm)) dX5_changeWithOther_31 (fun H locs hI => ?_)
  exact z_return hC hI hf dX5_changeWithOther_32
set_option maxRecDepth 20000 in
theorem cX5_changeWithOther_met (st : Nat → Nat) (l : Launch) (D : va_G) (ad : Nat → Nat) (cy : Nat → ClassId) (σ : zSt) (x1 : Int32) (res : zSt) (hf : fX5_changeWithOther σ x1 = some res) (sz : Nat) : zMu st l yX5_changeWithOther wzX5_changeWithOther rmX5_changeWithOther [.ref (ad 7), .int x1] D (tC cy) (wC ad cy) sz σ res :=
  zMu.of (cc := cX5_changeWithOther) (maxL := 3) (ret := none) (by decide) rfl (Nat.le_of_ble_eq_true rfl) (fun p e s m args below meth c hC A hI ls hl => bX5_changeWithOther hC hI hl hf)
theorem hdX5_changeWithOther : yX5_changeWithOther.cls = RX5 ∧ yX5_changeWithOther.cls ≠ "java/lang/invoke/MethodHandle" ∧ yX5_changeWithOther.cls ≠ "java/lang/invoke/VarHandle" ∧ (parseMethodDescriptor yX5_changeWithOther.desc).map (fun d => d.parameters.length) = some 1 := by decide +kernel
def rmX5_leave : Room := { frames := 3, cells := 0, slots := 0, locals := 68 }
def wzX5_leave : List Cond := .code yX5_leave cX5_leave 3 (some .int) :: wsL_law
theorem hinX5_leave_X50 : ∀ w ∈ wsX50, w ∈ wzX5_leave := fun w h => List.mem_cons_of_mem _ (inlX5 w h)
def fX5_leave_41_body (k41 : zSt → Int32 → Option (zSt × Int32)) (σ : zSt) (x2 : Int32) : Option (zSt × Int32) :=
  if 7 < x2 then some (σ, 4) else
  zbu (fX5_changeWithOther σ x2) (fun σ1 =>
  zbv (x2 + 1) (fun v2 =>
  k41 σ1 v2))
def fX5_leave_41  : Nat → zSt → Int32 → Option (zSt × Int32)
  | 0, _, _ => none
  | n + 1, σ, x2 => fX5_leave_41_body (fX5_leave_41  n) σ x2
def fX5_leave  (σ : zSt) (x1 : Int32) : Option (zSt × Int32) :=
  if x1 = 0 then zbi (fX5_pop σ ) (fun σ3 v4 =>
  zbu (fX5_goTo σ3 v4) (fun σ5 =>
  some (σ5, 10))) else
  if x1 = 1 then fX5_leave_41 zfuel σ 2 else
  if x1 = 2 then zbi (fX5_hl σ ) (fun σ6 v7 =>
  zck (zin 19 29) (zbv (zsi σ6 36 ((19 : Int32).toNatClampNeg) v7) (fun σ8 =>
  some (σ8, 4)))) else
  zbi (fX5_hl σ ) (fun σ9 v10 =>
  zck (zin 18 29) (zbv (zsi σ9 36 ((18 : Int32).toNatClampNeg) v10) (fun σ11 =>
  some (σ11, 6))))
set_option maxRecDepth 20000 in
set_option maxHeartbeats 4000000 in
theorem bX5_leave_41_body {st : Nat → Nat} {p : Program} {l : Launch} {e : Env} {s : State} {m : MethodId} {args : Array Value} {below : List Frame} {meth : Method} {c : Code} {D : va_G} {A : Nat → Prop} {ad : Nat → Nat} {cy : Nat → ClassId} (hC : zC p m c cX5_leave 3 s args wzX5_leave RX5 meth (some .int)) {k41 : zSt → Int32 → Option (zSt × Int32)} {res : zSt × Int32} (hk41 : ∀ (H : Heap) (locs : List Loc) (σ : zSt) (ls : Array Slot) (x2 : Int32), zI st D (tC cy) (wC ad cy σ) A s H locs → lv_has ls 3 [(0, .ref (ad 7)), (2, .int x2)] → k41 σ x2 = some res → W p l e rmX5_leave s m args below meth c H locs 0 0 (zQi below args s D (tC cy) (wC ad cy) A res) (F0 m 41 ls [])) {H : Heap} {locs : List Loc} {σ : zSt} {ls : Array Slot} {x2 : Int32} (hI : zI st D (tC cy) (wC ad cy σ) A s H locs) (hl : lv_has ls 3 [(0, .ref (ad 7)), (2, .int x2)]) (hf : fX5_leave_41_body k41 σ x2 = some res) : W p l e rmX5_leave s m args below meth c H locs 0 0 (zQi below args s D (tC cy) (wC ad cy) A res) (F0 m 41 ls []) := by
  have hx := hC.1
  have hb := hC.2.1
  unfold fX5_leave_41_body at hf
  refine lv_iload_n hx hb dX5_leave_41 rfl (lv_at hl 1 rfl) ?_
  refine lv_bipush (v := 7) hx hb dX5_leave_42 (by decide) ?_
  refine lv_icmp_gt (tgt := 58) hx hb dX5_leave_44 (by decide) (fun q => ?_) (fun q => ?_)
  · replace hf := zif_t q hf
    refine lv_iconst (v := 4) hx hb dX5_leave_58 (by decide) ?_
    exact z_ireturn hC hI hf dX5_leave_59
  replace hf := zif_f q hf
  refine lv_aload_n hx hb dX5_leave_47 rfl (lv_at hl 0 rfl) ?_
  refine lv_iload_n hx hb dX5_leave_48 rfl (lv_at hl 1 rfl) ?_
  obtain ⟨σ1, g1, hf⟩ := zbu_use hf
  refine z_callVu (As := [.int x2]) (rest := []) hC hI (cX5_changeWithOther_met st l D ad cy σ x2 _ g1) (zgV zw32_3 zw32_4 zw32_5 zw2_21 zw32_6) rfl ⟨rfl, rfl⟩ 1 hdX5_changeWithOther ⟨Nat.le_of_ble_eq_true rfl, Nat.le_of_ble_eq_true rfl⟩ rfl rfl (wC_e7 ad cy σ) rfl hl rfl (Nat.le_of_ble_eq_true rfl) dX5_leave_49 ⟨Nat.zero_le _, Nat.zero_le _⟩ (fun H locs hI => ?_)
  obtain ⟨v2, ev2⟩ : ∃ z : Int32, z = x2 + 1 := ⟨_, rfl⟩
  replace hf := zbv_use ev2 hf
  refine lv_iinc (v := v2) (lv' := [(2, .int v2), (0, .ref (ad 7))]) hx hb dX5_leave_52 hl (k := 1) rfl (by rw [ev2]; rfl) (by decide) rfl (fun ls hl => ?_)
  refine lv_goto (tgt := 41) hx hb dX5_leave_55 (by decide) ?_
  exact hk41 _ _ _ _ _ hI (lv_sub hl [1, 0] rfl) hf
theorem blX5_leave_41 {st : Nat → Nat} {p : Program} {l : Launch} {e : Env} {s : State} {m : MethodId} {args : Array Value} {below : List Frame} {meth : Method} {c : Code} {D : va_G} {A : Nat → Prop} {ad : Nat → Nat} {cy : Nat → ClassId} (hC : zC p m c cX5_leave 3 s args wzX5_leave RX5 meth (some .int))  {res : zSt × Int32} : ∀ (n : Nat) (H : Heap) (locs : List Loc) (σ : zSt) (ls : Array Slot) (x2 : Int32), zI st D (tC cy) (wC ad cy σ) A s H locs → lv_has ls 3 [(0, .ref (ad 7)), (2, .int x2)] → fX5_leave_41  n σ x2 = some res → W p l e rmX5_leave s m args below meth c H locs 0 0 (zQi below args s D (tC cy) (wC ad cy) A res) (F0 m 41 ls []) := by
  intro n
  induction n with
  | zero => intro H locs σ ls x2 hI hl hf; cases hf
  | succ n ih => intro H locs σ ls x2 hI hl hf; exact bX5_leave_41_body hC ih hI hl hf
set_option maxRecDepth 20000 in
set_option maxHeartbeats 4000000 in
theorem bX5_leave {st : Nat → Nat} {p : Program} {l : Launch} {e : Env} {s : State} {m : MethodId} {args : Array Value} {below : List Frame} {meth : Method} {c : Code} {D : va_G} {A : Nat → Prop} {ad : Nat → Nat} {cy : Nat → ClassId} (hC : zC p m c cX5_leave 3 s args wzX5_leave RX5 meth (some .int))  {res : zSt × Int32} {H : Heap} {locs : List Loc} {σ : zSt} {ls : Array Slot} {x1 : Int32} (hI : zI st D (tC cy) (wC ad cy σ) A s H locs) (hl : lv_has ls 3 [(0, .ref (ad 7)), (1, .int x1)]) (hf : fX5_leave  σ x1 = some res) : W p l e rmX5_leave s m args below meth c H locs 0 0 (zQi below args s D (tC cy) (wC ad cy) A res) (F0 m 0 ls []) := by
  have hx := hC.1
  have hb := hC.2.1
  unfold fX5_leave at hf
  refine lv_iload_n hx hb dX5_leave_0 rfl (lv_at hl 1 rfl) ?_
  by_cases q0 : x1 = 0
  · replace hf := zif_t q0 hf
    refine lv_tableIn (tgt := 28) hx hb dX5_leave_1 (by rw [q0]; decide) (by rw [q0]; decide) (by rw [q0]; rfl) (by decide) ?_
    refine lv_aload_n hx hb dX5_leave_28 rfl (lv_at hl 0 rfl) ?_
    refine lv_aload_n hx hb dX5_leave_29 rfl (lv_at hl 0 rfl) ?_
    obtain ⟨σ3, v4, g3, hf⟩ := zbi_use hf
    refine z_callVi (As := []) (rest := [.ref (ad 7)]) hC hI (cX5_pop_met st l D ad cy σ  _ g3) (zgV zw31_7 zw31_8 zw31_9 zw2_21 zw31_10) rfl ⟨rfl, rfl⟩ 0 hdX5_pop ⟨Nat.le_of_ble_eq_true rfl, Nat.le_of_ble_eq_true rfl⟩ rfl rfl (wC_e7 ad cy σ) rfl hl rfl (Nat.le_of_ble_eq_true rfl) dX5_leave_30 ⟨Nat.zero_le _, Nat.zero_le _⟩ (fun H locs hI => ?_)
    obtain ⟨σ5, g5, hf⟩ := zbu_use hf
    refine z_callVu (As := [.int v4]) (rest := []) hC hI (cX5_goTo_met st l D ad cy σ3 v4 _ g5) (zgV zw20_22 zw20_23 zw21_0 zw2_21 zw21_1) rfl ⟨rfl, rfl⟩ 1 hdX5_goTo ⟨Nat.le_of_ble_eq_true rfl, Nat.le_of_ble_eq_true rfl⟩ rfl rfl (wC_e7 ad cy σ3) rfl hl rfl (Nat.le_of_ble_eq_true rfl) dX5_leave_33 ⟨Nat.zero_le _, Nat.zero_le _⟩ (fun H locs hI => ?_)
    refine lv_bipush (v := 10) hx hb dX5_leave_36 (by decide) ?_
    exact z_ireturn hC hI hf dX5_leave_38
  replace hf := zif_f q0 hf
  by_cases q1 : x1 = 1
  · replace hf := zif_t q1 hf
    refine lv_tableIn (tgt := 39) hx hb dX5_leave_1 (by rw [q1]; decide) (by rw [q1]; decide) (by rw [q1]; rfl) (by decide) ?_
    refine lv_iconst (v := 2) hx hb dX5_leave_39 (by decide) ?_
    refine lv_istore_n (lv' := [(2, .int 2), (0, .ref (ad 7)), (1, .int x1)]) hx hb dX5_leave_40 rfl hl (by decide) rfl (fun ls hl => ?_)
    exact blX5_leave_41 hC  zfuel _ _ _ _ _ hI (lv_sub hl [1, 0] rfl) hf
  replace hf := zif_f q1 hf
  by_cases q2 : x1 = 2
  · replace hf := zif_t q2 hf
    refine lv_tableIn (tgt := 60) hx hb dX5_leave_1 (by rw [q2]; decide) (by rw [q2]; decide) (by rw [q2]; rfl) (by decide) ?_
    refine lv_aload_n hx hb dX5_leave_60 rfl (lv_at hl 0 rfl) ?_
    refine z_get hC hI hinX5_leave_X50 7 (wC_e7 ad cy σ) rfl 2 (by decide) (List.mem_cons_of_mem _ zw7_5) rfl dX5_leave_61 ?_
    refine lv_bipush (v := 19) hx hb dX5_leave_64 (by decide) ?_
    refine lv_aload_n hx hb dX5_leave_66 rfl (lv_at hl 0 rfl) ?_
    obtain ⟨σ6, v7, g6, hf⟩ := zbi_use hf
    refine z_callVi (As := []) (rest := [.int 19, .ref (ad 36)]) hC hI (cX5_hl_met st l D ad cy σ  _ g6) (zgV zw29_15 zw29_16 zw29_17 zw2_21 zw29_18) rfl ⟨rfl, rfl⟩ 0 hdX5_hl ⟨Nat.le_of_ble_eq_true rfl, Nat.le_of_ble_eq_true rfl⟩ rfl rfl (wC_e7 ad cy σ) rfl hl rfl (Nat.le_of_ble_eq_true rfl) dX5_leave_67 ⟨Nat.zero_le _, Nat.zero_le _⟩ (fun H locs hI => ?_)
    obtain ⟨q, hf⟩ := zck_use hf
    obtain ⟨σ8, eσ8⟩ : ∃ z, z = zsi σ6 36 ((19 : Int32).toNatClampNeg) v7 := ⟨_, rfl⟩
    replace hf := zbv_use eσ8 hf
    refine z_iast hC hI 36 23 (wC_e36 ad cy σ6) (tC_t36 cy) q ((wC_s36 ad cy σ6 _ _).trans (congrArg (wC ad cy) eσ8.symm)) dX5_leave_70 (fun H locs hI => ?_)
    refine lv_iconst (v := 4) hx hb dX5_leave_71 (by decide) ?_
    exact z_ireturn hC hI hf dX5_leave_72
  replace hf := zif_f q2 hf
  refine lv_tableOut (tgt := 73) hx hb dX5_leave_1 (zsw (fun k h1 h2 => by rcases (show k = 0 ∨ k = 1 ∨ k = 2 by omega) with rfl | rfl | rfl <;> assumption)) (by decide) ?_
  refine lv_aload_n hx hb dX5_leave_73 rfl (lv_at hl 0 rfl) ?_
  refine z_get hC hI hinX5_leave_X50 7 (wC_e7 ad cy σ) rfl 2 (by decide) (List.mem_cons_of_mem _ zw7_5) rfl dX5_leave_74 ?_
  refine lv_bipush (v := 18) hx hb dX5_leave_77 (by decide) ?_
  refine lv_aload_n hx hb dX5_leave_79 rfl (lv_at hl 0 rfl) ?_
  obtain ⟨σ9, v10, g9, hf⟩ := zbi_use hf
  refine z_callVi (As := []) (rest := [.int 18, .ref (ad 36)]) hC hI (cX5_hl_met st l D ad cy σ  _ g9) (zgV zw29_15 zw29_16 zw29_17 zw2_21 zw29_18) rfl ⟨rfl, rfl⟩ 0 hdX5_hl ⟨Nat.le_of_ble_eq_true rfl, Nat.le_of_ble_eq_true rfl⟩ rfl rfl (wC_e7 ad cy σ) rfl hl rfl (Nat.le_of_ble_eq_true rfl) dX5_leave_80 ⟨Nat.zero_le _, Nat.zero_le _⟩ (fun H locs hI => ?_)
  obtain ⟨q, hf⟩ := zck_use hf
  obtain ⟨σ11, eσ11⟩ : ∃ z, z = zsi σ9 36 ((18 : Int32).toNatClampNeg) v10 := ⟨_, rfl⟩
  replace hf := zbv_use eσ11 hf
  refine z_iast hC hI 36 23 (wC_e36 ad cy σ9) (tC_t36 cy) q ((wC_s36 ad cy σ9 _ _).trans (congrArg (wC ad cy) eσ11.symm)) dX5_leave_83 (fun H locs hI => ?_)
  refine lv_bipush (v := 6) hx hb dX5_leave_84 (by decide) ?_
  exact z_ireturn hC hI hf dX5_leave_86
set_option maxRecDepth 20000 in
theorem cX5_leave_met (st : Nat → Nat) (l : Launch) (D : va_G) (ad : Nat → Nat) (cy : Nat → ClassId) (σ : zSt) (x1 : Int32) (res : zSt × Int32) (hf : fX5_leave σ x1 = some res) (sz : Nat) : zMi st l yX5_leave wzX5_leave rmX5_leave [.ref (ad 7), .int x1] D (tC cy) (wC ad cy) sz σ res :=
  zMi.of (cc := cX5_leave) (maxL := 3) (ret := (some .int)) (by decide) rfl (Nat.le_of_ble_eq_true rfl) (fun p e s m args below meth c hC A hI ls hl => bX5_leave hC hI hl hf)
theorem hdX5_leave : yX5_leave.cls = RX5 ∧ yX5_leave.cls ≠ "java/lang/invoke/MethodHandle" ∧ yX5_leave.cls ≠ "java/lang/invoke/VarHandle" ∧ (parseMethodDescriptor yX5_leave.desc).map (fun d => d.parameters.length) = some 1 := by decide +kernel
def rmX5_lastQuarter : Room := { frames := 4, cells := 0, slots := 0, locals := 90 }
def wzX5_lastQuarter : List Cond := .code yX5_lastQuarter cX5_lastQuarter 3 (some .int) :: wsL_law
theorem hinX5_lastQuarter_X50 : ∀ w ∈ wsX50, w ∈ wzX5_lastQuarter := fun w h => List.mem_cons_of_mem _ (inlX5 w h)
def fX5_lastQuarter_196  (σ : zSt) (x2 : Int32) : Option (zSt × Int32) :=
  zck (zin 19 29) (
  zbu (fX5_push σ (zgi σ 36 (19 : Int32).toNatClampNeg)) (fun σ1 =>
  zbu (fX5_goTo σ1 (8 * x2)) (fun σ2 =>
  some (σ2, 11))))
def fX5_lastQuarter_178  (σ : zSt) (s0 : Int32) : Option (zSt × Int32) :=
  zbu (fX5_push σ s0) (fun σ3 =>
  some (σ3, 11))
def fX5_lastQuarter_130  (σ : zSt)  : Option (zSt × Int32) :=
  some (σ, 10)
def fX5_lastQuarter_96  (σ : zSt) (s0 : Int32) : Option (zSt × Int32) :=
  some (σ, s0)
def fX5_lastQuarter  (σ : zSt) (x1 : Int32) : Option (zSt × Int32) :=
  zbv ((x1 >>> ((3 : Int32) &&& 31)) &&& 7) (fun v4 =>
  if (x1 &&& 7) = 0 then zbi (fX5_holds σ v4) (fun σ5 v6 =>
  if v6 = 0 then some (σ5, 5) else
  zbi (fX5_pop σ5 ) (fun σ7 v8 =>
  zbu (fX5_goTo σ7 v8) (fun σ9 =>
  some (σ9, 11)))) else
  if (x1 &&& 7) = 1 then if (v4 &&& 1) = 0 then zbi (fX5_popPair σ (v4 >>> ((1 : Int32) &&& 31))) (fun σ12 v13 =>
  fX5_lastQuarter_96 σ12 v13) else
  zbi (fX5_leave σ (v4 >>> ((1 : Int32) &&& 31))) (fun σ10 v11 =>
  fX5_lastQuarter_96 σ10 v11) else
  if (x1 &&& 7) = 2 then zbi (fX5_fetchWord σ ) (fun σ14 v15 =>
  zck (zin 20 29) (zbv (zsi σ14 36 ((20 : Int32).toNatClampNeg) v15) (fun σ16 =>
  zbi (fX5_holds σ16 v4) (fun σ17 v18 =>
  if v18 = 0 then fX5_lastQuarter_130 σ17 else
  zck (zin 20 29) (
  zck (zin 19 29) (zbv (zsi σ17 36 ((19 : Int32).toNatClampNeg) (zgi σ17 36 (20 : Int32).toNatClampNeg)) (fun σ19 =>
  fX5_lastQuarter_130 σ19))))))) else
  if (x1 &&& 7) = 3 then fX5_lastQuarter_196 σ v4 else
  if (x1 &&& 7) = 4 then zbi (fX5_holds σ v4) (fun σ20 v21 =>
  zbi (fX5_callIf σ20 v21) (fun σ22 v23 =>
  some (σ22, v23))) else
  if (x1 &&& 7) = 5 then if (v4 &&& 1) = 1 then zbi (fX5_callIf σ 1) (fun σ28 v29 =>
  some (σ28, v29)) else
  if v4 = 6 then zbi (fX5_pairAt σ 0) (fun σ26 v27 =>
  fX5_lastQuarter_178 σ26 v27) else
  zbi (fX5_pair σ (v4 >>> ((1 : Int32) &&& 31))) (fun σ24 v25 =>
  fX5_lastQuarter_178 σ24 v25) else
  if (x1 &&& 7) = 6 then zbi (fX5_fetch σ ) (fun σ30 v31 =>
  zbu (fX5_doWith σ30 v4 v31) (fun σ32 =>
  some (σ32, 7))) else
  fX5_lastQuarter_196 σ v4)
set_option maxRecDepth 20000 in
set_option maxHeartbeats 4000000 in
theorem bX5_lastQuarter_196 {st : Nat → Nat} {p : Program} {l : Launch} {e : Env} {s : State} {m : MethodId} {args : Array Value} {below : List Frame} {meth : Method} {c : Code} {D : va_G} {A : Nat → Prop} {ad : Nat → Nat} {cy : Nat → ClassId} (hC : zC p m c cX5_lastQuarter 3 s args wzX5_lastQuarter RX5 meth (some .int))  {res : zSt × Int32} {H : Heap} {locs : List Loc} {σ : zSt} {ls : Array Slot} {x2 : Int32} (hI : zI st D (tC cy) (wC ad cy σ) A s H locs) (hl : lv_has ls 3 [(0, .ref (ad 7)), (2, .int x2)]) (hf : fX5_lastQuarter_196  σ x2 = some res) : W p l e rmX5_lastQuarter s m args below meth c H locs 0 0 (zQi below args s D (tC cy) (wC ad cy) A res) (F0 m 196 ls []) := by
  have hx := hC.1
  have hb := hC.2.1
  unfold fX5_lastQuarter_196 at hf
  refine lv_aload_n hx hb dX5_lastQuarter_196 rfl (lv_at hl 0 rfl) ?_
  refine lv_aload_n hx hb dX5_lastQuarter_197 rfl (lv_at hl 0 rfl) ?_
  refine z_get hC hI hinX5_lastQuarter_X50 7 (wC_e7 ad cy σ) rfl 2 (by decide) (List.mem_cons_of_mem _ zw7_5) rfl dX5_lastQuarter_198 ?_
  refine lv_bipush (v := 19) hx hb dX5_lastQuarter_201 (by decide) ?_
  obtain ⟨q, hf⟩ := zck_use hf
  refine z_iald hC hI 36 23 (wC_e36 ad cy σ) (tC_t36 cy) q dX5_lastQuarter_203 ?_
  obtain ⟨σ1, g1, hf⟩ := zbu_use hf
  refine z_callVu (As := [.int (zgi σ 36 (19 : Int32).toNatClampNeg)]) (rest := []) hC hI (cX5_push_met st l D ad cy σ (zgi σ 36 (19 : Int32).toNatClampNeg) _ g1) (zgV zw20_2 zw20_3 zw20_4 zw2_21 zw20_5) rfl ⟨rfl, rfl⟩ 1 hdX5_push ⟨Nat.le_of_ble_eq_true rfl, Nat.le_of_ble_eq_true rfl⟩ rfl rfl (wC_e7 ad cy σ) rfl hl rfl (Nat.le_of_ble_eq_true rfl) dX5_lastQuarter_204 ⟨Nat.zero_le _, Nat.zero_le _⟩ (fun H locs hI => ?_)
  refine lv_aload_n hx hb dX5_lastQuarter_207 rfl (lv_at hl 0 rfl) ?_
  refine lv_bipush (v := 8) hx hb dX5_lastQuarter_208 (by decide) ?_
  refine lv_iload_n hx hb dX5_lastQuarter_210 rfl (lv_at hl 1 rfl) ?_
  refine lv_imul hx hb dX5_lastQuarter_211 ?_
  obtain ⟨σ2, g2, hf⟩ := zbu_use hf
  refine z_callVu (As := [.int (8 * x2)]) (rest := []) hC hI (cX5_goTo_met st l D ad cy σ1 (8 * x2) _ g2) (zgV zw20_22 zw20_23 zw21_0 zw2_21 zw21_1) rfl ⟨rfl, rfl⟩ 1 hdX5_goTo ⟨Nat.le_of_ble_eq_true rfl, Nat.le_of_ble_eq_true rfl⟩ rfl rfl (wC_e7 ad cy σ1) rfl hl rfl (Nat.le_of_ble_eq_true rfl) dX5_lastQuarter_212 ⟨Nat.zero_le _, Nat.zero_le _⟩ (fun H locs hI => ?_)
  refine lv_bipush (v := 11) hx hb dX5_lastQuarter_215 (by decide) ?_
  exact z_ireturn hC hI hf dX5_lastQuarter_217
set_option maxRecDepth 20000 in
set_option maxHeartbeats 4000000 in
theorem bX5_lastQuarter_178 {st : Nat → Nat} {p : Program} {l : Launch} {e : Env} {s : State} {m : MethodId} {args : Array Value} {below : List Frame} {meth : Method} {c : Code} {D : va_G} {A : Nat → Prop} {ad : Nat → Nat} {cy : Nat → ClassId} (hC : zC p m c cX5_lastQuarter 3 s args wzX5_lastQuarter RX5 meth (some .int))  {res : zSt × Int32} {H : Heap} {locs : List Loc} {σ : zSt} {ls : Array Slot} {s0 : Int32} (hI : zI st D (tC cy) (wC ad cy σ) A s H locs) (hl : lv_has ls 3 []) (hf : fX5_lastQuarter_178  σ s0 = some res) : W p l e rmX5_lastQuarter s m args below meth c H locs 0 0 (zQi below args s D (tC cy) (wC ad cy) A res) (F0 m 178 ls [.int s0, .ref (ad 7)]) := by
  have hx := hC.1
  have hb := hC.2.1
  unfold fX5_lastQuarter_178 at hf
  obtain ⟨σ3, g3, hf⟩ := zbu_use hf
  refine z_callVu (As := [.int s0]) (rest := []) hC hI (cX5_push_met st l D ad cy σ s0 _ g3) (zgV zw20_2 zw20_3 zw20_4 zw2_21 zw20_5) rfl ⟨rfl, rfl⟩ 1 hdX5_push ⟨Nat.le_of_ble_eq_true rfl, Nat.le_of_ble_eq_true rfl⟩ rfl rfl (wC_e7 ad cy σ) rfl hl rfl (Nat.le_of_ble_eq_true rfl) dX5_lastQuarter_178 ⟨Nat.zero_le _, Nat.zero_le _⟩ (fun H locs hI => ?_)
  refine lv_bipush (v := 11) hx hb dX5_lastQuarter_181 (by decide) ?_
  exact z_ireturn hC hI hf dX5_lastQuarter_183
set_option maxRecDepth 20000 in
set_option maxHeartbeats 4000000 in
theorem bX5_lastQuarter_130 {st : Nat → Nat} {p : Program} {l : Launch} {e : Env} {s : State} {m : MethodId} {args : Array Value} {below : List Frame} {meth : Method} {c : Code} {D : va_G} {A : Nat → Prop} {ad : Nat → Nat} {cy : Nat → ClassId} (hC : zC p m c cX5_lastQuarter 3 s args wzX5_lastQuarter RX5 meth (some .int))  {res : zSt × Int32} {H : Heap} {locs : List Loc} {σ : zSt} {ls : Array Slot}  (hI : zI st D (tC cy) (wC ad cy σ) A s H locs) (hl : lv_has ls 3 []) (hf : fX5_lastQuarter_130  σ  = some res) : W p l e rmX5_lastQuarter s m args below meth c H locs 0 0 (zQi below args s D (tC cy) (wC ad cy) A res) (F0 m 130 ls []) := by
  have hx := hC.1
  have hb := hC.2.1
  unfold fX5_lastQuarter_130 at hf
  refine lv_bipush (v := 10) hx hb dX5_lastQuarter_130 (by decide) ?_
  exact z_ireturn hC hI hf dX5_lastQuarter_132
set_option maxRecDepth 20000 in
set_option maxHeartbeats 4000000 in
theorem bX5_lastQuarter_96 {st : Nat → Nat} {p : Program} {l : Launch} {e : Env} {s : State} {m : MethodId} {args : Array Value} {below : List Frame} {meth : Method} {c : Code} {D : va_G} {A : Nat → Prop} {ad : Nat → Nat} {cy : Nat → ClassId} (hC : zC p m c cX5_lastQuarter 3 s args wzX5_lastQuarter RX5 meth (some .int))  {res : zSt × Int32} {H : Heap} {locs : List Loc} {σ : zSt} {ls : Array Slot} {s0 : Int32} (hI : zI st D (tC cy) (wC ad cy σ) A s H locs) (hl : lv_has ls 3 []) (hf : fX5_lastQuarter_96  σ s0 = some res) : W p l e rmX5_lastQuarter s m args below meth c H locs 0 0 (zQi below args s D (tC cy) (wC ad cy) A res) (F0 m 96 ls [.int s0]) := by
  have hx := hC.1
  have hb := hC.2.1
  unfold fX5_lastQuarter_96 at hf
  exact z_ireturn hC hI hf dX5_lastQuarter_96
set_option maxRecDepth 20000 in
set_option maxHeartbeats 4000000 in
theorem bX5_lastQuarter {st : Nat → Nat} {p : Program} {l : Launch} {e : Env} {s : State} {m : MethodId} {args : Array Value} {below : List Frame} {meth : Method} {c : Code} {D : va_G} {A : Nat → Prop} {ad : Nat → Nat} {cy : Nat → ClassId} (hC : zC p m c cX5_lastQuarter 3 s args wzX5_lastQuarter RX5 meth (some .int))  {res : zSt × Int32} {H : Heap} {locs : List Loc} {σ : zSt} {ls : Array Slot} {x1 : Int32} (hI : zI st D (tC cy) (wC ad cy σ) A s H locs) (hl : lv_has ls 3 [(0, .ref (ad 7)), (1, .int x1)]) (hf : fX5_lastQuarter  σ x1 = some res) : W p l e rmX5_lastQuarter s m args below meth c H locs 0 0 (zQi below args s D (tC cy) (wC ad cy) A res) (F0 m 0 ls []) := by
  have hx := hC.1
  have hb := hC.2.1
  unfold fX5_lastQuarter at hf
  refine lv_iload_n hx hb dX5_lastQuarter_0 rfl (lv_at hl 1 rfl) ?_
  refine lv_iconst (v := 3) hx hb dX5_lastQuarter_1 (by decide) ?_
  refine lv_ishr hx hb dX5_lastQuarter_2 ?_
  refine lv_bipush (v := 7) hx hb dX5_lastQuarter_3 (by decide) ?_
  refine lv_iand hx hb dX5_lastQuarter_5 ?_
  refine lv_topi (fun v4 ev4 => ?_)
  replace hf := zbv_use ev4 hf
  refine lv_istore_n (lv' := [(2, .int v4), (0, .ref (ad 7)), (1, .int x1)]) hx hb dX5_lastQuarter_6 rfl hl (by decide) rfl (fun ls hl => ?_)
  refine lv_iload_n hx hb dX5_lastQuarter_7 rfl (lv_at hl 2 rfl) ?_
  refine lv_bipush (v := 7) hx hb dX5_lastQuarter_8 (by decide) ?_
  refine lv_iand hx hb dX5_lastQuarter_10 ?_
  by_cases q0 : (x1 &&& 7) = 0
  · replace hf := zif_t q0 hf
    refine lv_tableIn (tgt := 52) hx hb dX5_lastQuarter_11 (by rw [q0]; decide) (by rw [q0]; decide) (by rw [q0]; rfl) (by decide) ?_
    refine lv_aload_n hx hb dX5_lastQuarter_52 rfl (lv_at hl 1 rfl) ?_
    refine lv_iload_n hx hb dX5_lastQuarter_53 rfl (lv_at hl 0 rfl) ?_
    obtain ⟨σ5, v6, g5, hf⟩ := zbi_use hf
    refine z_callVi (As := [.int v4]) (rest := []) hC hI (cX5_holds_met st l D ad cy σ v4 _ g5) (zgV zw32_7 zw32_8 zw32_9 zw2_21 zw32_10) rfl ⟨rfl, rfl⟩ 1 hdX5_holds ⟨Nat.le_of_ble_eq_true rfl, Nat.le_of_ble_eq_true rfl⟩ rfl rfl (wC_e7 ad cy σ) rfl hl rfl (Nat.le_of_ble_eq_true rfl) dX5_lastQuarter_54 ⟨Nat.zero_le _, Nat.zero_le _⟩ (fun H locs hI => ?_)
    refine lv_if_ne (tgt := 62) hx hb dX5_lastQuarter_57 (by decide) (fun q => ?_) (fun q => ?_)
    · replace hf := zif_f q hf
      refine lv_aload_n hx hb dX5_lastQuarter_62 rfl (lv_at hl 1 rfl) ?_
      refine lv_aload_n hx hb dX5_lastQuarter_63 rfl (lv_at hl 1 rfl) ?_
      obtain ⟨σ7, v8, g7, hf⟩ := zbi_use hf
      refine z_callVi (As := []) (rest := [.ref (ad 7)]) hC hI (cX5_pop_met st l D ad cy σ5  _ g7) (zgV zw31_7 zw31_8 zw31_9 zw2_21 zw31_10) rfl ⟨rfl, rfl⟩ 0 hdX5_pop ⟨Nat.le_of_ble_eq_true rfl, Nat.le_of_ble_eq_true rfl⟩ rfl rfl (wC_e7 ad cy σ5) rfl hl rfl (Nat.le_of_ble_eq_true rfl) dX5_lastQuarter_64 ⟨Nat.zero_le _, Nat.zero_le _⟩ (fun H locs hI => ?_)
      obtain ⟨σ9, g9, hf⟩ := zbu_use hf
      refine z_callVu (As := [.int v8]) (rest := []) hC hI (cX5_goTo_met st l D ad cy σ7 v8 _ g9) (zgV zw20_22 zw20_23 zw21_0 zw2_21 zw21_1) rfl ⟨rfl, rfl⟩ 1 hdX5_goTo ⟨Nat.le_of_ble_eq_true rfl, Nat.le_of_ble_eq_true rfl⟩ rfl rfl (wC_e7 ad cy σ7) rfl hl rfl (Nat.le_of_ble_eq_true rfl) dX5_lastQuarter_67 ⟨Nat.zero_le _, Nat.zero_le _⟩ (fun H locs hI => ?_)
      refine lv_bipush (v := 11) hx hb dX5_lastQuarter_70 (by decide) ?_
      exact z_ireturn hC hI hf dX5_lastQuarter_72
    replace hf := zif_t q hf
    refine lv_iconst (v := 5) hx hb dX5_lastQuarter_60 (by decide) ?_
    exact z_ireturn hC hI hf dX5_lastQuarter_61
  replace hf := zif_f q0 hf
  by_cases q1 : (x1 &&& 7) = 1
  · replace hf := zif_t q1 hf
    refine lv_tableIn (tgt := 73) hx hb dX5_lastQuarter_11 (by rw [q1]; decide) (by rw [q1]; decide) (by rw [q1]; rfl) (by decide) ?_
    refine lv_iload_n hx hb dX5_lastQuarter_73 rfl (lv_at hl 0 rfl) ?_
    refine lv_iconst (v := 1) hx hb dX5_lastQuarter_74 (by decide) ?_
    refine lv_iand hx hb dX5_lastQuarter_75 ?_
    refine lv_if_ne (tgt := 89) hx hb dX5_lastQuarter_76 (by decide) (fun q => ?_) (fun q => ?_)
    · replace hf := zif_f q hf
      refine lv_aload_n hx hb dX5_lastQuarter_89 rfl (lv_at hl 1 rfl) ?_
      refine lv_iload_n hx hb dX5_lastQuarter_90 rfl (lv_at hl 0 rfl) ?_
      refine lv_iconst (v := 1) hx hb dX5_lastQuarter_91 (by decide) ?_
      refine lv_ishr hx hb dX5_lastQuarter_92 ?_
      obtain ⟨σ10, v11, g10, hf⟩ := zbi_use hf
      refine z_callVi (As := [.int (v4 >>> ((1 : Int32) &&& 31))]) (rest := []) hC hI (cX5_leave_met st l D ad cy σ (v4 >>> ((1 : Int32) &&& 31)) _ g10) (zgV zw34_20 zw34_21 zw34_22 zw2_21 zw34_23) rfl ⟨rfl, rfl⟩ 1 hdX5_leave ⟨Nat.le_of_ble_eq_true rfl, Nat.le_of_ble_eq_true rfl⟩ rfl rfl (wC_e7 ad cy σ) rfl hl rfl (Nat.le_of_ble_eq_true rfl) dX5_lastQuarter_93 ⟨Nat.zero_le _, Nat.zero_le _⟩ (fun H locs hI => ?_)
      exact bX5_lastQuarter_96 hC  hI (lv_sub hl [] rfl) hf
    replace hf := zif_t q hf
    refine lv_aload_n hx hb dX5_lastQuarter_79 rfl (lv_at hl 1 rfl) ?_
    refine lv_iload_n hx hb dX5_lastQuarter_80 rfl (lv_at hl 0 rfl) ?_
    refine lv_iconst (v := 1) hx hb dX5_lastQuarter_81 (by decide) ?_
    refine lv_ishr hx hb dX5_lastQuarter_82 ?_
    obtain ⟨σ12, v13, g12, hf⟩ := zbi_use hf
    refine z_callVi (As := [.int (v4 >>> ((1 : Int32) &&& 31))]) (rest := []) hC hI (cX5_popPair_met st l D ad cy σ (v4 >>> ((1 : Int32) &&& 31)) _ g12) (zgV zw34_16 zw34_17 zw34_18 zw2_21 zw34_19) rfl ⟨rfl, rfl⟩ 1 hdX5_popPair ⟨Nat.le_of_ble_eq_true rfl, Nat.le_of_ble_eq_true rfl⟩ rfl rfl (wC_e7 ad cy σ) rfl hl rfl (Nat.le_of_ble_eq_true rfl) dX5_lastQuarter_83 ⟨Nat.zero_le _, Nat.zero_le _⟩ (fun H locs hI => ?_)
    refine lv_goto (tgt := 96) hx hb dX5_lastQuarter_86 (by decide) ?_
    exact bX5_lastQuarter_96 hC  hI (lv_sub hl [] rfl) hf
  replace hf := zif_f q1 hf
  by_cases q2 : (x1 &&& 7) = 2
  · replace hf := zif_t q2 hf
    refine lv_tableIn (tgt := 97) hx hb dX5_lastQuarter_11 (by rw [q2]; decide) (by rw [q2]; decide) (by rw [q2]; rfl) (by decide) ?_
    refine lv_aload_n hx hb dX5_lastQuarter_97 rfl (lv_at hl 1 rfl) ?_
    refine z_get hC hI hinX5_lastQuarter_X50 7 (wC_e7 ad cy σ) rfl 2 (by decide) (List.mem_cons_of_mem _ zw7_5) rfl dX5_lastQuarter_98 ?_
    refine lv_bipush (v := 20) hx hb dX5_lastQuarter_101 (by decide) ?_
    refine lv_aload_n hx hb dX5_lastQuarter_103 rfl (lv_at hl 1 rfl) ?_
    obtain ⟨σ14, v15, g14, hf⟩ := zbi_use hf
    refine z_callVi (As := []) (rest := [.int 20, .ref (ad 36)]) hC hI (cX5_fetchWord_met st l D ad cy σ  _ g14) (zgV zw30_15 zw30_16 zw30_17 zw2_21 zw30_18) rfl ⟨rfl, rfl⟩ 0 hdX5_fetchWord ⟨Nat.le_of_ble_eq_true rfl, Nat.le_of_ble_eq_true rfl⟩ rfl rfl (wC_e7 ad cy σ) rfl hl rfl (Nat.le_of_ble_eq_true rfl) dX5_lastQuarter_104 ⟨Nat.zero_le _, Nat.zero_le _⟩ (fun H locs hI => ?_)
    obtain ⟨q, hf⟩ := zck_use hf
    obtain ⟨σ16, eσ16⟩ : ∃ z, z = zsi σ14 36 ((20 : Int32).toNatClampNeg) v15 := ⟨_, rfl⟩
    replace hf := zbv_use eσ16 hf
    refine z_iast hC hI 36 23 (wC_e36 ad cy σ14) (tC_t36 cy) q ((wC_s36 ad cy σ14 _ _).trans (congrArg (wC ad cy) eσ16.symm)) dX5_lastQuarter_107 (fun H locs hI => ?_)
    refine lv_aload_n hx hb dX5_lastQuarter_108 rfl (lv_at hl 1 rfl) ?_
    refine lv_iload_n hx hb dX5_lastQuarter_109 rfl (lv_at hl 0 rfl) ?_
    obtain ⟨σ17, v18, g17, hf⟩ := zbi_use hf
    refine z_callVi (As := [.int v4]) (rest := []) hC hI (cX5_holds_met st l D ad cy σ16 v4 _ g17) (zgV zw32_7 zw32_8 zw32_9 zw2_21 zw32_10) rfl ⟨rfl, rfl⟩ 1 hdX5_holds ⟨Nat.le_of_ble_eq_true rfl, Nat.le_of_ble_eq_true rfl⟩ rfl rfl (wC_e7 ad cy σ16) rfl hl rfl (Nat.le_of_ble_eq_true rfl) dX5_lastQuarter_110 ⟨Nat.zero_le _, Nat.zero_le _⟩ (fun H locs hI => ?_)
    refine lv_if_eq (tgt := 130) hx hb dX5_lastQuarter_113 (by decide) (fun q => ?_) (fun q => ?_)
    · replace hf := zif_t q hf
      exact bX5_lastQuarter_130 hC  hI (lv_sub hl [] rfl) hf
    replace hf := zif_f q hf
    refine lv_aload_n hx hb dX5_lastQuarter_116 rfl (lv_at hl 1 rfl) ?_
    refine z_get hC hI hinX5_lastQuarter_X50 7 (wC_e7 ad cy σ17) rfl 2 (by decide) (List.mem_cons_of_mem _ zw7_5) rfl dX5_lastQuarter_117 ?_
    refine lv_bipush (v := 19) hx hb dX5_lastQuarter_120 (by decide) ?_
    refine lv_aload_n hx hb dX5_lastQuarter_122 rfl (lv_at hl 1 rfl) ?_
    refine z_get hC hI hinX5_lastQuarter_X50 7 (wC_e7 ad cy σ17) rfl 2 (by decide) (List.mem_cons_of_mem _ zw7_5) rfl dX5_lastQuarter_123 ?_
    refine lv_bipush (v := 20) hx hb dX5_lastQuarter_126 (by decide) ?_
    obtain ⟨q, hf⟩ := zck_use hf
    refine z_iald hC hI 36 23 (wC_e36 ad cy σ17) (tC_t36 cy) q dX5_lastQuarter_128 ?_
    obtain ⟨q, hf⟩ := zck_use hf
    obtain ⟨σ19, eσ19⟩ : ∃ z, z = zsi σ17 36 ((19 : Int32).toNatClampNeg) (zgi σ17 36 (20 : Int32).toNatClampNeg) := ⟨_, rfl⟩
    replace hf := zbv_use eσ19 hf
    refine z_iast hC hI 36 23 (wC_e36 ad cy σ17) (tC_t36 cy) q ((wC_s36 ad cy σ17 _ _).trans (congrArg (wC ad cy) eσ19.symm)) dX5_lastQuarter_129 (fun H locs hI => ?_)
    exact bX5_lastQuarter_130 hC  hI (lv_sub hl [] rfl) hf
  replace hf := zif_f q2 hf
  by_cases q3 : (x1 &&& 7) = 3
  · replace hf := zif_t q3 hf
    refine lv_tableIn (tgt := 196) hx hb dX5_lastQuarter_11 (by rw [q3]; decide) (by rw [q3]; decide) (by rw [q3]; rfl) (by decide) ?_
    exact bX5_lastQuarter_196 hC  hI (lv_sub hl [1, 0] rfl) hf
  replace hf := zif_f q3 hf
  by_cases q4 : (x1 &&& 7) = 4
  · replace hf := zif_t q4 hf
    refine lv_tableIn (tgt := 133) hx hb dX5_lastQuarter_11 (by rw [q4]; decide) (by rw [q4]; decide) (by rw [q4]; rfl) (by decide) ?_
    refine lv_aload_n hx hb dX5_lastQuarter_133 rfl (lv_at hl 1 rfl) ?_
    refine lv_aload_n hx hb dX5_lastQuarter_134 rfl (lv_at hl 1 rfl) ?_
    refine lv_iload_n hx hb dX5_lastQuarter_135 rfl (lv_at hl 0 rfl) ?_
    obtain ⟨σ20, v21, g20, hf⟩ := zbi_use hf
    refine z_callVi (As := [.int v4]) (rest := [.ref (ad 7)]) hC hI (cX5_holds_met st l D ad cy σ v4 _ g20) (zgV zw32_7 zw32_8 zw32_9 zw2_21 zw32_10) rfl ⟨rfl, rfl⟩ 1 hdX5_holds ⟨Nat.le_of_ble_eq_true rfl, Nat.le_of_ble_eq_true rfl⟩ rfl rfl (wC_e7 ad cy σ) rfl hl rfl (Nat.le_of_ble_eq_true rfl) dX5_lastQuarter_136 ⟨Nat.zero_le _, Nat.zero_le _⟩ (fun H locs hI => ?_)
    obtain ⟨σ22, v23, g22, hf⟩ := zbi_use hf
    refine z_callVi (As := [.int v21]) (rest := []) hC hI (cX5_callIf_met st l D ad cy σ20 v21 _ g22) (zgV zw35_0 zw35_1 zw35_2 zw2_21 zw35_3) rfl ⟨rfl, rfl⟩ 1 hdX5_callIf ⟨Nat.le_of_ble_eq_true rfl, Nat.le_of_ble_eq_true rfl⟩ rfl rfl (wC_e7 ad cy σ20) rfl hl rfl (Nat.le_of_ble_eq_true rfl) dX5_lastQuarter_139 ⟨Nat.zero_le _, Nat.zero_le _⟩ (fun H locs hI => ?_)
    exact z_ireturn hC hI hf dX5_lastQuarter_142
  replace hf := zif_f q4 hf
  by_cases q5 : (x1 &&& 7) = 5
  · replace hf := zif_t q5 hf
    refine lv_tableIn (tgt := 143) hx hb dX5_lastQuarter_11 (by rw [q5]; decide) (by rw [q5]; decide) (by rw [q5]; rfl) (by decide) ?_
    refine lv_iload_n hx hb dX5_lastQuarter_143 rfl (lv_at hl 0 rfl) ?_
    refine lv_iconst (v := 1) hx hb dX5_lastQuarter_144 (by decide) ?_
    refine lv_iand hx hb dX5_lastQuarter_145 ?_
    refine lv_iconst (v := 1) hx hb dX5_lastQuarter_146 (by decide) ?_
    refine lv_icmp_ne (tgt := 156) hx hb dX5_lastQuarter_147 (by decide) (fun q => ?_) (fun q => ?_)
    · replace hf := zif_f q hf
      refine lv_aload_n hx hb dX5_lastQuarter_156 rfl (lv_at hl 1 rfl) ?_
      refine lv_iload_n hx hb dX5_lastQuarter_157 rfl (lv_at hl 0 rfl) ?_
      refine lv_bipush (v := 6) hx hb dX5_lastQuarter_158 (by decide) ?_
      refine lv_icmp_ne (tgt := 171) hx hb dX5_lastQuarter_160 (by decide) (fun q => ?_) (fun q => ?_)
      · replace hf := zif_f q hf
        refine lv_aload_n hx hb dX5_lastQuarter_171 rfl (lv_at hl 1 rfl) ?_
        refine lv_iload_n hx hb dX5_lastQuarter_172 rfl (lv_at hl 0 rfl) ?_
        refine lv_iconst (v := 1) hx hb dX5_lastQuarter_173 (by decide) ?_
        refine lv_ishr hx hb dX5_lastQuarter_174 ?_
        obtain ⟨σ24, v25, g24, hf⟩ := zbi_use hf
        refine z_callVi (As := [.int (v4 >>> ((1 : Int32) &&& 31))]) (rest := [.ref (ad 7)]) hC hI (cX5_pair_met st l D ad cy σ (v4 >>> ((1 : Int32) &&& 31)) _ g24) (zgV zw29_19 zw29_20 zw29_21 zw2_21 zw29_22) rfl ⟨rfl, rfl⟩ 1 hdX5_pair ⟨Nat.le_of_ble_eq_true rfl, Nat.le_of_ble_eq_true rfl⟩ rfl rfl (wC_e7 ad cy σ) rfl hl rfl (Nat.le_of_ble_eq_true rfl) dX5_lastQuarter_175 ⟨Nat.zero_le _, Nat.zero_le _⟩ (fun H locs hI => ?_)
        exact bX5_lastQuarter_178 hC  hI (lv_sub hl [] rfl) hf
      replace hf := zif_t q hf
      refine lv_aload_n hx hb dX5_lastQuarter_163 rfl (lv_at hl 1 rfl) ?_
      refine lv_iconst (v := 0) hx hb dX5_lastQuarter_164 (by decide) ?_
      obtain ⟨σ26, v27, g26, hf⟩ := zbi_use hf
      refine z_callVi (As := [.int 0]) (rest := [.ref (ad 7)]) hC hI (cX5_pairAt_met st l D ad cy σ 0 _ g26) (zgV zw21_15 zw21_16 zw21_17 zw2_21 zw21_18) rfl ⟨rfl, rfl⟩ 1 hdX5_pairAt ⟨Nat.le_of_ble_eq_true rfl, Nat.le_of_ble_eq_true rfl⟩ rfl rfl (wC_e7 ad cy σ) rfl hl rfl (Nat.le_of_ble_eq_true rfl) dX5_lastQuarter_165 ⟨Nat.zero_le _, Nat.zero_le _⟩ (fun H locs hI => ?_)
      refine lv_goto (tgt := 178) hx hb dX5_lastQuarter_168 (by decide) ?_
      exact bX5_lastQuarter_178 hC  hI (lv_sub hl [] rfl) hf
    replace hf := zif_t q hf
    refine lv_aload_n hx hb dX5_lastQuarter_150 rfl (lv_at hl 1 rfl) ?_
    refine lv_iconst (v := 1) hx hb dX5_lastQuarter_151 (by decide) ?_
    obtain ⟨σ28, v29, g28, hf⟩ := zbi_use hf
    refine z_callVi (As := [.int 1]) (rest := []) hC hI (cX5_callIf_met st l D ad cy σ 1 _ g28) (zgV zw35_0 zw35_1 zw35_2 zw2_21 zw35_3) rfl ⟨rfl, rfl⟩ 1 hdX5_callIf ⟨Nat.le_of_ble_eq_true rfl, Nat.le_of_ble_eq_true rfl⟩ rfl rfl (wC_e7 ad cy σ) rfl hl rfl (Nat.le_of_ble_eq_true rfl) dX5_lastQuarter_152 ⟨Nat.zero_le _, Nat.zero_le _⟩ (fun H locs hI => ?_)
    exact z_ireturn hC hI hf dX5_lastQuarter_155
  replace hf := zif_f q5 hf
  by_cases q6 : (x1 &&& 7) = 6
  · replace hf := zif_t q6 hf
    refine lv_tableIn (tgt := 184) hx hb dX5_lastQuarter_11 (by rw [q6]; decide) (by rw [q6]; decide) (by rw [q6]; rfl) (by decide) ?_
    refine lv_aload_n hx hb dX5_lastQuarter_184 rfl (lv_at hl 1 rfl) ?_
    refine lv_iload_n hx hb dX5_lastQuarter_185 rfl (lv_at hl 0 rfl) ?_
    refine lv_aload_n hx hb dX5_lastQuarter_186 rfl (lv_at hl 1 rfl) ?_
    obtain ⟨σ30, v31, g30, hf⟩ := zbi_use hf
    refine z_callVi (As := []) (rest := [.int v4, .ref (ad 7)]) hC hI (cX5_fetch_met st l D ad cy σ  _ g30) (zgV zw21_23 zw22_0 zw22_1 zw2_21 zw22_2) rfl ⟨rfl, rfl⟩ 0 hdX5_fetch ⟨Nat.le_of_ble_eq_true rfl, Nat.le_of_ble_eq_true rfl⟩ rfl rfl (wC_e7 ad cy σ) rfl hl rfl (Nat.le_of_ble_eq_true rfl) dX5_lastQuarter_187 ⟨Nat.zero_le _, Nat.zero_le _⟩ (fun H locs hI => ?_)
    obtain ⟨σ32, g32, hf⟩ := zbu_use hf
    refine z_callVu (As := [.int v4, .int v31]) (rest := []) hC hI (cX5_doWith_met st l D ad cy σ30 v4 v31 _ g32) (zgV zw34_0 zw34_1 zw34_2 zw2_21 zw34_3) rfl ⟨rfl, rfl⟩ 2 hdX5_doWith ⟨Nat.le_of_ble_eq_true rfl, Nat.le_of_ble_eq_true rfl⟩ rfl rfl (wC_e7 ad cy σ30) rfl hl rfl (Nat.le_of_ble_eq_true rfl) dX5_lastQuarter_190 ⟨Nat.zero_le _, Nat.zero_le _⟩ (fun H locs hI => ?_)
    refine lv_bipush (v := 7) hx hb dX5_lastQuarter_193 (by decide) ?_
    exact z_ireturn hC hI hf dX5_lastQuarter_195
  replace hf := zif_f q6 hf
  refine lv_tableOut (tgt := 196) hx hb dX5_lastQuarter_11 (zsw (fun k h1 h2 => by rcases (show k = 0 ∨ k = 1 ∨ k = 2 ∨ k = 3 ∨ k = 4 ∨ k = 5 ∨ k = 6 by omega) with rfl | rfl | rfl | rfl | rfl | rfl | rfl <;> assumption)) (by decide) ?_
  exact bX5_lastQuarter_196 hC  hI (lv_sub hl [1, 0] rfl) hf
set_option maxRecDepth 20000 in
theorem cX5_lastQuarter_met (st : Nat → Nat) (l : Launch) (D : va_G) (ad : Nat → Nat) (cy : Nat → ClassId) (σ : zSt) (x1 : Int32) (res : zSt × Int32) (hf : fX5_lastQuarter σ x1 = some res) (sz : Nat) : zMi st l yX5_lastQuarter wzX5_lastQuarter rmX5_lastQuarter [.ref (ad 7), .int x1] D (tC cy) (wC ad cy) sz σ res :=
  zMi.of (cc := cX5_lastQuarter) (maxL := 3) (ret := (some .int)) (by decide) rfl (Nat.le_of_ble_eq_true rfl) (fun p e s m args below meth c hC A hI ls hl => bX5_lastQuarter hC hI hl hf)
theorem hdX5_lastQuarter : yX5_lastQuarter.cls = RX5 ∧ yX5_lastQuarter.cls ≠ "java/lang/invoke/MethodHandle" ∧ yX5_lastQuarter.cls ≠ "java/lang/invoke/VarHandle" ∧ (parseMethodDescriptor yX5_lastQuarter.desc).map (fun d => d.parameters.length) = some 1 := by decide +kernel
def rmX5_doWithRegister : Room := { frames := 3, cells := 0, slots := 0, locals := 68 }
def wzX5_doWithRegister : List Cond := .code yX5_doWithRegister cX5_doWithRegister 2 (some .int) :: wsL_law
def fX5_doWithRegister_33  (σ : zSt) (s0 : Int32) : Option (zSt × Int32) :=
  some (σ, s0)
def fX5_doWithRegister  (σ : zSt) (x1 : Int32) : Option (zSt × Int32) :=
  zbi (fX5_one σ (x1 &&& 7)) (fun σ1 v2 =>
  zbu (fX5_doWith σ1 ((x1 >>> ((3 : Int32) &&& 31)) &&& 7) v2) (fun σ3 =>
  if (x1 &&& 7) = 6 then fX5_doWithRegister_33 σ3 7 else
  fX5_doWithRegister_33 σ3 4))
set_option maxRecDepth 20000 in
set_option maxHeartbeats 4000000 in
theorem bX5_doWithRegister_33 {st : Nat → Nat} {p : Program} {l : Launch} {e : Env} {s : State} {m : MethodId} {args : Array Value} {below : List Frame} {meth : Method} {c : Code} {D : va_G} {A : Nat → Prop} {ad : Nat → Nat} {cy : Nat → ClassId} (hC : zC p m c cX5_doWithRegister 2 s args wzX5_doWithRegister RX5 meth (some .int))  {res : zSt × Int32} {H : Heap} {locs : List Loc} {σ : zSt} {ls : Array Slot} {s0 : Int32} (hI : zI st D (tC cy) (wC ad cy σ) A s H locs) (hl : lv_has ls 2 []) (hf : fX5_doWithRegister_33  σ s0 = some res) : W p l e rmX5_doWithRegister s m args below meth c H locs 0 0 (zQi below args s D (tC cy) (wC ad cy) A res) (F0 m 33 ls [.int s0]) := by
  have hx := hC.1
  have hb := hC.2.1
  unfold fX5_doWithRegister_33 at hf
  exact z_ireturn hC hI hf dX5_doWithRegister_33
set_option maxRecDepth 20000 in
set_option maxHeartbeats 4000000 in
theorem bX5_doWithRegister {st : Nat → Nat} {p : Program} {l : Launch} {e : Env} {s : State} {m : MethodId} {args : Array Value} {below : List Frame} {meth : Method} {c : Code} {D : va_G} {A : Nat → Prop} {ad : Nat → Nat} {cy : Nat → ClassId} (hC : zC p m c cX5_doWithRegister 2 s args wzX5_doWithRegister RX5 meth (some .int))  {res : zSt × Int32} {H : Heap} {locs : List Loc} {σ : zSt} {ls : Array Slot} {x1 : Int32} (hI : zI st D (tC cy) (wC ad cy σ) A s H locs) (hl : lv_has ls 2 [(0, .ref (ad 7)), (1, .int x1)]) (hf : fX5_doWithRegister  σ x1 = some res) : W p l e rmX5_doWithRegister s m args below meth c H locs 0 0 (zQi below args s D (tC cy) (wC ad cy) A res) (F0 m 0 ls []) := by
  have hx := hC.1
  have hb := hC.2.1
  unfold fX5_doWithRegister at hf
  refine lv_aload_n hx hb dX5_doWithRegister_0 rfl (lv_at hl 0 rfl) ?_
  refine lv_iload_n hx hb dX5_doWithRegister_1 rfl (lv_at hl 1 rfl) ?_
  refine lv_iconst (v := 3) hx hb dX5_doWithRegister_2 (by decide) ?_
  refine lv_ishr hx hb dX5_doWithRegister_3 ?_
  refine lv_bipush (v := 7) hx hb dX5_doWithRegister_4 (by decide) ?_
  refine lv_iand hx hb dX5_doWithRegister_6 ?_
  refine lv_aload_n hx hb dX5_doWithRegister_7 rfl (lv_at hl 0 rfl) ?_
  refine lv_iload_n hx hb dX5_doWithRegister_8 rfl (lv_at hl 1 rfl) ?_
  refine lv_bipush (v := 7) hx hb dX5_doWithRegister_9 (by decide) ?_
  refine lv_iand hx hb dX5_doWithRegister_11 ?_
  obtain ⟨σ1, v2, g1, hf⟩ := zbi_use hf
  refine z_callVi (As := [.int (x1 &&& 7)]) (rest := [.int ((x1 >>> ((3 : Int32) &&& 31)) &&& 7), .ref (ad 7)]) hC hI (cX5_one_met st l D ad cy σ (x1 &&& 7) _ g1) (zgV zw24_4 zw24_5 zw24_6 zw2_21 zw24_7) rfl ⟨rfl, rfl⟩ 1 hdX5_one ⟨Nat.le_of_ble_eq_true rfl, Nat.le_of_ble_eq_true rfl⟩ rfl rfl (wC_e7 ad cy σ) rfl hl rfl (Nat.le_of_ble_eq_true rfl) dX5_doWithRegister_12 ⟨Nat.zero_le _, Nat.zero_le _⟩ (fun H locs hI => ?_)
  obtain ⟨σ3, g3, hf⟩ := zbu_use hf
  refine z_callVu (As := [.int ((x1 >>> ((3 : Int32) &&& 31)) &&& 7), .int v2]) (rest := []) hC hI (cX5_doWith_met st l D ad cy σ1 ((x1 >>> ((3 : Int32) &&& 31)) &&& 7) v2 _ g3) (zgV zw34_0 zw34_1 zw34_2 zw2_21 zw34_3) rfl ⟨rfl, rfl⟩ 2 hdX5_doWith ⟨Nat.le_of_ble_eq_true rfl, Nat.le_of_ble_eq_true rfl⟩ rfl rfl (wC_e7 ad cy σ1) rfl hl rfl (Nat.le_of_ble_eq_true rfl) dX5_doWithRegister_15 ⟨Nat.zero_le _, Nat.zero_le _⟩ (fun H locs hI => ?_)
  refine lv_iload_n hx hb dX5_doWithRegister_18 rfl (lv_at hl 1 rfl) ?_
  refine lv_bipush (v := 7) hx hb dX5_doWithRegister_19 (by decide) ?_
  refine lv_iand hx hb dX5_doWithRegister_21 ?_
  refine lv_bipush (v := 6) hx hb dX5_doWithRegister_22 (by decide) ?_
  refine lv_icmp_ne (tgt := 32) hx hb dX5_doWithRegister_24 (by decide) (fun q => ?_) (fun q => ?_)
  · replace hf := zif_f q hf
    refine lv_iconst (v := 4) hx hb dX5_doWithRegister_32 (by decide) ?_
    exact bX5_doWithRegister_33 hC  hI (lv_sub hl [] rfl) hf
  replace hf := zif_t q hf
  refine lv_bipush (v := 7) hx hb dX5_doWithRegister_27 (by decide) ?_
  refine lv_goto (tgt := 33) hx hb dX5_doWithRegister_29 (by decide) ?_
  exact bX5_doWithRegister_33 hC  hI (lv_sub hl [] rfl) hf
set_option maxRecDepth 20000 in
theorem cX5_doWithRegister_met (st : Nat → Nat) (l : Launch) (D : va_G) (ad : Nat → Nat) (cy : Nat → ClassId) (σ : zSt) (x1 : Int32) (res : zSt × Int32) (hf : fX5_doWithRegister σ x1 = some res) (sz : Nat) : zMi st l yX5_doWithRegister wzX5_doWithRegister rmX5_doWithRegister [.ref (ad 7), .int x1] D (tC cy) (wC ad cy) sz σ res :=
  zMi.of (cc := cX5_doWithRegister) (maxL := 2) (ret := (some .int)) (by decide) rfl (Nat.le_of_ble_eq_true rfl) (fun p e s m args below meth c hC A hI ls hl => bX5_doWithRegister hC hI hl hf)
theorem hdX5_doWithRegister : yX5_doWithRegister.cls = RX5 ∧ yX5_doWithRegister.cls ≠ "java/lang/invoke/MethodHandle" ∧ yX5_doWithRegister.cls ≠ "java/lang/invoke/VarHandle" ∧ (parseMethodDescriptor yX5_doWithRegister.desc).map (fun d => d.parameters.length) = some 1 := by decide +kernel
def rmX5_move : Room := { frames := 3, cells := 0, slots := 0, locals := 68 }
def wzX5_move : List Cond := .code yX5_move cX5_move 4 (some .int) :: wsL_law
theorem hinX5_move_X50 : ∀ w ∈ wsX50, w ∈ wzX5_move := fun w h => List.mem_cons_of_mem _ (inlX5 w h)
def fX5_move_56  (σ : zSt) (s0 : Int32) : Option (zSt × Int32) :=
  some (σ, s0)
def fX5_move_50  (σ : zSt)  : Option (zSt × Int32) :=
  fX5_move_56 σ 7
def fX5_move  (σ : zSt) (x1 : Int32) : Option (zSt × Int32) :=
  if x1 = 118 then zck (zin 26 29) (zbv (zsi σ 36 ((26 : Int32).toNatClampNeg) 1) (fun σ6 =>
  some (σ6, 4))) else
  zbv ((x1 >>> ((3 : Int32) &&& 31)) &&& 7) (fun v1 =>
  zbv (x1 &&& 7) (fun v2 =>
  zbi (fX5_one σ v2) (fun σ3 v4 =>
  zbu (fX5_putOne σ3 v1 v4) (fun σ5 =>
  if v1 = 6 then fX5_move_50 σ5 else
  if v2 = 6 then fX5_move_50 σ5 else
  fX5_move_56 σ5 4))))
set_option maxRecDepth 20000 in
set_option maxHeartbeats 4000000 in
theorem bX5_move_56 {st : Nat → Nat} {p : Program} {l : Launch} {e : Env} {s : State} {m : MethodId} {args : Array Value} {below : List Frame} {meth : Method} {c : Code} {D : va_G} {A : Nat → Prop} {ad : Nat → Nat} {cy : Nat → ClassId} (hC : zC p m c cX5_move 4 s args wzX5_move RX5 meth (some .int))  {res : zSt × Int32} {H : Heap} {locs : List Loc} {σ : zSt} {ls : Array Slot} {s0 : Int32} (hI : zI st D (tC cy) (wC ad cy σ) A s H locs) (hl : lv_has ls 4 []) (hf : fX5_move_56  σ s0 = some res) : W p l e rmX5_move s m args below meth c H locs 0 0 (zQi below args s D (tC cy) (wC ad cy) A res) (F0 m 56 ls [.int s0]) := by
  have hx := hC.1
  have hb := hC.2.1
  unfold fX5_move_56 at hf
  exact z_ireturn hC hI hf dX5_move_56
set_option maxRecDepth 20000 in
set_option maxHeartbeats 4000000 in
theorem bX5_move_50 {st : Nat → Nat} {p : Program} {l : Launch} {e : Env} {s : State} {m : MethodId} {args : Array Value} {below : List Frame} {meth : Method} {c : Code} {D : va_G} {A : Nat → Prop} {ad : Nat → Nat} {cy : Nat → ClassId} (hC : zC p m c cX5_move 4 s args wzX5_move RX5 meth (some .int))  {res : zSt × Int32} {H : Heap} {locs : List Loc} {σ : zSt} {ls : Array Slot}  (hI : zI st D (tC cy) (wC ad cy σ) A s H locs) (hl : lv_has ls 4 []) (hf : fX5_move_50  σ  = some res) : W p l e rmX5_move s m args below meth c H locs 0 0 (zQi below args s D (tC cy) (wC ad cy) A res) (F0 m 50 ls []) := by
  have hx := hC.1
  have hb := hC.2.1
  unfold fX5_move_50 at hf
  refine lv_bipush (v := 7) hx hb dX5_move_50 (by decide) ?_
  refine lv_goto (tgt := 56) hx hb dX5_move_52 (by decide) ?_
  exact bX5_move_56 hC  hI hl hf
set_option maxRecDepth 20000 in
set_option maxHeartbeats 4000000 in
theorem bX5_move {st : Nat → Nat} {p : Program} {l : Launch} {e : Env} {s : State} {m : MethodId} {args : Array Value} {below : List Frame} {meth : Method} {c : Code} {D : va_G} {A : Nat → Prop} {ad : Nat → Nat} {cy : Nat → ClassId} (hC : zC p m c cX5_move 4 s args wzX5_move RX5 meth (some .int))  {res : zSt × Int32} {H : Heap} {locs : List Loc} {σ : zSt} {ls : Array Slot} {x1 : Int32} (hI : zI st D (tC cy) (wC ad cy σ) A s H locs) (hl : lv_has ls 4 [(0, .ref (ad 7)), (1, .int x1)]) (hf : fX5_move  σ x1 = some res) : W p l e rmX5_move s m args below meth c H locs 0 0 (zQi below args s D (tC cy) (wC ad cy) A res) (F0 m 0 ls []) := by
  have hx := hC.1
  have hb := hC.2.1
  unfold fX5_move at hf
  refine lv_iload_n hx hb dX5_move_0 rfl (lv_at hl 1 rfl) ?_
  refine lv_bipush (v := 118) hx hb dX5_move_1 (by decide) ?_
  refine lv_icmp_ne (tgt := 16) hx hb dX5_move_3 (by decide) (fun q => ?_) (fun q => ?_)
  · replace hf := zif_f q hf
    refine lv_iload_n hx hb dX5_move_16 rfl (lv_at hl 1 rfl) ?_
    refine lv_iconst (v := 3) hx hb dX5_move_17 (by decide) ?_
    refine lv_ishr hx hb dX5_move_18 ?_
    refine lv_bipush (v := 7) hx hb dX5_move_19 (by decide) ?_
    refine lv_iand hx hb dX5_move_21 ?_
    refine lv_topi (fun v1 ev1 => ?_)
    replace hf := zbv_use ev1 hf
    refine lv_istore_n (lv' := [(2, .int v1), (0, .ref (ad 7)), (1, .int x1)]) hx hb dX5_move_22 rfl hl (by decide) rfl (fun ls hl => ?_)
    refine lv_iload_n hx hb dX5_move_23 rfl (lv_at hl 2 rfl) ?_
    refine lv_bipush (v := 7) hx hb dX5_move_24 (by decide) ?_
    refine lv_iand hx hb dX5_move_26 ?_
    refine lv_topi (fun v2 ev2 => ?_)
    replace hf := zbv_use ev2 hf
    refine lv_istore_n (lv' := [(3, .int v2), (2, .int v1), (0, .ref (ad 7)), (1, .int x1)]) hx hb dX5_move_27 rfl hl (by decide) rfl (fun ls hl => ?_)
    refine lv_aload_n hx hb dX5_move_28 rfl (lv_at hl 2 rfl) ?_
    refine lv_iload_n hx hb dX5_move_29 rfl (lv_at hl 1 rfl) ?_
    refine lv_aload_n hx hb dX5_move_30 rfl (lv_at hl 2 rfl) ?_
    refine lv_iload_n hx hb dX5_move_31 rfl (lv_at hl 0 rfl) ?_
    obtain ⟨σ3, v4, g3, hf⟩ := zbi_use hf
    refine z_callVi (As := [.int v2]) (rest := [.int v1, .ref (ad 7)]) hC hI (cX5_one_met st l D ad cy σ v2 _ g3) (zgV zw24_4 zw24_5 zw24_6 zw2_21 zw24_7) rfl ⟨rfl, rfl⟩ 1 hdX5_one ⟨Nat.le_of_ble_eq_true rfl, Nat.le_of_ble_eq_true rfl⟩ rfl rfl (wC_e7 ad cy σ) rfl hl rfl (Nat.le_of_ble_eq_true rfl) dX5_move_32 ⟨Nat.zero_le _, Nat.zero_le _⟩ (fun H locs hI => ?_)
    obtain ⟨σ5, g5, hf⟩ := zbu_use hf
    refine z_callVu (As := [.int v1, .int v4]) (rest := []) hC hI (cX5_putOne_met st l D ad cy σ3 v1 v4 _ g5) (zgV zw23_8 zw23_9 zw23_10 zw2_21 zw23_11) rfl ⟨rfl, rfl⟩ 2 hdX5_putOne ⟨Nat.le_of_ble_eq_true rfl, Nat.le_of_ble_eq_true rfl⟩ rfl rfl (wC_e7 ad cy σ3) rfl hl rfl (Nat.le_of_ble_eq_true rfl) dX5_move_35 ⟨Nat.zero_le _, Nat.zero_le _⟩ (fun H locs hI => ?_)
    refine lv_iload_n hx hb dX5_move_38 rfl (lv_at hl 1 rfl) ?_
    refine lv_bipush (v := 6) hx hb dX5_move_39 (by decide) ?_
    refine lv_icmp_eq (tgt := 50) hx hb dX5_move_41 (by decide) (fun q => ?_) (fun q => ?_)
    · replace hf := zif_t q hf
      exact bX5_move_50 hC  hI (lv_sub hl [] rfl) hf
    replace hf := zif_f q hf
    refine lv_iload_n hx hb dX5_move_44 rfl (lv_at hl 0 rfl) ?_
    refine lv_bipush (v := 6) hx hb dX5_move_45 (by decide) ?_
    refine lv_icmp_ne (tgt := 55) hx hb dX5_move_47 (by decide) (fun q => ?_) (fun q => ?_)
    · replace hf := zif_f q hf
      refine lv_iconst (v := 4) hx hb dX5_move_55 (by decide) ?_
      exact bX5_move_56 hC  hI (lv_sub hl [] rfl) hf
    replace hf := zif_t q hf
    exact bX5_move_50 hC  hI (lv_sub hl [] rfl) hf
  replace hf := zif_t q hf
  refine lv_aload_n hx hb dX5_move_6 rfl (lv_at hl 0 rfl) ?_
  refine z_get hC hI hinX5_move_X50 7 (wC_e7 ad cy σ) rfl 2 (by decide) (List.mem_cons_of_mem _ zw7_5) rfl dX5_move_7 ?_
  refine lv_bipush (v := 26) hx hb dX5_move_10 (by decide) ?_
  refine lv_iconst (v := 1) hx hb dX5_move_12 (by decide) ?_
  obtain ⟨q, hf⟩ := zck_use hf
  obtain ⟨σ6, eσ6⟩ : ∃ z, z = zsi σ 36 ((26 : Int32).toNatClampNeg) 1 := ⟨_, rfl⟩
  replace hf := zbv_use eσ6 hf
  refine z_iast hC hI 36 23 (wC_e36 ad cy σ) (tC_t36 cy) q ((wC_s36 ad cy σ _ _).trans (congrArg (wC ad cy) eσ6.symm)) dX5_move_13 (fun H locs hI => ?_)
  refine lv_iconst (v := 4) hx hb dX5_move_14 (by decide) ?_
  exact z_ireturn hC hI hf dX5_move_15
set_option maxRecDepth 20000 in
theorem cX5_move_met (st : Nat → Nat) (l : Launch) (D : va_G) (ad : Nat → Nat) (cy : Nat → ClassId) (σ : zSt) (x1 : Int32) (res : zSt × Int32) (hf : fX5_move σ x1 = some res) (sz : Nat) : zMi st l yX5_move wzX5_move rmX5_move [.ref (ad 7), .int x1] D (tC cy) (wC ad cy) sz σ res :=
  zMi.of (cc := cX5_move) (maxL := 4) (ret := (some .int)) (by decide) rfl (Nat.le_of_ble_eq_true rfl) (fun p e s m args below meth c hC A hI ls hl => bX5_move hC hI hl hf)
theorem hdX5_move : yX5_move.cls = RX5 ∧ yX5_move.cls ≠ "java/lang/invoke/MethodHandle" ∧ yX5_move.cls ≠ "java/lang/invoke/VarHandle" ∧ (parseMethodDescriptor yX5_move.desc).map (fun d => d.parameters.length) = some 1 := by decide +kernel
def rmX5_adjustA : Room := { frames := 2, cells := 0, slots := 0, locals := 40 }
def wzX5_adjustA : List Cond := .code yX5_adjustA cX5_adjustA 8 none :: wsL_law
theorem hinX5_adjustA_X50 : ∀ w ∈ wsX50, w ∈ wzX5_adjustA := fun w h => List.mem_cons_of_mem _ (inlX5 w h)
def fX5_adjustA_202  (σ : zSt) (x4 : Int32) (s0 : Int32) (s1 : Int32) (s2 : Int32) : Option (zSt) :=
  zck (zin 1 29) (
  zck (zin s2 29) (zbv (zsi σ 36 (s2.toNatClampNeg) (((s1 ||| s0) ||| ((zgi σ 36 (1 : Int32).toNatClampNeg) &&& 2)) ||| x4)) (fun σ1 =>
  some σ1)))
def fX5_adjustA_161  (σ : zSt) (x4 : Int32) (x6 : Int32) (s0 : Int32) : Option (zSt) :=
  zbv (s0 &&& 255) (fun v2 =>
  zck (zin 0 29) (zbv (zsi σ 36 ((0 : Int32).toNatClampNeg) v2) (fun σ3 =>
  zbi (fX5_by σ3 v2) (fun σ4 v5 =>
  zbi (fX5_parity σ4 v2) (fun σ6 v7 =>
  if x6 = 0 then fX5_adjustA_202 σ6 x4 0 (v5 ||| v7) 1 else
  fX5_adjustA_202 σ6 x4 16 (v5 ||| v7) 1)))))
def fX5_adjustA_134  (σ : zSt) (x3 : Int32) (x4 : Int32) (x5 : Int32) (s0 : Int32) : Option (zSt) :=
  if x3 = 0 then zck (zin 0 29) (
  fX5_adjustA_161 σ x4 s0 ((zgi σ 36 (0 : Int32).toNatClampNeg) + x5)) else
  zck (zin 0 29) (
  fX5_adjustA_161 σ x4 s0 ((zgi σ 36 (0 : Int32).toNatClampNeg) - x5))
def fX5_adjustA_119  (σ : zSt) (x3 : Int32) (x4 : Int32) (x5 : Int32) : Option (zSt) :=
  fX5_adjustA_134 σ x3 x4 x5 0
def fX5_adjustA_98  (σ : zSt) (x1 : Int32) (x2 : Int32) (x3 : Int32) (x4 : Int32) (s0 : Int32) (s1 : Int32) : Option (zSt) :=
  zbv (s1 + s0) (fun v8 =>
  if x3 = 0 then if x1 ≤ 9 then fX5_adjustA_134 σ x3 x4 v8 0 else
  fX5_adjustA_134 σ x3 x4 v8 1 else
  if x2 = 0 then fX5_adjustA_119 σ x3 x4 v8 else
  if 6 ≤ x1 then fX5_adjustA_119 σ x3 x4 v8 else
  fX5_adjustA_134 σ x3 x4 v8 1)
def fX5_adjustA_87  (σ : zSt) (x1 : Int32) (x2 : Int32) (x3 : Int32) (x4 : Int32) (s0 : Int32) : Option (zSt) :=
  if x4 = 0 then fX5_adjustA_98 σ x1 x2 x3 x4 0 s0 else
  fX5_adjustA_98 σ x1 x2 x3 x4 96 s0
def fX5_adjustA_81  (σ : zSt) (x1 : Int32) (x2 : Int32) (x3 : Int32) (x4 : Int32) : Option (zSt) :=
  fX5_adjustA_87 σ x1 x2 x3 x4 6
def fX5_adjustA_69  (σ : zSt) (x1 : Int32) (x2 : Int32) (x3 : Int32) (s0 : Int32) : Option (zSt) :=
  if 9 < x1 then fX5_adjustA_81 σ x1 x2 x3 s0 else
  if x2 = 0 then fX5_adjustA_87 σ x1 x2 x3 s0 0 else
  fX5_adjustA_81 σ x1 x2 x3 s0
def fX5_adjustA_44  (σ : zSt) (x1 : Int32) (x2 : Int32) (s0 : Int32) : Option (zSt) :=
  zck (zin 0 29) (
  if (zgi σ 36 (0 : Int32).toNatClampNeg) ≤ 153 then zck (zin 1 29) (
  fX5_adjustA_69 σ x1 x2 s0 ((zgi σ 36 (1 : Int32).toNatClampNeg) &&& 1)) else
  fX5_adjustA_69 σ x1 x2 s0 1)
def fX5_adjustA_27  (σ : zSt) (x1 : Int32) (s0 : Int32) : Option (zSt) :=
  zck (zin 1 29) (
  if ((zgi σ 36 (1 : Int32).toNatClampNeg) &&& 2) = 0 then fX5_adjustA_44 σ x1 s0 0 else
  fX5_adjustA_44 σ x1 s0 1)
def fX5_adjustA  (σ : zSt)  : Option (zSt) :=
  zck (zin 0 29) (
  zbv ((zgi σ 36 (0 : Int32).toNatClampNeg) &&& 15) (fun v9 =>
  zck (zin 1 29) (
  if ((zgi σ 36 (1 : Int32).toNatClampNeg) &&& 16) = 0 then fX5_adjustA_27 σ v9 0 else
  fX5_adjustA_27 σ v9 1)))
set_option maxRecDepth 20000 in
set_option maxHeartbeats 4000000 in
theorem bX5_adjustA_202 {st : Nat → Nat} {p : Program} {l : Launch} {e : Env} {s : State} {m : MethodId} {args : Array Value} {below : List Frame} {meth : Method} {c : Code} {D : va_G} {A : Nat → Prop} {ad : Nat → Nat} {cy : Nat → ClassId} (hC : zC p m c cX5_adjustA 8 s args wzX5_adjustA RX5 meth none)  {res : zSt} {H : Heap} {locs : List Loc} {σ : zSt} {ls : Array Slot} {x4 : Int32} {s0 : Int32} {s1 : Int32} {s2 : Int32} (hI : zI st D (tC cy) (wC ad cy σ) A s H locs) (hl : lv_has ls 8 [(0, .ref (ad 7)), (4, .int x4)]) (hf : fX5_adjustA_202  σ x4 s0 s1 s2 = some res) : W p l e rmX5_adjustA s m args below meth c H locs 0 0 (zQu below args s D (tC cy) (wC ad cy) A res) (F0 m 202 ls [.int s0, .int s1, .int s2, .ref (ad 36)]) := by
  have hx := hC.1
  have hb := hC.2.1
  unfold fX5_adjustA_202 at hf
  refine lv_ior hx hb dX5_adjustA_202 ?_
  refine lv_aload_n hx hb dX5_adjustA_203 rfl (lv_at hl 0 rfl) ?_
  refine z_get hC hI hinX5_adjustA_X50 7 (wC_e7 ad cy σ) rfl 2 (by decide) (List.mem_cons_of_mem _ zw7_5) rfl dX5_adjustA_204 ?_
  refine lv_iconst (v := 1) hx hb dX5_adjustA_207 (by decide) ?_
  obtain ⟨q, hf⟩ := zck_use hf
  refine z_iald hC hI 36 23 (wC_e36 ad cy σ) (tC_t36 cy) q dX5_adjustA_208 ?_
  refine lv_iconst (v := 2) hx hb dX5_adjustA_209 (by decide) ?_
  refine lv_iand hx hb dX5_adjustA_210 ?_
  refine lv_ior hx hb dX5_adjustA_211 ?_
  refine lv_iload hx hb dX5_adjustA_212 (lv_at hl 1 rfl) ?_
  refine lv_ior hx hb dX5_adjustA_214 ?_
  obtain ⟨q, hf⟩ := zck_use hf
  obtain ⟨σ1, eσ1⟩ : ∃ z, z = zsi σ 36 (s2.toNatClampNeg) (((s1 ||| s0) ||| ((zgi σ 36 (1 : Int32).toNatClampNeg) &&& 2)) ||| x4) := ⟨_, rfl⟩
  replace hf := zbv_use eσ1 hf
  refine z_iast hC hI 36 23 (wC_e36 ad cy σ) (tC_t36 cy) q ((wC_s36 ad cy σ _ _).trans (congrArg (wC ad cy) eσ1.symm)) dX5_adjustA_215 (fun H locs hI => ?_)
  exact z_return hC hI hf dX5_adjustA_216
set_option maxRecDepth 20000 in
set_option maxHeartbeats 4000000 in
theorem bX5_adjustA_161 {st : Nat → Nat} {p : Program} {l : Launch} {e : Env} {s : State} {m : MethodId} {args : Array Value} {below : List Frame} {meth : Method} {c : Code} {D : va_G} {A : Nat → Prop} {ad : Nat → Nat} {cy : Nat → ClassId} (hC : zC p m c cX5_adjustA 8 s args wzX5_adjustA RX5 meth none)  {res : zSt} {H : Heap} {locs : List Loc} {σ : zSt} {ls : Array Slot} {x4 : Int32} {x6 : Int32} {s0 : Int32} (hI : zI st D (tC cy) (wC ad cy σ) A s H locs) (hl : lv_has ls 8 [(0, .ref (ad 7)), (4, .int x4), (6, .int x6)]) (hf : fX5_adjustA_161  σ x4 x6 s0 = some res) : W p l e rmX5_adjustA s m args below meth c H locs 0 0 (zQu below args s D (tC cy) (wC ad cy) A res) (F0 m 161 ls [.int s0]) := by
  have hx := hC.1
  have hb := hC.2.1
  unfold fX5_adjustA_161 at hf
  refine lv_sipush (v := 255) hx hb dX5_adjustA_161 (by decide) ?_
  refine lv_iand hx hb dX5_adjustA_164 ?_
  refine lv_topi (fun v2 ev2 => ?_)
  replace hf := zbv_use ev2 hf
  refine lv_istore (lv' := [(7, .int v2), (0, .ref (ad 7)), (4, .int x4), (6, .int x6)]) hx hb dX5_adjustA_165 hl (by decide) rfl (fun ls hl => ?_)
  refine lv_aload_n hx hb dX5_adjustA_167 rfl (lv_at hl 1 rfl) ?_
  refine z_get hC hI hinX5_adjustA_X50 7 (wC_e7 ad cy σ) rfl 2 (by decide) (List.mem_cons_of_mem _ zw7_5) rfl dX5_adjustA_168 ?_
  refine lv_iconst (v := 0) hx hb dX5_adjustA_171 (by decide) ?_
  refine lv_iload hx hb dX5_adjustA_172 (lv_at hl 0 rfl) ?_
  obtain ⟨q, hf⟩ := zck_use hf
  obtain ⟨σ3, eσ3⟩ : ∃ z, z = zsi σ 36 ((0 : Int32).toNatClampNeg) v2 := ⟨_, rfl⟩
  replace hf := zbv_use eσ3 hf
  refine z_iast hC hI 36 23 (wC_e36 ad cy σ) (tC_t36 cy) q ((wC_s36 ad cy σ _ _).trans (congrArg (wC ad cy) eσ3.symm)) dX5_adjustA_174 (fun H locs hI => ?_)
  refine lv_aload_n hx hb dX5_adjustA_175 rfl (lv_at hl 1 rfl) ?_
  refine z_get hC hI hinX5_adjustA_X50 7 (wC_e7 ad cy σ3) rfl 2 (by decide) (List.mem_cons_of_mem _ zw7_5) rfl dX5_adjustA_176 ?_
  refine lv_iconst (v := 1) hx hb dX5_adjustA_179 (by decide) ?_
  refine lv_iload hx hb dX5_adjustA_180 (lv_at hl 0 rfl) ?_
  obtain ⟨σ4, v5, g4, hf⟩ := zbi_use hf
  refine z_callSi (As := [.int v2]) (rest := [.int 1, .ref (ad 36)]) hC hI (cX5_by_met st l D ad cy σ3 v2 _ g4) (zgS zw22_19 zw22_20 zw2_21 zw22_21) rfl ⟨rfl, rfl⟩ 1 hdX5_by ⟨Nat.le_of_ble_eq_true rfl, Nat.le_of_ble_eq_true rfl⟩ rfl hl rfl (Nat.le_of_ble_eq_true rfl) dX5_adjustA_182 ⟨Nat.zero_le _, Nat.zero_le _⟩ (fun H locs hI => ?_)
  refine lv_iload hx hb dX5_adjustA_185 (lv_at hl 0 rfl) ?_
  obtain ⟨σ6, v7, g6, hf⟩ := zbi_use hf
  refine z_callSi (As := [.int v2]) (rest := [.int v5, .int 1, .ref (ad 36)]) hC hI (cX5_parity_met st l D ad cy σ4 v2 _ g6) (zgS zw22_22 zw22_23 zw2_21 zw23_0) rfl ⟨rfl, rfl⟩ 1 hdX5_parity ⟨Nat.le_of_ble_eq_true rfl, Nat.le_of_ble_eq_true rfl⟩ rfl hl rfl (Nat.le_of_ble_eq_true rfl) dX5_adjustA_187 ⟨Nat.zero_le _, Nat.zero_le _⟩ (fun H locs hI => ?_)
  refine lv_ior hx hb dX5_adjustA_190 ?_
  refine lv_iload hx hb dX5_adjustA_191 (lv_at hl 3 rfl) ?_
  refine lv_if_eq (tgt := 201) hx hb dX5_adjustA_193 (by decide) (fun q => ?_) (fun q => ?_)
  · replace hf := zif_t q hf
    refine lv_iconst (v := 0) hx hb dX5_adjustA_201 (by decide) ?_
    exact bX5_adjustA_202 hC  hI (lv_sub hl [1, 2] rfl) hf
  replace hf := zif_f q hf
  refine lv_bipush (v := 16) hx hb dX5_adjustA_196 (by decide) ?_
  refine lv_goto (tgt := 202) hx hb dX5_adjustA_198 (by decide) ?_
  exact bX5_adjustA_202 hC  hI (lv_sub hl [1, 2] rfl) hf
set_option maxRecDepth 20000 in
set_option maxHeartbeats 4000000 in
theorem bX5_adjustA_134 {st : Nat → Nat} {p : Program} {l : Launch} {e : Env} {s : State} {m : MethodId} {args : Array Value} {below : List Frame} {meth : Method} {c : Code} {D : va_G} {A : Nat → Prop} {ad : Nat → Nat} {cy : Nat → ClassId} (hC : zC p m c cX5_adjustA 8 s args wzX5_adjustA RX5 meth none)  {res : zSt} {H : Heap} {locs : List Loc} {σ : zSt} {ls : Array Slot} {x3 : Int32} {x4 : Int32} {x5 : Int32} {s0 : Int32} (hI : zI st D (tC cy) (wC ad cy σ) A s H locs) (hl : lv_has ls 8 [(0, .ref (ad 7)), (3, .int x3), (4, .int x4), (5, .int x5)]) (hf : fX5_adjustA_134  σ x3 x4 x5 s0 = some res) : W p l e rmX5_adjustA s m args below meth c H locs 0 0 (zQu below args s D (tC cy) (wC ad cy) A res) (F0 m 134 ls [.int s0]) := by
  have hx := hC.1
  have hb := hC.2.1
  unfold fX5_adjustA_134 at hf
  refine lv_istore (lv' := [(6, .int s0), (0, .ref (ad 7)), (3, .int x3), (4, .int x4), (5, .int x5)]) hx hb dX5_adjustA_134 hl (by decide) rfl (fun ls hl => ?_)
  refine lv_iload_n hx hb dX5_adjustA_136 rfl (lv_at hl 2 rfl) ?_
  refine lv_if_eq (tgt := 152) hx hb dX5_adjustA_137 (by decide) (fun q => ?_) (fun q => ?_)
  · replace hf := zif_t q hf
    refine lv_aload_n hx hb dX5_adjustA_152 rfl (lv_at hl 1 rfl) ?_
    refine z_get hC hI hinX5_adjustA_X50 7 (wC_e7 ad cy σ) rfl 2 (by decide) (List.mem_cons_of_mem _ zw7_5) rfl dX5_adjustA_153 ?_
    refine lv_iconst (v := 0) hx hb dX5_adjustA_156 (by decide) ?_
    obtain ⟨q, hf⟩ := zck_use hf
    refine z_iald hC hI 36 23 (wC_e36 ad cy σ) (tC_t36 cy) q dX5_adjustA_157 ?_
    refine lv_iload hx hb dX5_adjustA_158 (lv_at hl 4 rfl) ?_
    refine lv_iadd hx hb dX5_adjustA_160 ?_
    exact bX5_adjustA_161 hC  hI (lv_sub hl [1, 3, 0] rfl) hf
  replace hf := zif_f q hf
  refine lv_aload_n hx hb dX5_adjustA_140 rfl (lv_at hl 1 rfl) ?_
  refine z_get hC hI hinX5_adjustA_X50 7 (wC_e7 ad cy σ) rfl 2 (by decide) (List.mem_cons_of_mem _ zw7_5) rfl dX5_adjustA_141 ?_
  refine lv_iconst (v := 0) hx hb dX5_adjustA_144 (by decide) ?_
  obtain ⟨q, hf⟩ := zck_use hf
  refine z_iald hC hI 36 23 (wC_e36 ad cy σ) (tC_t36 cy) q dX5_adjustA_145 ?_
  refine lv_iload hx hb dX5_adjustA_146 (lv_at hl 4 rfl) ?_
  refine lv_isub hx hb dX5_adjustA_148 ?_
  refine lv_goto (tgt := 161) hx hb dX5_adjustA_149 (by decide) ?_
  exact bX5_adjustA_161 hC  hI (lv_sub hl [1, 3, 0] rfl) hf
set_option maxRecDepth 20000 in
set_option maxHeartbeats 4000000 in
theorem bX5_adjustA_119 {st : Nat → Nat} {p : Program} {l : Launch} {e : Env} {s : State} {m : MethodId} {args : Array Value} {below : List Frame} {meth : Method} {c : Code} {D : va_G} {A : Nat → Prop} {ad : Nat → Nat} {cy : Nat → ClassId} (hC : zC p m c cX5_adjustA 8 s args wzX5_adjustA RX5 meth none)  {res : zSt} {H : Heap} {locs : List Loc} {σ : zSt} {ls : Array Slot} {x3 : Int32} {x4 : Int32} {x5 : Int32} (hI : zI st D (tC cy) (wC ad cy σ) A s H locs) (hl : lv_has ls 8 [(0, .ref (ad 7)), (3, .int x3), (4, .int x4), (5, .int x5)]) (hf : fX5_adjustA_119  σ x3 x4 x5 = some res) : W p l e rmX5_adjustA s m args below meth c H locs 0 0 (zQu below args s D (tC cy) (wC ad cy) A res) (F0 m 119 ls []) := by
  have hx := hC.1
  have hb := hC.2.1
  unfold fX5_adjustA_119 at hf
  refine lv_iconst (v := 0) hx hb dX5_adjustA_119 (by decide) ?_
  refine lv_goto (tgt := 134) hx hb dX5_adjustA_120 (by decide) ?_
  exact bX5_adjustA_134 hC  hI hl hf
set_option maxRecDepth 20000 in
set_option maxHeartbeats 4000000 in
theorem bX5_adjustA_98 {st : Nat → Nat} {p : Program} {l : Launch} {e : Env} {s : State} {m : MethodId} {args : Array Value} {below : List Frame} {meth : Method} {c : Code} {D : va_G} {A : Nat → Prop} {ad : Nat → Nat} {cy : Nat → ClassId} (hC : zC p m c cX5_adjustA 8 s args wzX5_adjustA RX5 meth none)  {res : zSt} {H : Heap} {locs : List Loc} {σ : zSt} {ls : Array Slot} {x1 : Int32} {x2 : Int32} {x3 : Int32} {x4 : Int32} {s0 : Int32} {s1 : Int32} (hI : zI st D (tC cy) (wC ad cy σ) A s H locs) (hl : lv_has ls 8 [(0, .ref (ad 7)), (1, .int x1), (2, .int x2), (3, .int x3), (4, .int x4)]) (hf : fX5_adjustA_98  σ x1 x2 x3 x4 s0 s1 = some res) : W p l e rmX5_adjustA s m args below meth c H locs 0 0 (zQu below args s D (tC cy) (wC ad cy) A res) (F0 m 98 ls [.int s0, .int s1]) := by
  have hx := hC.1
  have hb := hC.2.1
  unfold fX5_adjustA_98 at hf
  refine lv_iadd hx hb dX5_adjustA_98 ?_
  refine lv_topi (fun v8 ev8 => ?_)
  replace hf := zbv_use ev8 hf
  refine lv_istore (lv' := [(5, .int v8), (0, .ref (ad 7)), (1, .int x1), (2, .int x2), (3, .int x3), (4, .int x4)]) hx hb dX5_adjustA_99 hl (by decide) rfl (fun ls hl => ?_)
  refine lv_iload_n hx hb dX5_adjustA_101 rfl (lv_at hl 4 rfl) ?_
  refine lv_if_eq (tgt := 123) hx hb dX5_adjustA_102 (by decide) (fun q => ?_) (fun q => ?_)
  · replace hf := zif_t q hf
    refine lv_iload_n hx hb dX5_adjustA_123 rfl (lv_at hl 2 rfl) ?_
    refine lv_bipush (v := 9) hx hb dX5_adjustA_124 (by decide) ?_
    refine lv_icmp_le (tgt := 133) hx hb dX5_adjustA_126 (by decide) (fun q => ?_) (fun q => ?_)
    · replace hf := zif_t q hf
      refine lv_iconst (v := 0) hx hb dX5_adjustA_133 (by decide) ?_
      exact bX5_adjustA_134 hC  hI (lv_sub hl [1, 4, 5, 0] rfl) hf
    replace hf := zif_f q hf
    refine lv_iconst (v := 1) hx hb dX5_adjustA_129 (by decide) ?_
    refine lv_goto (tgt := 134) hx hb dX5_adjustA_130 (by decide) ?_
    exact bX5_adjustA_134 hC  hI (lv_sub hl [1, 4, 5, 0] rfl) hf
  replace hf := zif_f q hf
  refine lv_iload_n hx hb dX5_adjustA_105 rfl (lv_at hl 3 rfl) ?_
  refine lv_if_eq (tgt := 119) hx hb dX5_adjustA_106 (by decide) (fun q => ?_) (fun q => ?_)
  · replace hf := zif_t q hf
    exact bX5_adjustA_119 hC  hI (lv_sub hl [1, 4, 5, 0] rfl) hf
  replace hf := zif_f q hf
  refine lv_iload_n hx hb dX5_adjustA_109 rfl (lv_at hl 2 rfl) ?_
  refine lv_bipush (v := 6) hx hb dX5_adjustA_110 (by decide) ?_
  refine lv_icmp_ge (tgt := 119) hx hb dX5_adjustA_112 (by decide) (fun q => ?_) (fun q => ?_)
  · replace hf := zif_t q hf
    exact bX5_adjustA_119 hC  hI (lv_sub hl [1, 4, 5, 0] rfl) hf
  replace hf := zif_f q hf
  refine lv_iconst (v := 1) hx hb dX5_adjustA_115 (by decide) ?_
  refine lv_goto (tgt := 134) hx hb dX5_adjustA_116 (by decide) ?_
  exact bX5_adjustA_134 hC  hI (lv_sub hl [1, 4, 5, 0] rfl) hf
set_option maxRecDepth 20000 in
set_option maxHeartbeats 4000000 in
theorem bX5_adjustA_87 {st : Nat → Nat} {p : Program} {l : Launch} {e : Env} {s : State} {m : MethodId} {args : Array Value} {below : List Frame} {meth : Method} {c : Code} {D : va_G} {A : Nat → Prop} {ad : Nat → Nat} {cy : Nat → ClassId} (hC : zC p m c cX5_adjustA 8 s args wzX5_adjustA RX5 meth none)  {res : zSt} {H : Heap} {locs : List Loc} {σ : zSt} {ls : Array Slot} {x1 : Int32} {x2 : Int32} {x3 : Int32} {x4 : Int32} {s0 : Int32} (hI : zI st D (tC cy) (wC ad cy σ) A s H locs) (hl : lv_has ls 8 [(0, .ref (ad 7)), (1, .int x1), (2, .int x2), (3, .int x3), (4, .int x4)]) (hf : fX5_adjustA_87  σ x1 x2 x3 x4 s0 = some res) : W p l e rmX5_adjustA s m args below meth c H locs 0 0 (zQu below args s D (tC cy) (wC ad cy) A res) (F0 m 87 ls [.int s0]) := by
  have hx := hC.1
  have hb := hC.2.1
  unfold fX5_adjustA_87 at hf
  refine lv_iload hx hb dX5_adjustA_87 (lv_at hl 4 rfl) ?_
  refine lv_if_eq (tgt := 97) hx hb dX5_adjustA_89 (by decide) (fun q => ?_) (fun q => ?_)
  · replace hf := zif_t q hf
    refine lv_iconst (v := 0) hx hb dX5_adjustA_97 (by decide) ?_
    exact bX5_adjustA_98 hC  hI hl hf
  replace hf := zif_f q hf
  refine lv_bipush (v := 96) hx hb dX5_adjustA_92 (by decide) ?_
  refine lv_goto (tgt := 98) hx hb dX5_adjustA_94 (by decide) ?_
  exact bX5_adjustA_98 hC  hI hl hf
set_option maxRecDepth 20000 in
set_option maxHeartbeats 4000000 in
theorem bX5_adjustA_81 {st : Nat → Nat} {p : Program} {l : Launch} {e : Env} {s : State} {m : MethodId} {args : Array Value} {below : List Frame} {meth : Method} {c : Code} {D : va_G} {A : Nat → Prop} {ad : Nat → Nat} {cy : Nat → ClassId} (hC : zC p m c cX5_adjustA 8 s args wzX5_adjustA RX5 meth none)  {res : zSt} {H : Heap} {locs : List Loc} {σ : zSt} {ls : Array Slot} {x1 : Int32} {x2 : Int32} {x3 : Int32} {x4 : Int32} (hI : zI st D (tC cy) (wC ad cy σ) A s H locs) (hl : lv_has ls 8 [(0, .ref (ad 7)), (1, .int x1), (2, .int x2), (3, .int x3), (4, .int x4)]) (hf : fX5_adjustA_81  σ x1 x2 x3 x4 = some res) : W p l e rmX5_adjustA s m args below meth c H locs 0 0 (zQu below args s D (tC cy) (wC ad cy) A res) (F0 m 81 ls []) := by
  have hx := hC.1
  have hb := hC.2.1
  unfold fX5_adjustA_81 at hf
  refine lv_bipush (v := 6) hx hb dX5_adjustA_81 (by decide) ?_
  refine lv_goto (tgt := 87) hx hb dX5_adjustA_83 (by decide) ?_
  exact bX5_adjustA_87 hC  hI hl hf
set_option maxRecDepth 20000 in
set_option maxHeartbeats 4000000 in
theorem bX5_adjustA_69 {st : Nat → Nat} {p : Program} {l : Launch} {e : Env} {s : State} {m : MethodId} {args : Array Value} {below : List Frame} {meth : Method} {c : Code} {D : va_G} {A : Nat → Prop} {ad : Nat → Nat} {cy : Nat → ClassId} (hC : zC p m c cX5_adjustA 8 s args wzX5_adjustA RX5 meth none)  {res : zSt} {H : Heap} {locs : List Loc} {σ : zSt} {ls : Array Slot} {x1 : Int32} {x2 : Int32} {x3 : Int32} {s0 : Int32} (hI : zI st D (tC cy) (wC ad cy σ) A s H locs) (hl : lv_has ls 8 [(0, .ref (ad 7)), (1, .int x1), (2, .int x2), (3, .int x3)]) (hf : fX5_adjustA_69  σ x1 x2 x3 s0 = some res) : W p l e rmX5_adjustA s m args below meth c H locs 0 0 (zQu below args s D (tC cy) (wC ad cy) A res) (F0 m 69 ls [.int s0]) := by
  have hx := hC.1
  have hb := hC.2.1
  unfold fX5_adjustA_69 at hf
  refine lv_istore (lv' := [(4, .int s0), (0, .ref (ad 7)), (1, .int x1), (2, .int x2), (3, .int x3)]) hx hb dX5_adjustA_69 hl (by decide) rfl (fun ls hl => ?_)
  refine lv_iload_n hx hb dX5_adjustA_71 rfl (lv_at hl 2 rfl) ?_
  refine lv_bipush (v := 9) hx hb dX5_adjustA_72 (by decide) ?_
  refine lv_icmp_gt (tgt := 81) hx hb dX5_adjustA_74 (by decide) (fun q => ?_) (fun q => ?_)
  · replace hf := zif_t q hf
    exact bX5_adjustA_81 hC  hI (lv_sub hl [1, 2, 3, 4, 0] rfl) hf
  replace hf := zif_f q hf
  refine lv_iload_n hx hb dX5_adjustA_77 rfl (lv_at hl 3 rfl) ?_
  refine lv_if_eq (tgt := 86) hx hb dX5_adjustA_78 (by decide) (fun q => ?_) (fun q => ?_)
  · replace hf := zif_t q hf
    refine lv_iconst (v := 0) hx hb dX5_adjustA_86 (by decide) ?_
    exact bX5_adjustA_87 hC  hI (lv_sub hl [1, 2, 3, 4, 0] rfl) hf
  replace hf := zif_f q hf
  exact bX5_adjustA_81 hC  hI (lv_sub hl [1, 2, 3, 4, 0] rfl) hf
set_option maxRecDepth 20000 in
set_option maxHeartbeats 4000000 in
theorem bX5_adjustA_44 {st : Nat → Nat} {p : Program} {l : Launch} {e : Env} {s : State} {m : MethodId} {args : Array Value} {below : List Frame} {meth : Method} {c : Code} {D : va_G} {A : Nat → Prop} {ad : Nat → Nat} {cy : Nat → ClassId} (hC : zC p m c cX5_adjustA 8 s args wzX5_adjustA RX5 meth none)  {res : zSt} {H : Heap} {locs : List Loc} {σ : zSt} {ls : Array Slot} {x1 : Int32} {x2 : Int32} {s0 : Int32} (hI : zI st D (tC cy) (wC ad cy σ) A s H locs) (hl : lv_has ls 8 [(0, .ref (ad 7)), (1, .int x1), (2, .int x2)]) (hf : fX5_adjustA_44  σ x1 x2 s0 = some res) : W p l e rmX5_adjustA s m args below meth c H locs 0 0 (zQu below args s D (tC cy) (wC ad cy) A res) (F0 m 44 ls [.int s0]) := by
  have hx := hC.1
  have hb := hC.2.1
  unfold fX5_adjustA_44 at hf
  refine lv_istore_n (lv' := [(3, .int s0), (0, .ref (ad 7)), (1, .int x1), (2, .int x2)]) hx hb dX5_adjustA_44 rfl hl (by decide) rfl (fun ls hl => ?_)
  refine lv_aload_n hx hb dX5_adjustA_45 rfl (lv_at hl 1 rfl) ?_
  refine z_get hC hI hinX5_adjustA_X50 7 (wC_e7 ad cy σ) rfl 2 (by decide) (List.mem_cons_of_mem _ zw7_5) rfl dX5_adjustA_46 ?_
  refine lv_iconst (v := 0) hx hb dX5_adjustA_49 (by decide) ?_
  obtain ⟨q, hf⟩ := zck_use hf
  refine z_iald hC hI 36 23 (wC_e36 ad cy σ) (tC_t36 cy) q dX5_adjustA_50 ?_
  refine lv_sipush (v := 153) hx hb dX5_adjustA_51 (by decide) ?_
  refine lv_icmp_le (tgt := 61) hx hb dX5_adjustA_54 (by decide) (fun q => ?_) (fun q => ?_)
  · replace hf := zif_t q hf
    refine lv_aload_n hx hb dX5_adjustA_61 rfl (lv_at hl 1 rfl) ?_
    refine z_get hC hI hinX5_adjustA_X50 7 (wC_e7 ad cy σ) rfl 2 (by decide) (List.mem_cons_of_mem _ zw7_5) rfl dX5_adjustA_62 ?_
    refine lv_iconst (v := 1) hx hb dX5_adjustA_65 (by decide) ?_
    obtain ⟨q, hf⟩ := zck_use hf
    refine z_iald hC hI 36 23 (wC_e36 ad cy σ) (tC_t36 cy) q dX5_adjustA_66 ?_
    refine lv_iconst (v := 1) hx hb dX5_adjustA_67 (by decide) ?_
    refine lv_iand hx hb dX5_adjustA_68 ?_
    exact bX5_adjustA_69 hC  hI (lv_sub hl [1, 2, 3, 0] rfl) hf
  replace hf := zif_f q hf
  refine lv_iconst (v := 1) hx hb dX5_adjustA_57 (by decide) ?_
  refine lv_goto (tgt := 69) hx hb dX5_adjustA_58 (by decide) ?_
  exact bX5_adjustA_69 hC  hI (lv_sub hl [1, 2, 3, 0] rfl) hf
set_option maxRecDepth 20000 in
set_option maxHeartbeats 4000000 in
theorem bX5_adjustA_27 {st : Nat → Nat} {p : Program} {l : Launch} {e : Env} {s : State} {m : MethodId} {args : Array Value} {below : List Frame} {meth : Method} {c : Code} {D : va_G} {A : Nat → Prop} {ad : Nat → Nat} {cy : Nat → ClassId} (hC : zC p m c cX5_adjustA 8 s args wzX5_adjustA RX5 meth none)  {res : zSt} {H : Heap} {locs : List Loc} {σ : zSt} {ls : Array Slot} {x1 : Int32} {s0 : Int32} (hI : zI st D (tC cy) (wC ad cy σ) A s H locs) (hl : lv_has ls 8 [(0, .ref (ad 7)), (1, .int x1)]) (hf : fX5_adjustA_27  σ x1 s0 = some res) : W p l e rmX5_adjustA s m args below meth c H locs 0 0 (zQu below args s D (tC cy) (wC ad cy) A res) (F0 m 27 ls [.int s0]) := by
  have hx := hC.1
  have hb := hC.2.1
  unfold fX5_adjustA_27 at hf
  refine lv_istore_n (lv' := [(2, .int s0), (0, .ref (ad 7)), (1, .int x1)]) hx hb dX5_adjustA_27 rfl hl (by decide) rfl (fun ls hl => ?_)
  refine lv_aload_n hx hb dX5_adjustA_28 rfl (lv_at hl 1 rfl) ?_
  refine z_get hC hI hinX5_adjustA_X50 7 (wC_e7 ad cy σ) rfl 2 (by decide) (List.mem_cons_of_mem _ zw7_5) rfl dX5_adjustA_29 ?_
  refine lv_iconst (v := 1) hx hb dX5_adjustA_32 (by decide) ?_
  obtain ⟨q, hf⟩ := zck_use hf
  refine z_iald hC hI 36 23 (wC_e36 ad cy σ) (tC_t36 cy) q dX5_adjustA_33 ?_
  refine lv_iconst (v := 2) hx hb dX5_adjustA_34 (by decide) ?_
  refine lv_iand hx hb dX5_adjustA_35 ?_
  refine lv_if_eq (tgt := 43) hx hb dX5_adjustA_36 (by decide) (fun q => ?_) (fun q => ?_)
  · replace hf := zif_t q hf
    refine lv_iconst (v := 0) hx hb dX5_adjustA_43 (by decide) ?_
    exact bX5_adjustA_44 hC  hI (lv_sub hl [1, 2, 0] rfl) hf
  replace hf := zif_f q hf
  refine lv_iconst (v := 1) hx hb dX5_adjustA_39 (by decide) ?_
  refine lv_goto (tgt := 44) hx hb dX5_adjustA_40 (by decide) ?_
  exact bX5_adjustA_44 hC  hI (lv_sub hl [1, 2, 0] rfl) hf
set_option maxRecDepth 20000 in
set_option maxHeartbeats 4000000 in
theorem bX5_adjustA {st : Nat → Nat} {p : Program} {l : Launch} {e : Env} {s : State} {m : MethodId} {args : Array Value} {below : List Frame} {meth : Method} {c : Code} {D : va_G} {A : Nat → Prop} {ad : Nat → Nat} {cy : Nat → ClassId} (hC : zC p m c cX5_adjustA 8 s args wzX5_adjustA RX5 meth none)  {res : zSt} {H : Heap} {locs : List Loc} {σ : zSt} {ls : Array Slot}  (hI : zI st D (tC cy) (wC ad cy σ) A s H locs) (hl : lv_has ls 8 [(0, .ref (ad 7))]) (hf : fX5_adjustA  σ  = some res) : W p l e rmX5_adjustA s m args below meth c H locs 0 0 (zQu below args s D (tC cy) (wC ad cy) A res) (F0 m 0 ls []) := by
  have hx := hC.1
  have hb := hC.2.1
  unfold fX5_adjustA at hf
  refine lv_aload_n hx hb dX5_adjustA_0 rfl (lv_at hl 0 rfl) ?_
  refine z_get hC hI hinX5_adjustA_X50 7 (wC_e7 ad cy σ) rfl 2 (by decide) (List.mem_cons_of_mem _ zw7_5) rfl dX5_adjustA_1 ?_
  refine lv_iconst (v := 0) hx hb dX5_adjustA_4 (by decide) ?_
  obtain ⟨q, hf⟩ := zck_use hf
  refine z_iald hC hI 36 23 (wC_e36 ad cy σ) (tC_t36 cy) q dX5_adjustA_5 ?_
  refine lv_bipush (v := 15) hx hb dX5_adjustA_6 (by decide) ?_
  refine lv_iand hx hb dX5_adjustA_8 ?_
  refine lv_topi (fun v9 ev9 => ?_)
  replace hf := zbv_use ev9 hf
  refine lv_istore_n (lv' := [(1, .int v9), (0, .ref (ad 7))]) hx hb dX5_adjustA_9 rfl hl (by decide) rfl (fun ls hl => ?_)
  refine lv_aload_n hx hb dX5_adjustA_10 rfl (lv_at hl 1 rfl) ?_
  refine z_get hC hI hinX5_adjustA_X50 7 (wC_e7 ad cy σ) rfl 2 (by decide) (List.mem_cons_of_mem _ zw7_5) rfl dX5_adjustA_11 ?_
  refine lv_iconst (v := 1) hx hb dX5_adjustA_14 (by decide) ?_
  obtain ⟨q, hf⟩ := zck_use hf
  refine z_iald hC hI 36 23 (wC_e36 ad cy σ) (tC_t36 cy) q dX5_adjustA_15 ?_
  refine lv_bipush (v := 16) hx hb dX5_adjustA_16 (by decide) ?_
  refine lv_iand hx hb dX5_adjustA_18 ?_
  refine lv_if_eq (tgt := 26) hx hb dX5_adjustA_19 (by decide) (fun q => ?_) (fun q => ?_)
  · replace hf := zif_t q hf
    refine lv_iconst (v := 0) hx hb dX5_adjustA_26 (by decide) ?_
    exact bX5_adjustA_27 hC  hI (lv_sub hl [1, 0] rfl) hf
  replace hf := zif_f q hf
  refine lv_iconst (v := 1) hx hb dX5_adjustA_22 (by decide) ?_
  refine lv_goto (tgt := 27) hx hb dX5_adjustA_23 (by decide) ?_
  exact bX5_adjustA_27 hC  hI (lv_sub hl [1, 0] rfl) hf
set_option maxRecDepth 20000 in
theorem cX5_adjustA_met (st : Nat → Nat) (l : Launch) (D : va_G) (ad : Nat → Nat) (cy : Nat → ClassId) (σ : zSt)  (res : zSt) (hf : fX5_adjustA σ  = some res) (sz : Nat) : zMu st l yX5_adjustA wzX5_adjustA rmX5_adjustA [.ref (ad 7)] D (tC cy) (wC ad cy) sz σ res :=
  zMu.of (cc := cX5_adjustA) (maxL := 8) (ret := none) (by decide) rfl (Nat.le_of_ble_eq_true rfl) (fun p e s m args below meth c hC A hI ls hl => bX5_adjustA hC hI hl hf)
theorem hdX5_adjustA : yX5_adjustA.cls = RX5 ∧ yX5_adjustA.cls ≠ "java/lang/invoke/MethodHandle" ∧ yX5_adjustA.cls ≠ "java/lang/invoke/VarHandle" ∧ (parseMethodDescriptor yX5_adjustA.desc).map (fun d => d.parameters.length) = some 0 := by decide +kernel
